/-! ONE MORE in the class's state -/
def gNew (g : Nat → Nat) (lo k b row q : Nat) : Nat → Nat := fun c => if lo ≤ c ∧ c < lo + k then b + (c - lo) else if c = row then q else g c
theorem gNew_o {g : Nat → Nat} {lo k b row q c : Nat} (h : ¬ (lo ≤ c ∧ c < lo + k)) (h2 : c ≠ row) : gNew g lo k b row q c = g c := by
  unfold gNew
  rw [if_neg h, if_neg h2]
theorem gNew_n {g : Nat → Nat} {lo k b row q c : Nat} (h : lo ≤ c ∧ c < lo + k) : gNew g lo k b row q c = b + (c - lo) := by
  unfold gNew
  rw [if_pos h]
theorem gNew_r {g : Nat → Nat} {lo k b row q : Nat} (h : ¬ (lo ≤ row ∧ row < lo + k)) : gNew g lo k b row q row = q := by
  unfold gNew
  rw [if_neg h, if_pos rfl]
theorem fxq_no {a : Nat} (h : ∀ q, q ∈ fxl → q.1 ≠ a) (k b : Nat) : fxq a k ≠ some b := by
  intro hb
  unfold fxq at hb
  rw [Option.map_eq_some_iff] at hb
  obtain ⟨q, hq, -⟩ := hb
  have h1 := List.find?_some hq
  have h2 := List.mem_of_find?_eq_some hq
  simp only [Bool.and_eq_true, beq_iff_eq] at h1
  exact h q h2 h1.1
theorem fxl_lt : ∀ q, q ∈ fxl → q.1 < 103 := by decide +kernel
theorem cLS.el {σ : az_S} {a : Nat} {n : Int} {q : Nat} {el el' : Int → Nat} (k : cLS σ a n q el) (he : ∀ j : Int, 0 ≤ j → j < n → el' j = el j) : cLS σ a n q el' := by
  obtain ⟨k1, k2, k3⟩ := k
  refine ⟨k1, k2, ?_⟩
  rcases k3 with k3 | ⟨k3, k4, cap, k5, k6, k7, k8⟩
  · exact Or.inl k3
  · exact Or.inr ⟨k3, k4, cap, k5, k6, k7, fun j a b => by rw [he j a b]; exact k8 j a b⟩
theorem cLS.ex {σ τ : az_S} {S : List Nat} {a : Nat} {n : Int} {q : Nat} {el : Int → Nat} (k : cLS σ a n q el) (hx : Ex σ τ S) (ha : a < az_n σ) (haS : a ∉ S) (hq : 103 ≤ q → q < az_n σ → q ∉ S) : cLS τ a n q el := by
  obtain ⟨k1, k2, k3⟩ := k
  refine ⟨by rw [(hx.sm (Or.inl ha) haS).z]; exact k1, by rw [(hx.sm (Or.inl ha) haS).2.2]; exact k2, ?_⟩
  rcases k3 with k3 | ⟨k3, k4, cap, k5, k6, k7, k8⟩
  · exact Or.inl k3
  · have s := hx.sm (Or.inl k4) (hq k3 k4)
    exact Or.inr ⟨k3, Nat.lt_of_lt_of_le k4 hx.1, cap, by rw [s.1]; exact k5, k6, k7, fun j a b => by rw [s.2.2]; exact k8 j a b⟩
theorem cFix.sn {A A' : Nat → Int → Int} {σ τ : az_S} (h : cFix A σ) (hs : ∀ a, a < 35 → (a < 5 ∨ 8 < a) → zx τ a = zx σ a) (hq : zq τ 33 = zq σ 33) (h42 : ∀ z : Int, z < 9 ∨ 40 ≤ z → z ≠ 66 → A' 42 z = A 42 z) (hA : ∀ a z, (43 ≤ a ∧ a ≤ 46) ∨ a = 74 ∨ a = 101 → A' a z = A a z) : cFix A' τ := by
  obtain ⟨h1, ⟨h2, h3, h4⟩, h5, h6, h7, ⟨h8, h9⟩, ⟨h10, h11⟩, h12, h13, h14⟩ := h
  have e : ∀ z : Int, (z = 0 ∨ z = 1 ∨ z = 2 ∨ z = 3 ∨ z = 6 ∨ z = 48 ∨ z = 49 ∨ z = 40 ∨ z = 85 ∨ z = 86) → A' 42 z = A 42 z := fun z q => h42 z (by omega) (by omega)
  refine ⟨by rw [hs 0 (by decide) (by decide), e 3 (by omega)]; exact h1, ⟨by rw [hs 28 (by decide) (by decide), e 0 (by omega)]; exact h2, by rw [hs 28 (by decide) (by decide), e 1 (by omega)]; exact h3, by rw [hs 28 (by decide) (by decide), e 2 (by omega)]; exact h4⟩, by rw [hs 1 (by decide) (by decide), e 6 (by omega)]; exact h5, fun j a b => ?_, ?_, ⟨by rw [hs 0 (by decide) (by decide), e 48 (by omega)]; exact h8, by rw [hs 0 (by decide) (by decide), e 49 (by omega)]; exact h9⟩, ⟨by rw [hs 9 (by decide) (by decide), e 40 (by omega)]; exact h10, ?_⟩, by rw [hs 33 (by decide) (by decide), e 85 (by omega)]; exact h12, by rw [hq, e 85 (by omega), e 86 (by omega)]; exact h13, ?_⟩
  · rw [hs 2 (by decide) (by decide), hs 3 (by decide) (by decide), hA 43 j (by omega), hA 44 j (by omega)]; exact h6 j a b
  · rw [e 6 (by omega), hs 4 (by decide) (by decide)]
    intro j a b
    rw [hA 45 j (by omega), hA 46 j (by omega)]
    exact h7 j a b
  · rw [e 40 (by omega), hs 10 (by decide) (by decide)]
    intro j a b
    rw [hA 74 j (by omega)]
    exact h11 j a b
  · rw [e 85 (by omega), hs 34 (by decide) (by decide)]
    intro j a b
    rw [hA 101 j (by omega)]
    exact h14 j a b
set_option maxHeartbeats 1000000 in
theorem CR.addP {sz : Nat} {κ : Nat × (Nat → Int32) × Option Nat} {A A' : Nat → Int → Int} {g : Nat → Nat} {σ τ : az_S} {S : List Nat} {q' b : Nat} (h : CR sz κ A g σ) (hI : MI sz A) (hx : Ex σ τ S) (hS : ∀ c, c ∈ S → c = 5 ∨ (c = g 600 ∧ 103 ≤ c ∧ c < az_n σ)) (hb : az_n σ ≤ b) (hb2 : b + 1 ≤ az_n τ) (hl : az_n τ ≤ 900000) (hq : q' = g 600 ∨ b + 1 ≤ q') (hL : cLS τ 5 (A 42 9 + 1) q' (fun j => if j = A 42 9 then b else gP g j)) (hN : A' 42 9 = A 42 9 + 1) (hA : ∀ a z, ¬ (a = 42 ∧ z = 9) → ¬ ((a = 47 ∨ a = 48) ∧ z = A 42 9) → A' a z = A a z) (hO : CP A' (gNew g (200 + (A 42 9).toNat) 1 b 600 q') τ (A 42 9)) : CR sz κ A' (gNew g (200 + (A 42 9).toNat) 1 b 600 q') τ := by
  have hth := hI.things
  have hpe := hI.people
  have hgr := hI.grants
  have hst := hI.stalls
  have hn := h.n
  have hlim := h.lim
  obtain ⟨l1, l2, l3, l4⟩ := h.lv hI
  have nS : ∀ c, c < 103 → c ≠ 5 → c ∉ S := fun c c1 c2 q => by rcases hS c q with e | ⟨e, e1, e2⟩ <;> omega
  have nB : ∀ c, 1000000 ≤ c → c ∉ S := fun c c1 q => by rcases hS c q with e | ⟨e, e1, e2⟩ <;> omega
  have hrow : 103 ≤ g 600 → g 600 < az_n σ → (az_sh σ (g 600)).1 = 104 := by
    intro a1 a2
    rcases h.lP.2.2 with ⟨-, e⟩ | ⟨-, -, cap, e, -⟩
    · omega
    · rw [e]
  have sgP : ∀ j : Int, 0 ≤ j → j < A 42 9 → Sm σ τ (gP g j) := by
    intro j h0 h1
    have hlv := l1 j h0 h1
    refine hx.sm (Or.inl (by omega)) (fun q => ?_)
    rcases hS _ q with e | ⟨e, e1, e2⟩
    · omega
    · have k := hrow (by omega) (by omega)
      rw [← e, h.sP h0 h1] at k
      exact absurd k (by decide)
  have egP : ∀ j : Int, 0 ≤ j → j < A 42 9 → gP (gNew g (200 + (A 42 9).toNat) 1 b 600 q') j = gP g j := fun j h0 h1 => gNew_o (by omega) (by omega)
  have sgT : ∀ j : Int, 0 ≤ j → j < A 42 12 → Sm σ τ (gT g j) := by
    intro j h0 h1
    have hlv := l2 j h0 h1
    refine hx.sm (Or.inl (by omega)) (fun q => ?_)
    rcases hS _ q with e | ⟨e, e1, e2⟩
    · omega
    · have k := hrow (by omega) (by omega)
      rw [← e, h.sT h0 h1] at k
      exact absurd k (by decide)
  have egT : ∀ j : Int, 0 ≤ j → j < A 42 12 → gT (gNew g (200 + (A 42 9).toNat) 1 b 600 q') j = gT g j := fun j h0 h1 => gNew_o (by omega) (by omega)
  have sgTd : ∀ j : Int, 0 ≤ j → j < A 42 12 → Sm σ τ (gTd g j) := by
    intro j h0 h1
    have hlv := l2 j h0 h1
    refine hx.sm (Or.inl (by omega)) (fun q => ?_)
    rcases hS _ q with e | ⟨e, e1, e2⟩
    · omega
    · have k := hrow (by omega) (by omega)
      rw [← e, h.sTd h0 h1] at k
      exact absurd k (by decide)
  have egTd : ∀ j : Int, 0 ≤ j → j < A 42 12 → gTd (gNew g (200 + (A 42 9).toNat) 1 b 600 q') j = gTd g j := fun j h0 h1 => gNew_o (by omega) (by omega)
  have sgTh : ∀ j : Int, 0 ≤ j → j < A 42 12 → Sm σ τ (gTh g j) := by
    intro j h0 h1
    have hlv := l2 j h0 h1
    refine hx.sm (Or.inl (by omega)) (fun q => ?_)
    rcases hS _ q with e | ⟨e, e1, e2⟩
    · omega
    · have k := hrow (by omega) (by omega)
      rw [← e, h.sTh h0 h1] at k
      exact absurd k (by decide)
  have egTh : ∀ j : Int, 0 ≤ j → j < A 42 12 → gTh (gNew g (200 + (A 42 9).toNat) 1 b 600 q') j = gTh g j := fun j h0 h1 => gNew_o (by omega) (by omega)
  have sgTt : ∀ j : Int, 0 ≤ j → j < A 42 12 → Sm σ τ (gTt g j) := by
    intro j h0 h1
    have hlv := l2 j h0 h1
    refine hx.sm (Or.inl (by omega)) (fun q => ?_)
    rcases hS _ q with e | ⟨e, e1, e2⟩
    · omega
    · have k := hrow (by omega) (by omega)
      rw [← e, h.sTt h0 h1] at k
      exact absurd k (by decide)
  have egTt : ∀ j : Int, 0 ≤ j → j < A 42 12 → gTt (gNew g (200 + (A 42 9).toNat) 1 b 600 q') j = gTt g j := fun j h0 h1 => gNew_o (by omega) (by omega)
  have sgG : ∀ j : Int, 0 ≤ j → j < A 42 27 → Sm σ τ (gG g j) := by
    intro j h0 h1
    have hlv := l3 j h0 h1
    refine hx.sm (Or.inl (by omega)) (fun q => ?_)
    rcases hS _ q with e | ⟨e, e1, e2⟩
    · omega
    · have k := hrow (by omega) (by omega)
      rw [← e, h.sG h0 h1] at k
      exact absurd k (by decide)
  have egG : ∀ j : Int, 0 ≤ j → j < A 42 27 → gG (gNew g (200 + (A 42 9).toNat) 1 b 600 q') j = gG g j := fun j h0 h1 => gNew_o (by omega) (by omega)
  have sgS : ∀ j : Int, 0 ≤ j → j < A 42 66 → Sm σ τ (gS g j) := by
    intro j h0 h1
    have hlv := l4 j h0 h1
    refine hx.sm (Or.inl (by omega)) (fun q => ?_)
    rcases hS _ q with e | ⟨e, e1, e2⟩
    · omega
    · have k := hrow (by omega) (by omega)
      rw [← e, h.sS h0 h1] at k
      exact absurd k (by decide)
  have egS : ∀ j : Int, 0 ≤ j → j < A 42 66 → gS (gNew g (200 + (A 42 9).toNat) 1 b 600 q') j = gS g j := fun j h0 h1 => gNew_o (by omega) (by omega)
  have sgSp : ∀ j : Int, 0 ≤ j → j < A 42 66 → Sm σ τ (gSp g j) := by
    intro j h0 h1
    have hlv := l4 j h0 h1
    refine hx.sm (Or.inl (by omega)) (fun q => ?_)
    rcases hS _ q with e | ⟨e, e1, e2⟩
    · omega
    · have k := hrow (by omega) (by omega)
      rw [← e, h.sSp h0 h1] at k
      exact absurd k (by decide)
  have egSp : ∀ j : Int, 0 ≤ j → j < A 42 66 → gSp (gNew g (200 + (A 42 9).toNat) 1 b 600 q') j = gSp g j := fun j h0 h1 => gNew_o (by omega) (by omega)
  have c9 : ∀ z : Int, z ≠ 9 → A' 42 z = A 42 z := fun z hz => hA _ _ (by omega) (by omega)
  have z5 : ∀ a, a < 103 → a ≠ 5 → Sm σ τ a := fun a h1 h2 => hx.sm (Or.inl (by omega)) (nS a h1 h2)
  obtain ⟨f1, f2, f3, f4, f5, f6, f7, f8⟩ := h.fix.sn (A' := A') (τ := τ) (fun a h1 h2 => (z5 a (by omega) (by omega)).z) (hx.q (Or.inl (by omega)) (nS 33 (by decide) (by decide))) (fun z h1 h2 => c9 z (by omega)) (fun a z h1 => hA _ _ (by omega) (by omega))
  have live_i : ∀ c, live A' c ↔ live A c ∨ ((200 + (A 42 9).toNat) ≤ c ∧ c < (200 + (A 42 9).toNat) + 1) := by
    intro c
    unfold live
    rw [hN, c9 12 (by decide), c9 27 (by decide), c9 66 (by decide)]
    omega
  refine ⟨hx.fx h.f hn (fun a ha => ?_), ?_, by have := hx.1; omega, f1, f2, f3, f4, f5, f6, f7, f8, ?_, ?_, ?_, ?_, ?_, ?_, ?_, ?_, ?_, ?_, ?_, ?_, ?_, hl⟩
  · refine fxq_no (fun q hq2 => ?_)
    rcases hS a ha with e | ⟨e, e1, e2⟩
    · rw [e]; revert q; decide +kernel
    · have := fxl_lt q hq2; omega
  · intro a ha
    have s := hx.2.2 a (Or.inr ha) (nB a ha)
    rw [hx.2.1 a (Or.inr ha), s.1, s.2.2]
    exact h.k a ha
  · rw [show (gNew g (200 + (A 42 9).toNat) 1 b 600 q') 701 = g 701 from gNew_o (by omega) (by omega), (z5 33 (by decide) (by decide)).2.2]; exact h.route
  · rw [show (gNew g (200 + (A 42 9).toNat) 1 b 600 q') 700 = g 700 from gNew_o (by omega) (by omega), (z5 0 (by decide) (by decide)).2.2]; exact h.force
  · rw [hN, show (gNew g (200 + (A 42 9).toNat) 1 b 600 q') 600 = q' from gNew_r (by omega)]
    refine hL.el (fun j h0 h1 => ?_)
    by_cases e : j = A 42 9
    · rw [if_pos e, e]
      show (gNew g (200 + (A 42 9).toNat) 1 b 600 q') (200 + (A 42 9).toNat) = b
      rw [gNew_n (by omega)]
      omega
    · rw [if_neg e]; exact egP j h0 (by omega)
  · rw [c9 12 (by decide), show (gNew g (200 + (A 42 9).toNat) 1 b 600 q') 601 = g 601 from gNew_o (by omega) (by omega)]
    refine (h.lT.ex hx (by omega) (nS 6 (by decide) (by decide)) (fun q1 q2 q => ?_)).el (fun j h0 h1 => egT j h0 h1)
    rcases hS _ q with e | ⟨e, e1, e2⟩
    · omega
    · have := h.inq 601 600 (by decide) (by decide) (by decide) (by decide) e (by omega)
      omega
  · rw [c9 27 (by decide), show (gNew g (200 + (A 42 9).toNat) 1 b 600 q') 602 = g 602 from gNew_o (by omega) (by omega)]
    refine (h.lG.ex hx (by omega) (nS 7 (by decide) (by decide)) (fun q1 q2 q => ?_)).el (fun j h0 h1 => egG j h0 h1)
    rcases hS _ q with e | ⟨e, e1, e2⟩
    · omega
    · have := h.inq 602 600 (by decide) (by decide) (by decide) (by decide) e (by omega)
      omega
  · rw [c9 66 (by decide), show (gNew g (200 + (A 42 9).toNat) 1 b 600 q') 603 = g 603 from gNew_o (by omega) (by omega)]
    refine (h.lS.ex hx (by omega) (nS 8 (by decide) (by decide)) (fun q1 q2 q => ?_)).el (fun j h0 h1 => egS j h0 h1)
    rcases hS _ q with e | ⟨e, e1, e2⟩
    · omega
    · have := h.inq 603 600 (by decide) (by decide) (by decide) (by decide) e (by omega)
      omega
  · intro c hc
    rcases (live_i c).mp hc with q | q
    · rw [gNew_o (by unfold live at q; omega) (by unfold live at q; omega)]
      have := h.pl c q
      have := hx.1
      omega
    · rw [gNew_n q]
      omega
  · intro c c' hc hc' e
    rcases (live_i c).mp hc with q | q <;> rcases (live_i c').mp hc' with q' | q'
    · rw [gNew_o (by unfold live at q; omega) (by unfold live at q; omega), gNew_o (by unfold live at q'; omega) (by unfold live at q'; omega)] at e
      exact h.inj c c' q q' e
    · rw [gNew_o (by unfold live at q; omega) (by unfold live at q; omega), gNew_n q'] at e
      have := h.pl c q
      omega
    · rw [gNew_n q, gNew_o (by unfold live at q'; omega) (by unfold live at q'; omega)] at e
      have := h.pl c' q'
      omega
    · rw [gNew_n q, gNew_n q'] at e
      omega
  · intro c c' h1 h2 h3 h4 e e2
    have hb3 : ∀ c, 600 ≤ c → c < 604 → g c = 1000001 ∨ g c < az_n σ := by
      intro c c1 c2
      have cc : c = 600 ∨ c = 601 ∨ c = 602 ∨ c = 603 := by omega
      rcases cc with rfl | rfl | rfl | rfl
      · rcases h.lP.2.2 with q | q <;> omega
      · rcases h.lT.2.2 with q | q <;> omega
      · rcases h.lG.2.2 with q | q <;> omega
      · rcases h.lS.2.2 with q | q <;> omega
    have gv : ∀ c, 600 ≤ c → c < 604 → (c = 600 ∧ (gNew g (200 + (A 42 9).toNat) 1 b 600 q') c = q') ∨ (c ≠ 600 ∧ (gNew g (200 + (A 42 9).toNat) 1 b 600 q') c = g c) := by
      intro c c1 c2
      by_cases ec : c = 600
      · left; exact ⟨ec, by rw [ec]; exact gNew_r (by omega)⟩
      · right; exact ⟨ec, gNew_o (by omega) ec⟩
    have b1 := hb3 c h1 h2
    have b2 := hb3 c' h3 h4
    have b0 := hb3 600 (by decide) (by decide)
    rcases gv c h1 h2 with ⟨g1, g2⟩ | ⟨g1, g2⟩ <;> rcases gv c' h3 h4 with ⟨g3, g4⟩ | ⟨g3, g4⟩
    · omega
    · rcases hq with q | q
      · rw [g2, g4, q, ← g1] at e
        rw [g2, q, ← g1] at e2
        exact h.inq c c' h1 h2 h3 h4 e e2
      · omega
    · rcases hq with q | q
      · rw [g2, g4, q, ← g3] at e
        rw [g2] at e2
        exact h.inq c c' h1 h2 h3 h4 e e2
      · omega
    · rw [g2, g4] at e
      rw [g2] at e2
      exact h.inq c c' h1 h2 h3 h4 e e2
  · intro j h0 h1
    rw [hN] at h1
    by_cases ej : j = A 42 9
    · rw [ej]; exact hO
    · have h2 : j < A 42 9 := by omega
      exact (h.person j h0 h2).sm (sgP j h0 h2) (egP j h0 h2) (hA _ _ (by omega) (by omega)) (hA _ _ (by omega) (by omega))
  · intro j h0 h1
    rw [c9 12 (by decide)] at h1
    have h2 := h1
    have hE := (hI.thing j h0 h2).1
    exact (h.thing j h0 h2).sm (sgT j h0 h2) (sgTd j h0 h2) (sgTh j h0 h2) (sgTt j h0 h2) (egT j h0 h2) (egTd j h0 h2) (egTh j h0 h2) (egTt j h0 h2) (fun a b c _ => hA _ _ (by omega) (by omega)) (fun a i b c _ _ => hA _ _ (by omega) (by omega))
  · intro j h0 h1
    rw [c9 27 (by decide)] at h1
    have h2 := h1
    have hG := (hI.grant j h0 h2).1
    exact (h.grant j h0 h2).sm (sgG j h0 h2) (egG j h0 h2) (egP _ (by omega) (by omega)) (fun a b c => hA _ _ (by omega) (by omega))
  · intro j h0 h1
    rw [c9 66 (by decide)] at h1
    have h2 := h1
    exact (h.stall j h0 h2).sm (sgS j h0 h2) (sgSp j h0 h2) (egS j h0 h2) (egSp j h0 h2) (hA _ _ (by omega) (by omega)) (hA _ _ (by omega) (by omega)) (fun e _ _ => hA _ _ (by omega) (by omega))
set_option maxHeartbeats 1000000 in
theorem CR.addT {sz : Nat} {κ : Nat × (Nat → Int32) × Option Nat} {A A' : Nat → Int → Int} {g : Nat → Nat} {σ τ : az_S} {S : List Nat} {q' b : Nat} (h : CR sz κ A g σ) (hI : MI sz A) (hx : Ex σ τ S) (hS : ∀ c, c ∈ S → c = 6 ∨ (c = g 601 ∧ 103 ≤ c ∧ c < az_n σ)) (hb : az_n σ ≤ b) (hb2 : b + 4 ≤ az_n τ) (hl : az_n τ ≤ 900000) (hq : q' = g 601 ∨ b + 4 ≤ q') (hL : cLS τ 6 (A 42 12 + 1) q' (fun j => if j = A 42 12 then b else gT g j)) (hN : A' 42 12 = A 42 12 + 1) (hA : ∀ a z, ¬ (a = 42 ∧ z = 12) → ¬ (49 ≤ a ∧ a ≤ 62 ∧ (a < 57 ∨ 59 < a) ∧ z = A 42 12) → ¬ (57 ≤ a ∧ a ≤ 59 ∧ 41 * A 42 12 ≤ z ∧ z < 41 * A 42 12 + 41) → A' a z = A a z) (hO : CT A' (gNew g (300 + 4 * (A 42 12).toNat) 4 b 601 q') τ (A 42 12)) : CR sz κ A' (gNew g (300 + 4 * (A 42 12).toNat) 4 b 601 q') τ := by
  have hth := hI.things
  have hpe := hI.people
  have hgr := hI.grants
  have hst := hI.stalls
  have hn := h.n
  have hlim := h.lim
  obtain ⟨l1, l2, l3, l4⟩ := h.lv hI
  have nS : ∀ c, c < 103 → c ≠ 6 → c ∉ S := fun c c1 c2 q => by rcases hS c q with e | ⟨e, e1, e2⟩ <;> omega
  have nB : ∀ c, 1000000 ≤ c → c ∉ S := fun c c1 q => by rcases hS c q with e | ⟨e, e1, e2⟩ <;> omega
  have hrow : 103 ≤ g 601 → g 601 < az_n σ → (az_sh σ (g 601)).1 = 104 := by
    intro a1 a2
    rcases h.lT.2.2 with ⟨-, e⟩ | ⟨-, -, cap, e, -⟩
    · omega
    · rw [e]
  have sgP : ∀ j : Int, 0 ≤ j → j < A 42 9 → Sm σ τ (gP g j) := by
    intro j h0 h1
    have hlv := l1 j h0 h1
    refine hx.sm (Or.inl (by omega)) (fun q => ?_)
    rcases hS _ q with e | ⟨e, e1, e2⟩
    · omega
    · have k := hrow (by omega) (by omega)
      rw [← e, h.sP h0 h1] at k
      exact absurd k (by decide)
  have egP : ∀ j : Int, 0 ≤ j → j < A 42 9 → gP (gNew g (300 + 4 * (A 42 12).toNat) 4 b 601 q') j = gP g j := fun j h0 h1 => gNew_o (by omega) (by omega)
  have sgT : ∀ j : Int, 0 ≤ j → j < A 42 12 → Sm σ τ (gT g j) := by
    intro j h0 h1
    have hlv := l2 j h0 h1
    refine hx.sm (Or.inl (by omega)) (fun q => ?_)
    rcases hS _ q with e | ⟨e, e1, e2⟩
    · omega
    · have k := hrow (by omega) (by omega)
      rw [← e, h.sT h0 h1] at k
      exact absurd k (by decide)
  have egT : ∀ j : Int, 0 ≤ j → j < A 42 12 → gT (gNew g (300 + 4 * (A 42 12).toNat) 4 b 601 q') j = gT g j := fun j h0 h1 => gNew_o (by omega) (by omega)
  have sgTd : ∀ j : Int, 0 ≤ j → j < A 42 12 → Sm σ τ (gTd g j) := by
    intro j h0 h1
    have hlv := l2 j h0 h1
    refine hx.sm (Or.inl (by omega)) (fun q => ?_)
    rcases hS _ q with e | ⟨e, e1, e2⟩
    · omega
    · have k := hrow (by omega) (by omega)
      rw [← e, h.sTd h0 h1] at k
      exact absurd k (by decide)
  have egTd : ∀ j : Int, 0 ≤ j → j < A 42 12 → gTd (gNew g (300 + 4 * (A 42 12).toNat) 4 b 601 q') j = gTd g j := fun j h0 h1 => gNew_o (by omega) (by omega)
  have sgTh : ∀ j : Int, 0 ≤ j → j < A 42 12 → Sm σ τ (gTh g j) := by
    intro j h0 h1
    have hlv := l2 j h0 h1
    refine hx.sm (Or.inl (by omega)) (fun q => ?_)
    rcases hS _ q with e | ⟨e, e1, e2⟩
    · omega
    · have k := hrow (by omega) (by omega)
      rw [← e, h.sTh h0 h1] at k
      exact absurd k (by decide)
  have egTh : ∀ j : Int, 0 ≤ j → j < A 42 12 → gTh (gNew g (300 + 4 * (A 42 12).toNat) 4 b 601 q') j = gTh g j := fun j h0 h1 => gNew_o (by omega) (by omega)
  have sgTt : ∀ j : Int, 0 ≤ j → j < A 42 12 → Sm σ τ (gTt g j) := by
    intro j h0 h1
    have hlv := l2 j h0 h1
    refine hx.sm (Or.inl (by omega)) (fun q => ?_)
    rcases hS _ q with e | ⟨e, e1, e2⟩
    · omega
    · have k := hrow (by omega) (by omega)
      rw [← e, h.sTt h0 h1] at k
      exact absurd k (by decide)
  have egTt : ∀ j : Int, 0 ≤ j → j < A 42 12 → gTt (gNew g (300 + 4 * (A 42 12).toNat) 4 b 601 q') j = gTt g j := fun j h0 h1 => gNew_o (by omega) (by omega)
  have sgG : ∀ j : Int, 0 ≤ j → j < A 42 27 → Sm σ τ (gG g j) := by
    intro j h0 h1
    have hlv := l3 j h0 h1
    refine hx.sm (Or.inl (by omega)) (fun q => ?_)
    rcases hS _ q with e | ⟨e, e1, e2⟩
    · omega
    · have k := hrow (by omega) (by omega)
      rw [← e, h.sG h0 h1] at k
      exact absurd k (by decide)
  have egG : ∀ j : Int, 0 ≤ j → j < A 42 27 → gG (gNew g (300 + 4 * (A 42 12).toNat) 4 b 601 q') j = gG g j := fun j h0 h1 => gNew_o (by omega) (by omega)
  have sgS : ∀ j : Int, 0 ≤ j → j < A 42 66 → Sm σ τ (gS g j) := by
    intro j h0 h1
    have hlv := l4 j h0 h1
    refine hx.sm (Or.inl (by omega)) (fun q => ?_)
    rcases hS _ q with e | ⟨e, e1, e2⟩
    · omega
    · have k := hrow (by omega) (by omega)
      rw [← e, h.sS h0 h1] at k
      exact absurd k (by decide)
  have egS : ∀ j : Int, 0 ≤ j → j < A 42 66 → gS (gNew g (300 + 4 * (A 42 12).toNat) 4 b 601 q') j = gS g j := fun j h0 h1 => gNew_o (by omega) (by omega)
  have sgSp : ∀ j : Int, 0 ≤ j → j < A 42 66 → Sm σ τ (gSp g j) := by
    intro j h0 h1
    have hlv := l4 j h0 h1
    refine hx.sm (Or.inl (by omega)) (fun q => ?_)
    rcases hS _ q with e | ⟨e, e1, e2⟩
    · omega
    · have k := hrow (by omega) (by omega)
      rw [← e, h.sSp h0 h1] at k
      exact absurd k (by decide)
  have egSp : ∀ j : Int, 0 ≤ j → j < A 42 66 → gSp (gNew g (300 + 4 * (A 42 12).toNat) 4 b 601 q') j = gSp g j := fun j h0 h1 => gNew_o (by omega) (by omega)
  have c9 : ∀ z : Int, z ≠ 12 → A' 42 z = A 42 z := fun z hz => hA _ _ (by omega) (by omega) (by omega)
  have z5 : ∀ a, a < 103 → a ≠ 6 → Sm σ τ a := fun a h1 h2 => hx.sm (Or.inl (by omega)) (nS a h1 h2)
  obtain ⟨f1, f2, f3, f4, f5, f6, f7, f8⟩ := h.fix.sn (A' := A') (τ := τ) (fun a h1 h2 => (z5 a (by omega) (by omega)).z) (hx.q (Or.inl (by omega)) (nS 33 (by decide) (by decide))) (fun z h1 h2 => c9 z (by omega)) (fun a z h1 => hA _ _ (by omega) (by omega) (by omega))
  have live_i : ∀ c, live A' c ↔ live A c ∨ ((300 + 4 * (A 42 12).toNat) ≤ c ∧ c < (300 + 4 * (A 42 12).toNat) + 4) := by
    intro c
    unfold live
    rw [hN, c9 9 (by decide), c9 27 (by decide), c9 66 (by decide)]
    omega
  refine ⟨hx.fx h.f hn (fun a ha => ?_), ?_, by have := hx.1; omega, f1, f2, f3, f4, f5, f6, f7, f8, ?_, ?_, ?_, ?_, ?_, ?_, ?_, ?_, ?_, ?_, ?_, ?_, ?_, hl⟩
  · refine fxq_no (fun q hq2 => ?_)
    rcases hS a ha with e | ⟨e, e1, e2⟩
    · rw [e]; revert q; decide +kernel
    · have := fxl_lt q hq2; omega
  · intro a ha
    have s := hx.2.2 a (Or.inr ha) (nB a ha)
    rw [hx.2.1 a (Or.inr ha), s.1, s.2.2]
    exact h.k a ha
  · rw [show (gNew g (300 + 4 * (A 42 12).toNat) 4 b 601 q') 701 = g 701 from gNew_o (by omega) (by omega), (z5 33 (by decide) (by decide)).2.2]; exact h.route
  · rw [show (gNew g (300 + 4 * (A 42 12).toNat) 4 b 601 q') 700 = g 700 from gNew_o (by omega) (by omega), (z5 0 (by decide) (by decide)).2.2]; exact h.force
  · rw [c9 9 (by decide), show (gNew g (300 + 4 * (A 42 12).toNat) 4 b 601 q') 600 = g 600 from gNew_o (by omega) (by omega)]
    refine (h.lP.ex hx (by omega) (nS 5 (by decide) (by decide)) (fun q1 q2 q => ?_)).el (fun j h0 h1 => egP j h0 h1)
    rcases hS _ q with e | ⟨e, e1, e2⟩
    · omega
    · have := h.inq 600 601 (by decide) (by decide) (by decide) (by decide) e (by omega)
      omega
  · rw [hN, show (gNew g (300 + 4 * (A 42 12).toNat) 4 b 601 q') 601 = q' from gNew_r (by omega)]
    refine hL.el (fun j h0 h1 => ?_)
    by_cases e : j = A 42 12
    · rw [if_pos e, e]
      show (gNew g (300 + 4 * (A 42 12).toNat) 4 b 601 q') (300 + 4 * (A 42 12).toNat) = b
      rw [gNew_n (by omega)]
      omega
    · rw [if_neg e]; exact egT j h0 (by omega)
  · rw [c9 27 (by decide), show (gNew g (300 + 4 * (A 42 12).toNat) 4 b 601 q') 602 = g 602 from gNew_o (by omega) (by omega)]
    refine (h.lG.ex hx (by omega) (nS 7 (by decide) (by decide)) (fun q1 q2 q => ?_)).el (fun j h0 h1 => egG j h0 h1)
    rcases hS _ q with e | ⟨e, e1, e2⟩
    · omega
    · have := h.inq 602 601 (by decide) (by decide) (by decide) (by decide) e (by omega)
      omega
  · rw [c9 66 (by decide), show (gNew g (300 + 4 * (A 42 12).toNat) 4 b 601 q') 603 = g 603 from gNew_o (by omega) (by omega)]
    refine (h.lS.ex hx (by omega) (nS 8 (by decide) (by decide)) (fun q1 q2 q => ?_)).el (fun j h0 h1 => egS j h0 h1)
    rcases hS _ q with e | ⟨e, e1, e2⟩
    · omega
    · have := h.inq 603 601 (by decide) (by decide) (by decide) (by decide) e (by omega)
      omega
  · intro c hc
    rcases (live_i c).mp hc with q | q
    · rw [gNew_o (by unfold live at q; omega) (by unfold live at q; omega)]
      have := h.pl c q
      have := hx.1
      omega
    · rw [gNew_n q]
      omega
  · intro c c' hc hc' e
    rcases (live_i c).mp hc with q | q <;> rcases (live_i c').mp hc' with q' | q'
    · rw [gNew_o (by unfold live at q; omega) (by unfold live at q; omega), gNew_o (by unfold live at q'; omega) (by unfold live at q'; omega)] at e
      exact h.inj c c' q q' e
    · rw [gNew_o (by unfold live at q; omega) (by unfold live at q; omega), gNew_n q'] at e
      have := h.pl c q
      omega
    · rw [gNew_n q, gNew_o (by unfold live at q'; omega) (by unfold live at q'; omega)] at e
      have := h.pl c' q'
      omega
    · rw [gNew_n q, gNew_n q'] at e
      omega
  · intro c c' h1 h2 h3 h4 e e2
    have hb3 : ∀ c, 600 ≤ c → c < 604 → g c = 1000001 ∨ g c < az_n σ := by
      intro c c1 c2
      have cc : c = 600 ∨ c = 601 ∨ c = 602 ∨ c = 603 := by omega
      rcases cc with rfl | rfl | rfl | rfl
      · rcases h.lP.2.2 with q | q <;> omega
      · rcases h.lT.2.2 with q | q <;> omega
      · rcases h.lG.2.2 with q | q <;> omega
      · rcases h.lS.2.2 with q | q <;> omega
    have gv : ∀ c, 600 ≤ c → c < 604 → (c = 601 ∧ (gNew g (300 + 4 * (A 42 12).toNat) 4 b 601 q') c = q') ∨ (c ≠ 601 ∧ (gNew g (300 + 4 * (A 42 12).toNat) 4 b 601 q') c = g c) := by
      intro c c1 c2
      by_cases ec : c = 601
      · left; exact ⟨ec, by rw [ec]; exact gNew_r (by omega)⟩
      · right; exact ⟨ec, gNew_o (by omega) ec⟩
    have b1 := hb3 c h1 h2
    have b2 := hb3 c' h3 h4
    have b0 := hb3 601 (by decide) (by decide)
    rcases gv c h1 h2 with ⟨g1, g2⟩ | ⟨g1, g2⟩ <;> rcases gv c' h3 h4 with ⟨g3, g4⟩ | ⟨g3, g4⟩
    · omega
    · rcases hq with q | q
      · rw [g2, g4, q, ← g1] at e
        rw [g2, q, ← g1] at e2
        exact h.inq c c' h1 h2 h3 h4 e e2
      · omega
    · rcases hq with q | q
      · rw [g2, g4, q, ← g3] at e
        rw [g2] at e2
        exact h.inq c c' h1 h2 h3 h4 e e2
      · omega
    · rw [g2, g4] at e
      rw [g2] at e2
      exact h.inq c c' h1 h2 h3 h4 e e2
  · intro j h0 h1
    rw [c9 9 (by decide)] at h1
    have h2 := h1
    exact (h.person j h0 h2).sm (sgP j h0 h2) (egP j h0 h2) (hA _ _ (by omega) (by omega) (by omega)) (hA _ _ (by omega) (by omega) (by omega))
  · intro j h0 h1
    rw [hN] at h1
    by_cases ej : j = A 42 12
    · rw [ej]; exact hO
    · have h2 : j < A 42 12 := by omega
      have hE := (hI.thing j h0 h2).1
      exact (h.thing j h0 h2).sm (sgT j h0 h2) (sgTd j h0 h2) (sgTh j h0 h2) (sgTt j h0 h2) (egT j h0 h2) (egTd j h0 h2) (egTh j h0 h2) (egTt j h0 h2) (fun a b c _ => hA _ _ (by omega) (by omega) (by omega)) (fun a i b c _ _ => hA _ _ (by omega) (by omega) (by omega))
  · intro j h0 h1
    rw [c9 27 (by decide)] at h1
    have h2 := h1
    have hG := (hI.grant j h0 h2).1
    exact (h.grant j h0 h2).sm (sgG j h0 h2) (egG j h0 h2) (egP _ (by omega) (by omega)) (fun a b c => hA _ _ (by omega) (by omega) (by omega))
  · intro j h0 h1
    rw [c9 66 (by decide)] at h1
    have h2 := h1
    exact (h.stall j h0 h2).sm (sgS j h0 h2) (sgSp j h0 h2) (egS j h0 h2) (egSp j h0 h2) (hA _ _ (by omega) (by omega) (by omega)) (hA _ _ (by omega) (by omega) (by omega)) (fun e _ _ => hA _ _ (by omega) (by omega) (by omega))
set_option maxHeartbeats 1000000 in
theorem CR.addG {sz : Nat} {κ : Nat × (Nat → Int32) × Option Nat} {A A' : Nat → Int → Int} {g : Nat → Nat} {σ τ : az_S} {S : List Nat} {q' b : Nat} (h : CR sz κ A g σ) (hI : MI sz A) (hx : Ex σ τ S) (hS : ∀ c, c ∈ S → c = 7 ∨ (c = g 602 ∧ 103 ≤ c ∧ c < az_n σ)) (hb : az_n σ ≤ b) (hb2 : b + 1 ≤ az_n τ) (hl : az_n τ ≤ 900000) (hq : q' = g 602 ∨ b + 1 ≤ q') (hL : cLS τ 7 (A 42 27 + 1) q' (fun j => if j = A 42 27 then b else gG g j)) (hN : A' 42 27 = A 42 27 + 1) (hA : ∀ a z, ¬ (a = 42 ∧ z = 27) → ¬ (63 ≤ a ∧ a ≤ 73 ∧ z = A 42 27) → A' a z = A a z) (hO : CG A' (gNew g (400 + (A 42 27).toNat) 1 b 602 q') τ (A 42 27)) : CR sz κ A' (gNew g (400 + (A 42 27).toNat) 1 b 602 q') τ := by
  have hth := hI.things
  have hpe := hI.people
  have hgr := hI.grants
  have hst := hI.stalls
  have hn := h.n
  have hlim := h.lim
  obtain ⟨l1, l2, l3, l4⟩ := h.lv hI
  have nS : ∀ c, c < 103 → c ≠ 7 → c ∉ S := fun c c1 c2 q => by rcases hS c q with e | ⟨e, e1, e2⟩ <;> omega
  have nB : ∀ c, 1000000 ≤ c → c ∉ S := fun c c1 q => by rcases hS c q with e | ⟨e, e1, e2⟩ <;> omega
  have hrow : 103 ≤ g 602 → g 602 < az_n σ → (az_sh σ (g 602)).1 = 104 := by
    intro a1 a2
    rcases h.lG.2.2 with ⟨-, e⟩ | ⟨-, -, cap, e, -⟩
    · omega
    · rw [e]
  have sgP : ∀ j : Int, 0 ≤ j → j < A 42 9 → Sm σ τ (gP g j) := by
    intro j h0 h1
    have hlv := l1 j h0 h1
    refine hx.sm (Or.inl (by omega)) (fun q => ?_)
    rcases hS _ q with e | ⟨e, e1, e2⟩
    · omega
    · have k := hrow (by omega) (by omega)
      rw [← e, h.sP h0 h1] at k
      exact absurd k (by decide)
  have egP : ∀ j : Int, 0 ≤ j → j < A 42 9 → gP (gNew g (400 + (A 42 27).toNat) 1 b 602 q') j = gP g j := fun j h0 h1 => gNew_o (by omega) (by omega)
  have sgT : ∀ j : Int, 0 ≤ j → j < A 42 12 → Sm σ τ (gT g j) := by
    intro j h0 h1
    have hlv := l2 j h0 h1
    refine hx.sm (Or.inl (by omega)) (fun q => ?_)
    rcases hS _ q with e | ⟨e, e1, e2⟩
    · omega
    · have k := hrow (by omega) (by omega)
      rw [← e, h.sT h0 h1] at k
      exact absurd k (by decide)
  have egT : ∀ j : Int, 0 ≤ j → j < A 42 12 → gT (gNew g (400 + (A 42 27).toNat) 1 b 602 q') j = gT g j := fun j h0 h1 => gNew_o (by omega) (by omega)
  have sgTd : ∀ j : Int, 0 ≤ j → j < A 42 12 → Sm σ τ (gTd g j) := by
    intro j h0 h1
    have hlv := l2 j h0 h1
    refine hx.sm (Or.inl (by omega)) (fun q => ?_)
    rcases hS _ q with e | ⟨e, e1, e2⟩
    · omega
    · have k := hrow (by omega) (by omega)
      rw [← e, h.sTd h0 h1] at k
      exact absurd k (by decide)
  have egTd : ∀ j : Int, 0 ≤ j → j < A 42 12 → gTd (gNew g (400 + (A 42 27).toNat) 1 b 602 q') j = gTd g j := fun j h0 h1 => gNew_o (by omega) (by omega)
  have sgTh : ∀ j : Int, 0 ≤ j → j < A 42 12 → Sm σ τ (gTh g j) := by
    intro j h0 h1
    have hlv := l2 j h0 h1
    refine hx.sm (Or.inl (by omega)) (fun q => ?_)
    rcases hS _ q with e | ⟨e, e1, e2⟩
    · omega
    · have k := hrow (by omega) (by omega)
      rw [← e, h.sTh h0 h1] at k
      exact absurd k (by decide)
  have egTh : ∀ j : Int, 0 ≤ j → j < A 42 12 → gTh (gNew g (400 + (A 42 27).toNat) 1 b 602 q') j = gTh g j := fun j h0 h1 => gNew_o (by omega) (by omega)
  have sgTt : ∀ j : Int, 0 ≤ j → j < A 42 12 → Sm σ τ (gTt g j) := by
    intro j h0 h1
    have hlv := l2 j h0 h1
    refine hx.sm (Or.inl (by omega)) (fun q => ?_)
    rcases hS _ q with e | ⟨e, e1, e2⟩
    · omega
    · have k := hrow (by omega) (by omega)
      rw [← e, h.sTt h0 h1] at k
      exact absurd k (by decide)
  have egTt : ∀ j : Int, 0 ≤ j → j < A 42 12 → gTt (gNew g (400 + (A 42 27).toNat) 1 b 602 q') j = gTt g j := fun j h0 h1 => gNew_o (by omega) (by omega)
  have sgG : ∀ j : Int, 0 ≤ j → j < A 42 27 → Sm σ τ (gG g j) := by
    intro j h0 h1
    have hlv := l3 j h0 h1
    refine hx.sm (Or.inl (by omega)) (fun q => ?_)
    rcases hS _ q with e | ⟨e, e1, e2⟩
    · omega
    · have k := hrow (by omega) (by omega)
      rw [← e, h.sG h0 h1] at k
      exact absurd k (by decide)
  have egG : ∀ j : Int, 0 ≤ j → j < A 42 27 → gG (gNew g (400 + (A 42 27).toNat) 1 b 602 q') j = gG g j := fun j h0 h1 => gNew_o (by omega) (by omega)
  have sgS : ∀ j : Int, 0 ≤ j → j < A 42 66 → Sm σ τ (gS g j) := by
    intro j h0 h1
    have hlv := l4 j h0 h1
    refine hx.sm (Or.inl (by omega)) (fun q => ?_)
    rcases hS _ q with e | ⟨e, e1, e2⟩
    · omega
    · have k := hrow (by omega) (by omega)
      rw [← e, h.sS h0 h1] at k
      exact absurd k (by decide)
  have egS : ∀ j : Int, 0 ≤ j → j < A 42 66 → gS (gNew g (400 + (A 42 27).toNat) 1 b 602 q') j = gS g j := fun j h0 h1 => gNew_o (by omega) (by omega)
  have sgSp : ∀ j : Int, 0 ≤ j → j < A 42 66 → Sm σ τ (gSp g j) := by
    intro j h0 h1
    have hlv := l4 j h0 h1
    refine hx.sm (Or.inl (by omega)) (fun q => ?_)
    rcases hS _ q with e | ⟨e, e1, e2⟩
    · omega
    · have k := hrow (by omega) (by omega)
      rw [← e, h.sSp h0 h1] at k
      exact absurd k (by decide)
  have egSp : ∀ j : Int, 0 ≤ j → j < A 42 66 → gSp (gNew g (400 + (A 42 27).toNat) 1 b 602 q') j = gSp g j := fun j h0 h1 => gNew_o (by omega) (by omega)
  have c9 : ∀ z : Int, z ≠ 27 → A' 42 z = A 42 z := fun z hz => hA _ _ (by omega) (by omega)
  have z5 : ∀ a, a < 103 → a ≠ 7 → Sm σ τ a := fun a h1 h2 => hx.sm (Or.inl (by omega)) (nS a h1 h2)
  obtain ⟨f1, f2, f3, f4, f5, f6, f7, f8⟩ := h.fix.sn (A' := A') (τ := τ) (fun a h1 h2 => (z5 a (by omega) (by omega)).z) (hx.q (Or.inl (by omega)) (nS 33 (by decide) (by decide))) (fun z h1 h2 => c9 z (by omega)) (fun a z h1 => hA _ _ (by omega) (by omega))
  have live_i : ∀ c, live A' c ↔ live A c ∨ ((400 + (A 42 27).toNat) ≤ c ∧ c < (400 + (A 42 27).toNat) + 1) := by
    intro c
    unfold live
    rw [hN, c9 9 (by decide), c9 12 (by decide), c9 66 (by decide)]
    omega
  refine ⟨hx.fx h.f hn (fun a ha => ?_), ?_, by have := hx.1; omega, f1, f2, f3, f4, f5, f6, f7, f8, ?_, ?_, ?_, ?_, ?_, ?_, ?_, ?_, ?_, ?_, ?_, ?_, ?_, hl⟩
  · refine fxq_no (fun q hq2 => ?_)
    rcases hS a ha with e | ⟨e, e1, e2⟩
    · rw [e]; revert q; decide +kernel
    · have := fxl_lt q hq2; omega
  · intro a ha
    have s := hx.2.2 a (Or.inr ha) (nB a ha)
    rw [hx.2.1 a (Or.inr ha), s.1, s.2.2]
    exact h.k a ha
  · rw [show (gNew g (400 + (A 42 27).toNat) 1 b 602 q') 701 = g 701 from gNew_o (by omega) (by omega), (z5 33 (by decide) (by decide)).2.2]; exact h.route
  · rw [show (gNew g (400 + (A 42 27).toNat) 1 b 602 q') 700 = g 700 from gNew_o (by omega) (by omega), (z5 0 (by decide) (by decide)).2.2]; exact h.force
  · rw [c9 9 (by decide), show (gNew g (400 + (A 42 27).toNat) 1 b 602 q') 600 = g 600 from gNew_o (by omega) (by omega)]
    refine (h.lP.ex hx (by omega) (nS 5 (by decide) (by decide)) (fun q1 q2 q => ?_)).el (fun j h0 h1 => egP j h0 h1)
    rcases hS _ q with e | ⟨e, e1, e2⟩
    · omega
    · have := h.inq 600 602 (by decide) (by decide) (by decide) (by decide) e (by omega)
      omega
  · rw [c9 12 (by decide), show (gNew g (400 + (A 42 27).toNat) 1 b 602 q') 601 = g 601 from gNew_o (by omega) (by omega)]
    refine (h.lT.ex hx (by omega) (nS 6 (by decide) (by decide)) (fun q1 q2 q => ?_)).el (fun j h0 h1 => egT j h0 h1)
    rcases hS _ q with e | ⟨e, e1, e2⟩
    · omega
    · have := h.inq 601 602 (by decide) (by decide) (by decide) (by decide) e (by omega)
      omega
  · rw [hN, show (gNew g (400 + (A 42 27).toNat) 1 b 602 q') 602 = q' from gNew_r (by omega)]
    refine hL.el (fun j h0 h1 => ?_)
    by_cases e : j = A 42 27
    · rw [if_pos e, e]
      show (gNew g (400 + (A 42 27).toNat) 1 b 602 q') (400 + (A 42 27).toNat) = b
      rw [gNew_n (by omega)]
      omega
    · rw [if_neg e]; exact egG j h0 (by omega)
  · rw [c9 66 (by decide), show (gNew g (400 + (A 42 27).toNat) 1 b 602 q') 603 = g 603 from gNew_o (by omega) (by omega)]
    refine (h.lS.ex hx (by omega) (nS 8 (by decide) (by decide)) (fun q1 q2 q => ?_)).el (fun j h0 h1 => egS j h0 h1)
    rcases hS _ q with e | ⟨e, e1, e2⟩
    · omega
    · have := h.inq 603 602 (by decide) (by decide) (by decide) (by decide) e (by omega)
      omega
  · intro c hc
    rcases (live_i c).mp hc with q | q
    · rw [gNew_o (by unfold live at q; omega) (by unfold live at q; omega)]
      have := h.pl c q
      have := hx.1
      omega
    · rw [gNew_n q]
      omega
  · intro c c' hc hc' e
    rcases (live_i c).mp hc with q | q <;> rcases (live_i c').mp hc' with q' | q'
    · rw [gNew_o (by unfold live at q; omega) (by unfold live at q; omega), gNew_o (by unfold live at q'; omega) (by unfold live at q'; omega)] at e
      exact h.inj c c' q q' e
    · rw [gNew_o (by unfold live at q; omega) (by unfold live at q; omega), gNew_n q'] at e
      have := h.pl c q
      omega
    · rw [gNew_n q, gNew_o (by unfold live at q'; omega) (by unfold live at q'; omega)] at e
      have := h.pl c' q'
      omega
    · rw [gNew_n q, gNew_n q'] at e
      omega
  · intro c c' h1 h2 h3 h4 e e2
    have hb3 : ∀ c, 600 ≤ c → c < 604 → g c = 1000001 ∨ g c < az_n σ := by
      intro c c1 c2
      have cc : c = 600 ∨ c = 601 ∨ c = 602 ∨ c = 603 := by omega
      rcases cc with rfl | rfl | rfl | rfl
      · rcases h.lP.2.2 with q | q <;> omega
      · rcases h.lT.2.2 with q | q <;> omega
      · rcases h.lG.2.2 with q | q <;> omega
      · rcases h.lS.2.2 with q | q <;> omega
    have gv : ∀ c, 600 ≤ c → c < 604 → (c = 602 ∧ (gNew g (400 + (A 42 27).toNat) 1 b 602 q') c = q') ∨ (c ≠ 602 ∧ (gNew g (400 + (A 42 27).toNat) 1 b 602 q') c = g c) := by
      intro c c1 c2
      by_cases ec : c = 602
      · left; exact ⟨ec, by rw [ec]; exact gNew_r (by omega)⟩
      · right; exact ⟨ec, gNew_o (by omega) ec⟩
    have b1 := hb3 c h1 h2
    have b2 := hb3 c' h3 h4
    have b0 := hb3 602 (by decide) (by decide)
    rcases gv c h1 h2 with ⟨g1, g2⟩ | ⟨g1, g2⟩ <;> rcases gv c' h3 h4 with ⟨g3, g4⟩ | ⟨g3, g4⟩
    · omega
    · rcases hq with q | q
      · rw [g2, g4, q, ← g1] at e
        rw [g2, q, ← g1] at e2
        exact h.inq c c' h1 h2 h3 h4 e e2
      · omega
    · rcases hq with q | q
      · rw [g2, g4, q, ← g3] at e
        rw [g2] at e2
        exact h.inq c c' h1 h2 h3 h4 e e2
      · omega
    · rw [g2, g4] at e
      rw [g2] at e2
      exact h.inq c c' h1 h2 h3 h4 e e2
  · intro j h0 h1
    rw [c9 9 (by decide)] at h1
    have h2 := h1
    exact (h.person j h0 h2).sm (sgP j h0 h2) (egP j h0 h2) (hA _ _ (by omega) (by omega)) (hA _ _ (by omega) (by omega))
  · intro j h0 h1
    rw [c9 12 (by decide)] at h1
    have h2 := h1
    have hE := (hI.thing j h0 h2).1
    exact (h.thing j h0 h2).sm (sgT j h0 h2) (sgTd j h0 h2) (sgTh j h0 h2) (sgTt j h0 h2) (egT j h0 h2) (egTd j h0 h2) (egTh j h0 h2) (egTt j h0 h2) (fun a b c _ => hA _ _ (by omega) (by omega)) (fun a i b c _ _ => hA _ _ (by omega) (by omega))
  · intro j h0 h1
    rw [hN] at h1
    by_cases ej : j = A 42 27
    · rw [ej]; exact hO
    · have h2 : j < A 42 27 := by omega
      have hG := (hI.grant j h0 h2).1
      exact (h.grant j h0 h2).sm (sgG j h0 h2) (egG j h0 h2) (egP _ (by omega) (by omega)) (fun a b c => hA _ _ (by omega) (by omega))
  · intro j h0 h1
    rw [c9 66 (by decide)] at h1
    have h2 := h1
    exact (h.stall j h0 h2).sm (sgS j h0 h2) (sgSp j h0 h2) (egS j h0 h2) (egSp j h0 h2) (hA _ _ (by omega) (by omega)) (hA _ _ (by omega) (by omega)) (fun e _ _ => hA _ _ (by omega) (by omega))
set_option maxHeartbeats 1000000 in
theorem CR.addS {sz : Nat} {κ : Nat × (Nat → Int32) × Option Nat} {A A' : Nat → Int → Int} {g : Nat → Nat} {σ τ : az_S} {S : List Nat} {q' b : Nat} (h : CR sz κ A g σ) (hI : MI sz A) (hx : Ex σ τ S) (hS : ∀ c, c ∈ S → c = 8 ∨ (c = g 603 ∧ 103 ≤ c ∧ c < az_n σ)) (hb : az_n σ ≤ b) (hb2 : b + 2 ≤ az_n τ) (hl : az_n τ ≤ 900000) (hq : q' = g 603 ∨ b + 2 ≤ q') (hL : cLS τ 8 (A 42 66 + 1) q' (fun j => if j = A 42 66 then b else gS g j)) (hN : A' 42 66 = A 42 66 + 1) (hA : ∀ a z, ¬ (a = 42 ∧ z = 66) → ¬ (84 ≤ a ∧ a ≤ 86 ∧ z = A 42 66) → ¬ (a = 87 ∧ 12 * A 42 66 ≤ z ∧ z < 12 * A 42 66 + 12) → A' a z = A a z) (hO : CS A' (gNew g (500 + 2 * (A 42 66).toNat) 2 b 603 q') τ (A 42 66)) : CR sz κ A' (gNew g (500 + 2 * (A 42 66).toNat) 2 b 603 q') τ := by
  have hth := hI.things
  have hpe := hI.people
  have hgr := hI.grants
  have hst := hI.stalls
  have hn := h.n
  have hlim := h.lim
  obtain ⟨l1, l2, l3, l4⟩ := h.lv hI
  have nS : ∀ c, c < 103 → c ≠ 8 → c ∉ S := fun c c1 c2 q => by rcases hS c q with e | ⟨e, e1, e2⟩ <;> omega
  have nB : ∀ c, 1000000 ≤ c → c ∉ S := fun c c1 q => by rcases hS c q with e | ⟨e, e1, e2⟩ <;> omega
  have hrow : 103 ≤ g 603 → g 603 < az_n σ → (az_sh σ (g 603)).1 = 104 := by
    intro a1 a2
    rcases h.lS.2.2 with ⟨-, e⟩ | ⟨-, -, cap, e, -⟩
    · omega
    · rw [e]
  have sgP : ∀ j : Int, 0 ≤ j → j < A 42 9 → Sm σ τ (gP g j) := by
    intro j h0 h1
    have hlv := l1 j h0 h1
    refine hx.sm (Or.inl (by omega)) (fun q => ?_)
    rcases hS _ q with e | ⟨e, e1, e2⟩
    · omega
    · have k := hrow (by omega) (by omega)
      rw [← e, h.sP h0 h1] at k
      exact absurd k (by decide)
  have egP : ∀ j : Int, 0 ≤ j → j < A 42 9 → gP (gNew g (500 + 2 * (A 42 66).toNat) 2 b 603 q') j = gP g j := fun j h0 h1 => gNew_o (by omega) (by omega)
  have sgT : ∀ j : Int, 0 ≤ j → j < A 42 12 → Sm σ τ (gT g j) := by
    intro j h0 h1
    have hlv := l2 j h0 h1
    refine hx.sm (Or.inl (by omega)) (fun q => ?_)
    rcases hS _ q with e | ⟨e, e1, e2⟩
    · omega
    · have k := hrow (by omega) (by omega)
      rw [← e, h.sT h0 h1] at k
      exact absurd k (by decide)
  have egT : ∀ j : Int, 0 ≤ j → j < A 42 12 → gT (gNew g (500 + 2 * (A 42 66).toNat) 2 b 603 q') j = gT g j := fun j h0 h1 => gNew_o (by omega) (by omega)
  have sgTd : ∀ j : Int, 0 ≤ j → j < A 42 12 → Sm σ τ (gTd g j) := by
    intro j h0 h1
    have hlv := l2 j h0 h1
    refine hx.sm (Or.inl (by omega)) (fun q => ?_)
    rcases hS _ q with e | ⟨e, e1, e2⟩
    · omega
    · have k := hrow (by omega) (by omega)
      rw [← e, h.sTd h0 h1] at k
      exact absurd k (by decide)
  have egTd : ∀ j : Int, 0 ≤ j → j < A 42 12 → gTd (gNew g (500 + 2 * (A 42 66).toNat) 2 b 603 q') j = gTd g j := fun j h0 h1 => gNew_o (by omega) (by omega)
  have sgTh : ∀ j : Int, 0 ≤ j → j < A 42 12 → Sm σ τ (gTh g j) := by
    intro j h0 h1
    have hlv := l2 j h0 h1
    refine hx.sm (Or.inl (by omega)) (fun q => ?_)
    rcases hS _ q with e | ⟨e, e1, e2⟩
    · omega
    · have k := hrow (by omega) (by omega)
      rw [← e, h.sTh h0 h1] at k
      exact absurd k (by decide)
  have egTh : ∀ j : Int, 0 ≤ j → j < A 42 12 → gTh (gNew g (500 + 2 * (A 42 66).toNat) 2 b 603 q') j = gTh g j := fun j h0 h1 => gNew_o (by omega) (by omega)
  have sgTt : ∀ j : Int, 0 ≤ j → j < A 42 12 → Sm σ τ (gTt g j) := by
    intro j h0 h1
    have hlv := l2 j h0 h1
    refine hx.sm (Or.inl (by omega)) (fun q => ?_)
    rcases hS _ q with e | ⟨e, e1, e2⟩
    · omega
    · have k := hrow (by omega) (by omega)
      rw [← e, h.sTt h0 h1] at k
      exact absurd k (by decide)
  have egTt : ∀ j : Int, 0 ≤ j → j < A 42 12 → gTt (gNew g (500 + 2 * (A 42 66).toNat) 2 b 603 q') j = gTt g j := fun j h0 h1 => gNew_o (by omega) (by omega)
  have sgG : ∀ j : Int, 0 ≤ j → j < A 42 27 → Sm σ τ (gG g j) := by
    intro j h0 h1
    have hlv := l3 j h0 h1
    refine hx.sm (Or.inl (by omega)) (fun q => ?_)
    rcases hS _ q with e | ⟨e, e1, e2⟩
    · omega
    · have k := hrow (by omega) (by omega)
      rw [← e, h.sG h0 h1] at k
      exact absurd k (by decide)
  have egG : ∀ j : Int, 0 ≤ j → j < A 42 27 → gG (gNew g (500 + 2 * (A 42 66).toNat) 2 b 603 q') j = gG g j := fun j h0 h1 => gNew_o (by omega) (by omega)
  have sgS : ∀ j : Int, 0 ≤ j → j < A 42 66 → Sm σ τ (gS g j) := by
    intro j h0 h1
    have hlv := l4 j h0 h1
    refine hx.sm (Or.inl (by omega)) (fun q => ?_)
    rcases hS _ q with e | ⟨e, e1, e2⟩
    · omega
    · have k := hrow (by omega) (by omega)
      rw [← e, h.sS h0 h1] at k
      exact absurd k (by decide)
  have egS : ∀ j : Int, 0 ≤ j → j < A 42 66 → gS (gNew g (500 + 2 * (A 42 66).toNat) 2 b 603 q') j = gS g j := fun j h0 h1 => gNew_o (by omega) (by omega)
  have sgSp : ∀ j : Int, 0 ≤ j → j < A 42 66 → Sm σ τ (gSp g j) := by
    intro j h0 h1
    have hlv := l4 j h0 h1
    refine hx.sm (Or.inl (by omega)) (fun q => ?_)
    rcases hS _ q with e | ⟨e, e1, e2⟩
    · omega
    · have k := hrow (by omega) (by omega)
      rw [← e, h.sSp h0 h1] at k
      exact absurd k (by decide)
  have egSp : ∀ j : Int, 0 ≤ j → j < A 42 66 → gSp (gNew g (500 + 2 * (A 42 66).toNat) 2 b 603 q') j = gSp g j := fun j h0 h1 => gNew_o (by omega) (by omega)
  have c9 : ∀ z : Int, z ≠ 66 → A' 42 z = A 42 z := fun z hz => hA _ _ (by omega) (by omega) (by omega)
  have z5 : ∀ a, a < 103 → a ≠ 8 → Sm σ τ a := fun a h1 h2 => hx.sm (Or.inl (by omega)) (nS a h1 h2)
  obtain ⟨f1, f2, f3, f4, f5, f6, f7, f8⟩ := h.fix.sn (A' := A') (τ := τ) (fun a h1 h2 => (z5 a (by omega) (by omega)).z) (hx.q (Or.inl (by omega)) (nS 33 (by decide) (by decide))) (fun z h1 h2 => c9 z (by omega)) (fun a z h1 => hA _ _ (by omega) (by omega) (by omega))
  have live_i : ∀ c, live A' c ↔ live A c ∨ ((500 + 2 * (A 42 66).toNat) ≤ c ∧ c < (500 + 2 * (A 42 66).toNat) + 2) := by
    intro c
    unfold live
    rw [hN, c9 9 (by decide), c9 12 (by decide), c9 27 (by decide)]
    omega
  refine ⟨hx.fx h.f hn (fun a ha => ?_), ?_, by have := hx.1; omega, f1, f2, f3, f4, f5, f6, f7, f8, ?_, ?_, ?_, ?_, ?_, ?_, ?_, ?_, ?_, ?_, ?_, ?_, ?_, hl⟩
  · refine fxq_no (fun q hq2 => ?_)
    rcases hS a ha with e | ⟨e, e1, e2⟩
    · rw [e]; revert q; decide +kernel
    · have := fxl_lt q hq2; omega
  · intro a ha
    have s := hx.2.2 a (Or.inr ha) (nB a ha)
    rw [hx.2.1 a (Or.inr ha), s.1, s.2.2]
    exact h.k a ha
  · rw [show (gNew g (500 + 2 * (A 42 66).toNat) 2 b 603 q') 701 = g 701 from gNew_o (by omega) (by omega), (z5 33 (by decide) (by decide)).2.2]; exact h.route
  · rw [show (gNew g (500 + 2 * (A 42 66).toNat) 2 b 603 q') 700 = g 700 from gNew_o (by omega) (by omega), (z5 0 (by decide) (by decide)).2.2]; exact h.force
  · rw [c9 9 (by decide), show (gNew g (500 + 2 * (A 42 66).toNat) 2 b 603 q') 600 = g 600 from gNew_o (by omega) (by omega)]
    refine (h.lP.ex hx (by omega) (nS 5 (by decide) (by decide)) (fun q1 q2 q => ?_)).el (fun j h0 h1 => egP j h0 h1)
    rcases hS _ q with e | ⟨e, e1, e2⟩
    · omega
    · have := h.inq 600 603 (by decide) (by decide) (by decide) (by decide) e (by omega)
      omega
  · rw [c9 12 (by decide), show (gNew g (500 + 2 * (A 42 66).toNat) 2 b 603 q') 601 = g 601 from gNew_o (by omega) (by omega)]
    refine (h.lT.ex hx (by omega) (nS 6 (by decide) (by decide)) (fun q1 q2 q => ?_)).el (fun j h0 h1 => egT j h0 h1)
    rcases hS _ q with e | ⟨e, e1, e2⟩
    · omega
    · have := h.inq 601 603 (by decide) (by decide) (by decide) (by decide) e (by omega)
      omega
  · rw [c9 27 (by decide), show (gNew g (500 + 2 * (A 42 66).toNat) 2 b 603 q') 602 = g 602 from gNew_o (by omega) (by omega)]
    refine (h.lG.ex hx (by omega) (nS 7 (by decide) (by decide)) (fun q1 q2 q => ?_)).el (fun j h0 h1 => egG j h0 h1)
    rcases hS _ q with e | ⟨e, e1, e2⟩
    · omega
    · have := h.inq 602 603 (by decide) (by decide) (by decide) (by decide) e (by omega)
      omega
  · rw [hN, show (gNew g (500 + 2 * (A 42 66).toNat) 2 b 603 q') 603 = q' from gNew_r (by omega)]
    refine hL.el (fun j h0 h1 => ?_)
    by_cases e : j = A 42 66
    · rw [if_pos e, e]
      show (gNew g (500 + 2 * (A 42 66).toNat) 2 b 603 q') (500 + 2 * (A 42 66).toNat) = b
      rw [gNew_n (by omega)]
      omega
    · rw [if_neg e]; exact egS j h0 (by omega)
  · intro c hc
    rcases (live_i c).mp hc with q | q
    · rw [gNew_o (by unfold live at q; omega) (by unfold live at q; omega)]
      have := h.pl c q
      have := hx.1
      omega
    · rw [gNew_n q]
      omega
  · intro c c' hc hc' e
    rcases (live_i c).mp hc with q | q <;> rcases (live_i c').mp hc' with q' | q'
    · rw [gNew_o (by unfold live at q; omega) (by unfold live at q; omega), gNew_o (by unfold live at q'; omega) (by unfold live at q'; omega)] at e
      exact h.inj c c' q q' e
    · rw [gNew_o (by unfold live at q; omega) (by unfold live at q; omega), gNew_n q'] at e
      have := h.pl c q
      omega
    · rw [gNew_n q, gNew_o (by unfold live at q'; omega) (by unfold live at q'; omega)] at e
      have := h.pl c' q'
      omega
    · rw [gNew_n q, gNew_n q'] at e
      omega
  · intro c c' h1 h2 h3 h4 e e2
    have hb3 : ∀ c, 600 ≤ c → c < 604 → g c = 1000001 ∨ g c < az_n σ := by
      intro c c1 c2
      have cc : c = 600 ∨ c = 601 ∨ c = 602 ∨ c = 603 := by omega
      rcases cc with rfl | rfl | rfl | rfl
      · rcases h.lP.2.2 with q | q <;> omega
      · rcases h.lT.2.2 with q | q <;> omega
      · rcases h.lG.2.2 with q | q <;> omega
      · rcases h.lS.2.2 with q | q <;> omega
    have gv : ∀ c, 600 ≤ c → c < 604 → (c = 603 ∧ (gNew g (500 + 2 * (A 42 66).toNat) 2 b 603 q') c = q') ∨ (c ≠ 603 ∧ (gNew g (500 + 2 * (A 42 66).toNat) 2 b 603 q') c = g c) := by
      intro c c1 c2
      by_cases ec : c = 603
      · left; exact ⟨ec, by rw [ec]; exact gNew_r (by omega)⟩
      · right; exact ⟨ec, gNew_o (by omega) ec⟩
    have b1 := hb3 c h1 h2
    have b2 := hb3 c' h3 h4
    have b0 := hb3 603 (by decide) (by decide)
    rcases gv c h1 h2 with ⟨g1, g2⟩ | ⟨g1, g2⟩ <;> rcases gv c' h3 h4 with ⟨g3, g4⟩ | ⟨g3, g4⟩
    · omega
    · rcases hq with q | q
      · rw [g2, g4, q, ← g1] at e
        rw [g2, q, ← g1] at e2
        exact h.inq c c' h1 h2 h3 h4 e e2
      · omega
    · rcases hq with q | q
      · rw [g2, g4, q, ← g3] at e
        rw [g2] at e2
        exact h.inq c c' h1 h2 h3 h4 e e2
      · omega
    · rw [g2, g4] at e
      rw [g2] at e2
      exact h.inq c c' h1 h2 h3 h4 e e2
  · intro j h0 h1
    rw [c9 9 (by decide)] at h1
    have h2 := h1
    exact (h.person j h0 h2).sm (sgP j h0 h2) (egP j h0 h2) (hA _ _ (by omega) (by omega) (by omega)) (hA _ _ (by omega) (by omega) (by omega))
  · intro j h0 h1
    rw [c9 12 (by decide)] at h1
    have h2 := h1
    have hE := (hI.thing j h0 h2).1
    exact (h.thing j h0 h2).sm (sgT j h0 h2) (sgTd j h0 h2) (sgTh j h0 h2) (sgTt j h0 h2) (egT j h0 h2) (egTd j h0 h2) (egTh j h0 h2) (egTt j h0 h2) (fun a b c _ => hA _ _ (by omega) (by omega) (by omega)) (fun a i b c _ _ => hA _ _ (by omega) (by omega) (by omega))
  · intro j h0 h1
    rw [c9 27 (by decide)] at h1
    have h2 := h1
    have hG := (hI.grant j h0 h2).1
    exact (h.grant j h0 h2).sm (sgG j h0 h2) (egG j h0 h2) (egP _ (by omega) (by omega)) (fun a b c => hA _ _ (by omega) (by omega) (by omega))
  · intro j h0 h1
    rw [hN] at h1
    by_cases ej : j = A 42 66
    · rw [ej]; exact hO
    · have h2 : j < A 42 66 := by omega
      exact (h.stall j h0 h2).sm (sgS j h0 h2) (sgSp j h0 h2) (egS j h0 h2) (egSp j h0 h2) (hA _ _ (by omega) (by omega) (by omega)) (hA _ _ (by omega) (by omega) (by omega)) (fun e _ _ => hA _ _ (by omega) (by omega) (by omega))
