/-! THE ROUTE -/
def gsw (g : Nat → Nat) (v : Nat) : Nat → Nat := fun c => if c = 701 then v else g c
theorem gsw_o {g : Nat → Nat} {v c : Nat} (h : c ≠ 701) : gsw g v c = g c := if_neg h
theorem gsw_s {g : Nat → Nat} {v : Nat} : gsw g v 701 = v := if_pos rfl
/-- like Mod, references aside -/
def Mi (σ τ : az_S) (S : List Nat) : Prop := τ.1 = σ.1 ∧ τ.2.1 = σ.2.1 ∧ az_sh τ = az_sh σ ∧ (∀ a, a ∉ S → az_i τ a = az_i σ a) ∧ ∀ a, a ∉ S → az_l τ a = az_l σ a
theorem Mod.mi {σ τ : az_S} {S : List Nat} (h : Mod σ τ S) : Mi σ τ S := ⟨h.1, h.2.1, h.2.2.1, h.2.2.2.2.1, h.2.2.2.2.2⟩
theorem Mi.rf {σ : az_S} {S : List Nat} : Mi σ σ S := ⟨rfl, rfl, rfl, fun _ _ => rfl, fun _ _ => rfl⟩
theorem Mi.tr {σ τ υ : az_S} {S : List Nat} (h : Mi σ τ S) (k : Mi τ υ S) : Mi σ υ S := ⟨k.1.trans h.1, k.2.1.trans h.2.1, k.2.2.1.trans h.2.2.1, fun a ha => (k.2.2.2.1 a ha).trans (h.2.2.2.1 a ha), fun a ha => (k.2.2.2.2 a ha).trans (h.2.2.2.2 a ha)⟩
theorem Mi.su {σ τ : az_S} {S : List Nat} (h : Mi σ τ S) {T : List Nat} (hs : S.all (fun a => T.contains a) = true) : Mi σ τ T := by
  have hx : ∀ a, a ∉ T → a ∉ S := by
    intro a ha hb
    have := List.all_eq_true.mp hs a hb
    exact ha (List.contains_iff_mem.mp this)
  exact ⟨h.1, h.2.1, h.2.2.1, fun a ha => h.2.2.2.1 a (hx a ha), fun a ha => h.2.2.2.2 a (hx a ha)⟩
theorem Mi.z {σ τ : az_S} {S : List Nat} (h : Mi σ τ S) (a : Nat) (ha : S.contains a = false) : zx τ a = zx σ a := by
  funext w
  unfold zx zi
  rw [h.2.2.2.1 a (fun q => by rw [List.contains_iff_mem.mpr q] at ha; cases ha)]
theorem Mi.q {σ τ : az_S} {S : List Nat} (h : Mi σ τ S) (a : Nat) (ha : S.contains a = false) : zq τ a = zq σ a := by
  funext w
  unfold zq
  rw [h.2.2.2.2 a (fun q => by rw [List.contains_iff_mem.mpr q] at ha; cases ha)]
theorem Mi.kp {σ τ : az_S} {S : List Nat} (h : Mi σ τ S) (hS : ∀ a, a ∈ S → ¬ kpl a) : Kp σ τ := ⟨fun a ha => ⟨h.2.2.2.1 a (fun q => hS a q ha), h.2.2.2.2 a (fun q => hS a q ha)⟩, by have := h.1; show τ.1 ≤ σ.1 + 10; omega, by have := h.2.1; show τ.2.1 ≤ σ.2.1 + 500; omega⟩
theorem cSL.mi {A : Nat → Int → Int} {x y : Int} {σ τ : az_S} {S : List Nat} (k : cSL A x y σ) (hd : Mi σ τ S) (h1 : S.contains 29 = false) (h2 : S.contains 30 = false) (h3 : S.contains 31 = false) : cSL A x y τ := by
  unfold cSL
  rw [hd.z 29 h1, hd.z 30 h2, hd.z 31 h3]
  exact k
theorem cTar.mi {σ τ : az_S} {b : Nat} {R : tRules} {S : List Nat} (h : cTar σ b R) (hd : Mi σ τ S) (hS : ∀ a, a ∈ S → a < b ∨ b + 4 < a) : cTar τ b R := by
  have n : ∀ a, b ≤ a → a ≤ b + 4 → zx τ a = zx σ a := fun a h1 h2 => by
    funext w
    unfold zx zi
    rw [hd.2.2.2.1 a (fun q => by have := hS a q; omega)]
  unfold cTar
  rw [n b (by omega) (by omega), n (b + 1) (by omega) (by omega), n (b + 2) (by omega) (by omega), n (b + 3) (by omega) (by omega), n (b + 4) (by omega) (by omega)]
  exact h
/-- the rows of the route change places -/
def sw4 (σ : az_S) (a b c e : Nat) : az_S := az_pr (az_pr (az_pr (az_pr σ 33 4 (some a)) 33 3 (some b)) 33 6 (some c)) 33 5 (some e)
theorem sw4_r {σ : az_S} {a b c e : Nat} {k : Nat} (h : k ≠ 33) : az_r (sw4 σ a b c e) k = az_r σ k := by
  show az_up (az_up (az_up (az_up σ.2.2.2.2.2 33 4 (some a)) 33 3 (some b)) 33 6 (some c)) 33 5 (some e) k = _
  rw [az_up_ne h, az_up_ne h, az_up_ne h, az_up_ne h]
theorem sw4_33 {σ : az_S} {a b c e : Nat} : (az_r (sw4 σ a b c e) 33 3 = some b ∧ az_r (sw4 σ a b c e) 33 4 = some a ∧ az_r (sw4 σ a b c e) 33 5 = some e ∧ az_r (sw4 σ a b c e) 33 6 = some c) ∧ ∀ k, k ≠ 3 → k ≠ 4 → k ≠ 5 → k ≠ 6 → az_r (sw4 σ a b c e) 33 k = az_r σ 33 k := by
  have u : az_r (sw4 σ a b c e) = az_up (az_up (az_up (az_up σ.2.2.2.2.2 33 4 (some a)) 33 3 (some b)) 33 6 (some c)) 33 5 (some e) := rfl
  rw [u]
  refine ⟨⟨?_, ?_, ?_, ?_⟩, fun k h3 h4 h5 h6 => ?_⟩
  · rw [az_up_nk (by decide), az_up_nk (by decide), az_up_sf]
  · rw [az_up_nk (by decide), az_up_nk (by decide), az_up_nk (by decide), az_up_sf]
  · rw [az_up_sf]
  · rw [az_up_nk (by decide), az_up_sf]
  · rw [az_up_nk h5, az_up_nk h6, az_up_nk h3, az_up_nk h4]
theorem sw4_q : ∀ k b, fxq 33 k = some b → k ≠ 3 ∧ k ≠ 4 ∧ k ≠ 5 ∧ k ≠ 6 := by
  intro k b hb
  refine ⟨?_, ?_, ?_, ?_⟩ <;> (rintro rfl; revert hb; simp [fxq, fxl])
theorem CR.sw {sz : Nat} {κ : Nat × (Nat → Int32) × Option Nat} {A : Nat → Int → Int} {g : Nat → Nat} {σ : az_S} (h : CR sz κ A g σ) (hI : MI sz A) {v : Nat} (hv : g 701 = v) : CR sz κ A (gsw g (1 - v)) (sw4 σ (36 + v) (37 - v) (38 + v) (39 - v)) := by
  have hth := hI.things
  have hpe := hI.people
  have hgr := hI.grants
  have hst := hI.stalls
  have hv1 := h.route.1
  have hlim := h.lim
  have hn := h.n
  obtain ⟨l1, l2, l3, l4⟩ := h.lv hI
  have s : ∀ a, a ≠ 33 → Sm σ (sw4 σ (36 + v) (37 - v) (38 + v) (39 - v)) a := fun a ha => ⟨rfl, rfl, sw4_r ha⟩
  have eP : ∀ j : Int, 0 ≤ j → j < A 42 9 → gP (gsw g (1 - v)) j = gP g j := fun j a b => gsw_o (by omega)
  have eT : ∀ j : Int, 0 ≤ j → j < A 42 12 → gT (gsw g (1 - v)) j = gT g j := fun j a b => gsw_o (by omega)
  have eTd : ∀ j : Int, 0 ≤ j → j < A 42 12 → gTd (gsw g (1 - v)) j = gTd g j := fun j a b => gsw_o (by omega)
  have eTh : ∀ j : Int, 0 ≤ j → j < A 42 12 → gTh (gsw g (1 - v)) j = gTh g j := fun j a b => gsw_o (by omega)
  have eTt : ∀ j : Int, 0 ≤ j → j < A 42 12 → gTt (gsw g (1 - v)) j = gTt g j := fun j a b => gsw_o (by omega)
  have eG : ∀ j : Int, 0 ≤ j → j < A 42 27 → gG (gsw g (1 - v)) j = gG g j := fun j a b => gsw_o (by omega)
  have eS : ∀ j : Int, 0 ≤ j → j < A 42 66 → gS (gsw g (1 - v)) j = gS g j := fun j a b => gsw_o (by omega)
  have eSp : ∀ j : Int, 0 ≤ j → j < A 42 66 → gSp (gsw g (1 - v)) j = gSp g j := fun j a b => gsw_o (by omega)
  have lst : ∀ (a : Nat) (n : Int) (q : Nat) (el el' : Int → Nat), a ≠ 33 → cLS σ a n q el → (∀ j : Int, 0 ≤ j → j < n → el' j = el j) → cLS (sw4 σ (36 + v) (37 - v) (38 + v) (39 - v)) a n q el' := by
    intro a n q el el' ha k he
    obtain ⟨k1, k2, k3⟩ := k
    refine ⟨k1, by rw [sw4_r ha]; exact k2, ?_⟩
    rcases k3 with k3 | ⟨k3, k4, cap, k5, k6, k7, k8⟩
    · exact Or.inl k3
    · exact Or.inr ⟨k3, k4, cap, k5, k6, k7, fun j x y => by rw [sw4_r (by omega), he j x y]; exact k8 j x y⟩
  have lv : ∀ c, live A c → c ≠ 701 := fun c hc => by unfold live at hc; omega
  refine ⟨⟨h.f.1, h.f.2.1, fun a k b hb => ?_⟩, fun a ha => ?_, h.n, h.today, h.ground, h.clouds, h.sun, h.cld, h.fault, h.tape, h.path, ?_, ?_, ?_, ?_, ?_, ?_, ?_, ?_, ?_, ?_, ?_, ?_, ?_, h.lim⟩
  · by_cases e : a = 33
    · subst e
      have q := sw4_q k b hb
      rw [sw4_33.2 k q.1 q.2.1 q.2.2.1 q.2.2.2]
      exact h.f.2.2 33 k b hb
    · rw [sw4_r e]; exact h.f.2.2 a k b hb
  · rw [sw4_r (by omega)]; exact h.k a ha
  · have q := (sw4_33 (σ := σ) (a := 36 + v) (b := 37 - v) (c := 38 + v) (e := 39 - v)).1
    rw [gsw_s]
    refine ⟨by omega, ?_, ?_, ?_, ?_⟩
    · rw [q.1]; congr 1; omega
    · rw [q.2.1]; congr 1; omega
    · rw [q.2.2.1]; congr 1; omega
    · rw [q.2.2.2]; congr 1; omega
  · rw [gsw_o (by decide), sw4_r (by decide)]; exact h.force
  · rw [gsw_o (by decide)]; exact lst _ _ _ _ _ (by decide) h.lP eP
  · rw [gsw_o (by decide)]; exact lst _ _ _ _ _ (by decide) h.lT eT
  · rw [gsw_o (by decide)]; exact lst _ _ _ _ _ (by decide) h.lG eG
  · rw [gsw_o (by decide)]; exact lst _ _ _ _ _ (by decide) h.lS eS
  · intro c hc; rw [gsw_o (lv c hc)]; exact h.pl c hc
  · intro c c' hc hc' e; rw [gsw_o (lv c hc), gsw_o (lv c' hc')] at e; exact h.inj c c' hc hc' e
  · intro c c' h1 h2 h3 h4 e e2; rw [gsw_o (by omega), gsw_o (by omega)] at e; rw [gsw_o (by omega)] at e2; exact h.inq c c' h1 h2 h3 h4 e e2
  · intro j h0 h1; exact (h.person j h0 h1).sm (s _ (by have := l1 j h0 h1; omega)) (eP j h0 h1) rfl rfl
  · intro j h0 h1
    have := l2 j h0 h1
    exact (h.thing j h0 h1).sm (s _ (by omega)) (s _ (by omega)) (s _ (by omega)) (s _ (by omega)) (eT j h0 h1) (eTd j h0 h1) (eTh j h0 h1) (eTt j h0 h1) (fun _ _ _ _ => rfl) (fun _ _ _ _ _ _ => rfl)
  · intro j h0 h1
    have hG := (hI.grant j h0 h1).1
    exact (h.grant j h0 h1).sm (s _ (by have := l3 j h0 h1; omega)) (eG j h0 h1) (eP _ (by omega) (by omega)) (fun _ _ _ => rfl)
  · intro j h0 h1
    have := l4 j h0 h1
    exact (h.stall j h0 h1).sm (s _ (by omega)) (s _ (by omega)) (eS j h0 h1) (eSp j h0 h1) rfl rfl (fun _ _ _ => rfl)
def dX (k : Int) : Int := if k = 1 then -1 else if k = 3 then 1 else 0
def dY (k : Int) : Int := if k = 0 then -1 else if k = 4 then 1 else 0
theorem beside_at {sz : Nat} {A : Nat → Int → Int} (hI : MI sz A) {c k : Int} (hc0 : 0 ≤ c) (hc1 : c < A 42 2) (hk0 : 0 ≤ k) (hk1 : k < 5) : gAt A (c % A 42 0 + dX k) (c / A 42 0 + dY k) = mBeside A c k := by
  have hw := hI.wide
  have d := cell_dm hI hc0 hc1
  have e := d.2.2
  rw [gAt_in d.1 d.2.1] at e
  have hk : k = 0 ∨ k = 1 ∨ k = 2 ∨ k = 3 ∨ k = 4 := by omega
  unfold gAt mBeside
  rcases hk with rfl | rfl | rfl | rfl | rfl
  · simp only [dX, dY, if_true, show ¬ (0 : Int) = 1 by decide, show ¬ (0 : Int) = 3 by decide, if_false]
    by_cases q : 0 < c / A 42 0
    · rw [if_pos (by omega), if_pos q, Int.add_mul]; omega
    · rw [if_neg (by omega), if_neg q]
  · simp only [dX, dY, if_true, show ¬ (1 : Int) = 0 by decide, show ¬ (1 : Int) = 4 by decide, if_false]
    by_cases q : 0 < c % A 42 0
    · rw [if_pos (by omega), if_pos q, Int.add_zero]; omega
    · rw [if_neg (by omega), if_neg q]
  · simp only [dX, dY, show ¬ (2 : Int) = 0 by decide, show ¬ (2 : Int) = 1 by decide, show ¬ (2 : Int) = 3 by decide, show ¬ (2 : Int) = 4 by decide, if_false, if_true]
    rw [if_pos (by omega), Int.add_zero, Int.add_zero]; omega
  · simp only [dX, dY, show ¬ (3 : Int) = 0 by decide, show ¬ (3 : Int) = 1 by decide, show ¬ (3 : Int) = 2 by decide, show ¬ (3 : Int) = 4 by decide, if_false, if_true]
    by_cases q : c % A 42 0 + 1 < A 42 0
    · rw [if_pos (by omega), if_pos q, Int.add_zero]; omega
    · rw [if_neg (by omega), if_neg q]
  · simp only [dX, dY, show ¬ (4 : Int) = 0 by decide, show ¬ (4 : Int) = 1 by decide, show ¬ (4 : Int) = 2 by decide, show ¬ (4 : Int) = 3 by decide, if_false, if_true]
    by_cases q : c / A 42 0 + 1 < A 42 1
    · rw [if_pos (by omega), if_pos q, Int.add_mul]; omega
    · rw [if_neg (by omega), if_neg q]
theorem steps_1 {sz : Nat} {A : Nat → Int → Int} (hI : MI sz A) {u c k : Int} (hc0 : 0 ≤ c) (hc1 : c < A 42 2) (hk0 : 0 ≤ k) (hk1 : k < 5) (hb : 0 ≤ mBeside A c k) : gSteps A u (mBeside A c k) ≤ gSteps A u c + 1 := by
  have e := beside_at hI hc0 hc1 hk0 hk1
  have d := gAt_dm hI (x := c % A 42 0 + dX k) (y := c / A 42 0 + dY k) (by rw [e]; exact hb)
  rw [e] at d
  have hk : k = 0 ∨ k = 1 ∨ k = 2 ∨ k = 3 ∨ k = 4 := by omega
  unfold gSteps
  rw [d.1, d.2.1]
  have hx : -1 ≤ dX k ∧ dX k ≤ 1 ∧ -1 ≤ dY k ∧ dY k ≤ 1 ∧ (dX k = 0 ∨ dY k = 0) := by rcases hk with rfl | rfl | rfl | rfl | rfl <;> simp [dX, dY]
  (repeat' split) <;> omega
theorem nxN_is {A : Nat → Int → Int} {f : Int → Int × Int} {c : Int} : ∀ n : Nat, 0 ≤ nxN A f c n → ∃ k : Int, 0 ≤ k ∧ k < n ∧ nxN A f c n = mBeside A c k := by
  intro n
  induction n with
  | zero => intro h; exact absurd h (by show ¬ (0 : Int) ≤ -1; decide)
  | succ n ih =>
    intro h
    have e : nxN A f c (n + 1) = zit ((0 ≤ mBeside A c n ∧ (f (mBeside A c n)).1 < 1000) ∧ (nxN A f c n < 0 ∨ wBet f (mBeside A c n) (nxN A f c n))) (mBeside A c n) (nxN A f c n) := rfl
    rcases zit_or ((0 ≤ mBeside A c n ∧ (f (mBeside A c n)).1 < 1000) ∧ (nxN A f c n < 0 ∨ wBet f (mBeside A c n) (nxN A f c n))) (mBeside A c n) (nxN A f c n) with ⟨-, e1⟩ | ⟨-, e1⟩
    · exact ⟨n, by omega, by omega, e.trans e1⟩
    · rw [e, e1] at h
      obtain ⟨k, k0, k1, k2⟩ := ih h
      exact ⟨k, k0, by omega, (e.trans e1).trans k2⟩
theorem gSteps_b {sz : Nat} {A : Nat → Int → Int} (hI : MI sz A) {u c : Int} (hu0 : 0 ≤ u) (hu1 : u < A 42 2) (hc0 : 0 ≤ c) (hc1 : c < A 42 2) : 0 ≤ gSteps A u c ∧ gSteps A u c ≤ 100 ∧ (gSteps A u c = 0 ↔ u = c) := by
  have a := cell_dm hI hu0 hu1
  have b := cell_dm hI hc0 hc1
  have hw := hI.wide
  have hh := hI.high
  have r : 0 ≤ gSteps A u c ∧ gSteps A u c ≤ 100 := by
    unfold gSteps
    (repeat' split) <;> omega
  refine ⟨r.1, r.2, ?_, ?_⟩
  · intro q
    have e1 : u % A 42 0 = c % A 42 0 ∧ u / A 42 0 = c / A 42 0 := by
      unfold gSteps at q
      (repeat' split at q) <;> omega
    rw [← a.2.2, ← b.2.2, e1.1, e1.2]
  · intro q
    rw [q]
    unfold gSteps
    rw [Int.sub_self, Int.sub_self]
    simp
/-- rows that hold f where rc is, -1 elsewhere -/
def cAf (A : Nat → Int → Int) (f : Int → Int × Int) (rc : Int → Prop) (su co : Nat) (n : Int) (τ : az_S) : Prop := ∀ e : Int, 0 ≤ e → e < n → ((rc e ∧ (f e).1 < 1000) → zx τ su e = (f e).1 ∧ zq τ co e = (f e).2) ∧ (¬ (rc e ∧ (f e).1 < 1000) → zx τ su e = -1)
theorem cAf.mi {A : Nat → Int → Int} {f : Int → Int × Int} {rc : Int → Prop} {su co : Nat} {n : Int} {σ τ : az_S} {S : List Nat} (h : cAf A f rc su co n σ) (hd : Mi σ τ S) (h1 : S.contains su = false) (h2 : S.contains co = false) : cAf A f rc su co n τ := by
  unfold cAf
  rw [hd.z su h1, hd.q co h2]
  exact h
