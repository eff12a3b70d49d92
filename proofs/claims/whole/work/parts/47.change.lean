/-! CHANGES of the class's state -/
def Sm (σ τ : az_S) (a : Nat) : Prop := az_sh τ a = az_sh σ a ∧ az_i τ a = az_i σ a ∧ az_r τ a = az_r σ a
theorem Sm.z {σ τ : az_S} {a : Nat} (h : Sm σ τ a) : zx τ a = zx σ a := by
  funext w
  unfold zx zi
  rw [h.2.1]
theorem Mod.sm {σ τ : az_S} {S : List Nat} {a : Nat} (h : Mod σ τ S) (ha : a ∉ S) : Sm σ τ a := ⟨by rw [h.2.2.1], h.2.2.2.2.1 a ha, by rw [h.2.2.2.1]⟩
def cFix (A : Nat → Int → Int) (σ : az_S) : Prop := (zx σ 0 15 = A 42 3) ∧ (zx σ 28 0 = A 42 0 ∧ zx σ 28 1 = A 42 1 ∧ zx σ 28 2 = A 42 2) ∧ (zx σ 1 3 = A 42 6) ∧ (∀ j : Int, 0 ≤ j → j < 144 → zx σ 2 j = A 43 j ∧ zx σ 3 j = A 44 j) ∧ (∀ j : Int, 0 ≤ j → j < A 42 6 → zx σ 4 j = 12 * A 45 j + A 46 j) ∧ (zx σ 0 16 = A 42 48 ∧ zx σ 0 17 = A 42 49) ∧ (zx σ 9 1 = A 42 40 ∧ ∀ j : Int, 0 ≤ j → j < A 42 40 → zx σ 10 j = A 74 j % 256) ∧ (zx σ 33 7 = A 42 85 ∧ zq σ 33 8 = (if 0 < A 42 85 then A 42 86 else -1) ∧ ∀ j : Int, 0 ≤ j → j < A 42 85 → zx σ 34 j = A 101 j)
theorem CR.fix {sz : Nat} {κ : Nat × (Nat → Int32) × Option Nat} {A : Nat → Int → Int} {g : Nat → Nat} {σ : az_S} (h : CR sz κ A g σ) : cFix A σ := ⟨h.today, h.ground, h.clouds, h.sun, h.cld, h.fault, h.tape, h.path⟩
theorem cFix.sm {A A' : Nat → Int → Int} {σ τ : az_S} (h : cFix A σ) (hs : ∀ a, a < 35 → zx τ a = zx σ a) (hq : zq τ 33 = zq σ 33) (h42 : ∀ z : Int, z < 9 ∨ 40 ≤ z → z ≠ 66 → A' 42 z = A 42 z) (hA : ∀ a z, (43 ≤ a ∧ a ≤ 46) ∨ a = 74 ∨ a = 101 → A' a z = A a z) : cFix A' τ := by
  obtain ⟨h1, ⟨h2, h3, h4⟩, h5, h6, h7, ⟨h8, h9⟩, ⟨h10, h11⟩, h12, h13, h14⟩ := h
  have e : ∀ z : Int, (z = 0 ∨ z = 1 ∨ z = 2 ∨ z = 3 ∨ z = 6 ∨ z = 48 ∨ z = 49 ∨ z = 40 ∨ z = 85 ∨ z = 86) → A' 42 z = A 42 z := fun z q => h42 z (by omega) (by omega)
  refine ⟨by rw [hs 0 (by decide), e 3 (by omega)]; exact h1, ⟨by rw [hs 28 (by decide), e 0 (by omega)]; exact h2, by rw [hs 28 (by decide), e 1 (by omega)]; exact h3, by rw [hs 28 (by decide), e 2 (by omega)]; exact h4⟩, by rw [hs 1 (by decide), e 6 (by omega)]; exact h5, fun j a b => ?_, ?_, ⟨by rw [hs 0 (by decide), e 48 (by omega)]; exact h8, by rw [hs 0 (by decide), e 49 (by omega)]; exact h9⟩, ⟨by rw [hs 9 (by decide), e 40 (by omega)]; exact h10, ?_⟩, by rw [hs 33 (by decide), e 85 (by omega)]; exact h12, by rw [hq, e 85 (by omega), e 86 (by omega)]; exact h13, ?_⟩
  · rw [hs 2 (by decide), hs 3 (by decide), hA 43 j (by omega), hA 44 j (by omega)]; exact h6 j a b
  · rw [e 6 (by omega), hs 4 (by decide)]
    intro j a b
    rw [hA 45 j (by omega), hA 46 j (by omega)]
    exact h7 j a b
  · rw [e 40 (by omega), hs 10 (by decide)]
    intro j a b
    rw [hA 74 j (by omega)]
    exact h11 j a b
  · rw [e 85 (by omega), hs 34 (by decide)]
    intro j a b
    rw [hA 101 j (by omega)]
    exact h14 j a b
theorem CP.sm {A A' : Nat → Int → Int} {g g' : Nat → Nat} {σ τ : az_S} {j : Int} (h : CP A g σ j) (s : Sm σ τ (gP g j)) (e : gP g' j = gP g j) (a1 : A' 47 j = A 47 j) (a2 : A' 48 j = A 48 j) : CP A' g' τ j := by
  unfold CP
  rw [e, s.1, s.z, a1, a2]
  exact h
theorem CT.sm {A A' : Nat → Int → Int} {g g' : Nat → Nat} {σ τ : az_S} {t : Int} (h : CT A g σ t) (s1 : Sm σ τ (gT g t)) (s2 : Sm σ τ (gTd g t)) (s3 : Sm σ τ (gTh g t)) (s4 : Sm σ τ (gTt g t)) (e1 : gT g' t = gT g t) (e2 : gTd g' t = gTd g t) (e3 : gTh g' t = gTh g t) (e4 : gTt g' t = gTt g t) (aT : ∀ a : Nat, 49 ≤ a → a ≤ 62 → (a < 57 ∨ 59 < a) → A' a t = A a t) (aE : ∀ (a : Nat) (i : Int), 57 ≤ a → a ≤ 59 → 0 ≤ i → i < A 56 t → A' a (41 * t + i) = A a (41 * t + i)) : CT A' g' τ t := by
  obtain ⟨k, r, v, w⟩ := h
  refine ⟨?_, ?_, ?_, ?_⟩
  · rw [e1, e2, e3, e4, s1.1, s2.1, s3.1, s4.1]; exact k
  · rw [e1, e2, e3, e4, s1.2.2]; exact r
  · rw [e1, s1.z, aT 49 (by decide) (by decide) (by decide), aT 50 (by decide) (by decide) (by decide), aT 51 (by decide) (by decide) (by decide), aT 52 (by decide) (by decide) (by decide), aT 53 (by decide) (by decide) (by decide), aT 54 (by decide) (by decide) (by decide), aT 55 (by decide) (by decide) (by decide), aT 56 (by decide) (by decide) (by decide), aT 60 (by decide) (by decide) (by decide), aT 61 (by decide) (by decide) (by decide), aT 62 (by decide) (by decide) (by decide)]; exact v
  · rw [aT 56 (by decide) (by decide) (by decide), e2, e3, e4, s2.z, s3.z, s4.z]
    intro i h0 h1
    rw [aE 57 i (by decide) (by decide) h0 h1, aE 58 i (by decide) (by decide) h0 h1, aE 59 i (by decide) (by decide) h0 h1]
    exact w i h0 h1
theorem CG.sm {A A' : Nat → Int → Int} {g g' : Nat → Nat} {σ τ : az_S} {j : Int} (h : CG A g σ j) (s : Sm σ τ (gG g j)) (e : gG g' j = gG g j) (eP : gP g' (A 63 j) = gP g (A 63 j)) (aG : ∀ a : Nat, 63 ≤ a → a ≤ 73 → A' a j = A a j) : CG A' g' τ j := by
  unfold CG
  rw [e, s.1, s.2.2, s.z, aG 63 (by decide) (by decide), aG 64 (by decide) (by decide), aG 65 (by decide) (by decide), aG 72 (by decide) (by decide), aG 73 (by decide) (by decide), aG 66 (by decide) (by decide), aG 67 (by decide) (by decide), aG 68 (by decide) (by decide), aG 69 (by decide) (by decide), aG 70 (by decide) (by decide), aG 71 (by decide) (by decide), eP]
  exact h
theorem CS.sm {A A' : Nat → Int → Int} {g g' : Nat → Nat} {σ τ : az_S} {j : Int} (h : CS A g σ j) (s1 : Sm σ τ (gS g j)) (s2 : Sm σ τ (gSp g j)) (e1 : gS g' j = gS g j) (e2 : gSp g' j = gSp g j) (a1 : A' 85 j = A 85 j) (a2 : A' 86 j = A 86 j) (a3 : ∀ h : Int, 0 ≤ h → h < 12 → A' 87 (12 * j + h) = A 87 (12 * j + h)) : CS A' g' τ j := by
  obtain ⟨h1, h2, h3, h4, h5, h6⟩ := h
  refine ⟨by rw [e1, s1.1]; exact h1, by rw [e2, s2.1]; exact h2, by rw [e1, e2, s1.2.2]; exact h3, by rw [e1, s1.z, a1]; exact h4, by rw [e1, s1.z, a2]; exact h5, fun h p q => ?_⟩
  rw [e2, s2.z, a3 h p q]
  exact h6 h p q
theorem live_c {A A' : Nat → Int → Int} (hN : A' 42 9 = A 42 9 ∧ A' 42 12 = A 42 12 ∧ A' 42 27 = A 42 27 ∧ A' 42 66 = A 42 66) (c : Nat) : live A' c ↔ live A c := by
  unfold live
  rw [hN.1, hN.2.1, hN.2.2.1, hN.2.2.2]
theorem CR.chg {sz : Nat} {κ : Nat × (Nat → Int32) × Option Nat} {A A' : Nat → Int → Int} {g : Nat → Nat} {σ τ : az_S} {S : List Nat} (h : CR sz κ A g σ) (hd : Mod σ τ S) (hS : ∀ a, 1000000 ≤ a → a ∉ S) (hL : 5 ∉ S ∧ 6 ∉ S ∧ 7 ∉ S ∧ 8 ∉ S) (hN : A' 42 9 = A 42 9 ∧ A' 42 12 = A 42 12 ∧ A' 42 27 = A 42 27 ∧ A' 42 66 = A 42 66) (hF : cFix A' τ) (hP : ∀ j : Int, 0 ≤ j → j < A 42 9 → CP A' g τ j) (hT : ∀ j : Int, 0 ≤ j → j < A 42 12 → CT A' g τ j) (hG : ∀ j : Int, 0 ≤ j → j < A 42 27 → CG A' g τ j) (hs : ∀ j : Int, 0 ≤ j → j < A 42 66 → CS A' g τ j) : CR sz κ A' g τ := by
  have en : az_n τ = az_n σ := hd.1
  have er := hd.2.2.2.1
  have es := hd.2.2.1
  obtain ⟨f1, f2, f3, f4, f5, f6, f7, f8⟩ := hF
  refine ⟨hd.fx h.f, ?_, by rw [en]; exact h.n, f1, f2, f3, f4, f5, f6, f7, f8, by rw [er]; exact h.route, by rw [er]; exact h.force, ?_, ?_, ?_, ?_, ?_, ?_, h.inq, ?_, ?_, ?_, ?_, by rw [en]; exact h.lim⟩
  · intro a ha
    rw [es, er, hd.2.2.2.2.1 a (hS a ha)]
    exact h.k a ha
  · rw [hN.1]; exact h.lP.mod (hd.nz hL.1) er es hd.1
  · rw [hN.2.1]; exact h.lT.mod (hd.nz hL.2.1) er es hd.1
  · rw [hN.2.2.1]; exact h.lG.mod (hd.nz hL.2.2.1) er es hd.1
  · rw [hN.2.2.2]; exact h.lS.mod (hd.nz hL.2.2.2) er es hd.1
  · intro c hc; rw [en]; exact h.pl c ((live_c hN c).mp hc)
  · intro c c' hc hc'; exact h.inj c c' ((live_c hN c).mp hc) ((live_c hN c').mp hc')
  · rw [hN.1]; exact hP
  · rw [hN.2.1]; exact hT
  · rw [hN.2.2.1]; exact hG
  · rw [hN.2.2.2]; exact hs
/-- the places of what is alive -/
theorem CR.lv {sz : Nat} {κ : Nat × (Nat → Int32) × Option Nat} {A : Nat → Int → Int} {g : Nat → Nat} {σ : az_S} (h : CR sz κ A g σ) (hI : MI sz A) : (∀ j : Int, 0 ≤ j → j < A 42 9 → 103 ≤ gP g j ∧ gP g j < az_n σ) ∧ (∀ t : Int, 0 ≤ t → t < A 42 12 → (103 ≤ gT g t ∧ gT g t < az_n σ) ∧ (103 ≤ gTd g t ∧ gTd g t < az_n σ) ∧ (103 ≤ gTh g t ∧ gTh g t < az_n σ) ∧ (103 ≤ gTt g t ∧ gTt g t < az_n σ)) ∧ (∀ j : Int, 0 ≤ j → j < A 42 27 → 103 ≤ gG g j ∧ gG g j < az_n σ) ∧ (∀ j : Int, 0 ≤ j → j < A 42 66 → (103 ≤ gS g j ∧ gS g j < az_n σ) ∧ (103 ≤ gSp g j ∧ gSp g j < az_n σ)) := by
  have hth := hI.things
  have hpe := hI.people
  have hgr := hI.grants
  have hst := hI.stalls
  refine ⟨fun j h0 h1 => h.pl (200 + j.toNat) (by unfold live; omega), fun j h0 h1 => ⟨h.pl (300 + 4 * j.toNat) (by unfold live; omega), h.pl (301 + 4 * j.toNat) (by unfold live; omega), h.pl (302 + 4 * j.toNat) (by unfold live; omega), h.pl (303 + 4 * j.toNat) (by unfold live; omega)⟩, fun j h0 h1 => h.pl (400 + j.toNat) (by unfold live; omega), fun j h0 h1 => ⟨h.pl (500 + 2 * j.toNat) (by unfold live; omega), h.pl (501 + 2 * j.toNat) (by unfold live; omega)⟩⟩
/-- a change at fixed places -/
theorem CR.chF {sz : Nat} {κ : Nat × (Nat → Int32) × Option Nat} {A A' : Nat → Int → Int} {g : Nat → Nat} {σ τ : az_S} {S : List Nat} (h : CR sz κ A g σ) (hI : MI sz A) (hd : Mod σ τ S) (hS : S.all (fun a => Nat.ble a 102 && !([5, 6, 7, 8].contains a)) = true) (hA : ∀ a z, (47 ≤ a ∧ a ≤ 73) ∨ (84 ≤ a ∧ a ≤ 87) → A' a z = A a z) (hN : A' 42 9 = A 42 9 ∧ A' 42 12 = A 42 12 ∧ A' 42 27 = A 42 27 ∧ A' 42 66 = A 42 66) (hF : cFix A' τ) : CR sz κ A' g τ := by
  have hS1 : ∀ a, a ∈ S → a ≤ 102 ∧ a ≠ 5 ∧ a ≠ 6 ∧ a ≠ 7 ∧ a ≠ 8 := by
    intro a ha
    have q := List.all_eq_true.mp hS a ha
    rw [Bool.and_eq_true] at q
    have q1 := Nat.le_of_ble_eq_true q.1
    have q2 := q.2
    simp at q2
    omega
  have nS : ∀ a, (103 ≤ a ∨ a = 5 ∨ a = 6 ∨ a = 7 ∨ a = 8) → a ∉ S := fun a ha q => by have := hS1 a q; omega
  obtain ⟨l1, l2, l3, l4⟩ := h.lv hI
  refine h.chg hd (fun a ha => nS a (by omega)) ⟨nS 5 (by omega), nS 6 (by omega), nS 7 (by omega), nS 8 (by omega)⟩ hN hF (fun j h0 h1 => ?_) (fun j h0 h1 => ?_) (fun j h0 h1 => ?_) (fun j h0 h1 => ?_)
  · exact (h.person j h0 h1).sm (hd.sm (nS _ (by have := l1 j h0 h1; omega))) rfl (hA _ _ (by omega)) (hA _ _ (by omega))
  · have := l2 j h0 h1
    exact (h.thing j h0 h1).sm (hd.sm (nS _ (by omega))) (hd.sm (nS _ (by omega))) (hd.sm (nS _ (by omega))) (hd.sm (nS _ (by omega))) rfl rfl rfl rfl (fun a b c _ => hA _ _ (by omega)) (fun a i b c _ _ => hA _ _ (by omega))
  · exact (h.grant j h0 h1).sm (hd.sm (nS _ (by have := l3 j h0 h1; omega))) rfl rfl (fun a b c => hA _ _ (by omega))
  · have := l4 j h0 h1
    exact (h.stall j h0 h1).sm (hd.sm (nS _ (by omega))) (hd.sm (nS _ (by omega))) rfl rfl (hA _ _ (by omega)) (hA _ _ (by omega)) (fun e _ _ => hA _ _ (by omega))
theorem CR.chP {sz : Nat} {κ : Nat × (Nat → Int32) × Option Nat} {A A' : Nat → Int → Int} {g : Nat → Nat} {σ τ : az_S} (h : CR sz κ A g σ) (hI : MI sz A) {p : Int} (hp0 : 0 ≤ p) (hp1 : p < A 42 9) (hd : Mod σ τ [gP g p]) (hA : ∀ a z, (a ≠ 47 ∧ a ≠ 48) ∨ z ≠ p → A' a z = A a z) (hO : CP A' g τ p) : CR sz κ A' g τ := by
  have hth := hI.things
  have hpe := hI.people
  have hgr := hI.grants
  have hst := hI.stalls
  obtain ⟨l1, l2, l3, l4⟩ := h.lv hI
  have hl : (103 ≤ gP g p ∧ gP g p < az_n σ) := by
    exact l1 _ (by omega) (by omega)
  have nS : ∀ a, (a < 103 ∨ az_n σ ≤ a) → a ∉ [gP g p] := by
    intro a ha
    simp only [List.mem_cons, List.not_mem_nil, or_false, not_or]
    omega
  have hlim := h.lim
  refine h.chg hd (fun a ha => nS a (by omega)) ⟨nS 5 (by omega), nS 6 (by omega), nS 7 (by omega), nS 8 (by omega)⟩ ⟨hA _ _ (by omega), hA _ _ (by omega), hA _ _ (by omega), hA _ _ (by omega)⟩ (h.fix.sm (fun a ha => hd.nz (nS a (by omega))) (by funext w; unfold zq; rw [hd.2.2.2.2.2 33 (nS 33 (by omega))]) (fun z _ _ => hA _ _ (by omega)) (fun a z _ => hA _ _ (by omega))) (fun j h0 h1 => ?_) (fun j h0 h1 => ?_) (fun j h0 h1 => ?_) (fun j h0 h1 => ?_)
  · by_cases ej : j = p
    · rw [ej]; exact hO
    · exact (h.person j h0 h1).sm (hd.sm (by simp only [List.mem_cons, List.not_mem_nil, or_false]; exact fun e => by have := h.inj (200 + j.toNat) (200 + p.toNat) (by unfold live; omega) (by unfold live; omega) e; omega)) rfl (hA _ _ (by omega)) (hA _ _ (by omega))
  · have hE := (hI.thing j h0 h1).1
    exact (h.thing j h0 h1).sm (hd.sm (by simp only [List.mem_cons, List.not_mem_nil, or_false]; exact fun e => by have := h.inj (300 + 4 * j.toNat) (200 + p.toNat) (by unfold live; omega) (by unfold live; omega) e; omega)) (hd.sm (by simp only [List.mem_cons, List.not_mem_nil, or_false]; exact fun e => by have := h.inj (301 + 4 * j.toNat) (200 + p.toNat) (by unfold live; omega) (by unfold live; omega) e; omega)) (hd.sm (by simp only [List.mem_cons, List.not_mem_nil, or_false]; exact fun e => by have := h.inj (302 + 4 * j.toNat) (200 + p.toNat) (by unfold live; omega) (by unfold live; omega) e; omega)) (hd.sm (by simp only [List.mem_cons, List.not_mem_nil, or_false]; exact fun e => by have := h.inj (303 + 4 * j.toNat) (200 + p.toNat) (by unfold live; omega) (by unfold live; omega) e; omega)) rfl rfl rfl rfl (fun a b c _ => hA _ _ (by omega)) (fun a i b c _ _ => hA _ _ (by omega))
  · exact (h.grant j h0 h1).sm (hd.sm (by simp only [List.mem_cons, List.not_mem_nil, or_false]; exact fun e => by have := h.inj (400 + j.toNat) (200 + p.toNat) (by unfold live; omega) (by unfold live; omega) e; omega)) rfl rfl (fun a b c => hA _ _ (by omega))
  · exact (h.stall j h0 h1).sm (hd.sm (by simp only [List.mem_cons, List.not_mem_nil, or_false]; exact fun e => by have := h.inj (500 + 2 * j.toNat) (200 + p.toNat) (by unfold live; omega) (by unfold live; omega) e; omega)) (hd.sm (by simp only [List.mem_cons, List.not_mem_nil, or_false]; exact fun e => by have := h.inj (501 + 2 * j.toNat) (200 + p.toNat) (by unfold live; omega) (by unfold live; omega) e; omega)) rfl rfl (hA _ _ (by omega)) (hA _ _ (by omega)) (fun e _ _ => hA _ _ (by omega))
theorem CR.chT {sz : Nat} {κ : Nat × (Nat → Int32) × Option Nat} {A A' : Nat → Int → Int} {g : Nat → Nat} {σ τ : az_S} (h : CR sz κ A g σ) (hI : MI sz A) {t : Int} (hp0 : 0 ≤ t) (hp1 : t < A 42 12) (hd : Mod σ τ [gT g t, gTd g t, gTh g t, gTt g t]) (hA : ∀ a z, ¬ (49 ≤ a ∧ a ≤ 62) ∨ ((a < 57 ∨ 59 < a) ∧ z ≠ t) ∨ ((57 ≤ a ∧ a ≤ 59) ∧ (z < 41 * t ∨ 41 * t + 41 ≤ z)) → A' a z = A a z) (hO : CT A' g τ t) : CR sz κ A' g τ := by
  have hth := hI.things
  have hpe := hI.people
  have hgr := hI.grants
  have hst := hI.stalls
  obtain ⟨l1, l2, l3, l4⟩ := h.lv hI
  have hl : (103 ≤ gT g t ∧ gT g t < az_n σ) ∧ (103 ≤ gTd g t ∧ gTd g t < az_n σ) ∧ (103 ≤ gTh g t ∧ gTh g t < az_n σ) ∧ (103 ≤ gTt g t ∧ gTt g t < az_n σ) := by
    exact l2 _ (by omega) (by omega)
  have nS : ∀ a, (a < 103 ∨ az_n σ ≤ a) → a ∉ [gT g t, gTd g t, gTh g t, gTt g t] := by
    intro a ha
    simp only [List.mem_cons, List.not_mem_nil, or_false, not_or]
    omega
  have hlim := h.lim
  refine h.chg hd (fun a ha => nS a (by omega)) ⟨nS 5 (by omega), nS 6 (by omega), nS 7 (by omega), nS 8 (by omega)⟩ ⟨hA _ _ (by omega), hA _ _ (by omega), hA _ _ (by omega), hA _ _ (by omega)⟩ (h.fix.sm (fun a ha => hd.nz (nS a (by omega))) (by funext w; unfold zq; rw [hd.2.2.2.2.2 33 (nS 33 (by omega))]) (fun z _ _ => hA _ _ (by omega)) (fun a z _ => hA _ _ (by omega))) (fun j h0 h1 => ?_) (fun j h0 h1 => ?_) (fun j h0 h1 => ?_) (fun j h0 h1 => ?_)
  · exact (h.person j h0 h1).sm (hd.sm (by simp only [List.mem_cons, List.not_mem_nil, or_false, not_or]; exact ⟨(fun e => by have := h.inj (200 + j.toNat) (300 + 4 * t.toNat) (by unfold live; omega) (by unfold live; omega) e; omega), (fun e => by have := h.inj (200 + j.toNat) (301 + 4 * t.toNat) (by unfold live; omega) (by unfold live; omega) e; omega), (fun e => by have := h.inj (200 + j.toNat) (302 + 4 * t.toNat) (by unfold live; omega) (by unfold live; omega) e; omega), (fun e => by have := h.inj (200 + j.toNat) (303 + 4 * t.toNat) (by unfold live; omega) (by unfold live; omega) e; omega)⟩)) rfl (hA _ _ (by omega)) (hA _ _ (by omega))
  · by_cases ej : j = t
    · rw [ej]; exact hO
    · have hE := (hI.thing j h0 h1).1
      exact (h.thing j h0 h1).sm (hd.sm (by simp only [List.mem_cons, List.not_mem_nil, or_false, not_or]; exact ⟨(fun e => by have := h.inj (300 + 4 * j.toNat) (300 + 4 * t.toNat) (by unfold live; omega) (by unfold live; omega) e; omega), (fun e => by have := h.inj (300 + 4 * j.toNat) (301 + 4 * t.toNat) (by unfold live; omega) (by unfold live; omega) e; omega), (fun e => by have := h.inj (300 + 4 * j.toNat) (302 + 4 * t.toNat) (by unfold live; omega) (by unfold live; omega) e; omega), (fun e => by have := h.inj (300 + 4 * j.toNat) (303 + 4 * t.toNat) (by unfold live; omega) (by unfold live; omega) e; omega)⟩)) (hd.sm (by simp only [List.mem_cons, List.not_mem_nil, or_false, not_or]; exact ⟨(fun e => by have := h.inj (301 + 4 * j.toNat) (300 + 4 * t.toNat) (by unfold live; omega) (by unfold live; omega) e; omega), (fun e => by have := h.inj (301 + 4 * j.toNat) (301 + 4 * t.toNat) (by unfold live; omega) (by unfold live; omega) e; omega), (fun e => by have := h.inj (301 + 4 * j.toNat) (302 + 4 * t.toNat) (by unfold live; omega) (by unfold live; omega) e; omega), (fun e => by have := h.inj (301 + 4 * j.toNat) (303 + 4 * t.toNat) (by unfold live; omega) (by unfold live; omega) e; omega)⟩)) (hd.sm (by simp only [List.mem_cons, List.not_mem_nil, or_false, not_or]; exact ⟨(fun e => by have := h.inj (302 + 4 * j.toNat) (300 + 4 * t.toNat) (by unfold live; omega) (by unfold live; omega) e; omega), (fun e => by have := h.inj (302 + 4 * j.toNat) (301 + 4 * t.toNat) (by unfold live; omega) (by unfold live; omega) e; omega), (fun e => by have := h.inj (302 + 4 * j.toNat) (302 + 4 * t.toNat) (by unfold live; omega) (by unfold live; omega) e; omega), (fun e => by have := h.inj (302 + 4 * j.toNat) (303 + 4 * t.toNat) (by unfold live; omega) (by unfold live; omega) e; omega)⟩)) (hd.sm (by simp only [List.mem_cons, List.not_mem_nil, or_false, not_or]; exact ⟨(fun e => by have := h.inj (303 + 4 * j.toNat) (300 + 4 * t.toNat) (by unfold live; omega) (by unfold live; omega) e; omega), (fun e => by have := h.inj (303 + 4 * j.toNat) (301 + 4 * t.toNat) (by unfold live; omega) (by unfold live; omega) e; omega), (fun e => by have := h.inj (303 + 4 * j.toNat) (302 + 4 * t.toNat) (by unfold live; omega) (by unfold live; omega) e; omega), (fun e => by have := h.inj (303 + 4 * j.toNat) (303 + 4 * t.toNat) (by unfold live; omega) (by unfold live; omega) e; omega)⟩)) rfl rfl rfl rfl (fun a b c _ => hA _ _ (by omega)) (fun a i b c _ _ => hA _ _ (by omega))
  · exact (h.grant j h0 h1).sm (hd.sm (by simp only [List.mem_cons, List.not_mem_nil, or_false, not_or]; exact ⟨(fun e => by have := h.inj (400 + j.toNat) (300 + 4 * t.toNat) (by unfold live; omega) (by unfold live; omega) e; omega), (fun e => by have := h.inj (400 + j.toNat) (301 + 4 * t.toNat) (by unfold live; omega) (by unfold live; omega) e; omega), (fun e => by have := h.inj (400 + j.toNat) (302 + 4 * t.toNat) (by unfold live; omega) (by unfold live; omega) e; omega), (fun e => by have := h.inj (400 + j.toNat) (303 + 4 * t.toNat) (by unfold live; omega) (by unfold live; omega) e; omega)⟩)) rfl rfl (fun a b c => hA _ _ (by omega))
  · exact (h.stall j h0 h1).sm (hd.sm (by simp only [List.mem_cons, List.not_mem_nil, or_false, not_or]; exact ⟨(fun e => by have := h.inj (500 + 2 * j.toNat) (300 + 4 * t.toNat) (by unfold live; omega) (by unfold live; omega) e; omega), (fun e => by have := h.inj (500 + 2 * j.toNat) (301 + 4 * t.toNat) (by unfold live; omega) (by unfold live; omega) e; omega), (fun e => by have := h.inj (500 + 2 * j.toNat) (302 + 4 * t.toNat) (by unfold live; omega) (by unfold live; omega) e; omega), (fun e => by have := h.inj (500 + 2 * j.toNat) (303 + 4 * t.toNat) (by unfold live; omega) (by unfold live; omega) e; omega)⟩)) (hd.sm (by simp only [List.mem_cons, List.not_mem_nil, or_false, not_or]; exact ⟨(fun e => by have := h.inj (501 + 2 * j.toNat) (300 + 4 * t.toNat) (by unfold live; omega) (by unfold live; omega) e; omega), (fun e => by have := h.inj (501 + 2 * j.toNat) (301 + 4 * t.toNat) (by unfold live; omega) (by unfold live; omega) e; omega), (fun e => by have := h.inj (501 + 2 * j.toNat) (302 + 4 * t.toNat) (by unfold live; omega) (by unfold live; omega) e; omega), (fun e => by have := h.inj (501 + 2 * j.toNat) (303 + 4 * t.toNat) (by unfold live; omega) (by unfold live; omega) e; omega)⟩)) rfl rfl (hA _ _ (by omega)) (hA _ _ (by omega)) (fun e _ _ => hA _ _ (by omega))
theorem CR.chS {sz : Nat} {κ : Nat × (Nat → Int32) × Option Nat} {A A' : Nat → Int → Int} {g : Nat → Nat} {σ τ : az_S} (h : CR sz κ A g σ) (hI : MI sz A) {s : Int} (hp0 : 0 ≤ s) (hp1 : s < A 42 66) (hd : Mod σ τ [gS g s, gSp g s]) (hA : ∀ a z, ¬ (85 ≤ a ∧ a ≤ 87) ∨ (a < 87 ∧ z ≠ s) ∨ (a = 87 ∧ (z < 12 * s ∨ 12 * s + 12 ≤ z)) → A' a z = A a z) (hO : CS A' g τ s) : CR sz κ A' g τ := by
  have hth := hI.things
  have hpe := hI.people
  have hgr := hI.grants
  have hst := hI.stalls
  obtain ⟨l1, l2, l3, l4⟩ := h.lv hI
  have hl : (103 ≤ gS g s ∧ gS g s < az_n σ) ∧ (103 ≤ gSp g s ∧ gSp g s < az_n σ) := by
    exact l4 _ (by omega) (by omega)
  have nS : ∀ a, (a < 103 ∨ az_n σ ≤ a) → a ∉ [gS g s, gSp g s] := by
    intro a ha
    simp only [List.mem_cons, List.not_mem_nil, or_false, not_or]
    omega
  have hlim := h.lim
  refine h.chg hd (fun a ha => nS a (by omega)) ⟨nS 5 (by omega), nS 6 (by omega), nS 7 (by omega), nS 8 (by omega)⟩ ⟨hA _ _ (by omega), hA _ _ (by omega), hA _ _ (by omega), hA _ _ (by omega)⟩ (h.fix.sm (fun a ha => hd.nz (nS a (by omega))) (by funext w; unfold zq; rw [hd.2.2.2.2.2 33 (nS 33 (by omega))]) (fun z _ _ => hA _ _ (by omega)) (fun a z _ => hA _ _ (by omega))) (fun j h0 h1 => ?_) (fun j h0 h1 => ?_) (fun j h0 h1 => ?_) (fun j h0 h1 => ?_)
  · exact (h.person j h0 h1).sm (hd.sm (by simp only [List.mem_cons, List.not_mem_nil, or_false, not_or]; exact ⟨(fun e => by have := h.inj (200 + j.toNat) (500 + 2 * s.toNat) (by unfold live; omega) (by unfold live; omega) e; omega), (fun e => by have := h.inj (200 + j.toNat) (501 + 2 * s.toNat) (by unfold live; omega) (by unfold live; omega) e; omega)⟩)) rfl (hA _ _ (by omega)) (hA _ _ (by omega))
  · have hE := (hI.thing j h0 h1).1
    exact (h.thing j h0 h1).sm (hd.sm (by simp only [List.mem_cons, List.not_mem_nil, or_false, not_or]; exact ⟨(fun e => by have := h.inj (300 + 4 * j.toNat) (500 + 2 * s.toNat) (by unfold live; omega) (by unfold live; omega) e; omega), (fun e => by have := h.inj (300 + 4 * j.toNat) (501 + 2 * s.toNat) (by unfold live; omega) (by unfold live; omega) e; omega)⟩)) (hd.sm (by simp only [List.mem_cons, List.not_mem_nil, or_false, not_or]; exact ⟨(fun e => by have := h.inj (301 + 4 * j.toNat) (500 + 2 * s.toNat) (by unfold live; omega) (by unfold live; omega) e; omega), (fun e => by have := h.inj (301 + 4 * j.toNat) (501 + 2 * s.toNat) (by unfold live; omega) (by unfold live; omega) e; omega)⟩)) (hd.sm (by simp only [List.mem_cons, List.not_mem_nil, or_false, not_or]; exact ⟨(fun e => by have := h.inj (302 + 4 * j.toNat) (500 + 2 * s.toNat) (by unfold live; omega) (by unfold live; omega) e; omega), (fun e => by have := h.inj (302 + 4 * j.toNat) (501 + 2 * s.toNat) (by unfold live; omega) (by unfold live; omega) e; omega)⟩)) (hd.sm (by simp only [List.mem_cons, List.not_mem_nil, or_false, not_or]; exact ⟨(fun e => by have := h.inj (303 + 4 * j.toNat) (500 + 2 * s.toNat) (by unfold live; omega) (by unfold live; omega) e; omega), (fun e => by have := h.inj (303 + 4 * j.toNat) (501 + 2 * s.toNat) (by unfold live; omega) (by unfold live; omega) e; omega)⟩)) rfl rfl rfl rfl (fun a b c _ => hA _ _ (by omega)) (fun a i b c _ _ => hA _ _ (by omega))
  · exact (h.grant j h0 h1).sm (hd.sm (by simp only [List.mem_cons, List.not_mem_nil, or_false, not_or]; exact ⟨(fun e => by have := h.inj (400 + j.toNat) (500 + 2 * s.toNat) (by unfold live; omega) (by unfold live; omega) e; omega), (fun e => by have := h.inj (400 + j.toNat) (501 + 2 * s.toNat) (by unfold live; omega) (by unfold live; omega) e; omega)⟩)) rfl rfl (fun a b c => hA _ _ (by omega))
  · by_cases ej : j = s
    · rw [ej]; exact hO
    · exact (h.stall j h0 h1).sm (hd.sm (by simp only [List.mem_cons, List.not_mem_nil, or_false, not_or]; exact ⟨(fun e => by have := h.inj (500 + 2 * j.toNat) (500 + 2 * s.toNat) (by unfold live; omega) (by unfold live; omega) e; omega), (fun e => by have := h.inj (500 + 2 * j.toNat) (501 + 2 * s.toNat) (by unfold live; omega) (by unfold live; omega) e; omega)⟩)) (hd.sm (by simp only [List.mem_cons, List.not_mem_nil, or_false, not_or]; exact ⟨(fun e => by have := h.inj (501 + 2 * j.toNat) (500 + 2 * s.toNat) (by unfold live; omega) (by unfold live; omega) e; omega), (fun e => by have := h.inj (501 + 2 * j.toNat) (501 + 2 * s.toNat) (by unfold live; omega) (by unfold live; omega) e; omega)⟩)) rfl rfl (hA _ _ (by omega)) (hA _ _ (by omega)) (fun e _ _ => hA _ _ (by omega))
def CX (sz : Nat) (κ : Nat × (Nat → Int32) × Option Nat) (A : Nat → Int → Int) (g : Nat → Nat) (S : List Nat) (σ τ : az_S) : Prop := CR sz κ A g σ ∧ Mod σ τ S ∧ ∀ a, a ∈ S → 103 ≤ a
section AwRules7
variable {d : Nat} {cd : List az_I} {rt : Option FieldType} {P : Option Value → az_S → Prop} {pc p' : Nat} {L : az_V} {st : List Value} {σ τ : az_S} {sz : Nat} {κ : Nat × (Nat → Int32) × Option Nat} {A : Nat → Int → Int} {g : Nat → Nat} {S : List Nat}
theorem CX.f (h : CX sz κ A g S σ τ) : FX sz τ := h.2.1.fx h.1.f
theorem CX.nz (h : CX sz κ A g S σ τ) {a : Nat} (ha : a < 103) : zx τ a = zx σ a := h.2.1.nz (fun q => by have := h.2.2 a q; omega)
theorem CX.today (h : CX sz κ A g S σ τ) : zx τ 0 15 = A 42 3 := by rw [h.nz (by decide)]; exact h.1.today
theorem CX.kP (h : CX sz κ A g S σ τ) {t : Int} (h0 : 0 ≤ t) (h1 : t < A 42 9) : (az_sh τ (gP g t)).1 = 4 := by rw [h.2.1.2.2.1]; exact h.1.kP h0 h1
theorem CX.kT (h : CX sz κ A g S σ τ) {t : Int} (h0 : 0 ≤ t) (h1 : t < A 42 12) : (az_sh τ (gT g t)).1 = 11 := by rw [h.2.1.2.2.1]; exact h.1.kT h0 h1
theorem CX.sTd (h : CX sz κ A g S σ τ) {t : Int} (h0 : 0 ≤ t) (h1 : t < A 42 12) : az_sh τ (gTd g t) = (100, 41) := by rw [h.2.1.2.2.1]; exact h.1.sTd h0 h1
theorem CX.sTh (h : CX sz κ A g S σ τ) {t : Int} (h0 : 0 ≤ t) (h1 : t < A 42 12) : az_sh τ (gTh g t) = (100, 41) := by rw [h.2.1.2.2.1]; exact h.1.sTh h0 h1
theorem CX.sTt (h : CX sz κ A g S σ τ) {t : Int} (h0 : 0 ≤ t) (h1 : t < A 42 12) : az_sh τ (gTt g t) = (100, 41) := by rw [h.2.1.2.2.1]; exact h.1.sTt h0 h1
theorem CX.rTd (h : CX sz κ A g S σ τ) {t : Int} (h0 : 0 ≤ t) (h1 : t < A 42 12) : az_r τ (gT g t) 7 = some (gTd g t) := by rw [h.2.1.2.2.2.1]; exact h.1.rTd h0 h1
theorem CX.rTh (h : CX sz κ A g S σ τ) {t : Int} (h0 : 0 ≤ t) (h1 : t < A 42 12) : az_r τ (gT g t) 8 = some (gTh g t) := by rw [h.2.1.2.2.2.1]; exact h.1.rTh h0 h1
theorem CX.rTt (h : CX sz κ A g S σ τ) {t : Int} (h0 : 0 ≤ t) (h1 : t < A 42 12) : az_r τ (gT g t) 9 = some (gTt g t) := by rw [h.2.1.2.2.2.1]; exact h.1.rTt h0 h1
theorem CX.kS (h : CX sz κ A g S σ τ) {t : Int} (h0 : 0 ≤ t) (h1 : t < A 42 66) : (az_sh τ (gS g t)).1 = 8 := by rw [h.2.1.2.2.1]; exact h.1.kS h0 h1
theorem CX.sSp (h : CX sz κ A g S σ τ) {t : Int} (h0 : 0 ≤ t) (h1 : t < A 42 66) : az_sh τ (gSp g t) = (100, 12) := by rw [h.2.1.2.2.1]; exact h.1.sSp h0 h1
theorem CX.rSp (h : CX sz κ A g S σ τ) {t : Int} (h0 : 0 ≤ t) (h1 : t < A 42 66) : az_r τ (gS g t) 2 = some (gSp g t) := by rw [h.2.1.2.2.2.1]; exact h.1.rSp h0 h1
theorem CX.stp (h : CX sz κ A g S σ τ) {υ : az_S} {a : Nat} (hd : Mod τ υ [a]) (ha : a ∈ S) : CX sz κ A g S σ υ := by
  refine ⟨h.1, h.2.1.tr ⟨hd.1, hd.2.1, hd.2.2.1, hd.2.2.2.1, fun b hb => hd.2.2.2.2.1 b (fun q => ?_), fun b hb => hd.2.2.2.2.2 b (fun q => ?_)⟩, h.2.2⟩ <;> exact hb (by rw [List.mem_singleton.mp q]; exact ha)
theorem aw_xf {i ci k a : Nat} {x : Int} (j : Int) (hX : CX sz κ A g S τ σ) (hf : az_fetch cd pc = some (3, .putfield i, [ci, k])) (hk : az_ft ci k = 0) (hs : (az_sh σ a).1 = ci) (hj : j = (k : Int)) (ha : a ∈ S) (hx : inI x) (hp : pc + 3 = p') (h : ∀ υ, CX sz κ A g S τ υ → Mod σ υ [a] → (∀ w, zx υ a w = if w = j then x else zx σ a w) → aw d cd rt P p' L st υ) : aw d cd rt P pc L (.int (iI x) :: .ref a :: st) σ :=
  aw_fs j hf hk hs hj hx hp (fun υ hd hu _ => h υ (hX.stp hd ha) hd hu)
theorem aw_xs {a N : Nat} {z x : Int} (hX : CX sz κ A g S τ σ) (hf : az_fetch cd pc = some (1, .iastore, [])) (hs : az_sh σ a = (100, N)) (hN : N ≤ 10000) (ha : a ∈ S) (h0 : 0 ≤ z) (hj : z < N) (hx : inI x) (hp : pc + 1 = p') (h : ∀ υ, CX sz κ A g S τ υ → Mod σ υ [a] → (∀ w, zx υ a w = if w = z then x else zx σ a w) → aw d cd rt P p' L st υ) : aw d cd rt P pc L (.int (iI x) :: .int (iI z) :: .ref a :: st) σ := by
  have hd : Mod σ (az_pi σ a z.toNat (iI x)) [a] := Mod_pi (by simp)
  refine aw_sz hf hs hN h0 hj hp (h _ (hX.stp hd ha) hd (fun w => ?_))
  rw [zx_pi h0 hx]
  simp
/-- a store into any row of ints -/
theorem aw_ys {a N : Nat} {z x : Int} (hf : az_fetch cd pc = some (1, .iastore, [])) (hs : az_sh σ a = (100, N)) (hN : N ≤ 10000) (h0 : 0 ≤ z) (hj : z < N) (hx : inI x) (hp : pc + 1 = p') (h : ∀ υ, Mod σ υ [a] → (∀ w, zx υ a w = if w = z then x else zx σ a w) → aw d cd rt P p' L st υ) : aw d cd rt P pc L (.int (iI x) :: .int (iI z) :: .ref a :: st) σ := by
  have hd : Mod σ (az_pi σ a z.toNat (iI x)) [a] := Mod_pi (by simp)
  refine aw_sz hf hs hN h0 hj hp (h _ hd (fun w => ?_))
  rw [zx_pi h0 hx]
  simp
end AwRules7
