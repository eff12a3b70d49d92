theorem cST.mod' {A : Nat → Int → Int} {x h y : Int} {σ τ : az_S} {S : List Nat} (k : cST A x h y σ) (hd : Mi σ τ S) (h1 : S.contains 32 = false) : cST A x h y τ := by
  intro c c0 c1
  rw [hd.z 32 h1]
  exact k c c0 c1
set_option maxRecDepth 10000 in
set_option maxHeartbeats 2000000 in
theorem c_walk_l80 {d : Nat} {sz : Nat} {κ : Nat × (Nat → Int32) × Option Nat} {A : Nat → Int → Int} {g : Nat → Nat} {σ : az_S} (hC : CR sz κ A g σ) (hI : MI sz A) {R : tRules} (hR : PW R) (hT : cTar σ (g 700) R) {x F u E t : Int} (hcw : ((0 ≤ x ∧ x ≤ 3599) ∧ (0 ≤ F ∧ F ≤ 11) ∧ (F ≤ E ∧ E ≤ 11) ∧ (0 ≤ u ∧ u ≤ A 42 2 - 1) ∧ (0 ≤ t ∧ t ≤ A 42 2 - 1))) : ∀ (n : Nat) (g' : Nat → Nat) (τ : az_S) (h : Int), (h - F + 1).toNat = n → CR sz κ A g' τ → (∀ b : Nat, b ≠ 701 → g' b = g b) → Mi σ τ [14, 21, 27, 29, 30, 31, 32, 35, 36, 37, 38, 39] → F - 1 ≤ h → h ≤ E → cSL A x (A 42 3) τ → cAf A (fH A R x E t (h + 1)) (rH A u F E (h + 1)) (36 + g' 701) (38 + g' 701) (A 42 2) τ → (∀ k : Int, h < k → k < E → ∀ c : Int, 0 ≤ c → c < A 42 2 → gSteps A u c ≤ k - F → (wD A R x E t (E - k).toNat c).1 < 1000 → zx τ 35 (k * A 42 2 + c) = wNx A (wD A R x E t (E - (k + 1)).toNat) c) → aw (d + 6) k_X11_walk (some .int) (fun r τ => r = some (.int (iI (mWalk A R x F u E t))) ∧ ∃ g', CR sz κ (m_walk_op A R x F u E t) g' τ ∧ g' 700 = g 700 ∧ Kp σ τ) 80 [some (.ref 0), some (.int (iI x)), some (.int (iI F)), some (.int (iI u)), some (.int (iI E)), some (.int (iI t)), some (.int (iI h))] [] τ := by
  intro n
  induction n using Nat.strongRecOn with
  | ind n ih =>
    intro g' τ h hn hN hG hDl hh0 hh1 hSL hAf hNX
    have hb7 := hC.force.1
    have hce := hI.cells
    have hcl := hI.clock
    have hfb := fH_b hI hR (t := t) (k := h + 1) (E := E) hcw.1.1 hcw.1.2 (by omega) (by omega) (by omega)
    refine aw_iload rfl rfl rfl ?_
    refine aw_iload_n rfl rfl rfl ?_
    refine aw_icmp (p' := 131) rfl ⟨by omega, by omega⟩ ⟨by omega, by omega⟩ rfl rfl (fun c1 => ?_) (fun c1 => ?_)
    · dsimp only [zc] at c1
      have hAfF : cAf A (wD A R x E t (E - F).toNat) (fun c => gSteps A u c ≤ 0) (36 + g' 701) (38 + g' 701) (A 42 2) τ := by
        refine hAf.cg ?_ ?_
        · rw [fH_n (by omega), show h + 1 = F by omega]
        · intro e
          show gSteps A u e ≤ 0 ↔ (h + 1 = E + 1 ∨ gSteps A u e ≤ h + 1 - F)
          omega
      refine aw_aload_n rfl rfl rfl ?_
      refine aw_getr (b := 33) rfl rfl (hN.f.k 0 rfl) (hN.f.r 0 9 33 rfl) rfl ?_
      refine aw_iload_n rfl rfl rfl ?_
      refine aw_iload_n rfl rfl rfl ?_
      refine aw_iload rfl rfl rfl ?_
      refine aw_calc (c_fol hN hI (R := R) (t := t) hcw (by have := wD_b hI hR (t := t) (x := x) (E := E) hcw.1.1 hcw.1.2 (by omega) (E - F).toNat (by omega) u (by omega) (by omega); omega) hAfF (fun k k0 k1 => hNX k (by omega) k1)) rfl rfl rfl (Nat.le_of_ble_eq_true rfl) (Or.inr ⟨_, rfl, (hN.f.k 33 rfl)⟩) rfl ?_
      rintro _ τ2 ⟨rfl, hM2, hD2⟩
      change aw _ _ _ _ 142 [some (.ref 0), some (.int (iI _)), some (.int (iI _)), some (.int (iI _)), some (.int (iI _)), some (.int (iI _)), some (.int (iI _))] [.int (iI _)] _
      have hE2 := hD2.mi
      refine aw_reti rfl ?_
      refine ⟨rfl, g', hM2, hG 700 (by decide), Mi.kp (S := [33, 34, 14, 21, 27, 29, 30, 31, 32, 35, 36, 37, 38, 39]) ((hDl.su rfl).tr (hE2.su rfl)) (by intro a ha; simp only [List.mem_cons, List.not_mem_nil, or_false] at ha; unfold kpl; omega)⟩
    · dsimp only [zc] at c1
      refine aw_aload_n rfl rfl rfl ?_
      refine aw_getr (b := 29) rfl rfl (hN.f.k 0 rfl) (hN.f.r 0 6 29 rfl) rfl ?_
      refine aw_iload rfl rfl rfl ?_
      refine aw_calc (c_turnTo hN hI hcw.1.1 hcw.1.2 (by omega) (by omega) hcl.1 hcl.2 hSL) rfl rfl rfl (Nat.le_of_ble_eq_true rfl) (Or.inr ⟨_, rfl, (hN.f.k 29 rfl)⟩) rfl ?_
      rintro _ τ3 ⟨rfl, hM3, hD3, hT3⟩
      change aw _ _ _ _ 95 [some (.ref 0), some (.int (iI _)), some (.int (iI _)), some (.int (iI _)), some (.int (iI _)), some (.int (iI _)), some (.int (iI _))] [] _
      have hE3 := hD3.mi
      have hAf1 : cAf A (fH A R x E t (h + 1)) (rH A u F E (h + 1)) (36 + g' 701) (38 + g' 701) (A 42 2) τ3 := by
        rcases hN.route.1 with ev | ev <;> rw [ev] at hAf ⊢ <;> exact hAf.mi hE3 rfl rfl
      have hTT := hT3
      refine aw_aload_n rfl rfl rfl ?_
      refine aw_getr (b := 33) rfl rfl (hM3.f.k 0 rfl) (hM3.f.r 0 9 33 rfl) rfl ?_
      refine aw_calc (c_back hM3 hI) rfl rfl rfl (Nat.le_of_ble_eq_true rfl) (Or.inr ⟨_, rfl, (hM3.f.k 33 rfl)⟩) rfl ?_
      rintro _ τ4 ⟨rfl, hM4, hE4, hK4, hZ4⟩
      change aw _ _ _ _ 102 [some (.ref 0), some (.int (iI _)), some (.int (iI _)), some (.int (iI _)), some (.int (iI _)), some (.int (iI _)), some (.int (iI _))] [] _
      have hD4 := hE4
      have hDD : Mi τ τ4 [32, 36, 37] := (hE3.su rfl).tr (hE4.su rfl)
      have hT2 : cTar τ4 (gsw g' (1 - g' 701) 700) R := by
        rw [gsw_o (by decide), hG 700 (by decide)]
        exact hT.mi (hDl.tr (hDD.su rfl)) (by intro a ha; simp only [List.mem_cons, List.not_mem_nil, or_false] at ha; omega)
      refine aw_aload_n rfl rfl rfl ?_
      refine aw_iload rfl rfl rfl ?_
      refine aw_iload_n rfl rfl rfl ?_
      refine aw_iload rfl rfl rfl ?_
      refine aw_iload_n rfl rfl rfl ?_
      refine aw_isub rfl rfl ?_
      refine aw_iload rfl rfl rfl ?_
      refine aw_iload rfl rfl rfl ?_
      refine aw_icmp (p' := 121) rfl ⟨by omega, by omega⟩ ⟨by omega, by omega⟩ rfl rfl (fun c5 => ?_) (fun c5 => ?_)
      · dsimp only [zc] at c5
        skip
        refine aw_iconst rfl rfl ?_
        refine aw_calc (c_hour (f := fH A R x E t (h + 1)) (f' := wD A R x E t (E - h).toNat) (rc := rH A u F E (h + 1)) (nx := fun c => if h = E then c else wNx A (wD A R x E t (E - (h + 1)).toNat) c) (u := u) (m := h - F) (lb := 0) (x := x) hM4 hI hR hT2 hcw.1.1 hcw.1.2 (by omega) (by omega) (hSL.mi hDD (by rfl) (by rfl) (by rfl)) (hTT.mod' hD4 rfl) (by omega) (by omega) (by omega) (by omega) (by omega) (hK4 _ _ hAf1) (fun e e0 e1 => (hfb e e0 e1).1) (fun e e0 e1 => (hfb e e0 e1).2) (fun c c0 c1 cr => ⟨fun q => absurd q (by decide), fun q => (by show (if h = E then c else wNx A _ c) = _; rw [if_neg (by omega), fH_n (by omega)])⟩) (fun _ c c0 c1 cr k k0 k1 kb => Or.inr (by have := steps_1 hI (u := u) c0 c1 k0 (by omega) kb; omega)) (fun c c0 c1 cr => hour_st hI (by omega) (by omega) c0 c1 cr) hZ4) rfl rfl rfl (Nat.le_of_ble_eq_true rfl) (Or.inr ⟨_, rfl, (hM4.f.k 0 rfl)⟩) rfl ?_
        rintro _ τ6 ⟨rfl, hM6, hD6, hQ6⟩
        change aw _ _ _ _ 125 [some (.ref 0), some (.int (iI _)), some (.int (iI _)), some (.int (iI _)), some (.int (iI _)), some (.int (iI _)), some (.int (iI _))] [] _
        have hE6 := hD6.mi
        have hDE : Mi τ τ6 [14, 21, 27, 32, 35, 36, 37, 38, 39] := (hDD.su rfl).tr (hE6.su rfl)
        refine aw_iinc rfl rfl rfl rfl ?_
        change aw _ _ _ _ 128 [some (.ref 0), some (.int (iI _)), some (.int (iI _)), some (.int (iI _)), some (.int (iI _)), some (.int (iI _)), some (.int (iI _))] _ _
        refine aw_goto (p' := 80) rfl rfl ?_
        have hgg : (∀ b : Nat, b ≠ 701 → gsw g' (1 - g' 701) b = g b) := fun b hb => by rw [gsw_o hb]; exact hG b hb
        refine ih _ (by omega) _ _ _ rfl hM6 hgg ((((hDl.su (T := [14, 21, 27, 29, 30, 31, 32, 35, 36, 37, 38, 39]) rfl).tr (hE3.su (T := [14, 21, 27, 29, 30, 31, 32, 35, 36, 37, 38, 39]) rfl)).tr (hE4.su (T := [14, 21, 27, 29, 30, 31, 32, 35, 36, 37, 38, 39]) rfl)).tr (hE6.su (T := [14, 21, 27, 29, 30, 31, 32, 35, 36, 37, 38, 39]) rfl)) (by omega) (by omega) (hSL.mi hDE rfl rfl rfl) ?_ ?_
        · refine hQ6.1.cg ?_ ?_
          · rw [fH_n (by omega), show h + -1 + 1 = h by omega]
          · intro e
            show (h + -1 + 1 = E + 1 ∨ gSteps A u e ≤ h + -1 + 1 - F) ↔ gSteps A u e ≤ h - F
            omega
        · intro k k0 k1 c d0 d1 cr ck
          by_cases ek : k = h
          · subst ek
            rw [hQ6.2.1 c d0 d1 cr ck]
            exact if_neg (by omega)
          · rw [hQ6.2.2 (k * A 42 2 + c) (Or.inr ?_), hD4.z 35 rfl, hD3.z 35 rfl]
            · exact hNX k (by omega) k1 c d0 d1 cr ck
            · have := Int.mul_le_mul_of_nonneg_right (show h + 1 ≤ k by omega) (show 0 ≤ A 42 2 by omega)
              rw [Int.add_mul, Int.one_mul] at this
              omega
      · dsimp only [zc] at c5
        skip
        refine aw_iconst rfl rfl ?_
        refine aw_goto (p' := 122) rfl rfl ?_
        refine aw_calc (c_hour (f := fH A R x E t (h + 1)) (f' := wD A R x E t (E - h).toNat) (rc := rH A u F E (h + 1)) (nx := fun c => if h = E then c else wNx A (wD A R x E t (E - (h + 1)).toNat) c) (u := u) (m := h - F) (lb := 1) (x := x) hM4 hI hR hT2 hcw.1.1 hcw.1.2 (by omega) (by omega) (hSL.mi hDD (by rfl) (by rfl) (by rfl)) (hTT.mod' hD4 rfl) (by omega) (by omega) (by omega) (by omega) (by omega) (hK4 _ _ hAf1) (fun e e0 e1 => (hfb e e0 e1).1) (fun e e0 e1 => (hfb e e0 e1).2) (fun c c0 c1 cr => ⟨fun q => if_pos (by omega), fun q => absurd q (by decide)⟩) (fun _ c c0 c1 cr k k0 k1 kb => Or.inr (by have := steps_1 hI (u := u) c0 c1 k0 (by omega) kb; omega)) (fun c c0 c1 cr => hour_st hI (by omega) (by omega) c0 c1 cr) hZ4) rfl rfl rfl (Nat.le_of_ble_eq_true rfl) (Or.inr ⟨_, rfl, (hM4.f.k 0 rfl)⟩) rfl ?_
        rintro _ τ7 ⟨rfl, hM7, hD7, hQ7⟩
        change aw _ _ _ _ 125 [some (.ref 0), some (.int (iI _)), some (.int (iI _)), some (.int (iI _)), some (.int (iI _)), some (.int (iI _)), some (.int (iI _))] [] _
        have hE7 := hD7.mi
        have hDE : Mi τ τ7 [14, 21, 27, 32, 35, 36, 37, 38, 39] := (hDD.su rfl).tr (hE7.su rfl)
        refine aw_iinc rfl rfl rfl rfl ?_
        change aw _ _ _ _ 128 [some (.ref 0), some (.int (iI _)), some (.int (iI _)), some (.int (iI _)), some (.int (iI _)), some (.int (iI _)), some (.int (iI _))] _ _
        refine aw_goto (p' := 80) rfl rfl ?_
        have hgg : (∀ b : Nat, b ≠ 701 → gsw g' (1 - g' 701) b = g b) := fun b hb => by rw [gsw_o hb]; exact hG b hb
        refine ih _ (by omega) _ _ _ rfl hM7 hgg ((((hDl.su (T := [14, 21, 27, 29, 30, 31, 32, 35, 36, 37, 38, 39]) rfl).tr (hE3.su (T := [14, 21, 27, 29, 30, 31, 32, 35, 36, 37, 38, 39]) rfl)).tr (hE4.su (T := [14, 21, 27, 29, 30, 31, 32, 35, 36, 37, 38, 39]) rfl)).tr (hE7.su (T := [14, 21, 27, 29, 30, 31, 32, 35, 36, 37, 38, 39]) rfl)) (by omega) (by omega) (hSL.mi hDE rfl rfl rfl) ?_ ?_
        · refine hQ7.1.cg ?_ ?_
          · rw [fH_n (by omega), show h + -1 + 1 = h by omega]
          · intro e
            show (h + -1 + 1 = E + 1 ∨ gSteps A u e ≤ h + -1 + 1 - F) ↔ gSteps A u e ≤ h - F
            omega
        · intro k k0 k1 c d0 d1 cr ck
          by_cases ek : k = h
          · subst ek
            rw [hQ7.2.1 c d0 d1 cr ck]
            exact if_neg (by omega)
          · rw [hQ7.2.2 (k * A 42 2 + c) (Or.inr ?_), hD4.z 35 rfl, hD3.z 35 rfl]
            · exact hNX k (by omega) k1 c d0 d1 cr ck
            · have := Int.mul_le_mul_of_nonneg_right (show h + 1 ≤ k by omega) (show 0 ≤ A 42 2 by omega)
              rw [Int.add_mul, Int.one_mul] at this
              omega
set_option maxRecDepth 10000 in
set_option maxHeartbeats 2000000 in
theorem c_walk {d : Nat} {sz : Nat} {κ : Nat × (Nat → Int32) × Option Nat} {A : Nat → Int → Int} {g : Nat → Nat} {σ : az_S} (hC : CR sz κ A g σ) (hI : MI sz A) {R : tRules} (hR : PW R) (hT : cTar σ (g 700) R) {x : Int} (hx : inI x) {F : Int} (hF : inI F) {u : Int} (hu : inI u) {E : Int} (hE : inI E) {t : Int} (ht : inI t) : cal (d + 7) 125 [.ref 0, .int (iI x), .int (iI F), .int (iI u), .int (iI E), .int (iI t)] σ (fun r τ => r = some (.int (iI (mWalk A R x F u E t))) ∧ ∃ g', CR sz κ (m_walk_op A R x F u E t) g' τ ∧ g' 700 = g 700 ∧ Kp σ τ) := by
  obtain ⟨hx1, hx2⟩ := hx
  obtain ⟨hF1, hF2⟩ := hF
  obtain ⟨hu1, hu2⟩ := hu
  obtain ⟨hE1, hE2⟩ := hE
  obtain ⟨ht1, ht2⟩ := ht
  have hce := hI.cells
  have hcl := hI.clock
  have hb7 := hC.force.1
  refine cal_of (M := (yX11_walk, cX11_walk, 7, (some .int))) (cd := k_X11_walk) (L := [some (.ref 0), some (.int (iI x)), some (.int (iI F)), some (.int (iI u)), some (.int (iI E)), some (.int (iI t)), none]) rfl (Nat.le_of_ble_eq_true rfl) rfl rfl ?_
  refine aw_iload_n rfl rfl rfl ?_
  refine aw_fnc (c_isDay ⟨by omega, by omega⟩) rfl rfl rfl (Nat.le_of_ble_eq_true rfl) (Or.inl rfl) rfl ?_
  refine aw_ifeqb (p' := 28) rfl rfl rfl (fun c8 => ?_) (fun c8 => ?_)
  · refine aw_iconst rfl rfl ?_
    refine aw_reti rfl ?_
    have hno : ¬ wOk A R x F u E t := fun q => by have := q.1; omega
    refine ⟨?_, g, ?_, rfl, Mod.kp (S := []) Mod.rf (fun a ha => nomatch ha)⟩
    · unfold mWalk; rw [zit_f hno]
    · unfold m_walk_op; rw [tit_f hno]; exact hC
  · refine aw_iload_n rfl rfl rfl ?_
    refine aw_fnc (c_isHour ⟨by omega, by omega⟩) rfl rfl rfl (Nat.le_of_ble_eq_true rfl) (Or.inl rfl) rfl ?_
    refine aw_ifeqb (p' := 28) rfl rfl rfl (fun c9 => ?_) (fun c9 => ?_)
    · refine aw_iconst rfl rfl ?_
      refine aw_reti rfl ?_
      have hno : ¬ wOk A R x F u E t := fun q => by have := q.1; omega
      refine ⟨?_, g, ?_, rfl, Mod.kp (S := []) Mod.rf (fun a ha => nomatch ha)⟩
      · unfold mWalk; rw [zit_f hno]
      · unfold m_walk_op; rw [tit_f hno]; exact hC
    · refine aw_iload rfl rfl rfl ?_
      refine aw_fnc (c_isHour ⟨by omega, by omega⟩) rfl rfl rfl (Nat.le_of_ble_eq_true rfl) (Or.inl rfl) rfl ?_
      refine aw_ifeqb (p' := 28) rfl rfl rfl (fun c10 => ?_) (fun c10 => ?_)
      · refine aw_iconst rfl rfl ?_
        refine aw_reti rfl ?_
        have hno : ¬ wOk A R x F u E t := fun q => by have := q.1; omega
        refine ⟨?_, g, ?_, rfl, Mod.kp (S := []) Mod.rf (fun a ha => nomatch ha)⟩
        · unfold mWalk; rw [zit_f hno]
        · unfold m_walk_op; rw [tit_f hno]; exact hC
      · refine aw_iload rfl rfl rfl ?_
        refine aw_iload_n rfl rfl rfl ?_
        refine aw_icmp (p' := 30) rfl ⟨by omega, by omega⟩ ⟨by omega, by omega⟩ rfl rfl (fun c11 => ?_) (fun c11 => ?_)
        · dsimp only [zc] at c11
          refine aw_aload_n rfl rfl rfl ?_
          refine aw_getr (b := 28) rfl rfl (hC.f.k 0 rfl) (hC.f.r 0 0 28 rfl) rfl ?_
          refine aw_iload_n rfl rfl rfl ?_
          refine aw_fnc (c_has hC hI ⟨by omega, by omega⟩) rfl rfl rfl (Nat.le_of_ble_eq_true rfl) (Or.inr ⟨_, rfl, (hC.f.k 28 rfl)⟩) rfl ?_
          refine aw_ifeqb (p' := 53) rfl rfl rfl (fun c12 => ?_) (fun c12 => ?_)
          · refine aw_iconst rfl rfl ?_
            refine aw_reti rfl ?_
            have hno : ¬ wOk A R x F u E t := fun q => by have := q.1; omega
            refine ⟨?_, g, ?_, rfl, Mod.kp (S := []) Mod.rf (fun a ha => nomatch ha)⟩
            · unfold mWalk; rw [zit_f hno]
            · unfold m_walk_op; rw [tit_f hno]; exact hC
          · refine aw_aload_n rfl rfl rfl ?_
            refine aw_getr (b := 28) rfl rfl (hC.f.k 0 rfl) (hC.f.r 0 0 28 rfl) rfl ?_
            refine aw_iload rfl rfl rfl ?_
            refine aw_fnc (c_has hC hI ⟨by omega, by omega⟩) rfl rfl rfl (Nat.le_of_ble_eq_true rfl) (Or.inr ⟨_, rfl, (hC.f.k 28 rfl)⟩) rfl ?_
            refine aw_ifneb (p' := 55) rfl rfl rfl (fun c13 => ?_) (fun c13 => ?_)
            · refine aw_aload_n rfl rfl rfl ?_
              refine aw_getr (b := 29) rfl rfl (hC.f.k 0 rfl) (hC.f.r 0 6 29 rfl) rfl ?_
              refine aw_iload_n rfl rfl rfl ?_
              refine aw_aload_n rfl rfl rfl ?_
              refine aw_gk (v := A 42 3) (15) rfl rfl (hC.f.k 0 rfl) rfl hC.today rfl (fun _ _ => ?_)
              refine aw_calc (c_lookAt hC hI (by omega) (by omega) (by omega) (by omega)) rfl rfl rfl (Nat.le_of_ble_eq_true rfl) (Or.inr ⟨_, rfl, (hC.f.k 29 rfl)⟩) rfl ?_
              rintro _ τ14 ⟨rfl, hM14, hD14, hS14⟩
              change aw _ _ _ _ 67 [some (.ref 0), some (.int (iI _)), some (.int (iI _)), some (.int (iI _)), some (.int (iI _)), some (.int (iI _)), none] [] _
              have hE14 := hD14.mi
              refine aw_aload_n rfl rfl rfl ?_
              refine aw_getr (b := 33) rfl rfl (hM14.f.k 0 rfl) (hM14.f.r 0 9 33 rfl) rfl ?_
              refine aw_iload rfl rfl rfl ?_
              refine aw_calc (c_start hM14 hI (by omega) (by omega)) rfl rfl rfl (Nat.le_of_ble_eq_true rfl) (Or.inr ⟨_, rfl, (hM14.f.k 33 rfl)⟩) rfl ?_
              rintro _ τ15 ⟨rfl, hM15, hD15, hQ15⟩
              change aw _ _ _ _ 76 [some (.ref 0), some (.int (iI _)), some (.int (iI _)), some (.int (iI _)), some (.int (iI _)), some (.int (iI _)), none] [] _
              have hE15 := hD15.mi
              refine aw_iload rfl rfl rfl ?_
              refine aw_istore rfl (Nat.le_of_ble_eq_true rfl) rfl rfl ?_
              change aw _ _ _ _ 80 [some (.ref 0), some (.int (iI _)), some (.int (iI _)), some (.int (iI _)), some (.int (iI _)), some (.int (iI _)), some (.int (iI _))] _ _
              exact c_walk_l80 hC hI hR hT (show ((0 ≤ x ∧ x ≤ 3599) ∧ (0 ≤ F ∧ F ≤ 11) ∧ (F ≤ E ∧ E ≤ 11) ∧ (0 ≤ u ∧ u ≤ A 42 2 - 1) ∧ (0 ≤ t ∧ t ≤ A 42 2 - 1)) by omega) _ g _ E rfl hM15 (fun _ _ => rfl) ((hE14.su (T := [14, 21, 27, 29, 30, 31, 32, 35, 36, 37, 38, 39]) rfl).tr (hE15.su (T := [14, 21, 27, 29, 30, 31, 32, 35, 36, 37, 38, 39]) rfl)) (by omega) (by omega) (hS14.mod hD15 rfl rfl rfl) (hQ15.cg (fH_e rfl) (fun e => ⟨fun _ => trivial, fun _ => Or.inl rfl⟩)) (fun k k0 k1 => by omega)
            · refine aw_iconst rfl rfl ?_
              refine aw_reti rfl ?_
              have hno : ¬ wOk A R x F u E t := fun q => by have := q.1; omega
              refine ⟨?_, g, ?_, rfl, Mod.kp (S := []) Mod.rf (fun a ha => nomatch ha)⟩
              · unfold mWalk; rw [zit_f hno]
              · unfold m_walk_op; rw [tit_f hno]; exact hC
        · dsimp only [zc] at c11
          refine aw_iconst rfl rfl ?_
          refine aw_reti rfl ?_
          have hno : ¬ wOk A R x F u E t := fun q => by have := q.1; omega
          refine ⟨?_, g, ?_, rfl, Mod.kp (S := []) Mod.rf (fun a ha => nomatch ha)⟩
          · unfold mWalk; rw [zit_f hno]
          · unfold m_walk_op; rw [tit_f hno]; exact hC
