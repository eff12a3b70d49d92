theorem CR.pathc {sz : Nat} {κ : Nat × (Nat → Int32) × Option Nat} {A : Nat → Int → Int} {g : Nat → Nat} {σ τ : az_S} (h : CR sz κ A g σ) (hI : MI sz A) {R : tRules} {x F u E t : Int} (hFE : F ≤ E) (hd : Mod σ τ [33, 34]) (h7 : zx τ 33 7 = E - F + 1) (h8 : zq τ 33 8 = (wD A R x E t (E - F).toNat u).2) (h34 : ∀ j : Int, 0 ≤ j → j < E - F + 1 → zx τ 34 j = wPath A R x E t F u j.toNat) : CR sz κ (wTab A R x F u E t (E - F + 1).toNat) g τ := by
  have e : ∀ a z, a ≠ 101 → (a ≠ 42 ∨ (z ≠ 85 ∧ z ≠ 86)) → wTab A R x F u E t (E - F + 1).toNat a z = A a z := fun a z q1 q2 => wTab_o _ q1 q2
  have e2 : ∀ z : Int, z ≠ 85 → z ≠ 86 → wTab A R x F u E t (E - F + 1).toNat 42 z = A 42 z := fun z q1 q2 => e 42 z (by decide) (Or.inr ⟨q1, q2⟩)
  refine h.chF hI hd rfl (fun a z q => e a z (by omega) (by omega)) ⟨e2 9 (by decide) (by decide), e2 12 (by decide) (by decide), e2 27 (by decide) (by decide), e2 66 (by decide) (by decide)⟩ ?_
  obtain ⟨h1, h2, h3, h4, h5, h6, h7', h8'⟩ := h.fix
  have e85 := wTab_85 (A := A) (R := R) (x := x) (F := F) (u := u) (E := E) (t := t) (E - F + 1).toNat
  have e86 : wTab A R x F u E t (E - F + 1).toNat 42 86 = (wD A R x E t (E - F).toNat u).2 := by
    unfold wTab
    rw [wFil_o _ _ _ (by decide)]
    simp [wTab0, up]
  refine ⟨by rw [hd.z 0 rfl, e2 3 (by decide) (by decide)]; exact h1, by rw [hd.z 28 rfl, e2 0 (by decide) (by decide), e2 1 (by decide) (by decide), e2 2 (by decide) (by decide)]; exact h2, by rw [hd.z 1 rfl, e2 6 (by decide) (by decide)]; exact h3, fun j a b => ?_, ?_, by rw [hd.z 0 rfl, e2 48 (by decide) (by decide), e2 49 (by decide) (by decide)]; exact h6, ?_, by rw [h7, e85], by rw [h8, e85, e86, if_pos (by omega)], ?_⟩
  · rw [hd.z 2 rfl, hd.z 3 rfl, e 43 j (by decide) (Or.inl (by decide)), e 44 j (by decide) (Or.inl (by decide))]; exact h4 j a b
  · rw [hd.z 4 rfl, e2 6 (by decide) (by decide)]
    intro j a b
    rw [e 45 j (by decide) (Or.inl (by decide)), e 46 j (by decide) (Or.inl (by decide))]
    exact h5 j a b
  · rw [hd.z 9 rfl, hd.z 10 rfl, e2 40 (by decide) (by decide)]
    refine ⟨h7'.1, fun j a b => ?_⟩
    rw [e 74 j (by decide) (Or.inl (by decide))]
    exact h7'.2 j a b
  · rw [e85]
    intro j a b
    rw [h34 j a b]
    unfold wTab
    rw [wFil_v _ _ _ j a (by omega)]
set_option maxRecDepth 10000 in
set_option maxHeartbeats 2000000 in
theorem c_follow0_l46 {d : Nat} {sz : Nat} {κ : Nat × (Nat → Int32) × Option Nat} {A : Nat → Int → Int} {g : Nat → Nat} {σ : az_S} (hC : CR sz κ A g σ) (hI : MI sz A) (hv : g 701 = 0) {R : tRules} {x F u E t : Int} (hF0 : 0 ≤ F) (hFE : F ≤ E) (hE1 : E ≤ 11) (hu0 : 0 ≤ u) (hu1 : u < A 42 2) (hok : wOk A R x F u E t) (hsu : zx σ 36 u = (wD A R x E t (E - F).toNat u).1) (hco : zq σ 38 u = (wD A R x E t (E - F).toNat u).2) (hwb : 0 ≤ (wD A R x E t (E - F).toNat u).1 ∧ 0 ≤ (wD A R x E t (E - F).toNat u).2 ∧ (wD A R x E t (E - F).toNat u).2 ≤ 1000000000000) (hnx : ∀ i : Nat, (i : Int) < E - F → zx σ 35 ((F + i) * A 42 2 + (wPath A R x E t F u) i) = (wPath A R x E t F u) (i + 1)) : ∀ (n : Nat) (τ : az_S) (h c j : Int) (w : Option Value), (E + 1 - h).toNat = n → FX sz τ → Mod σ τ [33, 34] → F ≤ h → h ≤ E + 1 → j = h - F → zx τ 33 7 = j → zq τ 33 8 = (wD A R x E t (E - F).toNat u).2 → (j ≤ E - F → c = (wPath A R x E t F u) j.toNat) → (∀ e : Int, 0 ≤ e → e < j → zx τ 34 e = (wPath A R x E t F u) e.toNat) → aw (d) k_X4_follow (some .int) (fun r τ => r = some (.int (iI (wD A R x E t (E - F).toNat u).1)) ∧ CR sz κ (wTab A R x F u E t (E - F + 1).toNat) g τ ∧ Mod σ τ [33, 34]) 46 [some (.ref 33), some (.int (iI u)), some (.int (iI F)), some (.int (iI E)), some (.int (iI c)), some (.int (iI h)), w] [] τ := by
  intro n
  induction n using Nat.strongRecOn with
  | ind n ih =>
    intro τ h c j w hn hN hD hh0 hh1 hj hj7 h8 hcp h34
    have hce := hI.cells
    have hsz := hC.f.1
    refine aw_iload rfl rfl rfl ?_
    refine aw_iload_n rfl rfl rfl ?_
    refine aw_icmp (p' := 134) rfl ⟨by omega, by omega⟩ ⟨by omega, by omega⟩ rfl rfl (fun c1 => ?_) (fun c1 => ?_)
    · dsimp only [zc] at c1
      refine aw_aload_n rfl rfl rfl ?_
      refine aw_getr (b := 36) rfl rfl (hN.f.k 33 rfl) (by rw [((hD.su (T := [33, 34]) rfl)).2.2.2.1]; have q := hC.route.2.1; rw [hv] at q; exact q) rfl ?_
      refine aw_iload_n rfl rfl rfl ?_
      refine aw_as (N := sz) rfl (hN.f.s 36 rfl) (by omega) (by omega) (by omega) rfl (fun _ _ => ?_)
      rw [hD.z 36 rfl, hsu]
      refine aw_reti rfl ?_
      refine ⟨rfl, hC.pathc hI hFE (hD.su (T := [33, 34]) rfl) (by rw [hj7]; omega) h8 (fun e e0 e1 => h34 e e0 (by omega)), (hD.su (T := [33, 34]) rfl)⟩
    · dsimp only [zc] at c1
      refine aw_aload_n rfl rfl rfl ?_
      refine aw_gk (v := j) (7) rfl rfl (hN.f.k 33 rfl) rfl hj7 rfl (fun _ _ => ?_)
      refine aw_aload_n rfl rfl rfl ?_
      refine aw_getr (b := 34) rfl rfl (hN.f.k 33 rfl) (hN.f.r 33 2 34 rfl) rfl ?_
      refine aw_alen (N := 12) rfl (hN.f.s 34 rfl) (by decide) rfl ?_
      refine aw_icmp (p' := 134) rfl ⟨by omega, by omega⟩ ⟨by omega, by omega⟩ rfl rfl (fun c2 => ?_) (fun c2 => ?_)
      · dsimp only [zc] at c2
        omega
      · dsimp only [zc] at c2
        have hpr := wPath_r hI hok j.toNat (by omega)
        have ec : c = (wPath A R x E t F u) j.toNat := hcp (by omega)
        have hm1 : h * A 42 2 ≤ 11 * A 42 2 := Int.mul_le_mul_of_nonneg_right (by omega) (by omega)
        have hm0 : 0 ≤ h * A 42 2 := Int.mul_nonneg (by omega) (by omega)
        rw [← ec] at hpr
        refine aw_aload_n rfl rfl rfl ?_
        refine aw_getr (b := 34) rfl rfl (hN.f.k 33 rfl) (hN.f.r 33 2 34 rfl) rfl ?_
        refine aw_aload_n rfl rfl rfl ?_
        refine aw_gk (v := j) (7) rfl rfl (hN.f.k 33 rfl) rfl hj7 rfl (fun _ _ => ?_)
        refine aw_iload rfl rfl rfl ?_
        refine aw_ys (N := 12) rfl (hN.f.s 34 rfl) (by omega) (by omega) (by omega) ⟨by omega, by omega⟩ rfl (fun τ4 hD4 hU4 => ?_)
        have hM4 : FX sz τ4 := hD4.fx hN.f
        refine aw_aload_n rfl rfl rfl ?_
        refine aw_dup rfl rfl rfl ?_
        refine aw_gk (v := j) (7) rfl rfl (hM4.f.k 33 rfl) rfl (by rw [hD4.z 33 rfl]; exact hj7) rfl (fun _ _ => ?_)
        refine aw_iconst rfl rfl ?_
        refine aw_iadd rfl rfl ?_
        refine aw_fs (7) rfl rfl (hM4.f.k 33 rfl) rfl ⟨by omega, by omega⟩ rfl (fun τ5 hD5 hU5 hQ5 => ?_)
        have hM5 : FX sz τ5 := hD5.fx hM4.f
        refine aw_iload rfl rfl rfl ?_
        refine aw_aload_n rfl rfl rfl ?_
        refine aw_getr (b := 28) rfl rfl (hM5.f.k 33 rfl) (hM5.f.r 33 0 28 rfl) rfl ?_
        refine aw_gk (v := A 42 2) (2) rfl rfl (hM5.f.k 28 rfl) rfl (by rw [((((hD.su (T := [33, 34]) rfl).tr (hD4.su (T := [33, 34]) rfl)).tr (hD5.su (T := [33, 34]) rfl))).z 28 rfl]; exact hC.ground.2.2) rfl (fun _ _ => ?_)
        refine aw_imul rfl rfl ?_
        refine aw_iload rfl rfl rfl ?_
        refine aw_iadd rfl rfl ?_
        refine aw_istore rfl (Nat.le_of_ble_eq_true rfl) rfl rfl ?_
        change aw _ _ _ _ 100 [some (.ref 33), some (.int (iI _)), some (.int (iI _)), some (.int (iI _)), some (.int (iI _)), some (.int (iI _)), some (.int (iI _))] _ _
        refine aw_iload rfl rfl rfl ?_
        refine aw_if (p' := 125) rfl ⟨by omega, by omega⟩ rfl rfl (fun c6 => ?_) (fun c6 => ?_)
        · dsimp only [zc] at c6
          omega
        · dsimp only [zc] at c6
          refine aw_iload rfl rfl rfl ?_
          refine aw_aload_n rfl rfl rfl ?_
          refine aw_getr (b := 35) rfl rfl (hM5.f.k 33 rfl) (hM5.f.r 33 1 35 rfl) rfl ?_
          refine aw_alen (N := (12 * sz)) rfl (hM5.f.s 35 rfl) (by decide) rfl ?_
          refine aw_icmp (p' := 125) rfl ⟨by omega, by omega⟩ ⟨by omega, by omega⟩ rfl rfl (fun c7 => ?_) (fun c7 => ?_)
          · dsimp only [zc] at c7
            omega
          · dsimp only [zc] at c7
            refine aw_aload_n rfl rfl rfl ?_
            refine aw_getr (b := 35) rfl rfl (hM5.f.k 33 rfl) (hM5.f.r 33 1 35 rfl) rfl ?_
            refine aw_iload rfl rfl rfl ?_
            refine aw_as (N := (12 * sz)) rfl (hM5.f.s 35 rfl) (by omega) (by omega) (by omega) rfl (fun _ _ => ?_)
            refine aw_goto (p' := 126) rfl rfl ?_
            refine aw_istore rfl (Nat.le_of_ble_eq_true rfl) rfl rfl ?_
            change aw _ _ _ _ 128 [some (.ref 33), some (.int (iI _)), some (.int (iI _)), some (.int (iI _)), some (.int (iI _)), some (.int (iI _)), some (.int (iI _))] _ _
            refine aw_iinc rfl rfl rfl rfl ?_
            change aw _ _ _ _ 131 [some (.ref 33), some (.int (iI _)), some (.int (iI _)), some (.int (iI _)), some (.int (iI _)), some (.int (iI _)), some (.int (iI _))] _ _
            refine aw_goto (p' := 46) rfl rfl ?_
            refine ih _ (by omega) _ _ _ (j + 1) _ rfl hM5 (((hD.su (T := [33, 34]) rfl).tr (hD4.su (T := [33, 34]) rfl)).tr (hD5.su (T := [33, 34]) rfl)) (by omega) (by omega) (by omega) (by rw [hU5, if_pos rfl]) (by rw [hQ5, hD4.q 33 rfl]; exact h8) (fun q => ?_) (fun e e0 e1 => ?_)
            · rw [hD5.z 35 rfl, hD4.z 35 rfl, hD.z 35 rfl]
              have q2 := hnx j.toNat (by omega)
              rw [show F + ((j.toNat : Nat) : Int) = h by omega, ← ec] at q2
              rw [q2, show (j + 1).toNat = j.toNat + 1 by omega]
            · rw [hD5.z 34 rfl, hU4]
              by_cases ee : e = j
              · rw [if_pos ee, ee]; exact ec
              · rw [if_neg ee]; exact h34 e e0 (by omega)
set_option maxRecDepth 10000 in
set_option maxHeartbeats 2000000 in
theorem c_follow0 {d : Nat} {sz : Nat} {κ : Nat × (Nat → Int32) × Option Nat} {A : Nat → Int → Int} {g : Nat → Nat} {σ : az_S} (hC : CR sz κ A g σ) (hI : MI sz A) (hv : g 701 = 0) {R : tRules} {x F u E t : Int} (hF0 : 0 ≤ F) (hFE : F ≤ E) (hE1 : E ≤ 11) (hu0 : 0 ≤ u) (hu1 : u < A 42 2) (hok : wOk A R x F u E t) (hsu : zx σ 36 u = (wD A R x E t (E - F).toNat u).1) (hco : zq σ 38 u = (wD A R x E t (E - F).toNat u).2) (hwb : 0 ≤ (wD A R x E t (E - F).toNat u).1 ∧ 0 ≤ (wD A R x E t (E - F).toNat u).2 ∧ (wD A R x E t (E - F).toNat u).2 ≤ 1000000000000) (hnx : ∀ i : Nat, (i : Int) < E - F → zx σ 35 ((F + i) * A 42 2 + (wPath A R x E t F u) i) = (wPath A R x E t F u) (i + 1)) : cal (d + 1) 33 [.ref 33, .int (iI u), .int (iI F), .int (iI E)] σ (fun r τ => r = some (.int (iI (wD A R x E t (E - F).toNat u).1)) ∧ CR sz κ (wTab A R x F u E t (E - F + 1).toNat) g τ ∧ Mod σ τ [33, 34]) := by
  have hce := hI.cells
  have hsz := hC.f.1
  refine cal_of (M := (yX4_follow, cX4_follow, 7, (some .int))) (cd := k_X4_follow) (L := [some (.ref 33), some (.int (iI u)), some (.int (iI F)), some (.int (iI E)), none, none, none]) rfl (Nat.le_of_ble_eq_true rfl) rfl rfl ?_
  refine aw_iload_n rfl rfl rfl ?_
  refine aw_if (p' := 23) rfl ⟨by omega, by omega⟩ rfl rfl (fun c8 => ?_) (fun c8 => ?_)
  · dsimp only [zc] at c8
    omega
  · dsimp only [zc] at c8
    refine aw_iload_n rfl rfl rfl ?_
    refine aw_aload_n rfl rfl rfl ?_
    refine aw_getr (b := 36) rfl rfl (hC.f.k 33 rfl) (by have q := hC.route.2.1; rw [hv] at q; exact q) rfl ?_
    refine aw_alen (N := sz) rfl (hC.f.s 36 rfl) (by decide) rfl ?_
    refine aw_icmp (p' := 23) rfl ⟨by omega, by omega⟩ ⟨by omega, by omega⟩ rfl rfl (fun c9 => ?_) (fun c9 => ?_)
    · dsimp only [zc] at c9
      omega
    · dsimp only [zc] at c9
      refine aw_aload_n rfl rfl rfl ?_
      refine aw_getr (b := 36) rfl rfl (hC.f.k 33 rfl) (by have q := hC.route.2.1; rw [hv] at q; exact q) rfl ?_
      refine aw_iload_n rfl rfl rfl ?_
      refine aw_as (N := sz) rfl (hC.f.s 36 rfl) (by omega) (by omega) (by omega) rfl (fun _ _ => ?_)
      rw [hsu]
      refine aw_iconst rfl rfl ?_
      refine aw_icmp (p' := 25) rfl ⟨by omega, by omega⟩ ⟨by omega, by omega⟩ rfl rfl (fun c10 => ?_) (fun c10 => ?_)
      · dsimp only [zc] at c10
        refine aw_aload_n rfl rfl rfl ?_
        refine aw_iconst rfl rfl ?_
        refine aw_fs (7) rfl rfl (hC.f.k 33 rfl) rfl ⟨by omega, by omega⟩ rfl (fun τ11 hD11 hU11 hQ11 => ?_)
        have hM11 : FX sz τ11 := hD11.fx hC.f
        refine aw_aload_n rfl rfl rfl ?_
        refine aw_aload_n rfl rfl rfl ?_
        refine aw_getr (b := 38) rfl rfl (hM11.f.k 33 rfl) (by rw [((hD11.su (T := [33, 34]) rfl)).2.2.2.1]; have q := hC.route.2.2.2.1; rw [hv] at q; exact q) rfl ?_
        refine aw_iload_n rfl rfl rfl ?_
        refine aw_lz (N := sz) rfl (hM11.f.s 38 rfl) (by omega) (by omega) (by omega) rfl (fun _ _ => ?_)
        rw [hD11.q 38 rfl, hco]
        refine aw_yl (8) rfl rfl (hM11.f.k 33 rfl) rfl (by omega) (by omega) rfl (fun τ12 hD12 hW12 hQ12 => ?_)
        have hM12 : FX sz τ12 := hD12.fx hM11.f
        refine aw_iload_n rfl rfl rfl ?_
        refine aw_istore rfl (Nat.le_of_ble_eq_true rfl) rfl rfl ?_
        change aw _ _ _ _ 43 [some (.ref 33), some (.int (iI _)), some (.int (iI _)), some (.int (iI _)), some (.int (iI _)), none, none] _ _
        refine aw_iload_n rfl rfl rfl ?_
        refine aw_istore rfl (Nat.le_of_ble_eq_true rfl) rfl rfl ?_
        change aw _ _ _ _ 46 [some (.ref 33), some (.int (iI _)), some (.int (iI _)), some (.int (iI _)), some (.int (iI _)), some (.int (iI _)), none] _ _
        exact c_follow0_l46 hC hI hv hF0 hFE hE1 hu0 hu1 hok hsu hco hwb hnx _ _ _ _ 0 _ rfl hM12 ((hD11.su (T := [33, 34]) rfl).tr (hD12.su (T := [33, 34]) rfl)) (by omega) (by omega) (by omega) (by rw [hQ12, hU11, if_pos rfl]) (by rw [hW12, if_pos rfl]) (fun _ => rfl) (fun e _ _ => by omega)
      · dsimp only [zc] at c10
        omega
set_option maxRecDepth 10000 in
set_option maxHeartbeats 2000000 in
theorem c_follow1_l46 {d : Nat} {sz : Nat} {κ : Nat × (Nat → Int32) × Option Nat} {A : Nat → Int → Int} {g : Nat → Nat} {σ : az_S} (hC : CR sz κ A g σ) (hI : MI sz A) (hv : g 701 = 1) {R : tRules} {x F u E t : Int} (hF0 : 0 ≤ F) (hFE : F ≤ E) (hE1 : E ≤ 11) (hu0 : 0 ≤ u) (hu1 : u < A 42 2) (hok : wOk A R x F u E t) (hsu : zx σ 37 u = (wD A R x E t (E - F).toNat u).1) (hco : zq σ 39 u = (wD A R x E t (E - F).toNat u).2) (hwb : 0 ≤ (wD A R x E t (E - F).toNat u).1 ∧ 0 ≤ (wD A R x E t (E - F).toNat u).2 ∧ (wD A R x E t (E - F).toNat u).2 ≤ 1000000000000) (hnx : ∀ i : Nat, (i : Int) < E - F → zx σ 35 ((F + i) * A 42 2 + (wPath A R x E t F u) i) = (wPath A R x E t F u) (i + 1)) : ∀ (n : Nat) (τ : az_S) (h c j : Int) (w : Option Value), (E + 1 - h).toNat = n → FX sz τ → Mod σ τ [33, 34] → F ≤ h → h ≤ E + 1 → j = h - F → zx τ 33 7 = j → zq τ 33 8 = (wD A R x E t (E - F).toNat u).2 → (j ≤ E - F → c = (wPath A R x E t F u) j.toNat) → (∀ e : Int, 0 ≤ e → e < j → zx τ 34 e = (wPath A R x E t F u) e.toNat) → aw (d) k_X4_follow (some .int) (fun r τ => r = some (.int (iI (wD A R x E t (E - F).toNat u).1)) ∧ CR sz κ (wTab A R x F u E t (E - F + 1).toNat) g τ ∧ Mod σ τ [33, 34]) 46 [some (.ref 33), some (.int (iI u)), some (.int (iI F)), some (.int (iI E)), some (.int (iI c)), some (.int (iI h)), w] [] τ := by
  intro n
  induction n using Nat.strongRecOn with
  | ind n ih =>
    intro τ h c j w hn hN hD hh0 hh1 hj hj7 h8 hcp h34
    have hce := hI.cells
    have hsz := hC.f.1
    refine aw_iload rfl rfl rfl ?_
    refine aw_iload_n rfl rfl rfl ?_
    refine aw_icmp (p' := 134) rfl ⟨by omega, by omega⟩ ⟨by omega, by omega⟩ rfl rfl (fun c1 => ?_) (fun c1 => ?_)
    · dsimp only [zc] at c1
      refine aw_aload_n rfl rfl rfl ?_
      refine aw_getr (b := 37) rfl rfl (hN.f.k 33 rfl) (by rw [((hD.su (T := [33, 34]) rfl)).2.2.2.1]; have q := hC.route.2.1; rw [hv] at q; exact q) rfl ?_
      refine aw_iload_n rfl rfl rfl ?_
      refine aw_as (N := sz) rfl (hN.f.s 37 rfl) (by omega) (by omega) (by omega) rfl (fun _ _ => ?_)
      rw [hD.z 37 rfl, hsu]
      refine aw_reti rfl ?_
      refine ⟨rfl, hC.pathc hI hFE (hD.su (T := [33, 34]) rfl) (by rw [hj7]; omega) h8 (fun e e0 e1 => h34 e e0 (by omega)), (hD.su (T := [33, 34]) rfl)⟩
    · dsimp only [zc] at c1
      refine aw_aload_n rfl rfl rfl ?_
      refine aw_gk (v := j) (7) rfl rfl (hN.f.k 33 rfl) rfl hj7 rfl (fun _ _ => ?_)
      refine aw_aload_n rfl rfl rfl ?_
      refine aw_getr (b := 34) rfl rfl (hN.f.k 33 rfl) (hN.f.r 33 2 34 rfl) rfl ?_
      refine aw_alen (N := 12) rfl (hN.f.s 34 rfl) (by decide) rfl ?_
      refine aw_icmp (p' := 134) rfl ⟨by omega, by omega⟩ ⟨by omega, by omega⟩ rfl rfl (fun c2 => ?_) (fun c2 => ?_)
      · dsimp only [zc] at c2
        omega
      · dsimp only [zc] at c2
        have hpr := wPath_r hI hok j.toNat (by omega)
        have ec : c = (wPath A R x E t F u) j.toNat := hcp (by omega)
        have hm1 : h * A 42 2 ≤ 11 * A 42 2 := Int.mul_le_mul_of_nonneg_right (by omega) (by omega)
        have hm0 : 0 ≤ h * A 42 2 := Int.mul_nonneg (by omega) (by omega)
        rw [← ec] at hpr
        refine aw_aload_n rfl rfl rfl ?_
        refine aw_getr (b := 34) rfl rfl (hN.f.k 33 rfl) (hN.f.r 33 2 34 rfl) rfl ?_
        refine aw_aload_n rfl rfl rfl ?_
        refine aw_gk (v := j) (7) rfl rfl (hN.f.k 33 rfl) rfl hj7 rfl (fun _ _ => ?_)
        refine aw_iload rfl rfl rfl ?_
        refine aw_ys (N := 12) rfl (hN.f.s 34 rfl) (by omega) (by omega) (by omega) ⟨by omega, by omega⟩ rfl (fun τ4 hD4 hU4 => ?_)
        have hM4 : FX sz τ4 := hD4.fx hN.f
        refine aw_aload_n rfl rfl rfl ?_
        refine aw_dup rfl rfl rfl ?_
        refine aw_gk (v := j) (7) rfl rfl (hM4.f.k 33 rfl) rfl (by rw [hD4.z 33 rfl]; exact hj7) rfl (fun _ _ => ?_)
        refine aw_iconst rfl rfl ?_
        refine aw_iadd rfl rfl ?_
        refine aw_fs (7) rfl rfl (hM4.f.k 33 rfl) rfl ⟨by omega, by omega⟩ rfl (fun τ5 hD5 hU5 hQ5 => ?_)
        have hM5 : FX sz τ5 := hD5.fx hM4.f
        refine aw_iload rfl rfl rfl ?_
        refine aw_aload_n rfl rfl rfl ?_
        refine aw_getr (b := 28) rfl rfl (hM5.f.k 33 rfl) (hM5.f.r 33 0 28 rfl) rfl ?_
        refine aw_gk (v := A 42 2) (2) rfl rfl (hM5.f.k 28 rfl) rfl (by rw [((((hD.su (T := [33, 34]) rfl).tr (hD4.su (T := [33, 34]) rfl)).tr (hD5.su (T := [33, 34]) rfl))).z 28 rfl]; exact hC.ground.2.2) rfl (fun _ _ => ?_)
        refine aw_imul rfl rfl ?_
        refine aw_iload rfl rfl rfl ?_
        refine aw_iadd rfl rfl ?_
        refine aw_istore rfl (Nat.le_of_ble_eq_true rfl) rfl rfl ?_
        change aw _ _ _ _ 100 [some (.ref 33), some (.int (iI _)), some (.int (iI _)), some (.int (iI _)), some (.int (iI _)), some (.int (iI _)), some (.int (iI _))] _ _
        refine aw_iload rfl rfl rfl ?_
        refine aw_if (p' := 125) rfl ⟨by omega, by omega⟩ rfl rfl (fun c6 => ?_) (fun c6 => ?_)
        · dsimp only [zc] at c6
          omega
        · dsimp only [zc] at c6
          refine aw_iload rfl rfl rfl ?_
          refine aw_aload_n rfl rfl rfl ?_
          refine aw_getr (b := 35) rfl rfl (hM5.f.k 33 rfl) (hM5.f.r 33 1 35 rfl) rfl ?_
          refine aw_alen (N := (12 * sz)) rfl (hM5.f.s 35 rfl) (by decide) rfl ?_
          refine aw_icmp (p' := 125) rfl ⟨by omega, by omega⟩ ⟨by omega, by omega⟩ rfl rfl (fun c7 => ?_) (fun c7 => ?_)
          · dsimp only [zc] at c7
            omega
          · dsimp only [zc] at c7
            refine aw_aload_n rfl rfl rfl ?_
            refine aw_getr (b := 35) rfl rfl (hM5.f.k 33 rfl) (hM5.f.r 33 1 35 rfl) rfl ?_
            refine aw_iload rfl rfl rfl ?_
            refine aw_as (N := (12 * sz)) rfl (hM5.f.s 35 rfl) (by omega) (by omega) (by omega) rfl (fun _ _ => ?_)
            refine aw_goto (p' := 126) rfl rfl ?_
            refine aw_istore rfl (Nat.le_of_ble_eq_true rfl) rfl rfl ?_
            change aw _ _ _ _ 128 [some (.ref 33), some (.int (iI _)), some (.int (iI _)), some (.int (iI _)), some (.int (iI _)), some (.int (iI _)), some (.int (iI _))] _ _
            refine aw_iinc rfl rfl rfl rfl ?_
            change aw _ _ _ _ 131 [some (.ref 33), some (.int (iI _)), some (.int (iI _)), some (.int (iI _)), some (.int (iI _)), some (.int (iI _)), some (.int (iI _))] _ _
            refine aw_goto (p' := 46) rfl rfl ?_
            refine ih _ (by omega) _ _ _ (j + 1) _ rfl hM5 (((hD.su (T := [33, 34]) rfl).tr (hD4.su (T := [33, 34]) rfl)).tr (hD5.su (T := [33, 34]) rfl)) (by omega) (by omega) (by omega) (by rw [hU5, if_pos rfl]) (by rw [hQ5, hD4.q 33 rfl]; exact h8) (fun q => ?_) (fun e e0 e1 => ?_)
            · rw [hD5.z 35 rfl, hD4.z 35 rfl, hD.z 35 rfl]
              have q2 := hnx j.toNat (by omega)
              rw [show F + ((j.toNat : Nat) : Int) = h by omega, ← ec] at q2
              rw [q2, show (j + 1).toNat = j.toNat + 1 by omega]
            · rw [hD5.z 34 rfl, hU4]
              by_cases ee : e = j
              · rw [if_pos ee, ee]; exact ec
              · rw [if_neg ee]; exact h34 e e0 (by omega)
set_option maxRecDepth 10000 in
set_option maxHeartbeats 2000000 in
theorem c_follow1 {d : Nat} {sz : Nat} {κ : Nat × (Nat → Int32) × Option Nat} {A : Nat → Int → Int} {g : Nat → Nat} {σ : az_S} (hC : CR sz κ A g σ) (hI : MI sz A) (hv : g 701 = 1) {R : tRules} {x F u E t : Int} (hF0 : 0 ≤ F) (hFE : F ≤ E) (hE1 : E ≤ 11) (hu0 : 0 ≤ u) (hu1 : u < A 42 2) (hok : wOk A R x F u E t) (hsu : zx σ 37 u = (wD A R x E t (E - F).toNat u).1) (hco : zq σ 39 u = (wD A R x E t (E - F).toNat u).2) (hwb : 0 ≤ (wD A R x E t (E - F).toNat u).1 ∧ 0 ≤ (wD A R x E t (E - F).toNat u).2 ∧ (wD A R x E t (E - F).toNat u).2 ≤ 1000000000000) (hnx : ∀ i : Nat, (i : Int) < E - F → zx σ 35 ((F + i) * A 42 2 + (wPath A R x E t F u) i) = (wPath A R x E t F u) (i + 1)) : cal (d + 1) 33 [.ref 33, .int (iI u), .int (iI F), .int (iI E)] σ (fun r τ => r = some (.int (iI (wD A R x E t (E - F).toNat u).1)) ∧ CR sz κ (wTab A R x F u E t (E - F + 1).toNat) g τ ∧ Mod σ τ [33, 34]) := by
  have hce := hI.cells
  have hsz := hC.f.1
  refine cal_of (M := (yX4_follow, cX4_follow, 7, (some .int))) (cd := k_X4_follow) (L := [some (.ref 33), some (.int (iI u)), some (.int (iI F)), some (.int (iI E)), none, none, none]) rfl (Nat.le_of_ble_eq_true rfl) rfl rfl ?_
  refine aw_iload_n rfl rfl rfl ?_
  refine aw_if (p' := 23) rfl ⟨by omega, by omega⟩ rfl rfl (fun c8 => ?_) (fun c8 => ?_)
  · dsimp only [zc] at c8
    omega
  · dsimp only [zc] at c8
    refine aw_iload_n rfl rfl rfl ?_
    refine aw_aload_n rfl rfl rfl ?_
    refine aw_getr (b := 37) rfl rfl (hC.f.k 33 rfl) (by have q := hC.route.2.1; rw [hv] at q; exact q) rfl ?_
    refine aw_alen (N := sz) rfl (hC.f.s 37 rfl) (by decide) rfl ?_
    refine aw_icmp (p' := 23) rfl ⟨by omega, by omega⟩ ⟨by omega, by omega⟩ rfl rfl (fun c9 => ?_) (fun c9 => ?_)
    · dsimp only [zc] at c9
      omega
    · dsimp only [zc] at c9
      refine aw_aload_n rfl rfl rfl ?_
      refine aw_getr (b := 37) rfl rfl (hC.f.k 33 rfl) (by have q := hC.route.2.1; rw [hv] at q; exact q) rfl ?_
      refine aw_iload_n rfl rfl rfl ?_
      refine aw_as (N := sz) rfl (hC.f.s 37 rfl) (by omega) (by omega) (by omega) rfl (fun _ _ => ?_)
      rw [hsu]
      refine aw_iconst rfl rfl ?_
      refine aw_icmp (p' := 25) rfl ⟨by omega, by omega⟩ ⟨by omega, by omega⟩ rfl rfl (fun c10 => ?_) (fun c10 => ?_)
      · dsimp only [zc] at c10
        refine aw_aload_n rfl rfl rfl ?_
        refine aw_iconst rfl rfl ?_
        refine aw_fs (7) rfl rfl (hC.f.k 33 rfl) rfl ⟨by omega, by omega⟩ rfl (fun τ11 hD11 hU11 hQ11 => ?_)
        have hM11 : FX sz τ11 := hD11.fx hC.f
        refine aw_aload_n rfl rfl rfl ?_
        refine aw_aload_n rfl rfl rfl ?_
        refine aw_getr (b := 39) rfl rfl (hM11.f.k 33 rfl) (by rw [((hD11.su (T := [33, 34]) rfl)).2.2.2.1]; have q := hC.route.2.2.2.1; rw [hv] at q; exact q) rfl ?_
        refine aw_iload_n rfl rfl rfl ?_
        refine aw_lz (N := sz) rfl (hM11.f.s 39 rfl) (by omega) (by omega) (by omega) rfl (fun _ _ => ?_)
        rw [hD11.q 39 rfl, hco]
        refine aw_yl (8) rfl rfl (hM11.f.k 33 rfl) rfl (by omega) (by omega) rfl (fun τ12 hD12 hW12 hQ12 => ?_)
        have hM12 : FX sz τ12 := hD12.fx hM11.f
        refine aw_iload_n rfl rfl rfl ?_
        refine aw_istore rfl (Nat.le_of_ble_eq_true rfl) rfl rfl ?_
        change aw _ _ _ _ 43 [some (.ref 33), some (.int (iI _)), some (.int (iI _)), some (.int (iI _)), some (.int (iI _)), none, none] _ _
        refine aw_iload_n rfl rfl rfl ?_
        refine aw_istore rfl (Nat.le_of_ble_eq_true rfl) rfl rfl ?_
        change aw _ _ _ _ 46 [some (.ref 33), some (.int (iI _)), some (.int (iI _)), some (.int (iI _)), some (.int (iI _)), some (.int (iI _)), none] _ _
        exact c_follow1_l46 hC hI hv hF0 hFE hE1 hu0 hu1 hok hsu hco hwb hnx _ _ _ _ 0 _ rfl hM12 ((hD11.su (T := [33, 34]) rfl).tr (hD12.su (T := [33, 34]) rfl)) (by omega) (by omega) (by omega) (by rw [hQ12, hU11, if_pos rfl]) (by rw [hW12, if_pos rfl]) (fun _ => rfl) (fun e _ _ => by omega)
      · dsimp only [zc] at c10
        omega
