noncomputable def m_wall_op (A : Nat → Int → Int) (c p h : Int) : Nat → Int → Int := tit (mStand A c p h) (mStands A 0 c p h) A
set_option maxRecDepth 10000 in
set_option maxHeartbeats 2000000 in
theorem m_wall {d : Nat} {sz : Nat} {A : Nat → Int → Int} {σ : az_S} (hM : MV sz A σ) (hI : MI sz A) {c p h : Int} (hc : inI c) (hp : inI p) (hh : inI h) : cal (d + 4) 175 [.ref 42, .int (iI c), .int (iI p), .int (iI h)] σ (fun r τ => r = some (.int (iI (zit (mStand A c p h) (A 42 12) (-1)))) ∧ MV sz (m_wall_op A c p h) τ ∧ Mod σ τ [42, 49, 50, 51, 52, 53, 54, 55, 56, 57, 58, 59, 60, 62]) := by
  obtain ⟨hc1, hc2⟩ := hc
  obtain ⟨hp1, hp2⟩ := hp
  obtain ⟨hh1, hh2⟩ := hh
  have hth := hI.things
  refine cal_of (M := (yX12_wall, cX12_wall, 4, (some .int))) (cd := k_X12_wall) (L := [some (.ref 42), some (.int (iI c)), some (.int (iI p)), some (.int (iI h))]) rfl (Nat.le_of_ble_eq_true rfl) rfl rfl ?_
  refine aw_aload_n rfl rfl rfl ?_
  refine aw_iload_n rfl rfl rfl ?_
  refine aw_iload_n rfl rfl rfl ?_
  refine aw_iload_n rfl rfl rfl ?_
  refine aw_fnc (m_mayStand hM hI ⟨by omega, by omega⟩ ⟨by omega, by omega⟩ ⟨by omega, by omega⟩) rfl rfl rfl (Nat.le_of_ble_eq_true rfl) (Or.inr ⟨_, rfl, (hM.f.k 42 rfl)⟩) rfl ?_
  refine aw_ifeqb (p' := 21) rfl rfl rfl (fun c1 => ?_) (fun c1 => ?_)
  · refine aw_iconst rfl rfl ?_
    refine aw_reti rfl ?_
    refine ⟨?_, ?_, Mod.rf⟩
    · rw [zit_f (by assumption)]
    · unfold m_wall_op; rw [tit_f (by assumption)]; exact hM
  · refine aw_aload_n rfl rfl rfl ?_
    refine aw_iconst rfl rfl ?_
    refine aw_iload_n rfl rfl rfl ?_
    refine aw_iload_n rfl rfl rfl ?_
    refine aw_iload_n rfl rfl rfl ?_
    refine aw_calc (m_stands hM hI ⟨by omega, by omega⟩ ⟨by omega, by omega⟩ ⟨by omega, by omega⟩ ⟨by omega, by omega⟩ (by have q : mStand A c p h := (by assumption); exact q.1.2.2.2)) rfl rfl rfl (Nat.le_of_ble_eq_true rfl) (Or.inr ⟨_, rfl, (hM.f.k 42 rfl)⟩) rfl ?_
    rintro _ τ2 ⟨rfl, hM2, hD2⟩
    change aw _ _ _ _ 18 [some (.ref 42), some (.int (iI _)), some (.int (iI _)), some (.int (iI _))] [.int (iI _)] _
    have h24 : A 42 12 < 24 := (show mStand A c p h by assumption).1.2.2.2
    refine aw_goto (p' := 22) rfl rfl ?_
    refine aw_reti rfl ?_
    refine ⟨?_, ?_, (hD2.su (T := [42, 49, 50, 51, 52, 53, 54, 55, 56, 57, 58, 59, 60, 62]) rfl)⟩
    · rw [zit_t (by assumption)]
    · unfold m_wall_op; rw [tit_t (by assumption)]; exact hM2
noncomputable def m_tree_op (A : Nat → Int → Int) (c p h g : Int) : Nat → Int → Int := tit (mStand A c p h ∧ (1 ≤ g ∧ g ≤ 999)) (up (mStands A 1 c p h) 53 (A 42 12) g) A
set_option maxRecDepth 10000 in
set_option maxHeartbeats 2000000 in
theorem m_tree {d : Nat} {sz : Nat} {A : Nat → Int → Int} {σ : az_S} (hM : MV sz A σ) (hI : MI sz A) {c p h g : Int} (hc : inI c) (hp : inI p) (hh : inI h) (hg : inI g) : cal (d + 4) 176 [.ref 42, .int (iI c), .int (iI p), .int (iI h), .int (iI g)] σ (fun r τ => r = some (.int (iI (zit (mStand A c p h ∧ (1 ≤ g ∧ g ≤ 999)) (A 42 12) (-1)))) ∧ MV sz (m_tree_op A c p h g) τ ∧ Mod σ τ [42, 49, 50, 51, 52, 53, 54, 55, 56, 57, 58, 59, 60, 62]) := by
  obtain ⟨hc1, hc2⟩ := hc
  obtain ⟨hp1, hp2⟩ := hp
  obtain ⟨hh1, hh2⟩ := hh
  obtain ⟨hg1, hg2⟩ := hg
  have hth := hI.things
  refine cal_of (M := (yX12_tree, cX12_tree, 6, (some .int))) (cd := k_X12_tree) (L := [some (.ref 42), some (.int (iI c)), some (.int (iI p)), some (.int (iI h)), some (.int (iI g)), none]) rfl (Nat.le_of_ble_eq_true rfl) rfl rfl ?_
  refine aw_aload_n rfl rfl rfl ?_
  refine aw_iload_n rfl rfl rfl ?_
  refine aw_iload_n rfl rfl rfl ?_
  refine aw_iload_n rfl rfl rfl ?_
  refine aw_fnc (m_mayStand hM hI ⟨by omega, by omega⟩ ⟨by omega, by omega⟩ ⟨by omega, by omega⟩) rfl rfl rfl (Nat.le_of_ble_eq_true rfl) (Or.inr ⟨_, rfl, (hM.f.k 42 rfl)⟩) rfl ?_
  refine aw_ifeqb (p' := 23) rfl rfl rfl (fun c1 => ?_) (fun c1 => ?_)
  · refine aw_iconst rfl rfl ?_
    refine aw_reti rfl ?_
    refine ⟨?_, ?_, Mod.rf⟩
    · rw [zit_f (by rintro ⟨q1, q2⟩; first | omega | exact absurd q1 (by assumption))]
    · unfold m_tree_op; rw [tit_f (by rintro ⟨q1, q2⟩; first | omega | exact absurd q1 (by assumption))]; exact hM
  · refine aw_iload rfl rfl rfl ?_
    refine aw_i2l rfl ⟨by omega, by omega⟩ rfl ?_
    refine aw_lconst 1 rfl rfl rfl ?_
    refine aw_ldc2 (999) rfl rfl rfl ?_
    refine aw_fnc (m_in ⟨by omega, by omega⟩ ⟨by omega, by omega⟩ ⟨by omega, by omega⟩) rfl rfl rfl (Nat.le_of_ble_eq_true rfl) (Or.inl rfl) rfl ?_
    refine aw_ifneb (p' := 25) rfl rfl rfl (fun c2 => ?_) (fun c2 => ?_)
    · refine aw_aload_n rfl rfl rfl ?_
      refine aw_iconst rfl rfl ?_
      refine aw_iload_n rfl rfl rfl ?_
      refine aw_iload_n rfl rfl rfl ?_
      refine aw_iload_n rfl rfl rfl ?_
      refine aw_calc (m_stands hM hI ⟨by omega, by omega⟩ ⟨by omega, by omega⟩ ⟨by omega, by omega⟩ ⟨by omega, by omega⟩ (by have q : mStand A c p h := (by assumption); exact q.1.2.2.2)) rfl rfl rfl (Nat.le_of_ble_eq_true rfl) (Or.inr ⟨_, rfl, (hM.f.k 42 rfl)⟩) rfl ?_
      rintro _ τ3 ⟨rfl, hM3, hD3⟩
      change aw _ _ _ _ 33 [some (.ref 42), some (.int (iI _)), some (.int (iI _)), some (.int (iI _)), some (.int (iI _)), none] [.int (iI _)] _
      have h24 : A 42 12 < 24 := (show mStand A c p h by assumption).1.2.2.2
      refine aw_istore rfl (Nat.le_of_ble_eq_true rfl) rfl rfl ?_
      change aw _ _ _ _ 35 [some (.ref 42), some (.int (iI _)), some (.int (iI _)), some (.int (iI _)), some (.int (iI _)), some (.int (iI _))] _ _
      refine aw_aload_n rfl rfl rfl ?_
      refine aw_getr (b := 53) rfl rfl (hM3.f.k 42 rfl) (hM3.f.r 42 17 53 rfl) rfl ?_
      refine aw_iload rfl rfl rfl ?_
      refine aw_iload rfl rfl rfl ?_
      refine aw_sp (N := 24) hM3 rfl (hM3.f.s 53 rfl) (by omega) rfl (by omega) (by omega) ⟨by omega, by omega⟩ rfl (fun τ4 hM4 hD4 => ?_)
      refine aw_iload rfl rfl rfl ?_
      refine aw_reti rfl ?_
      refine ⟨?_, ?_, ((hD3.su (T := [42, 49, 50, 51, 52, 53, 54, 55, 56, 57, 58, 59, 60, 62]) rfl).tr (hD4.su (T := [42, 49, 50, 51, 52, 53, 54, 55, 56, 57, 58, 59, 60, 62]) rfl))⟩
      · rw [zit_t ⟨by assumption, by assumption⟩]
      · unfold m_tree_op; rw [tit_t ⟨by assumption, by assumption⟩]; exact hM4
    · refine aw_iconst rfl rfl ?_
      refine aw_reti rfl ?_
      refine ⟨?_, ?_, Mod.rf⟩
      · rw [zit_f (by rintro ⟨q1, q2⟩; first | omega | exact absurd q1 (by assumption))]
      · unfold m_tree_op; rw [tit_f (by rintro ⟨q1, q2⟩; first | omega | exact absurd q1 (by assumption))]; exact hM
noncomputable def m_pole_op (A : Nat → Int → Int) (c p h u v : Int) : Nat → Int → Int := tit (mStand A c p h ∧ (-50 ≤ u ∧ u ≤ 50) ∧ (-50 ≤ v ∧ v ≤ 50)) (up (up (mStands A 2 c p h) 54 (A 42 12) u) 55 (A 42 12) v) A
set_option maxRecDepth 10000 in
set_option maxHeartbeats 2000000 in
theorem m_pole {d : Nat} {sz : Nat} {A : Nat → Int → Int} {σ : az_S} (hM : MV sz A σ) (hI : MI sz A) {c p h u v : Int} (hc : inI c) (hp : inI p) (hh : inI h) (hu : inI u) (hv : inI v) : cal (d + 4) 177 [.ref 42, .int (iI c), .int (iI p), .int (iI h), .int (iI u), .int (iI v)] σ (fun r τ => r = some (.int (iI (zit (mStand A c p h ∧ (-50 ≤ u ∧ u ≤ 50) ∧ (-50 ≤ v ∧ v ≤ 50)) (A 42 12) (-1)))) ∧ MV sz (m_pole_op A c p h u v) τ ∧ Mod σ τ [42, 49, 50, 51, 52, 53, 54, 55, 56, 57, 58, 59, 60, 62]) := by
  obtain ⟨hc1, hc2⟩ := hc
  obtain ⟨hp1, hp2⟩ := hp
  obtain ⟨hh1, hh2⟩ := hh
  obtain ⟨hu1, hu2⟩ := hu
  obtain ⟨hv1, hv2⟩ := hv
  have hth := hI.things
  refine cal_of (M := (yX12_pole, cX12_pole, 7, (some .int))) (cd := k_X12_pole) (L := [some (.ref 42), some (.int (iI c)), some (.int (iI p)), some (.int (iI h)), some (.int (iI u)), some (.int (iI v)), none]) rfl (Nat.le_of_ble_eq_true rfl) rfl rfl ?_
  refine aw_aload_n rfl rfl rfl ?_
  refine aw_iload_n rfl rfl rfl ?_
  refine aw_iload_n rfl rfl rfl ?_
  refine aw_iload_n rfl rfl rfl ?_
  refine aw_fnc (m_mayStand hM hI ⟨by omega, by omega⟩ ⟨by omega, by omega⟩ ⟨by omega, by omega⟩) rfl rfl rfl (Nat.le_of_ble_eq_true rfl) (Or.inr ⟨_, rfl, (hM.f.k 42 rfl)⟩) rfl ?_
  refine aw_ifeqb (p' := 40) rfl rfl rfl (fun c1 => ?_) (fun c1 => ?_)
  · refine aw_iconst rfl rfl ?_
    refine aw_reti rfl ?_
    refine ⟨?_, ?_, Mod.rf⟩
    · rw [zit_f (by rintro ⟨q1, q2, q3⟩; first | omega | exact absurd q1 (by assumption))]
    · unfold m_pole_op; rw [tit_f (by rintro ⟨q1, q2, q3⟩; first | omega | exact absurd q1 (by assumption))]; exact hM
  · refine aw_iload rfl rfl rfl ?_
    refine aw_i2l rfl ⟨by omega, by omega⟩ rfl ?_
    refine aw_ldc2 (-50) rfl rfl rfl ?_
    refine aw_ldc2 (50) rfl rfl rfl ?_
    refine aw_fnc (m_in ⟨by omega, by omega⟩ ⟨by omega, by omega⟩ ⟨by omega, by omega⟩) rfl rfl rfl (Nat.le_of_ble_eq_true rfl) (Or.inl rfl) rfl ?_
    refine aw_ifeqb (p' := 40) rfl rfl rfl (fun c2 => ?_) (fun c2 => ?_)
    · refine aw_iconst rfl rfl ?_
      refine aw_reti rfl ?_
      refine ⟨?_, ?_, Mod.rf⟩
      · rw [zit_f (by rintro ⟨q1, q2, q3⟩; first | omega | exact absurd q1 (by assumption))]
      · unfold m_pole_op; rw [tit_f (by rintro ⟨q1, q2, q3⟩; first | omega | exact absurd q1 (by assumption))]; exact hM
    · refine aw_iload rfl rfl rfl ?_
      refine aw_i2l rfl ⟨by omega, by omega⟩ rfl ?_
      refine aw_ldc2 (-50) rfl rfl rfl ?_
      refine aw_ldc2 (50) rfl rfl rfl ?_
      refine aw_fnc (m_in ⟨by omega, by omega⟩ ⟨by omega, by omega⟩ ⟨by omega, by omega⟩) rfl rfl rfl (Nat.le_of_ble_eq_true rfl) (Or.inl rfl) rfl ?_
      refine aw_ifneb (p' := 42) rfl rfl rfl (fun c3 => ?_) (fun c3 => ?_)
      · refine aw_aload_n rfl rfl rfl ?_
        refine aw_iconst rfl rfl ?_
        refine aw_iload_n rfl rfl rfl ?_
        refine aw_iload_n rfl rfl rfl ?_
        refine aw_iload_n rfl rfl rfl ?_
        refine aw_calc (m_stands hM hI ⟨by omega, by omega⟩ ⟨by omega, by omega⟩ ⟨by omega, by omega⟩ ⟨by omega, by omega⟩ (by have q : mStand A c p h := (by assumption); exact q.1.2.2.2)) rfl rfl rfl (Nat.le_of_ble_eq_true rfl) (Or.inr ⟨_, rfl, (hM.f.k 42 rfl)⟩) rfl ?_
        rintro _ τ4 ⟨rfl, hM4, hD4⟩
        change aw _ _ _ _ 50 [some (.ref 42), some (.int (iI _)), some (.int (iI _)), some (.int (iI _)), some (.int (iI _)), some (.int (iI _)), none] [.int (iI _)] _
        have h24 : A 42 12 < 24 := (show mStand A c p h by assumption).1.2.2.2
        refine aw_istore rfl (Nat.le_of_ble_eq_true rfl) rfl rfl ?_
        change aw _ _ _ _ 52 [some (.ref 42), some (.int (iI _)), some (.int (iI _)), some (.int (iI _)), some (.int (iI _)), some (.int (iI _)), some (.int (iI _))] _ _
        refine aw_aload_n rfl rfl rfl ?_
        refine aw_getr (b := 54) rfl rfl (hM4.f.k 42 rfl) (hM4.f.r 42 18 54 rfl) rfl ?_
        refine aw_iload rfl rfl rfl ?_
        refine aw_iload rfl rfl rfl ?_
        refine aw_sp (N := 24) hM4 rfl (hM4.f.s 54 rfl) (by omega) rfl (by omega) (by omega) ⟨by omega, by omega⟩ rfl (fun τ5 hM5 hD5 => ?_)
        refine aw_aload_n rfl rfl rfl ?_
        refine aw_getr (b := 55) rfl rfl (hM5.f.k 42 rfl) (hM5.f.r 42 19 55 rfl) rfl ?_
        refine aw_iload rfl rfl rfl ?_
        refine aw_iload rfl rfl rfl ?_
        refine aw_sp (N := 24) hM5 rfl (hM5.f.s 55 rfl) (by omega) rfl (by omega) (by omega) ⟨by omega, by omega⟩ rfl (fun τ6 hM6 hD6 => ?_)
        refine aw_iload rfl rfl rfl ?_
        refine aw_reti rfl ?_
        refine ⟨?_, ?_, (((hD4.su (T := [42, 49, 50, 51, 52, 53, 54, 55, 56, 57, 58, 59, 60, 62]) rfl).tr (hD5.su (T := [42, 49, 50, 51, 52, 53, 54, 55, 56, 57, 58, 59, 60, 62]) rfl)).tr (hD6.su (T := [42, 49, 50, 51, 52, 53, 54, 55, 56, 57, 58, 59, 60, 62]) rfl))⟩
        · rw [zit_t ⟨by assumption, by assumption, by assumption⟩]
        · unfold m_pole_op; rw [tit_t ⟨by assumption, by assumption, by assumption⟩]; exact hM6
      · refine aw_iconst rfl rfl ?_
        refine aw_reti rfl ?_
        refine ⟨?_, ?_, Mod.rf⟩
        · rw [zit_f (by rintro ⟨q1, q2, q3⟩; first | omega | exact absurd q1 (by assumption))]
        · unfold m_pole_op; rw [tit_f (by rintro ⟨q1, q2, q3⟩; first | omega | exact absurd q1 (by assumption))]; exact hM
noncomputable def m_raise_op (A : Nat → Int → Int) (t x h : Int) : Nat → Int → Int := tit ((0 ≤ t ∧ t ≤ A 42 12 - 1) ∧ (A 52 t ≤ x ∧ x ≤ 3599) ∧ (0 ≤ h ∧ h ≤ 60) ∧ A 60 t < 0 ∧ A 56 t ≠ 40) (mEnter A t x h) A
set_option maxRecDepth 10000 in
set_option maxHeartbeats 2000000 in
theorem m_raise {d : Nat} {sz : Nat} {A : Nat → Int → Int} {σ : az_S} (hM : MV sz A σ) (hI : MI sz A) {t x h : Int} (ht : inI t) (hx : inI x) (hh : inI h) (hE : ∀ t : Int, 0 ≤ t → t < A 42 12 → A 56 t ≤ 40) : cal (d + 3) 178 [.ref 42, .int (iI t), .int (iI x), .int (iI h)] σ (fun r τ => r = some (.int (iI (zit ((0 ≤ t ∧ t ≤ A 42 12 - 1) ∧ (A 52 t ≤ x ∧ x ≤ 3599) ∧ (0 ≤ h ∧ h ≤ 60) ∧ A 60 t < 0 ∧ A 56 t ≠ 40) (A 56 t + 1) (-1)))) ∧ MV sz (m_raise_op A t x h) τ ∧ Mod σ τ [56, 57, 58, 59]) := by
  obtain ⟨ht1, ht2⟩ := ht
  obtain ⟨hx1, hx2⟩ := hx
  obtain ⟨hh1, hh2⟩ := hh
  have hth := hI.things
  have hcl := hI.clock
  have hT := fun q1 q2 => hI.thing t q1 q2
  have h40 := fun q1 q2 => hE t q1 q2
  refine cal_of (M := (yX12_raise, cX12_raise, 4, (some .int))) (cd := k_X12_raise) (L := [some (.ref 42), some (.int (iI t)), some (.int (iI x)), some (.int (iI h))]) rfl (Nat.le_of_ble_eq_true rfl) rfl rfl ?_
  refine aw_aload_n rfl rfl rfl ?_
  refine aw_iload_n rfl rfl rfl ?_
  refine aw_fnc (m_isThing hM hI ⟨by omega, by omega⟩) rfl rfl rfl (Nat.le_of_ble_eq_true rfl) (Or.inr ⟨_, rfl, (hM.f.k 42 rfl)⟩) rfl ?_
  refine aw_ifeqb (p' := 58) rfl rfl rfl (fun c1 => ?_) (fun c1 => ?_)
  · refine aw_iconst rfl rfl ?_
    refine aw_reti rfl ?_
    refine ⟨?_, ?_, Mod.rf⟩
    · rw [zit_f (by omega)]
    · unfold m_raise_op; rw [tit_f (by omega)]; exact hM
  · have hT := hT (by omega) (by omega)
    obtain ⟨he, -, -, hkg, -, -, hsi, -, hfd, hme⟩ := hT
    have h40 := h40 (by omega) (by omega)
    refine aw_iload_n rfl rfl rfl ?_
    refine aw_i2l rfl ⟨by omega, by omega⟩ rfl ?_
    refine aw_aload_n rfl rfl rfl ?_
    refine aw_getr (b := 52) rfl rfl (hM.f.k 42 rfl) (hM.f.r 42 16 52 rfl) rfl ?_
    refine aw_iload_n rfl rfl rfl ?_
    refine aw_ap (N := 24) hM rfl (hM.f.s 52 rfl) (by omega) rfl (by omega) (by omega) rfl (fun _ _ => ?_)
    refine aw_i2l rfl ⟨by omega, by omega⟩ rfl ?_
    refine aw_ldc2 (3599) rfl rfl rfl ?_
    refine aw_fnc (m_in ⟨by omega, by omega⟩ ⟨by omega, by omega⟩ ⟨by omega, by omega⟩) rfl rfl rfl (Nat.le_of_ble_eq_true rfl) (Or.inl rfl) rfl ?_
    refine aw_ifeqb (p' := 58) rfl rfl rfl (fun c2 => ?_) (fun c2 => ?_)
    · refine aw_iconst rfl rfl ?_
      refine aw_reti rfl ?_
      refine ⟨?_, ?_, Mod.rf⟩
      · rw [zit_f (by omega)]
      · unfold m_raise_op; rw [tit_f (by omega)]; exact hM
    · refine aw_iload_n rfl rfl rfl ?_
      refine aw_i2l rfl ⟨by omega, by omega⟩ rfl ?_
      refine aw_lconst 0 rfl rfl rfl ?_
      refine aw_ldc2 (60) rfl rfl rfl ?_
      refine aw_fnc (m_in ⟨by omega, by omega⟩ ⟨by omega, by omega⟩ ⟨by omega, by omega⟩) rfl rfl rfl (Nat.le_of_ble_eq_true rfl) (Or.inl rfl) rfl ?_
      refine aw_ifeqb (p' := 58) rfl rfl rfl (fun c3 => ?_) (fun c3 => ?_)
      · refine aw_iconst rfl rfl ?_
        refine aw_reti rfl ?_
        refine ⟨?_, ?_, Mod.rf⟩
        · rw [zit_f (by omega)]
        · unfold m_raise_op; rw [tit_f (by omega)]; exact hM
      · refine aw_aload_n rfl rfl rfl ?_
        refine aw_getr (b := 60) rfl rfl (hM.f.k 42 rfl) (hM.f.r 42 24 60 rfl) rfl ?_
        refine aw_iload_n rfl rfl rfl ?_
        refine aw_ap (N := 24) hM rfl (hM.f.s 60 rfl) (by omega) rfl (by omega) (by omega) rfl (fun _ _ => ?_)
        refine aw_if (p' := 58) rfl ⟨by omega, by omega⟩ rfl rfl (fun c4 => ?_) (fun c4 => ?_)
        · dsimp only [zc] at c4
          refine aw_iconst rfl rfl ?_
          refine aw_reti rfl ?_
          refine ⟨?_, ?_, Mod.rf⟩
          · rw [zit_f (by omega)]
          · unfold m_raise_op; rw [tit_f (by omega)]; exact hM
        · dsimp only [zc] at c4
          refine aw_aload_n rfl rfl rfl ?_
          refine aw_getr (b := 56) rfl rfl (hM.f.k 42 rfl) (hM.f.r 42 20 56 rfl) rfl ?_
          refine aw_iload_n rfl rfl rfl ?_
          refine aw_ap (N := 24) hM rfl (hM.f.s 56 rfl) (by omega) rfl (by omega) (by omega) rfl (fun _ _ => ?_)
          refine aw_bipush rfl rfl rfl ?_
          refine aw_icmp (p' := 60) rfl ⟨by omega, by omega⟩ ⟨by omega, by omega⟩ rfl rfl (fun c5 => ?_) (fun c5 => ?_)
          · dsimp only [zc] at c5
            refine aw_aload_n rfl rfl rfl ?_
            refine aw_iload_n rfl rfl rfl ?_
            refine aw_iload_n rfl rfl rfl ?_
            refine aw_iload_n rfl rfl rfl ?_
            refine aw_calc (m_enters hM (by omega) (by omega) (by omega) (by omega) ⟨by omega, by omega⟩ ⟨by omega, by omega⟩) rfl rfl rfl (Nat.le_of_ble_eq_true rfl) (Or.inr ⟨_, rfl, (hM.f.k 42 rfl)⟩) rfl ?_
            rintro _ τ6 ⟨rfl, hM6, hD6⟩
            change aw _ _ _ _ 67 [some (.ref 42), some (.int (iI _)), some (.int (iI _)), some (.int (iI _))] [] _
            refine aw_aload_n rfl rfl rfl ?_
            refine aw_getr (b := 56) rfl rfl (hM6.f.k 42 rfl) (hM6.f.r 42 20 56 rfl) rfl ?_
            refine aw_iload_n rfl rfl rfl ?_
            refine aw_apv (v := (A 56 t + 1)) (N := 24) hM6 rfl (hM6.f.s 56 rfl) (by omega) rfl (by omega) (by omega) (by first | (simp [up, mEnter, mStands, mStands0]; done) | assumption) rfl (fun _ _ => ?_)
            refine aw_reti rfl ?_
            refine ⟨?_, ?_, (hD6.su (T := [56, 57, 58, 59]) rfl)⟩
            · rw [zit_t (by omega)]
            · unfold m_raise_op; rw [tit_t (by omega)]; exact hM6
          · dsimp only [zc] at c5
            refine aw_iconst rfl rfl ?_
            refine aw_reti rfl ?_
            refine ⟨?_, ?_, Mod.rf⟩
            · rw [zit_f (by omega)]
            · unfold m_raise_op; rw [tit_f (by omega)]; exact hM
noncomputable def m_fell_op (A : Nat → Int → Int) (t x : Int) : Nat → Int → Int := tit ((0 ≤ t ∧ t ≤ A 42 12 - 1) ∧ (A 52 t ≤ x ∧ x ≤ A 42 3) ∧ A 60 t < 0) (up (up A 60 t x) 61 t (A 42 3)) A
set_option maxRecDepth 10000 in
set_option maxHeartbeats 2000000 in
theorem m_fell {d : Nat} {sz : Nat} {A : Nat → Int → Int} {σ : az_S} (hM : MV sz A σ) (hI : MI sz A) {t x : Int} (ht : inI t) (hx : inI x) : cal (d + 3) 179 [.ref 42, .int (iI t), .int (iI x)] σ (fun r τ => r = some (.int (iI (bI ((0 ≤ t ∧ t ≤ A 42 12 - 1) ∧ (A 52 t ≤ x ∧ x ≤ A 42 3) ∧ A 60 t < 0)))) ∧ MV sz (m_fell_op A t x) τ ∧ Mod σ τ [60, 61]) := by
  obtain ⟨ht1, ht2⟩ := ht
  obtain ⟨hx1, hx2⟩ := hx
  have hth := hI.things
  have hcl := hI.clock
  have hT := fun q1 q2 => hI.thing t q1 q2
  refine cal_of (M := (yX12_fell, cX12_fell, 3, (some .boolean))) (cd := k_X12_fell) (L := [some (.ref 42), some (.int (iI t)), some (.int (iI x))]) rfl (Nat.le_of_ble_eq_true rfl) rfl rfl ?_
  refine aw_aload_n rfl rfl rfl ?_
  refine aw_iload_n rfl rfl rfl ?_
  refine aw_fnc (m_isThing hM hI ⟨by omega, by omega⟩) rfl rfl rfl (Nat.le_of_ble_eq_true rfl) (Or.inr ⟨_, rfl, (hM.f.k 42 rfl)⟩) rfl ?_
  refine aw_ifeqb (p' := 37) rfl rfl rfl (fun c1 => ?_) (fun c1 => ?_)
  · refine aw_iconst rfl rfl ?_
    refine aw_retn rfl (by first | rfl | exact bI_nar _) ?_
    refine ⟨?_, ?_, Mod.rf⟩
    · rw [bI_f (by omega)]
    · unfold m_fell_op; rw [tit_f (by omega)]; exact hM
  · have hT := hT (by omega) (by omega)
    obtain ⟨he, -, -, hkg, -, -, hsi, -, hfd, hme⟩ := hT
    refine aw_iload_n rfl rfl rfl ?_
    refine aw_i2l rfl ⟨by omega, by omega⟩ rfl ?_
    refine aw_aload_n rfl rfl rfl ?_
    refine aw_getr (b := 52) rfl rfl (hM.f.k 42 rfl) (hM.f.r 42 16 52 rfl) rfl ?_
    refine aw_iload_n rfl rfl rfl ?_
    refine aw_ap (N := 24) hM rfl (hM.f.s 52 rfl) (by omega) rfl (by omega) (by omega) rfl (fun _ _ => ?_)
    refine aw_i2l rfl ⟨by omega, by omega⟩ rfl ?_
    refine aw_aload_n rfl rfl rfl ?_
    refine aw_gp (3) hM rfl rfl (hM.f.k 42 rfl) rfl rfl (fun _ _ => ?_)
    refine aw_i2l rfl ⟨by omega, by omega⟩ rfl ?_
    refine aw_fnc (m_in ⟨by omega, by omega⟩ ⟨by omega, by omega⟩ ⟨by omega, by omega⟩) rfl rfl rfl (Nat.le_of_ble_eq_true rfl) (Or.inl rfl) rfl ?_
    refine aw_ifeqb (p' := 37) rfl rfl rfl (fun c2 => ?_) (fun c2 => ?_)
    · refine aw_iconst rfl rfl ?_
      refine aw_retn rfl (by first | rfl | exact bI_nar _) ?_
      refine ⟨?_, ?_, Mod.rf⟩
      · rw [bI_f (by omega)]
      · unfold m_fell_op; rw [tit_f (by omega)]; exact hM
    · refine aw_aload_n rfl rfl rfl ?_
      refine aw_getr (b := 60) rfl rfl (hM.f.k 42 rfl) (hM.f.r 42 24 60 rfl) rfl ?_
      refine aw_iload_n rfl rfl rfl ?_
      refine aw_ap (N := 24) hM rfl (hM.f.s 60 rfl) (by omega) rfl (by omega) (by omega) rfl (fun _ _ => ?_)
      refine aw_if (p' := 39) rfl ⟨by omega, by omega⟩ rfl rfl (fun c3 => ?_) (fun c3 => ?_)
      · dsimp only [zc] at c3
        refine aw_aload_n rfl rfl rfl ?_
        refine aw_getr (b := 60) rfl rfl (hM.f.k 42 rfl) (hM.f.r 42 24 60 rfl) rfl ?_
        refine aw_iload_n rfl rfl rfl ?_
        refine aw_iload_n rfl rfl rfl ?_
        refine aw_sp (N := 24) hM rfl (hM.f.s 60 rfl) (by omega) rfl (by omega) (by omega) ⟨by omega, by omega⟩ rfl (fun τ4 hM4 hD4 => ?_)
        refine aw_aload_n rfl rfl rfl ?_
        refine aw_getr (b := 61) rfl rfl (hM4.f.k 42 rfl) (hM4.f.r 42 25 61 rfl) rfl ?_
        refine aw_iload_n rfl rfl rfl ?_
        refine aw_aload_n rfl rfl rfl ?_
        refine aw_gpv (v := A 42 3) (3) hM4 rfl rfl (hM4.f.k 42 rfl) rfl (by first | (simp [up, mEnter, mStands, mStands0]; done) | assumption) rfl (fun _ _ => ?_)
        refine aw_sp (N := 24) hM4 rfl (hM4.f.s 61 rfl) (by omega) rfl (by omega) (by omega) ⟨by omega, by omega⟩ rfl (fun τ5 hM5 hD5 => ?_)
        refine aw_iconst rfl rfl ?_
        refine aw_retn rfl (by first | rfl | exact bI_nar _) ?_
        refine ⟨?_, ?_, ((hD4.su (T := [60, 61]) rfl).tr (hD5.su (T := [60, 61]) rfl))⟩
        · rw [bI_t (by omega)]
        · unfold m_fell_op; rw [tit_t (by omega)]; exact hM5
      · dsimp only [zc] at c3
        refine aw_iconst rfl rfl ?_
        refine aw_retn rfl (by first | rfl | exact bI_nar _) ?_
        refine ⟨?_, ?_, Mod.rf⟩
        · rw [bI_f (by omega)]
        · unfold m_fell_op; rw [tit_f (by omega)]; exact hM
theorem mEnter_57 (A : Nat → Int → Int) (t x h w : Int) : mEnter A t x h 57 w = if w = 41 * t + A 56 t then x else A 57 w := by simp [mEnter, up]
theorem mEnter_58 (A : Nat → Int → Int) (t x h w : Int) : mEnter A t x h 58 w = if w = 41 * t + A 56 t then h else A 58 w := by simp [mEnter, up]
theorem mEnter_59 (A : Nat → Int → Int) (t x h w : Int) : mEnter A t x h 59 w = if w = 41 * t + A 56 t then A 42 3 else A 59 w := by simp [mEnter, up]
theorem mEnter_56 (A : Nat → Int → Int) (t x h w : Int) : mEnter A t x h 56 w = if w = t then A 56 t + 1 else A 56 w := by simp [mEnter, up]
theorem MI_enter {sz : Nat} {A : Nat → Int → Int} (H : MI sz A) {t x h : Int} (ht0 : 0 ≤ t) (ht1 : t < A 42 12) (he : A 56 t ≤ 40) (hx0 : 0 ≤ x) (hx1 : x ≤ 3599) (hh0 : 0 ≤ h) (hh1 : h ≤ 60) : MI sz (mEnter A t x h) := by
  refine ⟨H.wide, H.high, H.cells, H.clock, H.sun, H.clouds, H.cloud, H.people, H.person, H.things, ?_, H.grants, H.grant, H.taped, H.tape, H.stalls, H.stall, H.walks⟩
  intro u hu0 hu1
  have hcl := H.clock
  have hu2 : u < A 42 12 := hu1
  obtain ⟨k1, k2, k3, k4, k5, k6, k7, k8, k9, k10⟩ := H.thing u hu0 hu2
  obtain ⟨j1, -⟩ := H.thing t ht0 ht1
  refine ⟨?_, ?_, ?_, k4, k5, k6, k7, k8, k9, k10⟩
  · rw [mEnter_56]; split
    · rename_i e; rw [e] at k1; omega
    · exact k1
  · rw [mEnter_57, mEnter_59, if_neg (by omega), if_neg (by omega)]; exact k2
  · intro i hi0 hi1
    rw [mEnter_56] at hi1
    rw [mEnter_57, mEnter_58, mEnter_59]
    show (0 ≤ (if 41 * u + i = 41 * t + A 56 t then x else A 57 (41 * u + i)) ∧ (if 41 * u + i = 41 * t + A 56 t then x else A 57 (41 * u + i)) ≤ 3599) ∧ (0 ≤ (if 41 * u + i = 41 * t + A 56 t then h else A 58 (41 * u + i)) ∧ (if 41 * u + i = 41 * t + A 56 t then h else A 58 (41 * u + i)) ≤ 60) ∧ (0 ≤ (if 41 * u + i = 41 * t + A 56 t then A 42 3 else A 59 (41 * u + i)) ∧ (if 41 * u + i = 41 * t + A 56 t then A 42 3 else A 59 (41 * u + i)) ≤ A 42 3)
    by_cases e : 41 * u + i = 41 * t + A 56 t
    · rw [if_pos e, if_pos e, if_pos e]; omega
    · rw [if_neg e, if_neg e, if_neg e]
      refine k3 i hi0 ?_
      split at hi1
      · rename_i q
        subst q
        omega
      · exact hi1
theorem MI_meas {sz : Nat} {A : Nat → Int → Int} (H : MI sz A) {t : Int} (ht0 : 0 ≤ t) (ht1 : t < A 42 12) : MI sz (up A 62 t (A 42 3)) := by
  refine ⟨H.wide, H.high, H.cells, H.clock, H.sun, H.clouds, H.cloud, H.people, H.person, H.things, ?_, H.grants, H.grant, H.taped, H.tape, H.stalls, H.stall, H.walks⟩
  intro u hu0 hu1
  have hcl := H.clock
  have hu2 : u < A 42 12 := hu1
  obtain ⟨k1, k2, k3, k4, k5, k6, k7, k8, k9, k10⟩ := H.thing u hu0 hu2
  refine ⟨k1, k2, k3, k4, k5, k6, k7, k8, k9, ?_⟩
  have e : up A 62 t (A 42 3) 62 u = if u = t then A 42 3 else A 62 u := by simp [up]
  rw [e]
  show _ ∨ (A 52 u ≤ _ ∧ _ ≤ A 42 3)
  split <;> omega
/-- one entry less, as it was before -/
theorem MI_less {sz : Nat} {A : Nat → Int → Int} (H : MI sz A) {t v : Int} (ht0 : 0 ≤ t) (ht1 : t < A 42 12) (hv : 1 ≤ v) (hv2 : v ≤ A 56 t) : MI sz (up A 56 t v) := by
  refine ⟨H.wide, H.high, H.cells, H.clock, H.sun, H.clouds, H.cloud, H.people, H.person, H.things, ?_, H.grants, H.grant, H.taped, H.tape, H.stalls, H.stall, H.walks⟩
  intro u hu0 hu1
  have hu2 : u < A 42 12 := hu1
  obtain ⟨k1, k2, k3, k4, k5, k6, k7, k8, k9, k10⟩ := H.thing u hu0 hu2
  have e : up A 56 t v 56 u = if u = t then v else A 56 u := by simp [up]
  have e2 : up A 56 t v 56 u ≤ A 56 u := by rw [e]; split; (rename_i q; rw [q]; exact hv2); exact Int.le_refl _
  refine ⟨?_, k2, ?_, k4, k5, k6, k7, k8, k9, k10⟩
  · rw [e]; split <;> omega
  · intro i hi0 hi1
    exact k3 i hi0 (by omega)
set_option maxRecDepth 10000 in
set_option maxHeartbeats 2000000 in
theorem m_thing {d : Nat} {sz : Nat} {A : Nat → Int → Int} {σ : az_S} (hM : MV sz A σ) (hI : MI sz A) {t w : Int} (ht : inI t) (hw : inI w) : fn (d + 3) 203 [.ref 42, .int (iI t), .int (iI w)] σ (.int (iI (zit (0 ≤ t ∧ t ≤ A 42 12 - 1) (if w = 0 then A 49 t else if w = 1 then A 50 t else if w = 2 then A 51 t else if w = 3 then A 52 t else if w = 4 then A 56 t else if w = 5 then A 60 t else if w = 6 then A 62 t else if w = 7 then A 53 t else -1) (-1)))) := by
  obtain ⟨ht1, ht2⟩ := ht
  obtain ⟨hw1, hw2⟩ := hw
  have hth := hI.things
  refine fn_of (M := (yX12_thing, cX12_thing, 3, (some .int))) (cd := k_X12_thing) (L := [some (.ref 42), some (.int (iI t)), some (.int (iI w))]) rfl (Nat.le_of_ble_eq_true rfl) rfl rfl ?_
  refine aw_aload_n rfl rfl rfl ?_
  refine aw_iload_n rfl rfl rfl ?_
  refine aw_fnc (m_isThing hM hI ⟨by omega, by omega⟩) rfl rfl rfl (Nat.le_of_ble_eq_true rfl) (Or.inr ⟨_, rfl, (hM.f.k 42 rfl)⟩) rfl ?_
  refine aw_ifneb (p' := 10) rfl rfl rfl (fun c1 => ?_) (fun c1 => ?_)
  · refine aw_iload_n rfl rfl rfl ?_
    refine aw_tsb (p' := 56) 0 rfl rfl ⟨by omega, by omega⟩ (by omega) rfl (fun c2 => ?_) (fun c2 => ?_)
    · refine aw_aload_n rfl rfl rfl ?_
      refine aw_getr (b := 49) rfl rfl (hM.f.k 42 rfl) (hM.f.r 42 13 49 rfl) rfl ?_
      refine aw_iload_n rfl rfl rfl ?_
      refine aw_ap (N := 24) hM rfl (hM.f.s 49 rfl) (by omega) rfl (by omega) (by omega) rfl (fun _ _ => ?_)
      refine aw_reti rfl ?_
      refine ⟨?_, rfl⟩
      first | rw [zit_f (by omega)] | (rw [zit_t (by omega)]; repeat (first | rw [if_pos (by omega)] | rw [if_neg (by omega)]))
    refine aw_tsb (p' := 63) 1 rfl rfl ⟨by omega, by omega⟩ (by omega) rfl (fun c3 => ?_) (fun c3 => ?_)
    · refine aw_aload_n rfl rfl rfl ?_
      refine aw_getr (b := 50) rfl rfl (hM.f.k 42 rfl) (hM.f.r 42 14 50 rfl) rfl ?_
      refine aw_iload_n rfl rfl rfl ?_
      refine aw_ap (N := 24) hM rfl (hM.f.s 50 rfl) (by omega) rfl (by omega) (by omega) rfl (fun _ _ => ?_)
      refine aw_reti rfl ?_
      refine ⟨?_, rfl⟩
      first | rw [zit_f (by omega)] | (rw [zit_t (by omega)]; repeat (first | rw [if_pos (by omega)] | rw [if_neg (by omega)]))
    refine aw_tsb (p' := 70) 2 rfl rfl ⟨by omega, by omega⟩ (by omega) rfl (fun c4 => ?_) (fun c4 => ?_)
    · refine aw_aload_n rfl rfl rfl ?_
      refine aw_getr (b := 51) rfl rfl (hM.f.k 42 rfl) (hM.f.r 42 15 51 rfl) rfl ?_
      refine aw_iload_n rfl rfl rfl ?_
      refine aw_ap (N := 24) hM rfl (hM.f.s 51 rfl) (by omega) rfl (by omega) (by omega) rfl (fun _ _ => ?_)
      refine aw_reti rfl ?_
      refine ⟨?_, rfl⟩
      first | rw [zit_f (by omega)] | (rw [zit_t (by omega)]; repeat (first | rw [if_pos (by omega)] | rw [if_neg (by omega)]))
    refine aw_tsb (p' := 77) 3 rfl rfl ⟨by omega, by omega⟩ (by omega) rfl (fun c5 => ?_) (fun c5 => ?_)
    · refine aw_aload_n rfl rfl rfl ?_
      refine aw_getr (b := 52) rfl rfl (hM.f.k 42 rfl) (hM.f.r 42 16 52 rfl) rfl ?_
      refine aw_iload_n rfl rfl rfl ?_
      refine aw_ap (N := 24) hM rfl (hM.f.s 52 rfl) (by omega) rfl (by omega) (by omega) rfl (fun _ _ => ?_)
      refine aw_reti rfl ?_
      refine ⟨?_, rfl⟩
      first | rw [zit_f (by omega)] | (rw [zit_t (by omega)]; repeat (first | rw [if_pos (by omega)] | rw [if_neg (by omega)]))
    refine aw_tsb (p' := 84) 4 rfl rfl ⟨by omega, by omega⟩ (by omega) rfl (fun c6 => ?_) (fun c6 => ?_)
    · refine aw_aload_n rfl rfl rfl ?_
      refine aw_getr (b := 56) rfl rfl (hM.f.k 42 rfl) (hM.f.r 42 20 56 rfl) rfl ?_
      refine aw_iload_n rfl rfl rfl ?_
      refine aw_ap (N := 24) hM rfl (hM.f.s 56 rfl) (by omega) rfl (by omega) (by omega) rfl (fun _ _ => ?_)
      refine aw_reti rfl ?_
      refine ⟨?_, rfl⟩
      first | rw [zit_f (by omega)] | (rw [zit_t (by omega)]; repeat (first | rw [if_pos (by omega)] | rw [if_neg (by omega)]))
    refine aw_tsb (p' := 91) 5 rfl rfl ⟨by omega, by omega⟩ (by omega) rfl (fun c7 => ?_) (fun c7 => ?_)
    · refine aw_aload_n rfl rfl rfl ?_
      refine aw_getr (b := 60) rfl rfl (hM.f.k 42 rfl) (hM.f.r 42 24 60 rfl) rfl ?_
      refine aw_iload_n rfl rfl rfl ?_
      refine aw_ap (N := 24) hM rfl (hM.f.s 60 rfl) (by omega) rfl (by omega) (by omega) rfl (fun _ _ => ?_)
      refine aw_reti rfl ?_
      refine ⟨?_, rfl⟩
      first | rw [zit_f (by omega)] | (rw [zit_t (by omega)]; repeat (first | rw [if_pos (by omega)] | rw [if_neg (by omega)]))
    refine aw_tsb (p' := 98) 6 rfl rfl ⟨by omega, by omega⟩ (by omega) rfl (fun c8 => ?_) (fun c8 => ?_)
    · refine aw_aload_n rfl rfl rfl ?_
      refine aw_getr (b := 62) rfl rfl (hM.f.k 42 rfl) (hM.f.r 42 26 62 rfl) rfl ?_
      refine aw_iload_n rfl rfl rfl ?_
      refine aw_ap (N := 24) hM rfl (hM.f.s 62 rfl) (by omega) rfl (by omega) (by omega) rfl (fun _ _ => ?_)
      refine aw_reti rfl ?_
      refine ⟨?_, rfl⟩
      first | rw [zit_f (by omega)] | (rw [zit_t (by omega)]; repeat (first | rw [if_pos (by omega)] | rw [if_neg (by omega)]))
    refine aw_tsb (p' := 105) 7 rfl rfl ⟨by omega, by omega⟩ (by omega) rfl (fun c9 => ?_) (fun c9 => ?_)
    · refine aw_aload_n rfl rfl rfl ?_
      refine aw_getr (b := 53) rfl rfl (hM.f.k 42 rfl) (hM.f.r 42 17 53 rfl) rfl ?_
      refine aw_iload_n rfl rfl rfl ?_
      refine aw_ap (N := 24) hM rfl (hM.f.s 53 rfl) (by omega) rfl (by omega) (by omega) rfl (fun _ _ => ?_)
      refine aw_reti rfl ?_
      refine ⟨?_, rfl⟩
      first | rw [zit_f (by omega)] | (rw [zit_t (by omega)]; repeat (first | rw [if_pos (by omega)] | rw [if_neg (by omega)]))
    refine aw_tsd (p' := 112) rfl ⟨by omega, by omega⟩ (by omega) rfl ?_
    refine aw_iconst rfl rfl ?_
    refine aw_reti rfl ?_
    refine ⟨?_, rfl⟩
    first | rw [zit_f (by omega)] | (rw [zit_t (by omega)]; repeat (first | rw [if_pos (by omega)] | rw [if_neg (by omega)]))
  · refine aw_iconst rfl rfl ?_
    refine aw_reti rfl ?_
    refine ⟨?_, rfl⟩
    first | rw [zit_f (by omega)] | (rw [zit_t (by omega)]; repeat (first | rw [if_pos (by omega)] | rw [if_neg (by omega)]))
set_option maxRecDepth 10000 in
set_option maxHeartbeats 2000000 in
theorem m_entry {d : Nat} {sz : Nat} {A : Nat → Int → Int} {σ : az_S} (hM : MV sz A σ) (hI : MI sz A) {t i w : Int} (ht : inI t) (hi : inI i) (hw : inI w) : fn (d + 3) 204 [.ref 42, .int (iI t), .int (iI i), .int (iI w)] σ (.int (iI (zit ((0 ≤ t ∧ t ≤ A 42 12 - 1) ∧ (0 ≤ i ∧ i ≤ A 56 t - 1)) (if w = 0 then A 57 (41 * t + i) else if w = 1 then A 58 (41 * t + i) else if w = 2 then A 59 (41 * t + i) else -1) (-1)))) := by
  obtain ⟨ht1, ht2⟩ := ht
  obtain ⟨hi1, hi2⟩ := hi
  obtain ⟨hw1, hw2⟩ := hw
  have hth := hI.things
  have hcl := hI.clock
  have hT := fun q1 q2 => hI.thing t q1 q2
  refine fn_of (M := (yX12_entry, cX12_entry, 5, (some .int))) (cd := k_X12_entry) (L := [some (.ref 42), some (.int (iI t)), some (.int (iI i)), some (.int (iI w)), none]) rfl (Nat.le_of_ble_eq_true rfl) rfl rfl ?_
  refine aw_aload_n rfl rfl rfl ?_
  refine aw_iload_n rfl rfl rfl ?_
  refine aw_fnc (m_isThing hM hI ⟨by omega, by omega⟩) rfl rfl rfl (Nat.le_of_ble_eq_true rfl) (Or.inr ⟨_, rfl, (hM.f.k 42 rfl)⟩) rfl ?_
  refine aw_ifeqb (p' := 26) rfl rfl rfl (fun c1 => ?_) (fun c1 => ?_)
  · refine aw_iconst rfl rfl ?_
    refine aw_reti rfl ?_
    refine ⟨?_, rfl⟩
    first | rw [zit_f (by omega)] | (rw [zit_t (by omega)]; repeat (first | rw [if_pos (by omega)] | rw [if_neg (by omega)]))
  · have hT := hT (by omega) (by omega)
    obtain ⟨he, -⟩ := hT
    refine aw_iload_n rfl rfl rfl ?_
    refine aw_i2l rfl ⟨by omega, by omega⟩ rfl ?_
    refine aw_lconst 0 rfl rfl rfl ?_
    refine aw_aload_n rfl rfl rfl ?_
    refine aw_getr (b := 56) rfl rfl (hM.f.k 42 rfl) (hM.f.r 42 20 56 rfl) rfl ?_
    refine aw_iload_n rfl rfl rfl ?_
    refine aw_ap (N := 24) hM rfl (hM.f.s 56 rfl) (by omega) rfl (by omega) (by omega) rfl (fun _ _ => ?_)
    refine aw_iconst rfl rfl ?_
    refine aw_isub rfl rfl ?_
    refine aw_i2l rfl ⟨by omega, by omega⟩ rfl ?_
    refine aw_fnc (m_in ⟨by omega, by omega⟩ ⟨by omega, by omega⟩ ⟨by omega, by omega⟩) rfl rfl rfl (Nat.le_of_ble_eq_true rfl) (Or.inl rfl) rfl ?_
    refine aw_ifneb (p' := 28) rfl rfl rfl (fun c2 => ?_) (fun c2 => ?_)
    · refine aw_bipush rfl rfl rfl ?_
      refine aw_iload_n rfl rfl rfl ?_
      refine aw_imul rfl rfl ?_
      refine aw_iload_n rfl rfl rfl ?_
      refine aw_iadd rfl rfl ?_
      refine aw_istore rfl (Nat.le_of_ble_eq_true rfl) rfl rfl ?_
      change aw _ _ _ _ 36 [some (.ref 42), some (.int (iI _)), some (.int (iI _)), some (.int (iI _)), some (.int (iI _))] _ _
      refine aw_iload_n rfl rfl rfl ?_
      refine aw_if (p' := 50) rfl ⟨by omega, by omega⟩ rfl rfl (fun c3 => ?_) (fun c3 => ?_)
      · dsimp only [zc] at c3
        refine aw_iload_n rfl rfl rfl ?_
        refine aw_iconst rfl rfl ?_
        refine aw_icmp (p' := 65) rfl ⟨by omega, by omega⟩ ⟨by omega, by omega⟩ rfl rfl (fun c4 => ?_) (fun c4 => ?_)
        · dsimp only [zc] at c4
          refine aw_iload_n rfl rfl rfl ?_
          refine aw_iconst rfl rfl ?_
          refine aw_icmp (p' := 80) rfl ⟨by omega, by omega⟩ ⟨by omega, by omega⟩ rfl rfl (fun c5 => ?_) (fun c5 => ?_)
          · dsimp only [zc] at c5
            refine aw_iconst rfl rfl ?_
            refine aw_reti rfl ?_
            refine ⟨?_, rfl⟩
            first | rw [zit_f (by omega)] | (rw [zit_t (by omega)]; repeat (first | rw [if_pos (by omega)] | rw [if_neg (by omega)]))
          · dsimp only [zc] at c5
            refine aw_aload_n rfl rfl rfl ?_
            refine aw_getr (b := 59) rfl rfl (hM.f.k 42 rfl) (hM.f.r 42 23 59 rfl) rfl ?_
            refine aw_iload rfl rfl rfl ?_
            refine aw_ap (N := 984) hM rfl (hM.f.s 59 rfl) (by omega) rfl (by omega) (by omega) rfl (fun _ _ => ?_)
            refine aw_goto (p' := 81) rfl rfl ?_
            refine aw_reti rfl ?_
            refine ⟨?_, rfl⟩
            first | rw [zit_f (by omega)] | (rw [zit_t (by omega)]; repeat (first | rw [if_pos (by omega)] | rw [if_neg (by omega)]))
        · dsimp only [zc] at c4
          refine aw_aload_n rfl rfl rfl ?_
          refine aw_getr (b := 58) rfl rfl (hM.f.k 42 rfl) (hM.f.r 42 22 58 rfl) rfl ?_
          refine aw_iload rfl rfl rfl ?_
          refine aw_ap (N := 984) hM rfl (hM.f.s 58 rfl) (by omega) rfl (by omega) (by omega) rfl (fun _ _ => ?_)
          refine aw_goto (p' := 81) rfl rfl ?_
          refine aw_reti rfl ?_
          refine ⟨?_, rfl⟩
          first | rw [zit_f (by omega)] | (rw [zit_t (by omega)]; repeat (first | rw [if_pos (by omega)] | rw [if_neg (by omega)]))
      · dsimp only [zc] at c3
        refine aw_aload_n rfl rfl rfl ?_
        refine aw_getr (b := 57) rfl rfl (hM.f.k 42 rfl) (hM.f.r 42 21 57 rfl) rfl ?_
        refine aw_iload rfl rfl rfl ?_
        refine aw_ap (N := 984) hM rfl (hM.f.s 57 rfl) (by omega) rfl (by omega) (by omega) rfl (fun _ _ => ?_)
        refine aw_goto (p' := 81) rfl rfl ?_
        refine aw_reti rfl ?_
        refine ⟨?_, rfl⟩
        first | rw [zit_f (by omega)] | (rw [zit_t (by omega)]; repeat (first | rw [if_pos (by omega)] | rw [if_neg (by omega)]))
    · refine aw_iconst rfl rfl ?_
      refine aw_reti rfl ?_
      refine ⟨?_, rfl⟩
      first | rw [zit_f (by omega)] | (rw [zit_t (by omega)]; repeat (first | rw [if_pos (by omega)] | rw [if_neg (by omega)]))
noncomputable def mYear (A : Nat → Int → Int) (p x y : Int) : Int := sumN (fun k => mDay A p (x + 30 * k) y) 12
noncomputable def mBillOk (A : Nat → Int → Int) (t h x p : Int) : Prop := (0 ≤ t ∧ t ≤ A 42 12 - 1) ∧ (0 ≤ h ∧ h ≤ 60) ∧ (A 52 t ≤ x ∧ x ≤ 3269) ∧ (0 ≤ p ∧ p ≤ A 42 9 - 1) ∧ 0 ≤ mH A t x (A 42 3)
noncomputable def m_bill_op (A : Nat → Int → Int) (t h x p : Int) : Nat → Int → Int := tit (mBillOk A t h x p) (up (mEnter A t x h) 56 t (A 56 t)) A
noncomputable def mBill (A : Nat → Int → Int) (t h x p : Int) : Int := zit (mBillOk A t h x p) (30 * (mYear (mEnter A t x h) p x (A 42 3) - mYear A p x (A 42 3))) 0
set_option maxRecDepth 10000 in
set_option maxHeartbeats 2000000 in
theorem m_bill_l113 {d : Nat} {sz : Nat} {A : Nat → Int → Int} {σ : az_S} (hM : MV sz A σ) (hI : MI sz A) {t h x p : Int} (ht : inI t) (hh : inI h) (hx : inI x) (hp : inI p) (hE : ∀ t : Int, 0 ≤ t → t < A 42 12 → A 56 t ≤ 40) : ∀ (n : Nat) (τ : az_S) (k s : Int), (12 - k).toNat = n → mBillOk A t h x p → MV sz (mEnter A t x h) τ → Mod σ τ [56, 57, 58, 59, 88, 89, 90, 91, 92, 93] → 0 ≤ k → k ≤ 12 → s = - mYear A p x (A 42 3) + sumN (fun k => mDay (mEnter A t x h) p (x + 30 * k) (A 42 3)) k.toNat → aw (d + 5) k_X12_bill (some .long) (fun r τ => r = some (.long (lI (mBill A t h x p))) ∧ MV sz (m_bill_op A t h x p) τ ∧ Mod σ τ [56, 57, 58, 59, 88, 89, 90, 91, 92, 93]) 113 [some (.ref 42), some (.int (iI t)), some (.int (iI h)), some (.int (iI x)), some (.int (iI p)), some (.long (lI s)), none, some (.int (iI k))] [] τ := by
  intro n
  induction n using Nat.strongRecOn with
  | ind n ih =>
    intro τ k s hn hok hN hD hk0 hk1 hs
    obtain ⟨ht1, ht2⟩ := ht
    obtain ⟨hh1, hh2⟩ := hh
    obtain ⟨hx1, hx2⟩ := hx
    obtain ⟨hp1, hp2⟩ := hp
    have hth := hI.things
    have hcl := hI.clock
    have hT := fun q1 q2 => hI.thing t q1 q2
    have hpe := hI.people
    have hok2 := hok
    obtain ⟨o1, o2, o3, o4, o5⟩ := hok2
    obtain ⟨he, -, -, -, -, -, hsi, -⟩ := hT (by omega) (by omega)
    have h40 := hE t (by omega) (by omega)
    have hJ := MI_enter (t := t) (x := x) (h := h) hI (by omega) (by omega) h40 (by omega) (by omega) (by omega) (by omega)
    refine aw_iload rfl rfl rfl ?_
    refine aw_bipush rfl rfl rfl ?_
    refine aw_icmp (p' := 148) rfl ⟨by omega, by omega⟩ ⟨by omega, by omega⟩ rfl rfl (fun c1 => ?_) (fun c1 => ?_)
    · dsimp only [zc] at c1
      refine aw_aload_n rfl rfl rfl ?_
      refine aw_getr (b := 56) rfl rfl (hN.f.k 42 rfl) (hN.f.r 42 20 56 rfl) rfl ?_
      refine aw_iload_n rfl rfl rfl ?_
      refine aw_dup2 rfl rfl rfl rfl ?_
      refine aw_apv (v := (A 56 t + 1)) (N := 24) hN rfl (hN.f.s 56 rfl) (by omega) rfl (by omega) (by omega) (by first | (simp [up, mEnter, mStands, mStands0]; done) | assumption) rfl (fun _ _ => ?_)
      refine aw_iconst rfl rfl ?_
      refine aw_isub rfl rfl ?_
      refine aw_sp (N := 24) hN rfl (hN.f.s 56 rfl) (by omega) rfl (by omega) (by omega) ⟨by omega, by omega⟩ rfl (fun τ2 hM2 hD2 => ?_)
      refine aw_ldc2 (30) rfl rfl rfl ?_
      refine aw_lload rfl rfl rfl ?_
      refine aw_lmul rfl rfl ?_
      refine aw_retl rfl ?_
      refine ⟨?_, ?_, ((hD.su (T := [56, 57, 58, 59, 88, 89, 90, 91, 92, 93]) rfl).tr (hD2.su (T := [56, 57, 58, 59, 88, 89, 90, 91, 92, 93]) rfl))⟩
      · unfold mBill; rw [zit_t hok, hs, show k = 12 by omega]; unfold mYear; congr 4; simp; omega
      · unfold m_bill_op; rw [tit_t hok]; rw [show A 56 t + 1 - 1 = A 56 t by omega] at hM2; exact hM2
    · dsimp only [zc] at c1
      refine aw_lload rfl rfl rfl ?_
      refine aw_aload_n rfl rfl rfl ?_
      refine aw_iload rfl rfl rfl ?_
      refine aw_iload_n rfl rfl rfl ?_
      refine aw_bipush rfl rfl rfl ?_
      refine aw_iload rfl rfl rfl ?_
      refine aw_imul rfl rfl ?_
      refine aw_iadd rfl rfl ?_
      refine aw_aload_n rfl rfl rfl ?_
      refine aw_gpv (v := A 42 3) (3) hN rfl rfl (hN.f.k 42 rfl) rfl (by first | (simp [up, mEnter, mStands, mStands0]; done) | assumption) rfl (fun _ _ => ?_)
      refine aw_calc (m_partsOn (y := A 42 3) hN hJ ⟨by omega, by omega⟩ (by omega) (by omega) (by omega) (by omega)) rfl rfl rfl (Nat.le_of_ble_eq_true rfl) (Or.inr ⟨_, rfl, (hN.f.k 42 rfl)⟩) rfl ?_
      rintro _ τ3 ⟨rfl, hM3, hD3⟩
      change aw _ _ _ _ 139 [some (.ref 42), some (.int (iI _)), some (.int (iI _)), some (.int (iI _)), some (.int (iI _)), some (.long (lI _)), none, some (.int (iI _))] [.long (lI _), .long (lI _)] _
      refine aw_ladd rfl rfl ?_
      refine aw_lstore rfl (Nat.le_of_ble_eq_true rfl) rfl rfl ?_
      change aw _ _ _ _ 142 [some (.ref 42), some (.int (iI _)), some (.int (iI _)), some (.int (iI _)), some (.int (iI _)), some (.long (lI _)), none, some (.int (iI _))] _ _
      refine aw_iinc rfl rfl rfl rfl ?_
      change aw _ _ _ _ 145 [some (.ref 42), some (.int (iI _)), some (.int (iI _)), some (.int (iI _)), some (.int (iI _)), some (.long (lI _)), none, some (.int (iI _))] _ _
      refine aw_goto (p' := 113) rfl rfl ?_
      refine ih _ (by omega) _ _ _ rfl hok hM3 ((hD.su (T := [56, 57, 58, 59, 88, 89, 90, 91, 92, 93]) rfl).tr (hD3.su (T := [56, 57, 58, 59, 88, 89, 90, 91, 92, 93]) rfl)) (by omega) (by omega) ?_
      have hq := sumN_s (f := fun k => mDay (mEnter A t x h) p (x + 30 * k) (A 42 3)) hk0
      rw [hq, hs]; omega
set_option maxRecDepth 10000 in
set_option maxHeartbeats 2000000 in
theorem m_bill_l68 {d : Nat} {sz : Nat} {A : Nat → Int → Int} {σ : az_S} (hM : MV sz A σ) (hI : MI sz A) {t h x p : Int} (ht : inI t) (hh : inI h) (hx : inI x) (hp : inI p) (hE : ∀ t : Int, 0 ≤ t → t < A 42 12 → A 56 t ≤ 40) : ∀ (n : Nat) (τ : az_S) (k s : Int), (12 - k).toNat = n → mBillOk A t h x p → MV sz A τ → Mod σ τ [56, 57, 58, 59, 88, 89, 90, 91, 92, 93] → 0 ≤ k → k ≤ 12 → s = - sumN (fun k => mDay A p (x + 30 * k) (A 42 3)) k.toNat → aw (d + 5) k_X12_bill (some .long) (fun r τ => r = some (.long (lI (mBill A t h x p))) ∧ MV sz (m_bill_op A t h x p) τ ∧ Mod σ τ [56, 57, 58, 59, 88, 89, 90, 91, 92, 93]) 68 [some (.ref 42), some (.int (iI t)), some (.int (iI h)), some (.int (iI x)), some (.int (iI p)), some (.long (lI s)), none, some (.int (iI k))] [] τ := by
  intro n
  induction n using Nat.strongRecOn with
  | ind n ih =>
    intro τ k s hn hok hN hD hk0 hk1 hs
    obtain ⟨ht1, ht2⟩ := ht
    obtain ⟨hh1, hh2⟩ := hh
    obtain ⟨hx1, hx2⟩ := hx
    obtain ⟨hp1, hp2⟩ := hp
    have hth := hI.things
    have hcl := hI.clock
    have hT := fun q1 q2 => hI.thing t q1 q2
    have hpe := hI.people
    have hok2 := hok
    obtain ⟨o1, o2, o3, o4, o5⟩ := hok2
    obtain ⟨he, -, -, -, -, -, hsi, -⟩ := hT (by omega) (by omega)
    have h40 := hE t (by omega) (by omega)
    refine aw_iload rfl rfl rfl ?_
    refine aw_bipush rfl rfl rfl ?_
    refine aw_icmp (p' := 103) rfl ⟨by omega, by omega⟩ ⟨by omega, by omega⟩ rfl rfl (fun c4 => ?_) (fun c4 => ?_)
    · dsimp only [zc] at c4
      refine aw_aload_n rfl rfl rfl ?_
      refine aw_iload_n rfl rfl rfl ?_
      refine aw_iload_n rfl rfl rfl ?_
      refine aw_iload_n rfl rfl rfl ?_
      refine aw_calc (m_enters hN (by omega) (by omega) (by omega) (by omega) ⟨by omega, by omega⟩ ⟨by omega, by omega⟩) rfl rfl rfl (Nat.le_of_ble_eq_true rfl) (Or.inr ⟨_, rfl, (hN.f.k 42 rfl)⟩) rfl ?_
      rintro _ τ5 ⟨rfl, hM5, hD5⟩
      change aw _ _ _ _ 110 [some (.ref 42), some (.int (iI _)), some (.int (iI _)), some (.int (iI _)), some (.int (iI _)), some (.long (lI _)), none, some (.int (iI _))] [] _
      refine aw_iconst rfl rfl ?_
      refine aw_istore rfl (Nat.le_of_ble_eq_true rfl) rfl rfl ?_
      change aw _ _ _ _ 113 [some (.ref 42), some (.int (iI _)), some (.int (iI _)), some (.int (iI _)), some (.int (iI _)), some (.long (lI _)), none, some (.int (iI _))] _ _
      exact m_bill_l113 hM hI ⟨ht1, ht2⟩ ⟨hh1, hh2⟩ ⟨hx1, hx2⟩ ⟨hp1, hp2⟩ hE _ _ 0 _ rfl hok hM5 ((hD.su (T := [56, 57, 58, 59, 88, 89, 90, 91, 92, 93]) rfl).tr (hD5.su (T := [56, 57, 58, 59, 88, 89, 90, 91, 92, 93]) rfl)) (by omega) (by omega) (by rw [hs, show k = 12 by omega]; unfold mYear; simp [sumN])
    · dsimp only [zc] at c4
      refine aw_lload rfl rfl rfl ?_
      refine aw_aload_n rfl rfl rfl ?_
      refine aw_iload rfl rfl rfl ?_
      refine aw_iload_n rfl rfl rfl ?_
      refine aw_bipush rfl rfl rfl ?_
      refine aw_iload rfl rfl rfl ?_
      refine aw_imul rfl rfl ?_
      refine aw_iadd rfl rfl ?_
      refine aw_aload_n rfl rfl rfl ?_
      refine aw_gp (3) hN rfl rfl (hN.f.k 42 rfl) rfl rfl (fun _ _ => ?_)
      refine aw_calc (m_partsOn hN hI ⟨by omega, by omega⟩ (by omega) (by omega) (by omega) (by omega)) rfl rfl rfl (Nat.le_of_ble_eq_true rfl) (Or.inr ⟨_, rfl, (hN.f.k 42 rfl)⟩) rfl ?_
      rintro _ τ6 ⟨rfl, hM6, hD6⟩
      change aw _ _ _ _ 94 [some (.ref 42), some (.int (iI _)), some (.int (iI _)), some (.int (iI _)), some (.int (iI _)), some (.long (lI _)), none, some (.int (iI _))] [.long (lI _), .long (lI _)] _
      refine aw_lsub rfl rfl ?_
      refine aw_lstore rfl (Nat.le_of_ble_eq_true rfl) rfl rfl ?_
      change aw _ _ _ _ 97 [some (.ref 42), some (.int (iI _)), some (.int (iI _)), some (.int (iI _)), some (.int (iI _)), some (.long (lI _)), none, some (.int (iI _))] _ _
      refine aw_iinc rfl rfl rfl rfl ?_
      change aw _ _ _ _ 100 [some (.ref 42), some (.int (iI _)), some (.int (iI _)), some (.int (iI _)), some (.int (iI _)), some (.long (lI _)), none, some (.int (iI _))] _ _
      refine aw_goto (p' := 68) rfl rfl ?_
      refine ih _ (by omega) _ _ _ rfl hok hM6 ((hD.su (T := [56, 57, 58, 59, 88, 89, 90, 91, 92, 93]) rfl).tr (hD6.su (T := [56, 57, 58, 59, 88, 89, 90, 91, 92, 93]) rfl)) (by omega) (by omega) ?_
      have hq := sumN_s (f := fun k => mDay A p (x + 30 * k) (A 42 3)) hk0
      rw [hq, hs]; omega
set_option maxRecDepth 10000 in
set_option maxHeartbeats 2000000 in
theorem m_bill {d : Nat} {sz : Nat} {A : Nat → Int → Int} {σ : az_S} (hM : MV sz A σ) (hI : MI sz A) {t h x p : Int} (ht : inI t) (hh : inI h) (hx : inI x) (hp : inI p) (hE : ∀ t : Int, 0 ≤ t → t < A 42 12 → A 56 t ≤ 40) : cal (d + 6) 200 [.ref 42, .int (iI t), .int (iI h), .int (iI x), .int (iI p)] σ (fun r τ => r = some (.long (lI (mBill A t h x p))) ∧ MV sz (m_bill_op A t h x p) τ ∧ Mod σ τ [56, 57, 58, 59, 88, 89, 90, 91, 92, 93]) := by
  obtain ⟨ht1, ht2⟩ := ht
  obtain ⟨hh1, hh2⟩ := hh
  obtain ⟨hx1, hx2⟩ := hx
  obtain ⟨hp1, hp2⟩ := hp
  have hth := hI.things
  have hcl := hI.clock
  have hT := fun q1 q2 => hI.thing t q1 q2
  have hpe := hI.people
  refine cal_of (M := (yX12_bill, cX12_bill, 8, (some .long))) (cd := k_X12_bill) (L := [some (.ref 42), some (.int (iI t)), some (.int (iI h)), some (.int (iI x)), some (.int (iI p)), none, none, none]) rfl (Nat.le_of_ble_eq_true rfl) rfl rfl ?_
  refine aw_aload_n rfl rfl rfl ?_
  refine aw_iload_n rfl rfl rfl ?_
  refine aw_fnc (m_isThing hM hI ⟨by omega, by omega⟩) rfl rfl rfl (Nat.le_of_ble_eq_true rfl) (Or.inr ⟨_, rfl, (hM.f.k 42 rfl)⟩) rfl ?_
  refine aw_ifeqb (p' := 60) rfl rfl rfl (fun c7 => ?_) (fun c7 => ?_)
  · refine aw_lconst 0 rfl rfl rfl ?_
    refine aw_retl rfl ?_
    refine ⟨?_, ?_, Mod.rf⟩
    · unfold mBill; rw [zit_f (by rintro ⟨o1, o2, o3, o4, o5⟩; omega)]
    · unfold m_bill_op; rw [tit_f (by rintro ⟨o1, o2, o3, o4, o5⟩; omega)]; exact hM
  · have hT2 := hT (by omega) (by omega)
    obtain ⟨he, -, -, hkg, -, -, hsi, -, hfd, hme⟩ := hT2
    refine aw_iload_n rfl rfl rfl ?_
    refine aw_i2l rfl ⟨by omega, by omega⟩ rfl ?_
    refine aw_lconst 0 rfl rfl rfl ?_
    refine aw_ldc2 (60) rfl rfl rfl ?_
    refine aw_fnc (m_in ⟨by omega, by omega⟩ ⟨by omega, by omega⟩ ⟨by omega, by omega⟩) rfl rfl rfl (Nat.le_of_ble_eq_true rfl) (Or.inl rfl) rfl ?_
    refine aw_ifeqb (p' := 60) rfl rfl rfl (fun c8 => ?_) (fun c8 => ?_)
    · refine aw_lconst 0 rfl rfl rfl ?_
      refine aw_retl rfl ?_
      refine ⟨?_, ?_, Mod.rf⟩
      · unfold mBill; rw [zit_f (by rintro ⟨o1, o2, o3, o4, o5⟩; omega)]
      · unfold m_bill_op; rw [tit_f (by rintro ⟨o1, o2, o3, o4, o5⟩; omega)]; exact hM
    · refine aw_iload_n rfl rfl rfl ?_
      refine aw_i2l rfl ⟨by omega, by omega⟩ rfl ?_
      refine aw_aload_n rfl rfl rfl ?_
      refine aw_getr (b := 52) rfl rfl (hM.f.k 42 rfl) (hM.f.r 42 16 52 rfl) rfl ?_
      refine aw_iload_n rfl rfl rfl ?_
      refine aw_ap (N := 24) hM rfl (hM.f.s 52 rfl) (by omega) rfl (by omega) (by omega) rfl (fun _ _ => ?_)
      refine aw_i2l rfl ⟨by omega, by omega⟩ rfl ?_
      refine aw_ldc2 (3269) rfl rfl rfl ?_
      refine aw_fnc (m_in ⟨by omega, by omega⟩ ⟨by omega, by omega⟩ ⟨by omega, by omega⟩) rfl rfl rfl (Nat.le_of_ble_eq_true rfl) (Or.inl rfl) rfl ?_
      refine aw_ifeqb (p' := 60) rfl rfl rfl (fun c9 => ?_) (fun c9 => ?_)
      · refine aw_lconst 0 rfl rfl rfl ?_
        refine aw_retl rfl ?_
        refine ⟨?_, ?_, Mod.rf⟩
        · unfold mBill; rw [zit_f (by rintro ⟨o1, o2, o3, o4, o5⟩; omega)]
        · unfold m_bill_op; rw [tit_f (by rintro ⟨o1, o2, o3, o4, o5⟩; omega)]; exact hM
      · refine aw_aload_n rfl rfl rfl ?_
        refine aw_iload rfl rfl rfl ?_
        refine aw_fnc (m_isPerson hM hI ⟨by omega, by omega⟩) rfl rfl rfl (Nat.le_of_ble_eq_true rfl) (Or.inr ⟨_, rfl, (hM.f.k 42 rfl)⟩) rfl ?_
        refine aw_ifeqb (p' := 60) rfl rfl rfl (fun c10 => ?_) (fun c10 => ?_)
        · refine aw_lconst 0 rfl rfl rfl ?_
          refine aw_retl rfl ?_
          refine ⟨?_, ?_, Mod.rf⟩
          · unfold mBill; rw [zit_f (by rintro ⟨o1, o2, o3, o4, o5⟩; omega)]
          · unfold m_bill_op; rw [tit_f (by rintro ⟨o1, o2, o3, o4, o5⟩; omega)]; exact hM
        · refine aw_aload_n rfl rfl rfl ?_
          refine aw_iload_n rfl rfl rfl ?_
          refine aw_iload_n rfl rfl rfl ?_
          refine aw_aload_n rfl rfl rfl ?_
          refine aw_gp (3) hM rfl rfl (hM.f.k 42 rfl) rfl rfl (fun _ _ => ?_)
          refine aw_fnc (m_heightOf hM hI (by omega) (by omega) (by omega) (by omega) (by omega) (by omega)) rfl rfl rfl (Nat.le_of_ble_eq_true rfl) (Or.inr ⟨_, rfl, (hM.f.k 42 rfl)⟩) rfl ?_
          have hrH11 := mH_range (hI.thing t (by omega) (by omega)) x (A 42 3)
          refine aw_if (p' := 62) rfl ⟨by omega, by omega⟩ rfl rfl (fun c12 => ?_) (fun c12 => ?_)
          · dsimp only [zc] at c12
            refine aw_lconst 0 rfl rfl rfl ?_
            refine aw_lstore rfl (Nat.le_of_ble_eq_true rfl) rfl rfl ?_
            change aw _ _ _ _ 65 [some (.ref 42), some (.int (iI _)), some (.int (iI _)), some (.int (iI _)), some (.int (iI _)), some (.long (lI _)), none, none] _ _
            refine aw_iconst rfl rfl ?_
            refine aw_istore rfl (Nat.le_of_ble_eq_true rfl) rfl rfl ?_
            change aw _ _ _ _ 68 [some (.ref 42), some (.int (iI _)), some (.int (iI _)), some (.int (iI _)), some (.int (iI _)), some (.long (lI _)), none, some (.int (iI _))] _ _
            exact m_bill_l68 hM hI ⟨ht1, ht2⟩ ⟨hh1, hh2⟩ ⟨hx1, hx2⟩ ⟨hp1, hp2⟩ hE _ _ 0 0 rfl ⟨by omega, by omega, by omega, by omega, by omega⟩ hM Mod.rf (by omega) (by omega) rfl
          · dsimp only [zc] at c12
            refine aw_lconst 0 rfl rfl rfl ?_
            refine aw_retl rfl ?_
            refine ⟨?_, ?_, Mod.rf⟩
            · unfold mBill; rw [zit_f (by rintro ⟨o1, o2, o3, o4, o5⟩; omega)]
            · unfold m_bill_op; rw [tit_f (by rintro ⟨o1, o2, o3, o4, o5⟩; omega)]; exact hM
