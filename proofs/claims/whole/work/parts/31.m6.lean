noncomputable def tit (p : Prop) (A B : Nat → Int → Int) : Nat → Int → Int := @ite _ p (Classical.propDecidable p) A B
theorem tit_t {p : Prop} {A B : Nat → Int → Int} (h : p) : tit p A B = A := if_pos h
theorem tit_f {p : Prop} {A B : Nat → Int → Int} (h : ¬ p) : tit p A B = B := if_neg h
section AwTab
variable {d : Nat} {cd : List az_I} {rt : Option FieldType} {P : Option Value → az_S → Prop} {pc p' : Nat} {L : az_V} {st : List Value} {σ : az_S} {sz : Nat} {A : Nat → Int → Int}
theorem aw_gpv {i ci k a : Nat} {v : Int} (j : Int) (hM : MV sz A σ) (hf : az_fetch cd pc = some (3, .getfield i, [ci, k])) (hk : az_ft ci k = 0) (hs : (az_sh σ a).1 = ci) (hj : V σ a j = zi σ a k) (hv : A a j = v) (hp : pc + 3 = p') (h : -2147483648 ≤ v → v < 2147483648 → aw d cd rt P p' L (.int (iI v) :: st) σ) : aw d cd rt P pc L (.ref a :: st) σ := by
  subst hv; exact aw_gp j hM hf hk hs hj hp h
theorem aw_apv {a N : Nat} {z v : Int} (hM : MV sz A σ) (hf : az_fetch cd pc = some (1, .iaload, [])) (hs : az_sh σ a = (100, N)) (hN : N ≤ 10000) (hq : pA a = true) (h0 : 0 ≤ z) (hj : z < N) (hv : A a z = v) (hp : pc + 1 = p') (h : -2147483648 ≤ v → v < 2147483648 → aw d cd rt P p' L (.int (iI v) :: st) σ) : aw d cd rt P pc L (.int (iI z) :: .ref a :: st) σ := by
  subst hv; exact aw_ap hM hf hs hN hq h0 hj hp h
end AwTab
noncomputable def m_days_op (A : Nat → Int → Int) (n : Int) : Nat → Int → Int := tit ((1 ≤ n ∧ n ≤ 400) ∧ A 42 3 + n ≤ 3599) (up A 42 3 (A 42 3 + n)) A
set_option maxRecDepth 10000 in
set_option maxHeartbeats 2000000 in
theorem m_days {d : Nat} {sz : Nat} {A : Nat → Int → Int} {σ : az_S} (hM : MV sz A σ) (hI : MI sz A) {n : Int} (hn : inI n) : cal (d + 2) 166 [.ref 42, .int (iI n)] σ (fun r τ => r = some (.int (iI (zit ((1 ≤ n ∧ n ≤ 400) ∧ A 42 3 + n ≤ 3599) (A 42 3 + n) (-1)))) ∧ MV sz (m_days_op A n) τ ∧ Mod σ τ [42]) := by
  obtain ⟨hn1, hn2⟩ := hn
  have hck := hI.clock
  refine cal_of (M := (yX12_days, cX12_days, 2, (some .int))) (cd := k_X12_days) (L := [some (.ref 42), some (.int (iI n))]) rfl (Nat.le_of_ble_eq_true rfl) rfl rfl ?_
  refine aw_iload_n rfl rfl rfl ?_
  refine aw_i2l rfl ⟨by omega, by omega⟩ rfl ?_
  refine aw_lconst 1 rfl rfl rfl ?_
  refine aw_ldc2 (400) rfl rfl rfl ?_
  refine aw_fnc (m_in ⟨by omega, by omega⟩ ⟨by omega, by omega⟩ ⟨by omega, by omega⟩) rfl rfl rfl (Nat.le_of_ble_eq_true rfl) (Or.inl rfl) rfl ?_
  refine aw_ifeqb (p' := 24) rfl rfl rfl (fun c1 => ?_) (fun c1 => ?_)
  · refine aw_iconst rfl rfl ?_
    refine aw_reti rfl ?_
    refine ⟨?_, ?_, Mod.rf⟩
    · rw [zit_f (by omega)]
    · unfold m_days_op; rw [tit_f (by omega)]; exact hM
  · refine aw_aload_n rfl rfl rfl ?_
    refine aw_gp (3) hM rfl rfl (hM.f.k 42 rfl) rfl rfl (fun _ _ => ?_)
    refine aw_iload_n rfl rfl rfl ?_
    refine aw_iadd rfl rfl ?_
    refine aw_sipush rfl rfl rfl ?_
    refine aw_icmp (p' := 26) rfl ⟨by omega, by omega⟩ ⟨by omega, by omega⟩ rfl rfl (fun c2 => ?_) (fun c2 => ?_)
    · dsimp only [zc] at c2
      refine aw_aload_n rfl rfl rfl ?_
      refine aw_dup rfl rfl rfl ?_
      refine aw_gp (3) hM rfl rfl (hM.f.k 42 rfl) rfl rfl (fun _ _ => ?_)
      refine aw_iload_n rfl rfl rfl ?_
      refine aw_iadd rfl rfl ?_
      refine aw_fp (3) hM rfl rfl (hM.f.k 42 rfl) rfl (fun _ => rfl) rfl ⟨by omega, by omega⟩ rfl (fun τ3 hM3 hD3 => ?_)
      refine aw_aload_n rfl rfl rfl ?_
      refine aw_gpv (v := (A 42 3) + n) (3) hM3 rfl rfl (hM3.f.k 42 rfl) rfl (by first | (simp [up]; done) | assumption) rfl (fun _ _ => ?_)
      refine aw_reti rfl ?_
      refine ⟨?_, ?_, (hD3.su (T := [42]) rfl)⟩
      · rw [zit_t (by omega)]
      · unfold m_days_op; rw [tit_t (by omega)]; exact hM3
    · dsimp only [zc] at c2
      refine aw_iconst rfl rfl ?_
      refine aw_reti rfl ?_
      refine ⟨?_, ?_, Mod.rf⟩
      · rw [zit_f (by omega)]
      · unfold m_days_op; rw [tit_f (by omega)]; exact hM
noncomputable def m_sun_op (A : Nat → Int → Int) (m h x y : Int) : Nat → Int → Int := tit ((0 ≤ m ∧ m ≤ 11) ∧ (0 ≤ h ∧ h ≤ 11) ∧ (-300 ≤ x ∧ x ≤ 300) ∧ (-300 ≤ y ∧ y ≤ 300)) (up (up A 43 (12 * m + h) x) 44 (12 * m + h) y) A
set_option maxRecDepth 10000 in
set_option maxHeartbeats 2000000 in
theorem m_sun {d : Nat} {sz : Nat} {A : Nat → Int → Int} {σ : az_S} (hM : MV sz A σ) (hI : MI sz A) {m h x y : Int} (hm : inI m) (hh : inI h) (hx : inI x) (hy : inI y) : cal (d + 3) 167 [.ref 42, .int (iI m), .int (iI h), .int (iI x), .int (iI y)] σ (fun r τ => r = some (.int (iI (bI ((0 ≤ m ∧ m ≤ 11) ∧ (0 ≤ h ∧ h ≤ 11) ∧ (-300 ≤ x ∧ x ≤ 300) ∧ (-300 ≤ y ∧ y ≤ 300))))) ∧ MV sz (m_sun_op A m h x y) τ ∧ Mod σ τ [43, 44]) := by
  obtain ⟨hm1, hm2⟩ := hm
  obtain ⟨hh1, hh2⟩ := hh
  obtain ⟨hx1, hx2⟩ := hx
  obtain ⟨hy1, hy2⟩ := hy
  have hck := hI.clock
  refine cal_of (M := (yX12_sun, cX12_sun, 5, (some .boolean))) (cd := k_X12_sun) (L := [some (.ref 42), some (.int (iI m)), some (.int (iI h)), some (.int (iI x)), some (.int (iI y))]) rfl (Nat.le_of_ble_eq_true rfl) rfl rfl ?_
  refine aw_iload_n rfl rfl rfl ?_
  refine aw_i2l rfl ⟨by omega, by omega⟩ rfl ?_
  refine aw_lconst 0 rfl rfl rfl ?_
  refine aw_ldc2 (11) rfl rfl rfl ?_
  refine aw_fnc (m_in ⟨by omega, by omega⟩ ⟨by omega, by omega⟩ ⟨by omega, by omega⟩) rfl rfl rfl (Nat.le_of_ble_eq_true rfl) (Or.inl rfl) rfl ?_
  refine aw_ifeqb (p' := 48) rfl rfl rfl (fun c1 => ?_) (fun c1 => ?_)
  · refine aw_iconst rfl rfl ?_
    refine aw_retn rfl (by first | rfl | exact bI_nar _) ?_
    refine ⟨?_, ?_, Mod.rf⟩
    · rw [bI_f (by omega)]
    · unfold m_sun_op; rw [tit_f (by omega)]; exact hM
  · refine aw_iload_n rfl rfl rfl ?_
    refine aw_fnc (m_isHour ⟨by omega, by omega⟩) rfl rfl rfl (Nat.le_of_ble_eq_true rfl) (Or.inl rfl) rfl ?_
    refine aw_ifeqb (p' := 48) rfl rfl rfl (fun c2 => ?_) (fun c2 => ?_)
    · refine aw_iconst rfl rfl ?_
      refine aw_retn rfl (by first | rfl | exact bI_nar _) ?_
      refine ⟨?_, ?_, Mod.rf⟩
      · rw [bI_f (by omega)]
      · unfold m_sun_op; rw [tit_f (by omega)]; exact hM
    · refine aw_iload_n rfl rfl rfl ?_
      refine aw_i2l rfl ⟨by omega, by omega⟩ rfl ?_
      refine aw_ldc2 (-300) rfl rfl rfl ?_
      refine aw_ldc2 (300) rfl rfl rfl ?_
      refine aw_fnc (m_in ⟨by omega, by omega⟩ ⟨by omega, by omega⟩ ⟨by omega, by omega⟩) rfl rfl rfl (Nat.le_of_ble_eq_true rfl) (Or.inl rfl) rfl ?_
      refine aw_ifeqb (p' := 48) rfl rfl rfl (fun c3 => ?_) (fun c3 => ?_)
      · refine aw_iconst rfl rfl ?_
        refine aw_retn rfl (by first | rfl | exact bI_nar _) ?_
        refine ⟨?_, ?_, Mod.rf⟩
        · rw [bI_f (by omega)]
        · unfold m_sun_op; rw [tit_f (by omega)]; exact hM
      · refine aw_iload rfl rfl rfl ?_
        refine aw_i2l rfl ⟨by omega, by omega⟩ rfl ?_
        refine aw_ldc2 (-300) rfl rfl rfl ?_
        refine aw_ldc2 (300) rfl rfl rfl ?_
        refine aw_fnc (m_in ⟨by omega, by omega⟩ ⟨by omega, by omega⟩ ⟨by omega, by omega⟩) rfl rfl rfl (Nat.le_of_ble_eq_true rfl) (Or.inl rfl) rfl ?_
        refine aw_ifneb (p' := 50) rfl rfl rfl (fun c4 => ?_) (fun c4 => ?_)
        · refine aw_aload_n rfl rfl rfl ?_
          refine aw_getr (b := 43) rfl rfl (hM.f.k 42 rfl) (hM.f.r 42 4 43 rfl) rfl ?_
          refine aw_bipush rfl rfl rfl ?_
          refine aw_iload_n rfl rfl rfl ?_
          refine aw_imul rfl rfl ?_
          refine aw_iload_n rfl rfl rfl ?_
          refine aw_iadd rfl rfl ?_
          refine aw_iload_n rfl rfl rfl ?_
          refine aw_sp (N := 144) hM rfl (hM.f.s 43 rfl) (by omega) rfl (by omega) (by omega) ⟨by omega, by omega⟩ rfl (fun τ5 hM5 hD5 => ?_)
          refine aw_aload_n rfl rfl rfl ?_
          refine aw_getr (b := 44) rfl rfl (hM5.f.k 42 rfl) (hM5.f.r 42 5 44 rfl) rfl ?_
          refine aw_bipush rfl rfl rfl ?_
          refine aw_iload_n rfl rfl rfl ?_
          refine aw_imul rfl rfl ?_
          refine aw_iload_n rfl rfl rfl ?_
          refine aw_iadd rfl rfl ?_
          refine aw_iload rfl rfl rfl ?_
          refine aw_sp (N := 144) hM5 rfl (hM5.f.s 44 rfl) (by omega) rfl (by omega) (by omega) ⟨by omega, by omega⟩ rfl (fun τ6 hM6 hD6 => ?_)
          refine aw_iconst rfl rfl ?_
          refine aw_retn rfl (by first | rfl | exact bI_nar _) ?_
          refine ⟨?_, ?_, ((hD5.su (T := [43, 44]) rfl).tr (hD6.su (T := [43, 44]) rfl))⟩
          · rw [bI_t (by omega)]
          · unfold m_sun_op; rw [tit_t (by omega)]; exact hM6
        · refine aw_iconst rfl rfl ?_
          refine aw_retn rfl (by first | rfl | exact bI_nar _) ?_
          refine ⟨?_, ?_, Mod.rf⟩
          · rw [bI_f (by omega)]
          · unfold m_sun_op; rw [tit_f (by omega)]; exact hM
noncomputable def m_cloud_op (A : Nat → Int → Int) (x h : Int) : Nat → Int → Int := tit ((0 ≤ x ∧ x ≤ 3599) ∧ (0 ≤ h ∧ h ≤ 11) ∧ ¬ mCloud A x h ∧ A 42 6 ≠ 60) (up (up (up A 45 (A 42 6) x) 46 (A 42 6) h) 42 6 (A 42 6 + 1)) A
set_option maxRecDepth 10000 in
set_option maxHeartbeats 2000000 in
theorem m_cloud {d : Nat} {sz : Nat} {A : Nat → Int → Int} {σ : az_S} (hM : MV sz A σ) (hI : MI sz A) {x h : Int} (hx : inI x) (hh : inI h) : cal (d + 3) 169 [.ref 42, .int (iI x), .int (iI h)] σ (fun r τ => r = some (.int (iI (zit ((0 ≤ x ∧ x ≤ 3599) ∧ (0 ≤ h ∧ h ≤ 11) ∧ ¬ mCloud A x h ∧ A 42 6 ≠ 60) (A 42 6 + 1) (-1)))) ∧ MV sz (m_cloud_op A x h) τ ∧ Mod σ τ [42, 45, 46]) := by
  obtain ⟨hx1, hx2⟩ := hx
  obtain ⟨hh1, hh2⟩ := hh
  have hck := hI.clouds
  refine cal_of (M := (yX12_cloud, cX12_cloud, 3, (some .int))) (cd := k_X12_cloud) (L := [some (.ref 42), some (.int (iI x)), some (.int (iI h))]) rfl (Nat.le_of_ble_eq_true rfl) rfl rfl ?_
  refine aw_iload_n rfl rfl rfl ?_
  refine aw_fnc (m_isDay ⟨by omega, by omega⟩) rfl rfl rfl (Nat.le_of_ble_eq_true rfl) (Or.inl rfl) rfl ?_
  refine aw_ifeqb (p' := 32) rfl rfl rfl (fun c1 => ?_) (fun c1 => ?_)
  · refine aw_iconst rfl rfl ?_
    refine aw_reti rfl ?_
    refine ⟨?_, ?_, Mod.rf⟩
    · rw [zit_f (by rintro ⟨q1, q2, q3, q4⟩; first | omega | exact q3 (by assumption))]
    · unfold m_cloud_op; rw [tit_f (by rintro ⟨q1, q2, q3, q4⟩; first | omega | exact q3 (by assumption))]; exact hM
  · refine aw_iload_n rfl rfl rfl ?_
    refine aw_fnc (m_isHour ⟨by omega, by omega⟩) rfl rfl rfl (Nat.le_of_ble_eq_true rfl) (Or.inl rfl) rfl ?_
    refine aw_ifeqb (p' := 32) rfl rfl rfl (fun c2 => ?_) (fun c2 => ?_)
    · refine aw_iconst rfl rfl ?_
      refine aw_reti rfl ?_
      refine ⟨?_, ?_, Mod.rf⟩
      · rw [zit_f (by rintro ⟨q1, q2, q3, q4⟩; first | omega | exact q3 (by assumption))]
      · unfold m_cloud_op; rw [tit_f (by rintro ⟨q1, q2, q3, q4⟩; first | omega | exact q3 (by assumption))]; exact hM
    · refine aw_aload_n rfl rfl rfl ?_
      refine aw_iload_n rfl rfl rfl ?_
      refine aw_iload_n rfl rfl rfl ?_
      refine aw_fnc (m_isCloud hM hI ⟨by omega, by omega⟩ ⟨by omega, by omega⟩) rfl rfl rfl (Nat.le_of_ble_eq_true rfl) (Or.inr ⟨_, rfl, (hM.f.k 42 rfl)⟩) rfl ?_
      refine aw_ifneb (p' := 32) rfl rfl rfl (fun c3 => ?_) (fun c3 => ?_)
      · refine aw_iconst rfl rfl ?_
        refine aw_reti rfl ?_
        refine ⟨?_, ?_, Mod.rf⟩
        · rw [zit_f (by rintro ⟨q1, q2, q3, q4⟩; first | omega | exact q3 (by assumption))]
        · unfold m_cloud_op; rw [tit_f (by rintro ⟨q1, q2, q3, q4⟩; first | omega | exact q3 (by assumption))]; exact hM
      · refine aw_aload_n rfl rfl rfl ?_
        refine aw_gp (6) hM rfl rfl (hM.f.k 42 rfl) rfl rfl (fun _ _ => ?_)
        refine aw_bipush rfl rfl rfl ?_
        refine aw_icmp (p' := 34) rfl ⟨by omega, by omega⟩ ⟨by omega, by omega⟩ rfl rfl (fun c4 => ?_) (fun c4 => ?_)
        · dsimp only [zc] at c4
          refine aw_aload_n rfl rfl rfl ?_
          refine aw_getr (b := 45) rfl rfl (hM.f.k 42 rfl) (hM.f.r 42 7 45 rfl) rfl ?_
          refine aw_aload_n rfl rfl rfl ?_
          refine aw_gp (6) hM rfl rfl (hM.f.k 42 rfl) rfl rfl (fun _ _ => ?_)
          refine aw_iload_n rfl rfl rfl ?_
          refine aw_sp (N := 60) hM rfl (hM.f.s 45 rfl) (by omega) rfl (by omega) (by omega) ⟨by omega, by omega⟩ rfl (fun τ5 hM5 hD5 => ?_)
          refine aw_aload_n rfl rfl rfl ?_
          refine aw_getr (b := 46) rfl rfl (hM5.f.k 42 rfl) (hM5.f.r 42 8 46 rfl) rfl ?_
          refine aw_aload_n rfl rfl rfl ?_
          refine aw_gpv (v := A 42 6) (6) hM5 rfl rfl (hM5.f.k 42 rfl) rfl (by first | (simp [up]; done) | assumption) rfl (fun _ _ => ?_)
          refine aw_iload_n rfl rfl rfl ?_
          refine aw_sp (N := 60) hM5 rfl (hM5.f.s 46 rfl) (by omega) rfl (by omega) (by omega) ⟨by omega, by omega⟩ rfl (fun τ6 hM6 hD6 => ?_)
          refine aw_aload_n rfl rfl rfl ?_
          refine aw_dup rfl rfl rfl ?_
          refine aw_gpv (v := A 42 6) (6) hM6 rfl rfl (hM6.f.k 42 rfl) rfl (by first | (simp [up]; done) | assumption) rfl (fun _ _ => ?_)
          refine aw_iconst rfl rfl ?_
          refine aw_iadd rfl rfl ?_
          refine aw_fp (6) hM6 rfl rfl (hM6.f.k 42 rfl) rfl (fun _ => rfl) rfl ⟨by omega, by omega⟩ rfl (fun τ7 hM7 hD7 => ?_)
          refine aw_aload_n rfl rfl rfl ?_
          refine aw_gpv (v := (A 42 6) + 1) (6) hM7 rfl rfl (hM7.f.k 42 rfl) rfl (by first | (simp [up]; done) | assumption) rfl (fun _ _ => ?_)
          refine aw_reti rfl ?_
          refine ⟨?_, ?_, (((hD5.su (T := [42, 45, 46]) rfl).tr (hD6.su (T := [42, 45, 46]) rfl)).tr (hD7.su (T := [42, 45, 46]) rfl))⟩
          · rw [zit_t ⟨by omega, by omega, by assumption, by omega⟩]
          · unfold m_cloud_op; rw [tit_t ⟨by omega, by omega, by assumption, by omega⟩]; exact hM7
        · dsimp only [zc] at c4
          refine aw_iconst rfl rfl ?_
          refine aw_reti rfl ?_
          refine ⟨?_, ?_, Mod.rf⟩
          · rw [zit_f (by rintro ⟨q1, q2, q3, q4⟩; first | omega | exact q3 (by assumption))]
          · unfold m_cloud_op; rw [tit_f (by rintro ⟨q1, q2, q3, q4⟩; first | omega | exact q3 (by assumption))]; exact hM
noncomputable def m_person_op (A : Nat → Int → Int) : Nat → Int → Int := tit (A 42 9 ≠ 16) (up (up A 47 (A 42 9) (-1)) 42 9 (A 42 9 + 1)) A
set_option maxRecDepth 10000 in
set_option maxHeartbeats 2000000 in
theorem m_person {d : Nat} {sz : Nat} {A : Nat → Int → Int} {σ : az_S} (hM : MV sz A σ) (hI : MI sz A) : cal (d + 1) 170 [.ref 42] σ (fun r τ => r = some (.int (iI (zit (A 42 9 ≠ 16) (A 42 9 + 1 - 1) (-1)))) ∧ MV sz (m_person_op A ) τ ∧ Mod σ τ [42, 47]) := by
  have hck := hI.people
  refine cal_of (M := (yX12_person, cX12_person, 1, (some .int))) (cd := k_X12_person) (L := [some (.ref 42)]) rfl (Nat.le_of_ble_eq_true rfl) rfl rfl ?_
  refine aw_aload_n rfl rfl rfl ?_
  refine aw_gp (9) hM rfl rfl (hM.f.k 42 rfl) rfl rfl (fun _ _ => ?_)
  refine aw_bipush rfl rfl rfl ?_
  refine aw_icmp (p' := 11) rfl ⟨by omega, by omega⟩ ⟨by omega, by omega⟩ rfl rfl (fun c1 => ?_) (fun c1 => ?_)
  · dsimp only [zc] at c1
    refine aw_aload_n rfl rfl rfl ?_
    refine aw_getr (b := 47) rfl rfl (hM.f.k 42 rfl) (hM.f.r 42 10 47 rfl) rfl ?_
    refine aw_aload_n rfl rfl rfl ?_
    refine aw_gp (9) hM rfl rfl (hM.f.k 42 rfl) rfl rfl (fun _ _ => ?_)
    refine aw_iconst rfl rfl ?_
    refine aw_sp (N := 16) hM rfl (hM.f.s 47 rfl) (by omega) rfl (by omega) (by omega) ⟨by omega, by omega⟩ rfl (fun τ2 hM2 hD2 => ?_)
    refine aw_aload_n rfl rfl rfl ?_
    refine aw_dup rfl rfl rfl ?_
    refine aw_gpv (v := A 42 9) (9) hM2 rfl rfl (hM2.f.k 42 rfl) rfl (by first | (simp [up]; done) | assumption) rfl (fun _ _ => ?_)
    refine aw_iconst rfl rfl ?_
    refine aw_iadd rfl rfl ?_
    refine aw_fp (9) hM2 rfl rfl (hM2.f.k 42 rfl) rfl (fun _ => rfl) rfl ⟨by omega, by omega⟩ rfl (fun τ3 hM3 hD3 => ?_)
    refine aw_aload_n rfl rfl rfl ?_
    refine aw_gpv (v := (A 42 9) + 1) (9) hM3 rfl rfl (hM3.f.k 42 rfl) rfl (by first | (simp [up]; done) | assumption) rfl (fun _ _ => ?_)
    refine aw_iconst rfl rfl ?_
    refine aw_isub rfl rfl ?_
    refine aw_reti rfl ?_
    refine ⟨?_, ?_, ((hD2.su (T := [42, 47]) rfl).tr (hD3.su (T := [42, 47]) rfl))⟩
    · rw [zit_t (by omega)]
    · unfold m_person_op; rw [tit_t (by omega)]; exact hM3
  · dsimp only [zc] at c1
    refine aw_iconst rfl rfl ?_
    refine aw_reti rfl ?_
    refine ⟨?_, ?_, Mod.rf⟩
    · rw [zit_f (by omega)]
    · unfold m_person_op; rw [tit_f (by omega)]; exact hM
noncomputable def m_died_op (A : Nat → Int → Int) (p x : Int) : Nat → Int → Int := tit ((0 ≤ p ∧ p ≤ A 42 9 - 1) ∧ (0 ≤ x ∧ x ≤ A 42 3) ∧ A 47 p < 0) (up (up A 47 p x) 48 p (A 42 3)) A
set_option maxRecDepth 10000 in
set_option maxHeartbeats 2000000 in
theorem m_died {d : Nat} {sz : Nat} {A : Nat → Int → Int} {σ : az_S} (hM : MV sz A σ) (hI : MI sz A) {p x : Int} (hp : inI p) (hx : inI x) : cal (d + 3) 171 [.ref 42, .int (iI p), .int (iI x)] σ (fun r τ => r = some (.int (iI (bI ((0 ≤ p ∧ p ≤ A 42 9 - 1) ∧ (0 ≤ x ∧ x ≤ A 42 3) ∧ A 47 p < 0)))) ∧ MV sz (m_died_op A p x) τ ∧ Mod σ τ [47, 48]) := by
  obtain ⟨hp1, hp2⟩ := hp
  obtain ⟨hx1, hx2⟩ := hx
  have hck := hI.people
  have hcl := hI.clock
  refine cal_of (M := (yX12_died, cX12_died, 3, (some .boolean))) (cd := k_X12_died) (L := [some (.ref 42), some (.int (iI p)), some (.int (iI x))]) rfl (Nat.le_of_ble_eq_true rfl) rfl rfl ?_
  refine aw_aload_n rfl rfl rfl ?_
  refine aw_iload_n rfl rfl rfl ?_
  refine aw_fnc (m_isPerson hM hI ⟨by omega, by omega⟩) rfl rfl rfl (Nat.le_of_ble_eq_true rfl) (Or.inr ⟨_, rfl, (hM.f.k 42 rfl)⟩) rfl ?_
  refine aw_ifeqb (p' := 31) rfl rfl rfl (fun c1 => ?_) (fun c1 => ?_)
  · refine aw_iconst rfl rfl ?_
    refine aw_retn rfl (by first | rfl | exact bI_nar _) ?_
    refine ⟨?_, ?_, Mod.rf⟩
    · rw [bI_f (by omega)]
    · unfold m_died_op; rw [tit_f (by omega)]; exact hM
  · refine aw_iload_n rfl rfl rfl ?_
    refine aw_i2l rfl ⟨by omega, by omega⟩ rfl ?_
    refine aw_lconst 0 rfl rfl rfl ?_
    refine aw_aload_n rfl rfl rfl ?_
    refine aw_gp (3) hM rfl rfl (hM.f.k 42 rfl) rfl rfl (fun _ _ => ?_)
    refine aw_i2l rfl ⟨by omega, by omega⟩ rfl ?_
    refine aw_fnc (m_in ⟨by omega, by omega⟩ ⟨by omega, by omega⟩ ⟨by omega, by omega⟩) rfl rfl rfl (Nat.le_of_ble_eq_true rfl) (Or.inl rfl) rfl ?_
    refine aw_ifeqb (p' := 31) rfl rfl rfl (fun c2 => ?_) (fun c2 => ?_)
    · refine aw_iconst rfl rfl ?_
      refine aw_retn rfl (by first | rfl | exact bI_nar _) ?_
      refine ⟨?_, ?_, Mod.rf⟩
      · rw [bI_f (by omega)]
      · unfold m_died_op; rw [tit_f (by omega)]; exact hM
    · refine aw_aload_n rfl rfl rfl ?_
      refine aw_getr (b := 47) rfl rfl (hM.f.k 42 rfl) (hM.f.r 42 10 47 rfl) rfl ?_
      refine aw_iload_n rfl rfl rfl ?_
      refine aw_ap (N := 16) hM rfl (hM.f.s 47 rfl) (by omega) rfl (by omega) (by omega) rfl (fun _ _ => ?_)
      refine aw_if (p' := 33) rfl ⟨by omega, by omega⟩ rfl rfl (fun c3 => ?_) (fun c3 => ?_)
      · dsimp only [zc] at c3
        refine aw_aload_n rfl rfl rfl ?_
        refine aw_getr (b := 47) rfl rfl (hM.f.k 42 rfl) (hM.f.r 42 10 47 rfl) rfl ?_
        refine aw_iload_n rfl rfl rfl ?_
        refine aw_iload_n rfl rfl rfl ?_
        refine aw_sp (N := 16) hM rfl (hM.f.s 47 rfl) (by omega) rfl (by omega) (by omega) ⟨by omega, by omega⟩ rfl (fun τ4 hM4 hD4 => ?_)
        refine aw_aload_n rfl rfl rfl ?_
        refine aw_getr (b := 48) rfl rfl (hM4.f.k 42 rfl) (hM4.f.r 42 11 48 rfl) rfl ?_
        refine aw_iload_n rfl rfl rfl ?_
        refine aw_aload_n rfl rfl rfl ?_
        refine aw_gpv (v := A 42 3) (3) hM4 rfl rfl (hM4.f.k 42 rfl) rfl (by first | (simp [up]; done) | assumption) rfl (fun _ _ => ?_)
        refine aw_sp (N := 16) hM4 rfl (hM4.f.s 48 rfl) (by omega) rfl (by omega) (by omega) ⟨by omega, by omega⟩ rfl (fun τ5 hM5 hD5 => ?_)
        refine aw_iconst rfl rfl ?_
        refine aw_retn rfl (by first | rfl | exact bI_nar _) ?_
        refine ⟨?_, ?_, ((hD4.su (T := [47, 48]) rfl).tr (hD5.su (T := [47, 48]) rfl))⟩
        · rw [bI_t (by omega)]
        · unfold m_died_op; rw [tit_t (by omega)]; exact hM5
      · dsimp only [zc] at c3
        refine aw_iconst rfl rfl ?_
        refine aw_retn rfl (by first | rfl | exact bI_nar _) ?_
        refine ⟨?_, ?_, Mod.rf⟩
        · rw [bI_f (by omega)]
        · unfold m_died_op; rw [tit_f (by omega)]; exact hM
def mFreeT (A : Nat → Int → Int) (c n : Int) : Prop := ∀ t : Int, 0 ≤ t → t < n → A 50 t ≠ c ∨ 0 ≤ A 60 t
def mFreeS (A : Nat → Int → Int) (c n : Int) : Prop := ∀ k : Int, 0 ≤ k → k < n → A 42 66 ≤ k / 12 ∨ A 87 k ≠ c ∨ A 86 (k / 12) < A 42 3
def mStand (A : Nat → Int → Int) (c p h : Int) : Prop := ((0 ≤ c ∧ c ≤ A 42 2 - 1) ∧ (0 ≤ p ∧ p ≤ A 42 9 - 1) ∧ (0 ≤ h ∧ h ≤ 60) ∧ A 42 12 < 24) ∧ mFreeT A c (A 42 12) ∧ mFreeS A c 120
theorem mFreeT_s {A : Nat → Int → Int} {c n : Int} (h0 : 0 ≤ n) : mFreeT A c (n + 1) ↔ mFreeT A c n ∧ (A 50 n ≠ c ∨ 0 ≤ A 60 n) := by
  constructor
  · intro h; exact ⟨fun t h1 h2 => h t h1 (by omega), h n h0 (by omega)⟩
  · rintro ⟨h1, h2⟩ t h3 h4
    by_cases e : t < n
    · exact h1 t h3 e
    · have : t = n := by omega
      rw [this]; exact h2
theorem mFreeS_s {A : Nat → Int → Int} {c n : Int} (h0 : 0 ≤ n) : mFreeS A c (n + 1) ↔ mFreeS A c n ∧ (A 42 66 ≤ n / 12 ∨ A 87 n ≠ c ∨ A 86 (n / 12) < A 42 3) := by
  constructor
  · intro h; exact ⟨fun t h1 h2 => h t h1 (by omega), h n h0 (by omega)⟩
  · rintro ⟨h1, h2⟩ t h3 h4
    by_cases e : t < n
    · exact h1 t h3 e
    · have : t = n := by omega
      rw [this]; exact h2
set_option maxRecDepth 10000 in
set_option maxHeartbeats 2000000 in
theorem m_mayStand_l98 {d : Nat} {sz : Nat} {A : Nat → Int → Int} {σ : az_S} (hM : MV sz A σ) (hI : MI sz A) {c p h : Int} (hc : inI c) (hp : inI p) (hh : inI h) : ∀ (n : Nat) (t b : Int), (120 - t).toNat = n → 0 ≤ t → t ≤ 120 → b = bI (((0 ≤ c ∧ c ≤ A 42 2 - 1) ∧ (0 ≤ p ∧ p ≤ A 42 9 - 1) ∧ (0 ≤ h ∧ h ≤ 60) ∧ A 42 12 < 24) ∧ mFreeT A c (A 42 12) ∧ mFreeS A c t) → aw (d + 2) k_X12_mayStand (some .boolean) (fun r τ => r = some (.int (iI (bI (mStand A c p h)))) ∧ τ = σ) 98 [some (.ref 42), some (.int (iI c)), some (.int (iI p)), some (.int (iI h)), some (.int (iI b)), some (.int (iI t))] [] σ := by
  intro n
  induction n using Nat.strongRecOn with
  | ind n ih =>
    intro t b hn ht0 ht1 hb
    obtain ⟨hc1, hc2⟩ := hc
    obtain ⟨hp1, hp2⟩ := hp
    obtain ⟨hh1, hh2⟩ := hh
    have hth := hI.things
    have hst := hI.stalls
    have hcl := hI.clock
    have hbi := bI_r (((0 ≤ c ∧ c ≤ A 42 2 - 1) ∧ (0 ≤ p ∧ p ≤ A 42 9 - 1) ∧ (0 ≤ h ∧ h ≤ 60) ∧ A 42 12 < 24) ∧ mFreeT A c (A 42 12) ∧ mFreeS A c t)
    rw [← hb] at hbi
    have hz := bI_zero (((0 ≤ c ∧ c ≤ A 42 2 - 1) ∧ (0 ≤ p ∧ p ≤ A 42 9 - 1) ∧ (0 ≤ h ∧ h ≤ 60) ∧ A 42 12 < 24) ∧ mFreeT A c (A 42 12) ∧ mFreeS A c t)
    rw [← hb] at hz
    have hs := mFreeS_s (A := A) (c := c) ht0
    refine aw_iload rfl rfl rfl ?_
    refine aw_bipush rfl rfl rfl ?_
    refine aw_icmp (p' := 163) rfl ⟨by omega, by omega⟩ ⟨by omega, by omega⟩ rfl rfl (fun c1 => ?_) (fun c1 => ?_)
    · dsimp only [zc] at c1
      refine aw_iload rfl rfl rfl ?_
      refine aw_retn rfl (by rw [hb]; exact bI_nar _) ?_
      refine ⟨?_, rfl⟩
      rw [hb]
      unfold mStand
      first | (rw [show t = 120 by omega]) | (have hq := hz.mp (by omega); rw [bI_f hq, bI_f (fun q => hq ⟨q.1, q.2.1, fun k a b => q.2.2 k a (by omega)⟩)])
    · dsimp only [zc] at c1
      refine aw_iload rfl rfl rfl ?_
      refine aw_if (p' := 163) rfl ⟨by omega, by omega⟩ rfl rfl (fun c2 => ?_) (fun c2 => ?_)
      · dsimp only [zc] at c2
        refine aw_iload rfl rfl rfl ?_
        refine aw_retn rfl (by rw [hb]; exact bI_nar _) ?_
        refine ⟨?_, rfl⟩
        rw [hb]
        unfold mStand
        first | (rw [show t = 120 by omega]) | (have hq := hz.mp (by omega); rw [bI_f hq, bI_f (fun q => hq ⟨q.1, q.2.1, fun k a b => q.2.2 k a (by omega)⟩)])
      · dsimp only [zc] at c2
        refine aw_iload rfl rfl rfl ?_
        refine aw_bipush rfl rfl rfl ?_
        refine aw_idiv rfl (by omega) (by omega) (by omega) (by omega) rfl ?_
        refine aw_aload_n rfl rfl rfl ?_
        refine aw_gp (66) hM rfl rfl (hM.f.k 42 rfl) rfl rfl (fun _ _ => ?_)
        refine aw_icmp (p' := 150) rfl ⟨by omega, by omega⟩ ⟨by omega, by omega⟩ rfl rfl (fun c3 => ?_) (fun c3 => ?_)
        · dsimp only [zc] at c3
          refine aw_iconst rfl rfl ?_
          refine aw_goto (p' := 155) rfl rfl ?_
          refine aw_istore rfl (Nat.le_of_ble_eq_true rfl) rfl rfl ?_
          change aw _ _ _ _ 157 [some (.ref 42), some (.int (iI _)), some (.int (iI _)), some (.int (iI _)), some (.int (iI _)), some (.int (iI _))] _ _
          refine aw_iinc rfl rfl rfl rfl ?_
          change aw _ _ _ _ 160 [some (.ref 42), some (.int (iI _)), some (.int (iI _)), some (.int (iI _)), some (.int (iI _)), some (.int (iI _))] _ _
          refine aw_goto (p' := 98) rfl rfl ?_
          exact ih _ (by omega) _ _ rfl (by omega) (by omega) (by (first | rw [bI_one', hs] | rw [bI_zero', hs]); clear ih; grind)
        · dsimp only [zc] at c3
          refine aw_aload_n rfl rfl rfl ?_
          refine aw_getr (b := 87) rfl rfl (hM.f.k 42 rfl) (hM.f.r 42 70 87 rfl) rfl ?_
          refine aw_iload rfl rfl rfl ?_
          refine aw_ap (N := 120) hM rfl (hM.f.s 87 rfl) (by omega) rfl (by omega) (by omega) rfl (fun _ _ => ?_)
          refine aw_iload_n rfl rfl rfl ?_
          refine aw_icmp (p' := 150) rfl ⟨by omega, by omega⟩ ⟨by omega, by omega⟩ rfl rfl (fun c4 => ?_) (fun c4 => ?_)
          · dsimp only [zc] at c4
            refine aw_iconst rfl rfl ?_
            refine aw_goto (p' := 155) rfl rfl ?_
            refine aw_istore rfl (Nat.le_of_ble_eq_true rfl) rfl rfl ?_
            change aw _ _ _ _ 157 [some (.ref 42), some (.int (iI _)), some (.int (iI _)), some (.int (iI _)), some (.int (iI _)), some (.int (iI _))] _ _
            refine aw_iinc rfl rfl rfl rfl ?_
            change aw _ _ _ _ 160 [some (.ref 42), some (.int (iI _)), some (.int (iI _)), some (.int (iI _)), some (.int (iI _)), some (.int (iI _))] _ _
            refine aw_goto (p' := 98) rfl rfl ?_
            exact ih _ (by omega) _ _ rfl (by omega) (by omega) (by (first | rw [bI_one', hs] | rw [bI_zero', hs]); clear ih; grind)
          · dsimp only [zc] at c4
            refine aw_aload_n rfl rfl rfl ?_
            refine aw_getr (b := 86) rfl rfl (hM.f.k 42 rfl) (hM.f.r 42 69 86 rfl) rfl ?_
            refine aw_iload rfl rfl rfl ?_
            refine aw_bipush rfl rfl rfl ?_
            refine aw_idiv rfl (by omega) (by omega) (by omega) (by omega) rfl ?_
            refine aw_ap (N := 10) hM rfl (hM.f.s 86 rfl) (by omega) rfl (by omega) (by omega) rfl (fun _ _ => ?_)
            refine aw_aload_n rfl rfl rfl ?_
            refine aw_gp (3) hM rfl rfl (hM.f.k 42 rfl) rfl rfl (fun _ _ => ?_)
            refine aw_icmp (p' := 154) rfl ⟨by omega, by omega⟩ ⟨by omega, by omega⟩ rfl rfl (fun c5 => ?_) (fun c5 => ?_)
            · dsimp only [zc] at c5
              refine aw_iconst rfl rfl ?_
              refine aw_istore rfl (Nat.le_of_ble_eq_true rfl) rfl rfl ?_
              change aw _ _ _ _ 157 [some (.ref 42), some (.int (iI _)), some (.int (iI _)), some (.int (iI _)), some (.int (iI _)), some (.int (iI _))] _ _
              refine aw_iinc rfl rfl rfl rfl ?_
              change aw _ _ _ _ 160 [some (.ref 42), some (.int (iI _)), some (.int (iI _)), some (.int (iI _)), some (.int (iI _)), some (.int (iI _))] _ _
              refine aw_goto (p' := 98) rfl rfl ?_
              exact ih _ (by omega) _ _ rfl (by omega) (by omega) (by (first | rw [bI_one', hs] | rw [bI_zero', hs]); clear ih; grind)
            · dsimp only [zc] at c5
              refine aw_iconst rfl rfl ?_
              refine aw_goto (p' := 155) rfl rfl ?_
              refine aw_istore rfl (Nat.le_of_ble_eq_true rfl) rfl rfl ?_
              change aw _ _ _ _ 157 [some (.ref 42), some (.int (iI _)), some (.int (iI _)), some (.int (iI _)), some (.int (iI _)), some (.int (iI _))] _ _
              refine aw_iinc rfl rfl rfl rfl ?_
              change aw _ _ _ _ 160 [some (.ref 42), some (.int (iI _)), some (.int (iI _)), some (.int (iI _)), some (.int (iI _)), some (.int (iI _))] _ _
              refine aw_goto (p' := 98) rfl rfl ?_
              exact ih _ (by omega) _ _ rfl (by omega) (by omega) (by (first | rw [bI_one', hs] | rw [bI_zero', hs]); clear ih; grind)
set_option maxRecDepth 10000 in
set_option maxHeartbeats 2000000 in
theorem m_mayStand_l47 {d : Nat} {sz : Nat} {A : Nat → Int → Int} {σ : az_S} (hM : MV sz A σ) (hI : MI sz A) {c p h : Int} (hc : inI c) (hp : inI p) (hh : inI h) : ∀ (n : Nat) (t b : Int), (A 42 12 - t).toNat = n → 0 ≤ t → t ≤ A 42 12 → b = bI (((0 ≤ c ∧ c ≤ A 42 2 - 1) ∧ (0 ≤ p ∧ p ≤ A 42 9 - 1) ∧ (0 ≤ h ∧ h ≤ 60) ∧ A 42 12 < 24) ∧ mFreeT A c t) → aw (d + 2) k_X12_mayStand (some .boolean) (fun r τ => r = some (.int (iI (bI (mStand A c p h)))) ∧ τ = σ) 47 [some (.ref 42), some (.int (iI c)), some (.int (iI p)), some (.int (iI h)), some (.int (iI b)), some (.int (iI t))] [] σ := by
  intro n
  induction n using Nat.strongRecOn with
  | ind n ih =>
    intro t b hn ht0 ht1 hb
    obtain ⟨hc1, hc2⟩ := hc
    obtain ⟨hp1, hp2⟩ := hp
    obtain ⟨hh1, hh2⟩ := hh
    have hth := hI.things
    have hst := hI.stalls
    have hcl := hI.clock
    have hbi := bI_r (((0 ≤ c ∧ c ≤ A 42 2 - 1) ∧ (0 ≤ p ∧ p ≤ A 42 9 - 1) ∧ (0 ≤ h ∧ h ≤ 60) ∧ A 42 12 < 24) ∧ mFreeT A c t)
    rw [← hb] at hbi
    have hz := bI_zero (((0 ≤ c ∧ c ≤ A 42 2 - 1) ∧ (0 ≤ p ∧ p ≤ A 42 9 - 1) ∧ (0 ≤ h ∧ h ≤ 60) ∧ A 42 12 < 24) ∧ mFreeT A c t)
    rw [← hb] at hz
    have hs := mFreeT_s (A := A) (c := c) ht0
    refine aw_iload rfl rfl rfl ?_
    refine aw_aload_n rfl rfl rfl ?_
    refine aw_gp (12) hM rfl rfl (hM.f.k 42 rfl) rfl rfl (fun _ _ => ?_)
    refine aw_icmp (p' := 95) rfl ⟨by omega, by omega⟩ ⟨by omega, by omega⟩ rfl rfl (fun c6 => ?_) (fun c6 => ?_)
    · dsimp only [zc] at c6
      refine aw_iconst rfl rfl ?_
      refine aw_istore rfl (Nat.le_of_ble_eq_true rfl) rfl rfl ?_
      change aw _ _ _ _ 98 [some (.ref 42), some (.int (iI _)), some (.int (iI _)), some (.int (iI _)), some (.int (iI _)), some (.int (iI _))] _ _
      exact m_mayStand_l98 hM hI ⟨hc1, hc2⟩ ⟨hp1, hp2⟩ ⟨hh1, hh2⟩ _ 0 _ rfl (by omega) (by omega) (by rw [hb]; refine bI_congr ⟨fun q => ⟨q.1, ?_, fun t a b => by omega⟩, fun q => ⟨q.1, fun t a b => q.2.1 t a (by omega)⟩⟩; first | (rw [show t = A 42 12 by omega] at q; exact q.2) | (exact absurd q (hz.mp (by omega))))
    · dsimp only [zc] at c6
      refine aw_iload rfl rfl rfl ?_
      refine aw_if (p' := 95) rfl ⟨by omega, by omega⟩ rfl rfl (fun c7 => ?_) (fun c7 => ?_)
      · dsimp only [zc] at c7
        refine aw_iconst rfl rfl ?_
        refine aw_istore rfl (Nat.le_of_ble_eq_true rfl) rfl rfl ?_
        change aw _ _ _ _ 98 [some (.ref 42), some (.int (iI _)), some (.int (iI _)), some (.int (iI _)), some (.int (iI _)), some (.int (iI _))] _ _
        exact m_mayStand_l98 hM hI ⟨hc1, hc2⟩ ⟨hp1, hp2⟩ ⟨hh1, hh2⟩ _ 0 _ rfl (by omega) (by omega) (by rw [hb]; refine bI_congr ⟨fun q => ⟨q.1, ?_, fun t a b => by omega⟩, fun q => ⟨q.1, fun t a b => q.2.1 t a (by omega)⟩⟩; first | (rw [show t = A 42 12 by omega] at q; exact q.2) | (exact absurd q (hz.mp (by omega))))
      · dsimp only [zc] at c7
        refine aw_aload_n rfl rfl rfl ?_
        refine aw_getr (b := 50) rfl rfl (hM.f.k 42 rfl) (hM.f.r 42 14 50 rfl) rfl ?_
        refine aw_iload rfl rfl rfl ?_
        refine aw_ap (N := 24) hM rfl (hM.f.s 50 rfl) (by omega) rfl (by omega) (by omega) rfl (fun _ _ => ?_)
        refine aw_iload_n rfl rfl rfl ?_
        refine aw_icmp (p' := 82) rfl ⟨by omega, by omega⟩ ⟨by omega, by omega⟩ rfl rfl (fun c8 => ?_) (fun c8 => ?_)
        · dsimp only [zc] at c8
          refine aw_iconst rfl rfl ?_
          refine aw_goto (p' := 87) rfl rfl ?_
          refine aw_istore rfl (Nat.le_of_ble_eq_true rfl) rfl rfl ?_
          change aw _ _ _ _ 89 [some (.ref 42), some (.int (iI _)), some (.int (iI _)), some (.int (iI _)), some (.int (iI _)), some (.int (iI _))] _ _
          refine aw_iinc rfl rfl rfl rfl ?_
          change aw _ _ _ _ 92 [some (.ref 42), some (.int (iI _)), some (.int (iI _)), some (.int (iI _)), some (.int (iI _)), some (.int (iI _))] _ _
          refine aw_goto (p' := 47) rfl rfl ?_
          exact ih _ (by omega) _ _ rfl (by omega) (by omega) (by (first | rw [bI_one', hs] | rw [bI_zero', hs]); clear ih; grind)
        · dsimp only [zc] at c8
          refine aw_aload_n rfl rfl rfl ?_
          refine aw_getr (b := 60) rfl rfl (hM.f.k 42 rfl) (hM.f.r 42 24 60 rfl) rfl ?_
          refine aw_iload rfl rfl rfl ?_
          refine aw_ap (N := 24) hM rfl (hM.f.s 60 rfl) (by omega) rfl (by omega) (by omega) rfl (fun _ _ => ?_)
          refine aw_if (p' := 86) rfl ⟨by omega, by omega⟩ rfl rfl (fun c9 => ?_) (fun c9 => ?_)
          · dsimp only [zc] at c9
            refine aw_iconst rfl rfl ?_
            refine aw_istore rfl (Nat.le_of_ble_eq_true rfl) rfl rfl ?_
            change aw _ _ _ _ 89 [some (.ref 42), some (.int (iI _)), some (.int (iI _)), some (.int (iI _)), some (.int (iI _)), some (.int (iI _))] _ _
            refine aw_iinc rfl rfl rfl rfl ?_
            change aw _ _ _ _ 92 [some (.ref 42), some (.int (iI _)), some (.int (iI _)), some (.int (iI _)), some (.int (iI _)), some (.int (iI _))] _ _
            refine aw_goto (p' := 47) rfl rfl ?_
            exact ih _ (by omega) _ _ rfl (by omega) (by omega) (by (first | rw [bI_one', hs] | rw [bI_zero', hs]); clear ih; grind)
          · dsimp only [zc] at c9
            refine aw_iconst rfl rfl ?_
            refine aw_goto (p' := 87) rfl rfl ?_
            refine aw_istore rfl (Nat.le_of_ble_eq_true rfl) rfl rfl ?_
            change aw _ _ _ _ 89 [some (.ref 42), some (.int (iI _)), some (.int (iI _)), some (.int (iI _)), some (.int (iI _)), some (.int (iI _))] _ _
            refine aw_iinc rfl rfl rfl rfl ?_
            change aw _ _ _ _ 92 [some (.ref 42), some (.int (iI _)), some (.int (iI _)), some (.int (iI _)), some (.int (iI _)), some (.int (iI _))] _ _
            refine aw_goto (p' := 47) rfl rfl ?_
            exact ih _ (by omega) _ _ rfl (by omega) (by omega) (by (first | rw [bI_one', hs] | rw [bI_zero', hs]); clear ih; grind)
set_option maxRecDepth 10000 in
set_option maxHeartbeats 2000000 in
theorem m_mayStand_l44 {d : Nat} {sz : Nat} {A : Nat → Int → Int} {σ : az_S} (hM : MV sz A σ) (hI : MI sz A) {c p h : Int} (hc : inI c) (hp : inI p) (hh : inI h) : ∀ (b : Int), b = bI ((0 ≤ c ∧ c ≤ A 42 2 - 1) ∧ (0 ≤ p ∧ p ≤ A 42 9 - 1) ∧ (0 ≤ h ∧ h ≤ 60) ∧ A 42 12 < 24) → aw (d + 2) k_X12_mayStand (some .boolean) (fun r τ => r = some (.int (iI (bI (mStand A c p h)))) ∧ τ = σ) 44 [some (.ref 42), some (.int (iI c)), some (.int (iI p)), some (.int (iI h)), some (.int (iI b)), none] [] σ := by
  intro b hb
  obtain ⟨hc1, hc2⟩ := hc
  obtain ⟨hp1, hp2⟩ := hp
  obtain ⟨hh1, hh2⟩ := hh
  have hth := hI.things
  have hst := hI.stalls
  have hcl := hI.clock
  refine aw_iconst rfl rfl ?_
  refine aw_istore rfl (Nat.le_of_ble_eq_true rfl) rfl rfl ?_
  change aw _ _ _ _ 47 [some (.ref 42), some (.int (iI _)), some (.int (iI _)), some (.int (iI _)), some (.int (iI _)), some (.int (iI _))] _ _
  exact m_mayStand_l47 hM hI ⟨hc1, hc2⟩ ⟨hp1, hp2⟩ ⟨hh1, hh2⟩ _ 0 _ rfl (by omega) (by omega) (by rw [hb]; exact bI_congr ⟨fun q => ⟨q, fun t a b => by omega⟩, fun q => q.1⟩)
set_option maxRecDepth 10000 in
set_option maxHeartbeats 2000000 in
theorem m_mayStand {d : Nat} {sz : Nat} {A : Nat → Int → Int} {σ : az_S} (hM : MV sz A σ) (hI : MI sz A) {c p h : Int} (hc : inI c) (hp : inI p) (hh : inI h) : fn (d + 3) 172 [.ref 42, .int (iI c), .int (iI p), .int (iI h)] σ (.int (iI (bI (mStand A c p h)))) := by
  obtain ⟨hc1, hc2⟩ := hc
  obtain ⟨hp1, hp2⟩ := hp
  obtain ⟨hh1, hh2⟩ := hh
  have hth := hI.things
  have hst := hI.stalls
  have hcl := hI.clock
  refine fn_of (M := (yX12_mayStand, cX12_mayStand, 6, (some .boolean))) (cd := k_X12_mayStand) (L := [some (.ref 42), some (.int (iI c)), some (.int (iI p)), some (.int (iI h)), none, none]) rfl (Nat.le_of_ble_eq_true rfl) rfl rfl ?_
  refine aw_aload_n rfl rfl rfl ?_
  refine aw_iload_n rfl rfl rfl ?_
  refine aw_fnc (m_isCell hM hI ⟨by omega, by omega⟩) rfl rfl rfl (Nat.le_of_ble_eq_true rfl) (Or.inr ⟨_, rfl, (hM.f.k 42 rfl)⟩) rfl ?_
  refine aw_ifeqb (p' := 41) rfl rfl rfl (fun c10 => ?_) (fun c10 => ?_)
  · refine aw_iconst rfl rfl ?_
    refine aw_istore rfl (Nat.le_of_ble_eq_true rfl) rfl rfl ?_
    change aw _ _ _ _ 44 [some (.ref 42), some (.int (iI _)), some (.int (iI _)), some (.int (iI _)), some (.int (iI _)), none] _ _
    exact m_mayStand_l44 hM hI ⟨hc1, hc2⟩ ⟨hp1, hp2⟩ ⟨hh1, hh2⟩ _ (by first | rw [bI_t (by omega)] | rw [bI_f (by omega)])
  · refine aw_aload_n rfl rfl rfl ?_
    refine aw_iload_n rfl rfl rfl ?_
    refine aw_fnc (m_isPerson hM hI ⟨by omega, by omega⟩) rfl rfl rfl (Nat.le_of_ble_eq_true rfl) (Or.inr ⟨_, rfl, (hM.f.k 42 rfl)⟩) rfl ?_
    refine aw_ifeqb (p' := 41) rfl rfl rfl (fun c11 => ?_) (fun c11 => ?_)
    · refine aw_iconst rfl rfl ?_
      refine aw_istore rfl (Nat.le_of_ble_eq_true rfl) rfl rfl ?_
      change aw _ _ _ _ 44 [some (.ref 42), some (.int (iI _)), some (.int (iI _)), some (.int (iI _)), some (.int (iI _)), none] _ _
      exact m_mayStand_l44 hM hI ⟨hc1, hc2⟩ ⟨hp1, hp2⟩ ⟨hh1, hh2⟩ _ (by first | rw [bI_t (by omega)] | rw [bI_f (by omega)])
    · refine aw_iload_n rfl rfl rfl ?_
      refine aw_i2l rfl ⟨by omega, by omega⟩ rfl ?_
      refine aw_lconst 0 rfl rfl rfl ?_
      refine aw_ldc2 (60) rfl rfl rfl ?_
      refine aw_fnc (m_in ⟨by omega, by omega⟩ ⟨by omega, by omega⟩ ⟨by omega, by omega⟩) rfl rfl rfl (Nat.le_of_ble_eq_true rfl) (Or.inl rfl) rfl ?_
      refine aw_ifeqb (p' := 41) rfl rfl rfl (fun c12 => ?_) (fun c12 => ?_)
      · refine aw_iconst rfl rfl ?_
        refine aw_istore rfl (Nat.le_of_ble_eq_true rfl) rfl rfl ?_
        change aw _ _ _ _ 44 [some (.ref 42), some (.int (iI _)), some (.int (iI _)), some (.int (iI _)), some (.int (iI _)), none] _ _
        exact m_mayStand_l44 hM hI ⟨hc1, hc2⟩ ⟨hp1, hp2⟩ ⟨hh1, hh2⟩ _ (by first | rw [bI_t (by omega)] | rw [bI_f (by omega)])
      · refine aw_aload_n rfl rfl rfl ?_
        refine aw_gp (12) hM rfl rfl (hM.f.k 42 rfl) rfl rfl (fun _ _ => ?_)
        refine aw_bipush rfl rfl rfl ?_
        refine aw_icmp (p' := 41) rfl ⟨by omega, by omega⟩ ⟨by omega, by omega⟩ rfl rfl (fun c13 => ?_) (fun c13 => ?_)
        · dsimp only [zc] at c13
          refine aw_iconst rfl rfl ?_
          refine aw_istore rfl (Nat.le_of_ble_eq_true rfl) rfl rfl ?_
          change aw _ _ _ _ 44 [some (.ref 42), some (.int (iI _)), some (.int (iI _)), some (.int (iI _)), some (.int (iI _)), none] _ _
          exact m_mayStand_l44 hM hI ⟨hc1, hc2⟩ ⟨hp1, hp2⟩ ⟨hh1, hh2⟩ _ (by first | rw [bI_t (by omega)] | rw [bI_f (by omega)])
        · dsimp only [zc] at c13
          refine aw_iconst rfl rfl ?_
          refine aw_goto (p' := 42) rfl rfl ?_
          refine aw_istore rfl (Nat.le_of_ble_eq_true rfl) rfl rfl ?_
          change aw _ _ _ _ 44 [some (.ref 42), some (.int (iI _)), some (.int (iI _)), some (.int (iI _)), some (.int (iI _)), none] _ _
          exact m_mayStand_l44 hM hI ⟨hc1, hc2⟩ ⟨hp1, hp2⟩ ⟨hh1, hh2⟩ _ (by first | rw [bI_t (by omega)] | rw [bI_f (by omega)])
def mEnter (A : Nat → Int → Int) (t x h : Int) : Nat → Int → Int := up (up (up (up A 57 (41 * t + A 56 t) x) 58 (41 * t + A 56 t) h) 59 (41 * t + A 56 t) (A 42 3)) 56 t (A 56 t + 1)
set_option maxRecDepth 10000 in
set_option maxHeartbeats 2000000 in
theorem m_enters {d : Nat} {sz : Nat} {A : Nat → Int → Int} {σ : az_S} (hM : MV sz A σ) {t x h : Int} (ht0 : 0 ≤ t) (ht1 : t < 24) (he0 : 0 ≤ A 56 t) (he1 : A 56 t ≤ 40) (hx : inI x) (hh : inI h) : cal (d + 1) 174 [.ref 42, .int (iI t), .int (iI x), .int (iI h)] σ (fun r τ => r = none ∧ MV sz (mEnter A t x h) τ ∧ Mod σ τ [56, 57, 58, 59]) := by
  obtain ⟨hx1, hx2⟩ := hx
  obtain ⟨hh1, hh2⟩ := hh
  refine cal_of (M := (yX12_enters, cX12_enters, 5, none)) (cd := k_X12_enters) (L := [some (.ref 42), some (.int (iI t)), some (.int (iI x)), some (.int (iI h)), none]) rfl (Nat.le_of_ble_eq_true rfl) rfl rfl ?_
  refine aw_bipush rfl rfl rfl ?_
  refine aw_iload_n rfl rfl rfl ?_
  refine aw_imul rfl rfl ?_
  refine aw_aload_n rfl rfl rfl ?_
  refine aw_getr (b := 56) rfl rfl (hM.f.k 42 rfl) (hM.f.r 42 20 56 rfl) rfl ?_
  refine aw_iload_n rfl rfl rfl ?_
  refine aw_ap (N := 24) hM rfl (hM.f.s 56 rfl) (by omega) rfl (by omega) (by omega) rfl (fun _ _ => ?_)
  refine aw_iadd rfl rfl ?_
  refine aw_istore rfl (Nat.le_of_ble_eq_true rfl) rfl rfl ?_
  change aw _ _ _ _ 13 [some (.ref 42), some (.int (iI _)), some (.int (iI _)), some (.int (iI _)), some (.int (iI _))] _ _
  refine aw_aload_n rfl rfl rfl ?_
  refine aw_getr (b := 57) rfl rfl (hM.f.k 42 rfl) (hM.f.r 42 21 57 rfl) rfl ?_
  refine aw_iload rfl rfl rfl ?_
  refine aw_iload_n rfl rfl rfl ?_
  refine aw_sp (N := 984) hM rfl (hM.f.s 57 rfl) (by omega) rfl (by omega) (by omega) ⟨by omega, by omega⟩ rfl (fun τ1 hM1 hD1 => ?_)
  refine aw_aload_n rfl rfl rfl ?_
  refine aw_getr (b := 58) rfl rfl (hM1.f.k 42 rfl) (hM1.f.r 42 22 58 rfl) rfl ?_
  refine aw_iload rfl rfl rfl ?_
  refine aw_iload_n rfl rfl rfl ?_
  refine aw_sp (N := 984) hM1 rfl (hM1.f.s 58 rfl) (by omega) rfl (by omega) (by omega) ⟨by omega, by omega⟩ rfl (fun τ2 hM2 hD2 => ?_)
  refine aw_aload_n rfl rfl rfl ?_
  refine aw_getr (b := 59) rfl rfl (hM2.f.k 42 rfl) (hM2.f.r 42 23 59 rfl) rfl ?_
  refine aw_iload rfl rfl rfl ?_
  refine aw_aload_n rfl rfl rfl ?_
  refine aw_gpv (v := A 42 3) (3) hM2 rfl rfl (hM2.f.k 42 rfl) rfl (by first | (simp [up]; done) | assumption) rfl (fun _ _ => ?_)
  refine aw_sp (N := 984) hM2 rfl (hM2.f.s 59 rfl) (by omega) rfl (by omega) (by omega) ⟨by omega, by omega⟩ rfl (fun τ3 hM3 hD3 => ?_)
  refine aw_aload_n rfl rfl rfl ?_
  refine aw_getr (b := 56) rfl rfl (hM3.f.k 42 rfl) (hM3.f.r 42 20 56 rfl) rfl ?_
  refine aw_iload_n rfl rfl rfl ?_
  refine aw_dup2 rfl rfl rfl rfl ?_
  refine aw_apv (v := (A 56 t)) (N := 24) hM3 rfl (hM3.f.s 56 rfl) (by omega) rfl (by omega) (by omega) (by first | (simp [up]; done) | assumption) rfl (fun _ _ => ?_)
  refine aw_iconst rfl rfl ?_
  refine aw_iadd rfl rfl ?_
  refine aw_sp (N := 24) hM3 rfl (hM3.f.s 56 rfl) (by omega) rfl (by omega) (by omega) ⟨by omega, by omega⟩ rfl (fun τ4 hM4 hD4 => ?_)
  refine aw_retv rfl ?_
  exact ⟨rfl, hM4, ((((hD1.su (T := [56, 57, 58, 59]) rfl).tr (hD2.su (T := [56, 57, 58, 59]) rfl)).tr (hD3.su (T := [56, 57, 58, 59]) rfl)).tr (hD4.su (T := [56, 57, 58, 59]) rfl))⟩
def mStands0 (A : Nat → Int → Int) (k c p : Int) : Nat → Int → Int := up (up (up (up (up (up (up (up (up (up (up A 49 (A 42 12) k) 50 (A 42 12) c) 51 (A 42 12) p) 52 (A 42 12) (A 42 3)) 53 (A 42 12) 0) 54 (A 42 12) 0) 55 (A 42 12) 0) 56 (A 42 12) 0) 60 (A 42 12) (-1)) 62 (A 42 12) (-1)) 42 12 (A 42 12 + 1)
def mStands (A : Nat → Int → Int) (k c p h : Int) : Nat → Int → Int := mEnter (mStands0 A k c p) (A 42 12) (A 42 3) h
set_option maxRecDepth 10000 in
set_option maxHeartbeats 2000000 in
theorem m_stands {d : Nat} {sz : Nat} {A : Nat → Int → Int} {σ : az_S} (hM : MV sz A σ) (hI : MI sz A) {k c p h : Int} (hk : inI k) (hc : inI c) (hp : inI p) (hh : inI h) (ht : A 42 12 < 24) : cal (d + 2) 173 [.ref 42, .int (iI k), .int (iI c), .int (iI p), .int (iI h)] σ (fun r τ => r = some (.int (iI (A 42 12))) ∧ MV sz (mStands A k c p h) τ ∧ Mod σ τ [42, 49, 50, 51, 52, 53, 54, 55, 56, 57, 58, 59, 60, 62]) := by
  obtain ⟨hk1, hk2⟩ := hk
  obtain ⟨hc1, hc2⟩ := hc
  obtain ⟨hp1, hp2⟩ := hp
  obtain ⟨hh1, hh2⟩ := hh
  have hth := hI.things
  have hcl := hI.clock
  refine cal_of (M := (yX12_stands, cX12_stands, 6, (some .int))) (cd := k_X12_stands) (L := [some (.ref 42), some (.int (iI k)), some (.int (iI c)), some (.int (iI p)), some (.int (iI h)), none]) rfl (Nat.le_of_ble_eq_true rfl) rfl rfl ?_
  refine aw_aload_n rfl rfl rfl ?_
  refine aw_gp (12) hM rfl rfl (hM.f.k 42 rfl) rfl rfl (fun _ _ => ?_)
  refine aw_istore rfl (Nat.le_of_ble_eq_true rfl) rfl rfl ?_
  change aw _ _ _ _ 6 [some (.ref 42), some (.int (iI _)), some (.int (iI _)), some (.int (iI _)), some (.int (iI _)), some (.int (iI _))] _ _
  refine aw_aload_n rfl rfl rfl ?_
  refine aw_getr (b := 49) rfl rfl (hM.f.k 42 rfl) (hM.f.r 42 13 49 rfl) rfl ?_
  refine aw_iload rfl rfl rfl ?_
  refine aw_iload_n rfl rfl rfl ?_
  refine aw_sp (N := 24) hM rfl (hM.f.s 49 rfl) (by omega) rfl (by omega) (by omega) ⟨by omega, by omega⟩ rfl (fun τ1 hM1 hD1 => ?_)
  refine aw_aload_n rfl rfl rfl ?_
  refine aw_getr (b := 50) rfl rfl (hM1.f.k 42 rfl) (hM1.f.r 42 14 50 rfl) rfl ?_
  refine aw_iload rfl rfl rfl ?_
  refine aw_iload_n rfl rfl rfl ?_
  refine aw_sp (N := 24) hM1 rfl (hM1.f.s 50 rfl) (by omega) rfl (by omega) (by omega) ⟨by omega, by omega⟩ rfl (fun τ2 hM2 hD2 => ?_)
  refine aw_aload_n rfl rfl rfl ?_
  refine aw_getr (b := 51) rfl rfl (hM2.f.k 42 rfl) (hM2.f.r 42 15 51 rfl) rfl ?_
  refine aw_iload rfl rfl rfl ?_
  refine aw_iload_n rfl rfl rfl ?_
  refine aw_sp (N := 24) hM2 rfl (hM2.f.s 51 rfl) (by omega) rfl (by omega) (by omega) ⟨by omega, by omega⟩ rfl (fun τ3 hM3 hD3 => ?_)
  refine aw_aload_n rfl rfl rfl ?_
  refine aw_getr (b := 52) rfl rfl (hM3.f.k 42 rfl) (hM3.f.r 42 16 52 rfl) rfl ?_
  refine aw_iload rfl rfl rfl ?_
  refine aw_aload_n rfl rfl rfl ?_
  refine aw_gpv (v := A 42 3) (3) hM3 rfl rfl (hM3.f.k 42 rfl) rfl (by first | (simp [up]; done) | assumption) rfl (fun _ _ => ?_)
  refine aw_sp (N := 24) hM3 rfl (hM3.f.s 52 rfl) (by omega) rfl (by omega) (by omega) ⟨by omega, by omega⟩ rfl (fun τ4 hM4 hD4 => ?_)
  refine aw_aload_n rfl rfl rfl ?_
  refine aw_getr (b := 53) rfl rfl (hM4.f.k 42 rfl) (hM4.f.r 42 17 53 rfl) rfl ?_
  refine aw_iload rfl rfl rfl ?_
  refine aw_iconst rfl rfl ?_
  refine aw_sp (N := 24) hM4 rfl (hM4.f.s 53 rfl) (by omega) rfl (by omega) (by omega) ⟨by omega, by omega⟩ rfl (fun τ5 hM5 hD5 => ?_)
  refine aw_aload_n rfl rfl rfl ?_
  refine aw_getr (b := 54) rfl rfl (hM5.f.k 42 rfl) (hM5.f.r 42 18 54 rfl) rfl ?_
  refine aw_iload rfl rfl rfl ?_
  refine aw_iconst rfl rfl ?_
  refine aw_sp (N := 24) hM5 rfl (hM5.f.s 54 rfl) (by omega) rfl (by omega) (by omega) ⟨by omega, by omega⟩ rfl (fun τ6 hM6 hD6 => ?_)
  refine aw_aload_n rfl rfl rfl ?_
  refine aw_getr (b := 55) rfl rfl (hM6.f.k 42 rfl) (hM6.f.r 42 19 55 rfl) rfl ?_
  refine aw_iload rfl rfl rfl ?_
  refine aw_iconst rfl rfl ?_
  refine aw_sp (N := 24) hM6 rfl (hM6.f.s 55 rfl) (by omega) rfl (by omega) (by omega) ⟨by omega, by omega⟩ rfl (fun τ7 hM7 hD7 => ?_)
  refine aw_aload_n rfl rfl rfl ?_
  refine aw_getr (b := 56) rfl rfl (hM7.f.k 42 rfl) (hM7.f.r 42 20 56 rfl) rfl ?_
  refine aw_iload rfl rfl rfl ?_
  refine aw_iconst rfl rfl ?_
  refine aw_sp (N := 24) hM7 rfl (hM7.f.s 56 rfl) (by omega) rfl (by omega) (by omega) ⟨by omega, by omega⟩ rfl (fun τ8 hM8 hD8 => ?_)
  refine aw_aload_n rfl rfl rfl ?_
  refine aw_getr (b := 60) rfl rfl (hM8.f.k 42 rfl) (hM8.f.r 42 24 60 rfl) rfl ?_
  refine aw_iload rfl rfl rfl ?_
  refine aw_iconst rfl rfl ?_
  refine aw_sp (N := 24) hM8 rfl (hM8.f.s 60 rfl) (by omega) rfl (by omega) (by omega) ⟨by omega, by omega⟩ rfl (fun τ9 hM9 hD9 => ?_)
  refine aw_aload_n rfl rfl rfl ?_
  refine aw_getr (b := 62) rfl rfl (hM9.f.k 42 rfl) (hM9.f.r 42 26 62 rfl) rfl ?_
  refine aw_iload rfl rfl rfl ?_
  refine aw_iconst rfl rfl ?_
  refine aw_sp (N := 24) hM9 rfl (hM9.f.s 62 rfl) (by omega) rfl (by omega) (by omega) ⟨by omega, by omega⟩ rfl (fun τ10 hM10 hD10 => ?_)
  refine aw_aload_n rfl rfl rfl ?_
  refine aw_dup rfl rfl rfl ?_
  refine aw_gpv (v := A 42 12) (12) hM10 rfl rfl (hM10.f.k 42 rfl) rfl (by first | (simp [up]; done) | assumption) rfl (fun _ _ => ?_)
  refine aw_iconst rfl rfl ?_
  refine aw_iadd rfl rfl ?_
  refine aw_fp (12) hM10 rfl rfl (hM10.f.k 42 rfl) rfl (fun _ => rfl) rfl ⟨by omega, by omega⟩ rfl (fun τ11 hM11 hD11 => ?_)
  refine aw_aload_n rfl rfl rfl ?_
  refine aw_iload rfl rfl rfl ?_
  refine aw_aload_n rfl rfl rfl ?_
  refine aw_gpv (v := A 42 3) (3) hM11 rfl rfl (hM11.f.k 42 rfl) rfl (by first | (simp [up]; done) | assumption) rfl (fun _ _ => ?_)
  refine aw_iload rfl rfl rfl ?_
  refine aw_calc (m_enters (t := A 42 12) (x := A 42 3) hM11 (by omega) (by omega) (Int.le_of_eq (by simp [up])) (by simp [up]) ⟨by omega, by omega⟩ ⟨by omega, by omega⟩) rfl rfl rfl (Nat.le_of_ble_eq_true rfl) (Or.inr ⟨_, rfl, (hM11.f.k 42 rfl)⟩) rfl ?_
  rintro _ τ12 ⟨rfl, hM12, hD12⟩
  change aw _ _ _ _ 111 [some (.ref 42), some (.int (iI _)), some (.int (iI _)), some (.int (iI _)), some (.int (iI _)), some (.int (iI _))] [] _
  refine aw_iload rfl rfl rfl ?_
  refine aw_reti rfl ?_
  exact ⟨rfl, hM12, ((((((((((((hD1.su (T := [42, 49, 50, 51, 52, 53, 54, 55, 56, 57, 58, 59, 60, 62]) rfl).tr (hD2.su (T := [42, 49, 50, 51, 52, 53, 54, 55, 56, 57, 58, 59, 60, 62]) rfl)).tr (hD3.su (T := [42, 49, 50, 51, 52, 53, 54, 55, 56, 57, 58, 59, 60, 62]) rfl)).tr (hD4.su (T := [42, 49, 50, 51, 52, 53, 54, 55, 56, 57, 58, 59, 60, 62]) rfl)).tr (hD5.su (T := [42, 49, 50, 51, 52, 53, 54, 55, 56, 57, 58, 59, 60, 62]) rfl)).tr (hD6.su (T := [42, 49, 50, 51, 52, 53, 54, 55, 56, 57, 58, 59, 60, 62]) rfl)).tr (hD7.su (T := [42, 49, 50, 51, 52, 53, 54, 55, 56, 57, 58, 59, 60, 62]) rfl)).tr (hD8.su (T := [42, 49, 50, 51, 52, 53, 54, 55, 56, 57, 58, 59, 60, 62]) rfl)).tr (hD9.su (T := [42, 49, 50, 51, 52, 53, 54, 55, 56, 57, 58, 59, 60, 62]) rfl)).tr (hD10.su (T := [42, 49, 50, 51, 52, 53, 54, 55, 56, 57, 58, 59, 60, 62]) rfl)).tr (hD11.su (T := [42, 49, 50, 51, 52, 53, 54, 55, 56, 57, 58, 59, 60, 62]) rfl)).tr (hD12.su (T := [42, 49, 50, 51, 52, 53, 54, 55, 56, 57, 58, 59, 60, 62]) rfl))⟩
