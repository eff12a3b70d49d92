section AwMore
variable {d : Nat} {cd : List az_I} {rt : Option FieldType} {P : Option Value → az_S → Prop} {pc p' : Nat} {L : az_V} {st : List Value} {σ : az_S} {sz : Nat} {A : Nat → Int → Int}
theorem aw_ishrg {a k : Int} (hf : az_fetch cd pc = some (1, .ishr, [])) (ha : inI a) (h0 : 0 ≤ k) (h1 : k < 32) (hp : pc + 1 = p') (h : aw d cd rt P p' L (.int (iI (a / 2 ^ k.toNat)) :: st) σ) : aw d cd rt P pc L (.int (iI k) :: .int (iI a) :: st) σ := by
  subst hp
  refine aw_nx hf (Nat.le_of_ble_eq_true rfl) ⟨_, _, st, rfl, rfl⟩ ?_
  show aw d cd rt P (pc + 1) L (.int (iI a >>> (iI k &&& 31)) :: st) σ
  have e : iI a >>> (iI k &&& 31) = iI (a / 2 ^ k.toNat) := by
    rw [iI_nat' h0]
    apply Int32.toInt_inj.1
    have hr : inI (a / 2 ^ k.toNat) := by
      have hp : (1 : Int) ≤ 2 ^ k.toNat := Int.pow_pos (by decide)
      obtain ⟨a1, a2⟩ := ha
      constructor
      · rw [Int.le_ediv_iff_mul_le (by omega)]
        have := Int.mul_le_mul_of_nonneg_left hp (show (0 : Int) ≤ 2147483648 by decide)
        rw [Int.neg_mul]
        omega
      · rw [Int.ediv_lt_iff_lt_mul (by omega)]
        have := Int.mul_le_mul_of_nonneg_left hp (show (0 : Int) ≤ 2147483648 by decide)
        omega
    rw [iI_toInt hr, ← Int32.toInt_toBitVec, Int32.toBitVec_shiftRight]
    show ((iI a).toBitVec.sshiftRight ((nI k.toNat &&& 31).toBitVec.smod 32).toNat).toInt = _
    rw [nI_shm _ (by omega), BitVec.toInt_sshiftRight, Int32.toInt_toBitVec, iI_toInt ha, Int.shiftRight_eq_div_pow]
    simp
  rw [e]
  exact h
theorem i2b_eq (a : Int) : (iI a).toInt8.toInt32 = iI (a.bmod 256) := by
  have e : (iI a).toInt8 = Int8.ofInt a := Int32.toInt8_ofInt
  rw [e]
  apply Int32.toInt_inj.1
  rw [Int8.toInt_toInt32, Int8.toInt_ofInt, iI_toInt]
  · constructor
    · have := Int.le_bmod (x := a) (m := 256) (by decide); omega
    · have := Int.bmod_lt (x := a) (m := 256) (by decide); omega
theorem bmod_b (a : Int) : -128 ≤ a.bmod 256 ∧ a.bmod 256 ≤ 127 := by
  have h1 := Int.le_bmod (x := a) (m := 256) (by decide)
  have h2 := Int.bmod_lt (x := a) (m := 256) (by decide)
  omega
theorem aw_i2b {a : Int} (hf : az_fetch cd pc = some (1, .i2b, [])) (hp : pc + 1 = p') (h : aw d cd rt P p' L (.int (iI (a.bmod 256)) :: st) σ) : aw d cd rt P pc L (.int (iI a) :: st) σ := by
  subst hp; rw [← i2b_eq] at h; exact aw_nx hf (Nat.le_of_ble_eq_true rfl) ⟨_, st, rfl, rfl⟩ h
theorem aw_bsp {a N : Nat} {z x : Int} (hM : MV sz A σ) (hf : az_fetch cd pc = some (1, .bastore, [])) (hs : az_sh σ a = (102, N)) (hN : N ≤ 10000) (hq : pA a = true) (h0 : 0 ≤ z) (hj : z < N) (hx1 : -128 ≤ x) (hx2 : x ≤ 127) (hp : pc + 1 = p') (h : ∀ τ, MV sz (up A a z x) τ → Mod σ τ [a] → aw d cd rt P p' L st τ) : aw d cd rt P pc L (.int (iI x) :: .int (iI z) :: .ref a :: st) σ := by
  subst hp
  have hd : Mod σ (az_pi σ a z.toNat (iI x)) [a] := Mod_pi (by simp)
  have hx : inI x := ⟨by omega, by omega⟩
  refine aw_nx hf (Nat.le_of_ble_eq_true rfl) ⟨_, _, a, st, rfl, by rw [hs]; exact iI_in (by omega) (by omega) hN, Or.inr ⟨by rw [hs], rfl⟩⟩ ?_
  show aw d cd rt P (pc + 1) L st (az_pi σ a (iI z).toNatClampNeg (vp_nar .byte (iI x)))
  have e : vp_nar .byte (iI x) = iI x := by
    show (iI x).toInt8.toInt32 = iI x
    rw [i2b_eq, Int.bmod_eq_of_le (by omega) (by omega)]
  rw [iI_clamp (by omega) (by omega), e]
  refine h _ ⟨hd.fx hM.1, ?_⟩ hd
  rw [V_pi h0 hx (fun τ => by unfold V; rw [hq]) (fun e => by subst e; exact absurd hq (by decide)), hM.2]
theorem aw_glp {i : Nat} (hM : MV sz A σ) (hf : az_fetch cd pc = some (3, .getfield i, [13, 86])) (hk : az_ft 13 86 = 1) (hs : (az_sh σ 42).1 = 13) (hp : pc + 3 = p') (h : -9223372036854775808 ≤ A 42 86 → A 42 86 < 9223372036854775808 → aw d cd rt P p' L (.long (lI (A 42 86)) :: st) σ) : aw d cd rt P pc L (.ref 42 :: st) σ := by
  obtain ⟨-, rfl⟩ := hM
  exact aw_gl 86 hf hk hs rfl hp h
end AwMore
noncomputable def m_grant_op (A : Nat → Int → Int) (a e t u v f l w : Int) : Nat → Int → Int := tit ((((0 ≤ a ∧ a ≤ A 42 9 - 1) ∧ (0 ≤ e ∧ e ≤ A 42 9 - 1) ∧ a ≠ e ∧ (0 ≤ t ∧ t ≤ A 42 12 - 1) ∧ (0 ≤ u ∧ u ≤ 255) ∧ (0 ≤ v ∧ v ≤ 255)) ∧ (0 ≤ u / 16 ∧ u / 16 ≤ 11) ∧ (u / 16 ≤ u % 16 ∧ u % 16 ≤ 11) ∧ (0 ≤ v / 16 ∧ v / 16 ≤ 11) ∧ (0 ≤ v % 16 ∧ v % 16 ≤ 11)) ∧ (0 ≤ f ∧ f ≤ 3599) ∧ (f ≤ l ∧ l ≤ 3599) ∧ (0 ≤ w ∧ w ≤ 2) ∧ A 42 27 ≠ 60) (up (up (up (up (up (up (up (up (up (up (up (up A 63 (A 42 27) a) 64 (A 42 27) e) 65 (A 42 27) t) 66 (A 42 27) (u / 16)) 67 (A 42 27) (u % 16)) 68 (A 42 27) (v / 16)) 69 (A 42 27) (v % 16)) 70 (A 42 27) f) 71 (A 42 27) l) 72 (A 42 27) w) 73 (A 42 27) (A 42 3)) 42 27 (A 42 27 + 1)) A
set_option maxRecDepth 10000 in
set_option maxHeartbeats 2000000 in
theorem m_grant_l138 {d : Nat} {sz : Nat} {A : Nat → Int → Int} {σ : az_S} (hM : MV sz A σ) (hI : MI sz A) {a e t u v f l w : Int} (ha : inI a) (he : inI e) (ht : inI t) (hu : inI u) (hv : inI v) (hf : inI f) (hl : inI l) (hw : inI w) : ∀ (q : Int), q = bI (((0 ≤ a ∧ a ≤ A 42 9 - 1) ∧ (0 ≤ e ∧ e ≤ A 42 9 - 1) ∧ a ≠ e ∧ (0 ≤ t ∧ t ≤ A 42 12 - 1) ∧ (0 ≤ u ∧ u ≤ 255) ∧ (0 ≤ v ∧ v ≤ 255)) ∧ (0 ≤ u / 16 ∧ u / 16 ≤ 11) ∧ (u / 16 ≤ u % 16 ∧ u % 16 ≤ 11) ∧ (0 ≤ v / 16 ∧ v / 16 ≤ 11) ∧ (0 ≤ v % 16 ∧ v % 16 ≤ 11)) → aw (d + 2) k_X12_grant (some .int) (fun r τ => r = some (.int (iI (zit ((((0 ≤ a ∧ a ≤ A 42 9 - 1) ∧ (0 ≤ e ∧ e ≤ A 42 9 - 1) ∧ a ≠ e ∧ (0 ≤ t ∧ t ≤ A 42 12 - 1) ∧ (0 ≤ u ∧ u ≤ 255) ∧ (0 ≤ v ∧ v ≤ 255)) ∧ (0 ≤ u / 16 ∧ u / 16 ≤ 11) ∧ (u / 16 ≤ u % 16 ∧ u % 16 ≤ 11) ∧ (0 ≤ v / 16 ∧ v / 16 ≤ 11) ∧ (0 ≤ v % 16 ∧ v % 16 ≤ 11)) ∧ (0 ≤ f ∧ f ≤ 3599) ∧ (f ≤ l ∧ l ≤ 3599) ∧ (0 ≤ w ∧ w ≤ 2) ∧ A 42 27 ≠ 60) (A 42 27 + 1 - 1) (-1)))) ∧ MV sz (m_grant_op A a e t u v f l w) τ ∧ Mod σ τ [42, 63, 64, 65, 66, 67, 68, 69, 70, 71, 72, 73]) 138 [some (.ref 42), some (.int (iI a)), some (.int (iI e)), some (.int (iI t)), some (.int (iI u)), some (.int (iI v)), some (.int (iI f)), some (.int (iI l)), some (.int (iI w)), some (.int (iI q))] [] σ := by
  intro q hb
  obtain ⟨ha1, ha2⟩ := ha
  obtain ⟨he1, he2⟩ := he
  obtain ⟨ht1, ht2⟩ := ht
  obtain ⟨hu1, hu2⟩ := hu
  obtain ⟨hv1, hv2⟩ := hv
  obtain ⟨hf1, hf2⟩ := hf
  obtain ⟨hl1, hl2⟩ := hl
  obtain ⟨hw1, hw2⟩ := hw
  have hgr := hI.grants
  have hpe := hI.people
  have hth := hI.things
  have hcl := hI.clock
  have hbi := bI_r (((0 ≤ a ∧ a ≤ A 42 9 - 1) ∧ (0 ≤ e ∧ e ≤ A 42 9 - 1) ∧ a ≠ e ∧ (0 ≤ t ∧ t ≤ A 42 12 - 1) ∧ (0 ≤ u ∧ u ≤ 255) ∧ (0 ≤ v ∧ v ≤ 255)) ∧ (0 ≤ u / 16 ∧ u / 16 ≤ 11) ∧ (u / 16 ≤ u % 16 ∧ u % 16 ≤ 11) ∧ (0 ≤ v / 16 ∧ v / 16 ≤ 11) ∧ (0 ≤ v % 16 ∧ v % 16 ≤ 11))
  have hz := bI_zero (((0 ≤ a ∧ a ≤ A 42 9 - 1) ∧ (0 ≤ e ∧ e ≤ A 42 9 - 1) ∧ a ≠ e ∧ (0 ≤ t ∧ t ≤ A 42 12 - 1) ∧ (0 ≤ u ∧ u ≤ 255) ∧ (0 ≤ v ∧ v ≤ 255)) ∧ (0 ≤ u / 16 ∧ u / 16 ≤ 11) ∧ (u / 16 ≤ u % 16 ∧ u % 16 ≤ 11) ∧ (0 ≤ v / 16 ∧ v / 16 ≤ 11) ∧ (0 ≤ v % 16 ∧ v % 16 ≤ 11))
  rw [← hb] at hbi hz
  refine aw_iload rfl rfl rfl ?_
  refine aw_if (p' := 188) rfl ⟨by omega, by omega⟩ rfl rfl (fun c1 => ?_) (fun c1 => ?_)
  · dsimp only [zc] at c1
    refine aw_iconst rfl rfl ?_
    refine aw_reti rfl ?_
    refine ⟨?_, ?_, Mod.rf⟩
    · rw [zit_f (by rintro ⟨q1, q2⟩; first | omega | exact hz.mp (by omega) q1)]
    · unfold m_grant_op; rw [tit_f (by rintro ⟨q1, q2⟩; first | omega | exact hz.mp (by omega) q1)]; exact hM
  · dsimp only [zc] at c1
    have hg : (((0 ≤ a ∧ a ≤ A 42 9 - 1) ∧ (0 ≤ e ∧ e ≤ A 42 9 - 1) ∧ a ≠ e ∧ (0 ≤ t ∧ t ≤ A 42 12 - 1) ∧ (0 ≤ u ∧ u ≤ 255) ∧ (0 ≤ v ∧ v ≤ 255)) ∧ (0 ≤ u / 16 ∧ u / 16 ≤ 11) ∧ (u / 16 ≤ u % 16 ∧ u % 16 ≤ 11) ∧ (0 ≤ v / 16 ∧ v / 16 ≤ 11) ∧ (0 ≤ v % 16 ∧ v % 16 ≤ 11)) := Classical.byContradiction (fun q => by have := hz.mpr q; omega)
    refine aw_iload rfl rfl rfl ?_
    refine aw_fnc (m_isDay ⟨by omega, by omega⟩) rfl rfl rfl (Nat.le_of_ble_eq_true rfl) (Or.inl rfl) rfl ?_
    refine aw_ifeqb (p' := 188) rfl rfl rfl (fun c2 => ?_) (fun c2 => ?_)
    · refine aw_iconst rfl rfl ?_
      refine aw_reti rfl ?_
      refine ⟨?_, ?_, Mod.rf⟩
      · rw [zit_f (by rintro ⟨q1, q2⟩; first | omega | exact hz.mp (by omega) q1)]
      · unfold m_grant_op; rw [tit_f (by rintro ⟨q1, q2⟩; first | omega | exact hz.mp (by omega) q1)]; exact hM
    · refine aw_iload rfl rfl rfl ?_
      refine aw_i2l rfl ⟨by omega, by omega⟩ rfl ?_
      refine aw_iload rfl rfl rfl ?_
      refine aw_i2l rfl ⟨by omega, by omega⟩ rfl ?_
      refine aw_ldc2 (3599) rfl rfl rfl ?_
      refine aw_fnc (m_in ⟨by omega, by omega⟩ ⟨by omega, by omega⟩ ⟨by omega, by omega⟩) rfl rfl rfl (Nat.le_of_ble_eq_true rfl) (Or.inl rfl) rfl ?_
      refine aw_ifeqb (p' := 188) rfl rfl rfl (fun c3 => ?_) (fun c3 => ?_)
      · refine aw_iconst rfl rfl ?_
        refine aw_reti rfl ?_
        refine ⟨?_, ?_, Mod.rf⟩
        · rw [zit_f (by rintro ⟨q1, q2⟩; first | omega | exact hz.mp (by omega) q1)]
        · unfold m_grant_op; rw [tit_f (by rintro ⟨q1, q2⟩; first | omega | exact hz.mp (by omega) q1)]; exact hM
      · refine aw_iload rfl rfl rfl ?_
        refine aw_i2l rfl ⟨by omega, by omega⟩ rfl ?_
        refine aw_lconst 0 rfl rfl rfl ?_
        refine aw_ldc2 (2) rfl rfl rfl ?_
        refine aw_fnc (m_in ⟨by omega, by omega⟩ ⟨by omega, by omega⟩ ⟨by omega, by omega⟩) rfl rfl rfl (Nat.le_of_ble_eq_true rfl) (Or.inl rfl) rfl ?_
        refine aw_ifeqb (p' := 188) rfl rfl rfl (fun c4 => ?_) (fun c4 => ?_)
        · refine aw_iconst rfl rfl ?_
          refine aw_reti rfl ?_
          refine ⟨?_, ?_, Mod.rf⟩
          · rw [zit_f (by rintro ⟨q1, q2⟩; first | omega | exact hz.mp (by omega) q1)]
          · unfold m_grant_op; rw [tit_f (by rintro ⟨q1, q2⟩; first | omega | exact hz.mp (by omega) q1)]; exact hM
        · refine aw_aload_n rfl rfl rfl ?_
          refine aw_gp (27) hM rfl rfl (hM.f.k 42 rfl) rfl rfl (fun _ _ => ?_)
          refine aw_bipush rfl rfl rfl ?_
          refine aw_icmp (p' := 190) rfl ⟨by omega, by omega⟩ ⟨by omega, by omega⟩ rfl rfl (fun c5 => ?_) (fun c5 => ?_)
          · dsimp only [zc] at c5
            refine aw_aload_n rfl rfl rfl ?_
            refine aw_getr (b := 63) rfl rfl (hM.f.k 42 rfl) (hM.f.r 42 28 63 rfl) rfl ?_
            refine aw_aload_n rfl rfl rfl ?_
            refine aw_gp (27) hM rfl rfl (hM.f.k 42 rfl) rfl rfl (fun _ _ => ?_)
            refine aw_iload_n rfl rfl rfl ?_
            refine aw_sp (N := 60) hM rfl (hM.f.s 63 rfl) (by omega) rfl (by omega) (by omega) ⟨by omega, by omega⟩ rfl (fun τ6 hM6 hD6 => ?_)
            refine aw_aload_n rfl rfl rfl ?_
            refine aw_getr (b := 64) rfl rfl (hM6.f.k 42 rfl) (hM6.f.r 42 29 64 rfl) rfl ?_
            refine aw_aload_n rfl rfl rfl ?_
            refine aw_gpv (v := A 42 27) (27) hM6 rfl rfl (hM6.f.k 42 rfl) rfl (by first | (simp [up, mEnter, mStands, mStands0]; done) | assumption) rfl (fun _ _ => ?_)
            refine aw_iload_n rfl rfl rfl ?_
            refine aw_sp (N := 60) hM6 rfl (hM6.f.s 64 rfl) (by omega) rfl (by omega) (by omega) ⟨by omega, by omega⟩ rfl (fun τ7 hM7 hD7 => ?_)
            refine aw_aload_n rfl rfl rfl ?_
            refine aw_getr (b := 65) rfl rfl (hM7.f.k 42 rfl) (hM7.f.r 42 30 65 rfl) rfl ?_
            refine aw_aload_n rfl rfl rfl ?_
            refine aw_gpv (v := A 42 27) (27) hM7 rfl rfl (hM7.f.k 42 rfl) rfl (by first | (simp [up, mEnter, mStands, mStands0]; done) | assumption) rfl (fun _ _ => ?_)
            refine aw_iload_n rfl rfl rfl ?_
            refine aw_sp (N := 60) hM7 rfl (hM7.f.s 65 rfl) (by omega) rfl (by omega) (by omega) ⟨by omega, by omega⟩ rfl (fun τ8 hM8 hD8 => ?_)
            refine aw_aload_n rfl rfl rfl ?_
            refine aw_getr (b := 66) rfl rfl (hM8.f.k 42 rfl) (hM8.f.r 42 31 66 rfl) rfl ?_
            refine aw_aload_n rfl rfl rfl ?_
            refine aw_gpv (v := A 42 27) (27) hM8 rfl rfl (hM8.f.k 42 rfl) rfl (by first | (simp [up, mEnter, mStands, mStands0]; done) | assumption) rfl (fun _ _ => ?_)
            refine aw_iload rfl rfl rfl ?_
            refine aw_bipush rfl rfl rfl ?_
            refine aw_idiv rfl (by omega) (by omega) (by omega) (by omega) rfl ?_
            refine aw_sp (N := 60) hM8 rfl (hM8.f.s 66 rfl) (by omega) rfl (by omega) (by omega) ⟨by omega, by omega⟩ rfl (fun τ9 hM9 hD9 => ?_)
            refine aw_aload_n rfl rfl rfl ?_
            refine aw_getr (b := 67) rfl rfl (hM9.f.k 42 rfl) (hM9.f.r 42 32 67 rfl) rfl ?_
            refine aw_aload_n rfl rfl rfl ?_
            refine aw_gpv (v := A 42 27) (27) hM9 rfl rfl (hM9.f.k 42 rfl) rfl (by first | (simp [up, mEnter, mStands, mStands0]; done) | assumption) rfl (fun _ _ => ?_)
            refine aw_iload rfl rfl rfl ?_
            refine aw_bipush rfl rfl rfl ?_
            refine aw_irem rfl (by omega) (by omega) (by omega) (by omega) rfl ?_
            refine aw_sp (N := 60) hM9 rfl (hM9.f.s 67 rfl) (by omega) rfl (by omega) (by omega) ⟨by omega, by omega⟩ rfl (fun τ10 hM10 hD10 => ?_)
            refine aw_aload_n rfl rfl rfl ?_
            refine aw_getr (b := 68) rfl rfl (hM10.f.k 42 rfl) (hM10.f.r 42 33 68 rfl) rfl ?_
            refine aw_aload_n rfl rfl rfl ?_
            refine aw_gpv (v := A 42 27) (27) hM10 rfl rfl (hM10.f.k 42 rfl) rfl (by first | (simp [up, mEnter, mStands, mStands0]; done) | assumption) rfl (fun _ _ => ?_)
            refine aw_iload rfl rfl rfl ?_
            refine aw_bipush rfl rfl rfl ?_
            refine aw_idiv rfl (by omega) (by omega) (by omega) (by omega) rfl ?_
            refine aw_sp (N := 60) hM10 rfl (hM10.f.s 68 rfl) (by omega) rfl (by omega) (by omega) ⟨by omega, by omega⟩ rfl (fun τ11 hM11 hD11 => ?_)
            refine aw_aload_n rfl rfl rfl ?_
            refine aw_getr (b := 69) rfl rfl (hM11.f.k 42 rfl) (hM11.f.r 42 34 69 rfl) rfl ?_
            refine aw_aload_n rfl rfl rfl ?_
            refine aw_gpv (v := A 42 27) (27) hM11 rfl rfl (hM11.f.k 42 rfl) rfl (by first | (simp [up, mEnter, mStands, mStands0]; done) | assumption) rfl (fun _ _ => ?_)
            refine aw_iload rfl rfl rfl ?_
            refine aw_bipush rfl rfl rfl ?_
            refine aw_irem rfl (by omega) (by omega) (by omega) (by omega) rfl ?_
            refine aw_sp (N := 60) hM11 rfl (hM11.f.s 69 rfl) (by omega) rfl (by omega) (by omega) ⟨by omega, by omega⟩ rfl (fun τ12 hM12 hD12 => ?_)
            refine aw_aload_n rfl rfl rfl ?_
            refine aw_getr (b := 70) rfl rfl (hM12.f.k 42 rfl) (hM12.f.r 42 35 70 rfl) rfl ?_
            refine aw_aload_n rfl rfl rfl ?_
            refine aw_gpv (v := A 42 27) (27) hM12 rfl rfl (hM12.f.k 42 rfl) rfl (by first | (simp [up, mEnter, mStands, mStands0]; done) | assumption) rfl (fun _ _ => ?_)
            refine aw_iload rfl rfl rfl ?_
            refine aw_sp (N := 60) hM12 rfl (hM12.f.s 70 rfl) (by omega) rfl (by omega) (by omega) ⟨by omega, by omega⟩ rfl (fun τ13 hM13 hD13 => ?_)
            refine aw_aload_n rfl rfl rfl ?_
            refine aw_getr (b := 71) rfl rfl (hM13.f.k 42 rfl) (hM13.f.r 42 36 71 rfl) rfl ?_
            refine aw_aload_n rfl rfl rfl ?_
            refine aw_gpv (v := A 42 27) (27) hM13 rfl rfl (hM13.f.k 42 rfl) rfl (by first | (simp [up, mEnter, mStands, mStands0]; done) | assumption) rfl (fun _ _ => ?_)
            refine aw_iload rfl rfl rfl ?_
            refine aw_sp (N := 60) hM13 rfl (hM13.f.s 71 rfl) (by omega) rfl (by omega) (by omega) ⟨by omega, by omega⟩ rfl (fun τ14 hM14 hD14 => ?_)
            refine aw_aload_n rfl rfl rfl ?_
            refine aw_getr (b := 72) rfl rfl (hM14.f.k 42 rfl) (hM14.f.r 42 37 72 rfl) rfl ?_
            refine aw_aload_n rfl rfl rfl ?_
            refine aw_gpv (v := A 42 27) (27) hM14 rfl rfl (hM14.f.k 42 rfl) rfl (by first | (simp [up, mEnter, mStands, mStands0]; done) | assumption) rfl (fun _ _ => ?_)
            refine aw_iload rfl rfl rfl ?_
            refine aw_sp (N := 60) hM14 rfl (hM14.f.s 72 rfl) (by omega) rfl (by omega) (by omega) ⟨by omega, by omega⟩ rfl (fun τ15 hM15 hD15 => ?_)
            refine aw_aload_n rfl rfl rfl ?_
            refine aw_getr (b := 73) rfl rfl (hM15.f.k 42 rfl) (hM15.f.r 42 38 73 rfl) rfl ?_
            refine aw_aload_n rfl rfl rfl ?_
            refine aw_gpv (v := A 42 27) (27) hM15 rfl rfl (hM15.f.k 42 rfl) rfl (by first | (simp [up, mEnter, mStands, mStands0]; done) | assumption) rfl (fun _ _ => ?_)
            refine aw_aload_n rfl rfl rfl ?_
            refine aw_gpv (v := A 42 3) (3) hM15 rfl rfl (hM15.f.k 42 rfl) rfl (by first | (simp [up, mEnter, mStands, mStands0]; done) | assumption) rfl (fun _ _ => ?_)
            refine aw_sp (N := 60) hM15 rfl (hM15.f.s 73 rfl) (by omega) rfl (by omega) (by omega) ⟨by omega, by omega⟩ rfl (fun τ16 hM16 hD16 => ?_)
            refine aw_aload_n rfl rfl rfl ?_
            refine aw_dup rfl rfl rfl ?_
            refine aw_gpv (v := A 42 27) (27) hM16 rfl rfl (hM16.f.k 42 rfl) rfl (by first | (simp [up, mEnter, mStands, mStands0]; done) | assumption) rfl (fun _ _ => ?_)
            refine aw_iconst rfl rfl ?_
            refine aw_iadd rfl rfl ?_
            refine aw_fp (27) hM16 rfl rfl (hM16.f.k 42 rfl) rfl (fun _ => rfl) rfl ⟨by omega, by omega⟩ rfl (fun τ17 hM17 hD17 => ?_)
            refine aw_aload_n rfl rfl rfl ?_
            refine aw_gpv (v := (A 42 27) + 1) (27) hM17 rfl rfl (hM17.f.k 42 rfl) rfl (by first | (simp [up, mEnter, mStands, mStands0]; done) | assumption) rfl (fun _ _ => ?_)
            refine aw_iconst rfl rfl ?_
            refine aw_isub rfl rfl ?_
            refine aw_reti rfl ?_
            refine ⟨?_, ?_, ((((((((((((hD6.su (T := [42, 63, 64, 65, 66, 67, 68, 69, 70, 71, 72, 73]) rfl).tr (hD7.su (T := [42, 63, 64, 65, 66, 67, 68, 69, 70, 71, 72, 73]) rfl)).tr (hD8.su (T := [42, 63, 64, 65, 66, 67, 68, 69, 70, 71, 72, 73]) rfl)).tr (hD9.su (T := [42, 63, 64, 65, 66, 67, 68, 69, 70, 71, 72, 73]) rfl)).tr (hD10.su (T := [42, 63, 64, 65, 66, 67, 68, 69, 70, 71, 72, 73]) rfl)).tr (hD11.su (T := [42, 63, 64, 65, 66, 67, 68, 69, 70, 71, 72, 73]) rfl)).tr (hD12.su (T := [42, 63, 64, 65, 66, 67, 68, 69, 70, 71, 72, 73]) rfl)).tr (hD13.su (T := [42, 63, 64, 65, 66, 67, 68, 69, 70, 71, 72, 73]) rfl)).tr (hD14.su (T := [42, 63, 64, 65, 66, 67, 68, 69, 70, 71, 72, 73]) rfl)).tr (hD15.su (T := [42, 63, 64, 65, 66, 67, 68, 69, 70, 71, 72, 73]) rfl)).tr (hD16.su (T := [42, 63, 64, 65, 66, 67, 68, 69, 70, 71, 72, 73]) rfl)).tr (hD17.su (T := [42, 63, 64, 65, 66, 67, 68, 69, 70, 71, 72, 73]) rfl))⟩
            · rw [zit_t ⟨Classical.byContradiction (fun q => by have := hz.mpr q; omega), by omega⟩]
            · unfold m_grant_op; rw [tit_t ⟨Classical.byContradiction (fun q => by have := hz.mpr q; omega), by omega⟩]; exact hM17
          · dsimp only [zc] at c5
            refine aw_iconst rfl rfl ?_
            refine aw_reti rfl ?_
            refine ⟨?_, ?_, Mod.rf⟩
            · rw [zit_f (by rintro ⟨q1, q2⟩; first | omega | exact hz.mp (by omega) q1)]
            · unfold m_grant_op; rw [tit_f (by rintro ⟨q1, q2⟩; first | omega | exact hz.mp (by omega) q1)]; exact hM
set_option maxRecDepth 10000 in
set_option maxHeartbeats 2000000 in
theorem m_grant_l62 {d : Nat} {sz : Nat} {A : Nat → Int → Int} {σ : az_S} (hM : MV sz A σ) (hI : MI sz A) {a e t u v f l w : Int} (ha : inI a) (he : inI e) (ht : inI t) (hu : inI u) (hv : inI v) (hf : inI f) (hl : inI l) (hw : inI w) : ∀ (q : Int), q = bI ((0 ≤ a ∧ a ≤ A 42 9 - 1) ∧ (0 ≤ e ∧ e ≤ A 42 9 - 1) ∧ a ≠ e ∧ (0 ≤ t ∧ t ≤ A 42 12 - 1) ∧ (0 ≤ u ∧ u ≤ 255) ∧ (0 ≤ v ∧ v ≤ 255)) → aw (d + 2) k_X12_grant (some .int) (fun r τ => r = some (.int (iI (zit ((((0 ≤ a ∧ a ≤ A 42 9 - 1) ∧ (0 ≤ e ∧ e ≤ A 42 9 - 1) ∧ a ≠ e ∧ (0 ≤ t ∧ t ≤ A 42 12 - 1) ∧ (0 ≤ u ∧ u ≤ 255) ∧ (0 ≤ v ∧ v ≤ 255)) ∧ (0 ≤ u / 16 ∧ u / 16 ≤ 11) ∧ (u / 16 ≤ u % 16 ∧ u % 16 ≤ 11) ∧ (0 ≤ v / 16 ∧ v / 16 ≤ 11) ∧ (0 ≤ v % 16 ∧ v % 16 ≤ 11)) ∧ (0 ≤ f ∧ f ≤ 3599) ∧ (f ≤ l ∧ l ≤ 3599) ∧ (0 ≤ w ∧ w ≤ 2) ∧ A 42 27 ≠ 60) (A 42 27 + 1 - 1) (-1)))) ∧ MV sz (m_grant_op A a e t u v f l w) τ ∧ Mod σ τ [42, 63, 64, 65, 66, 67, 68, 69, 70, 71, 72, 73]) 62 [some (.ref 42), some (.int (iI a)), some (.int (iI e)), some (.int (iI t)), some (.int (iI u)), some (.int (iI v)), some (.int (iI f)), some (.int (iI l)), some (.int (iI w)), some (.int (iI q))] [] σ := by
  intro q hb
  obtain ⟨ha1, ha2⟩ := ha
  obtain ⟨he1, he2⟩ := he
  obtain ⟨ht1, ht2⟩ := ht
  obtain ⟨hu1, hu2⟩ := hu
  obtain ⟨hv1, hv2⟩ := hv
  obtain ⟨hf1, hf2⟩ := hf
  obtain ⟨hl1, hl2⟩ := hl
  obtain ⟨hw1, hw2⟩ := hw
  have hgr := hI.grants
  have hpe := hI.people
  have hth := hI.things
  have hcl := hI.clock
  have hbi := bI_r ((0 ≤ a ∧ a ≤ A 42 9 - 1) ∧ (0 ≤ e ∧ e ≤ A 42 9 - 1) ∧ a ≠ e ∧ (0 ≤ t ∧ t ≤ A 42 12 - 1) ∧ (0 ≤ u ∧ u ≤ 255) ∧ (0 ≤ v ∧ v ≤ 255))
  have hz := bI_zero ((0 ≤ a ∧ a ≤ A 42 9 - 1) ∧ (0 ≤ e ∧ e ≤ A 42 9 - 1) ∧ a ≠ e ∧ (0 ≤ t ∧ t ≤ A 42 12 - 1) ∧ (0 ≤ u ∧ u ≤ 255) ∧ (0 ≤ v ∧ v ≤ 255))
  rw [← hb] at hbi hz
  refine aw_iload rfl rfl rfl ?_
  refine aw_if (p' := 135) rfl ⟨by omega, by omega⟩ rfl rfl (fun c18 => ?_) (fun c18 => ?_)
  · dsimp only [zc] at c18
    refine aw_iconst rfl rfl ?_
    refine aw_istore rfl (Nat.le_of_ble_eq_true rfl) rfl rfl ?_
    change aw _ _ _ _ 138 [some (.ref 42), some (.int (iI _)), some (.int (iI _)), some (.int (iI _)), some (.int (iI _)), some (.int (iI _)), some (.int (iI _)), some (.int (iI _)), some (.int (iI _)), some (.int (iI _))] _ _
    exact m_grant_l138 hM hI ⟨ha1, ha2⟩ ⟨he1, he2⟩ ⟨ht1, ht2⟩ ⟨hu1, hu2⟩ ⟨hv1, hv2⟩ ⟨hf1, hf2⟩ ⟨hl1, hl2⟩ ⟨hw1, hw2⟩ _ (by first | rw [bI_t ⟨Classical.byContradiction (fun q => by have := hz.mpr q; omega), by omega⟩] | rw [bI_f (by rintro ⟨q1, q2⟩; first | omega | exact hz.mp (by omega) q1)])
  · dsimp only [zc] at c18
    have hg : ((0 ≤ a ∧ a ≤ A 42 9 - 1) ∧ (0 ≤ e ∧ e ≤ A 42 9 - 1) ∧ a ≠ e ∧ (0 ≤ t ∧ t ≤ A 42 12 - 1) ∧ (0 ≤ u ∧ u ≤ 255) ∧ (0 ≤ v ∧ v ≤ 255)) := Classical.byContradiction (fun q => by have := hz.mpr q; omega)
    refine aw_iload rfl rfl rfl ?_
    refine aw_bipush rfl rfl rfl ?_
    refine aw_idiv rfl (by omega) (by omega) (by omega) (by omega) rfl ?_
    refine aw_fnc (m_isHour ⟨by omega, by omega⟩) rfl rfl rfl (Nat.le_of_ble_eq_true rfl) (Or.inl rfl) rfl ?_
    refine aw_ifeqb (p' := 135) rfl rfl rfl (fun c19 => ?_) (fun c19 => ?_)
    · refine aw_iconst rfl rfl ?_
      refine aw_istore rfl (Nat.le_of_ble_eq_true rfl) rfl rfl ?_
      change aw _ _ _ _ 138 [some (.ref 42), some (.int (iI _)), some (.int (iI _)), some (.int (iI _)), some (.int (iI _)), some (.int (iI _)), some (.int (iI _)), some (.int (iI _)), some (.int (iI _)), some (.int (iI _))] _ _
      exact m_grant_l138 hM hI ⟨ha1, ha2⟩ ⟨he1, he2⟩ ⟨ht1, ht2⟩ ⟨hu1, hu2⟩ ⟨hv1, hv2⟩ ⟨hf1, hf2⟩ ⟨hl1, hl2⟩ ⟨hw1, hw2⟩ _ (by first | rw [bI_t ⟨Classical.byContradiction (fun q => by have := hz.mpr q; omega), by omega⟩] | rw [bI_f (by rintro ⟨q1, q2⟩; first | omega | exact hz.mp (by omega) q1)])
    · refine aw_iload rfl rfl rfl ?_
      refine aw_bipush rfl rfl rfl ?_
      refine aw_irem rfl (by omega) (by omega) (by omega) (by omega) rfl ?_
      refine aw_i2l rfl ⟨by omega, by omega⟩ rfl ?_
      refine aw_iload rfl rfl rfl ?_
      refine aw_bipush rfl rfl rfl ?_
      refine aw_idiv rfl (by omega) (by omega) (by omega) (by omega) rfl ?_
      refine aw_i2l rfl ⟨by omega, by omega⟩ rfl ?_
      refine aw_ldc2 (11) rfl rfl rfl ?_
      refine aw_fnc (m_in ⟨by omega, by omega⟩ ⟨by omega, by omega⟩ ⟨by omega, by omega⟩) rfl rfl rfl (Nat.le_of_ble_eq_true rfl) (Or.inl rfl) rfl ?_
      refine aw_ifeqb (p' := 135) rfl rfl rfl (fun c20 => ?_) (fun c20 => ?_)
      · refine aw_iconst rfl rfl ?_
        refine aw_istore rfl (Nat.le_of_ble_eq_true rfl) rfl rfl ?_
        change aw _ _ _ _ 138 [some (.ref 42), some (.int (iI _)), some (.int (iI _)), some (.int (iI _)), some (.int (iI _)), some (.int (iI _)), some (.int (iI _)), some (.int (iI _)), some (.int (iI _)), some (.int (iI _))] _ _
        exact m_grant_l138 hM hI ⟨ha1, ha2⟩ ⟨he1, he2⟩ ⟨ht1, ht2⟩ ⟨hu1, hu2⟩ ⟨hv1, hv2⟩ ⟨hf1, hf2⟩ ⟨hl1, hl2⟩ ⟨hw1, hw2⟩ _ (by first | rw [bI_t ⟨Classical.byContradiction (fun q => by have := hz.mpr q; omega), by omega⟩] | rw [bI_f (by rintro ⟨q1, q2⟩; first | omega | exact hz.mp (by omega) q1)])
      · refine aw_iload rfl rfl rfl ?_
        refine aw_bipush rfl rfl rfl ?_
        refine aw_idiv rfl (by omega) (by omega) (by omega) (by omega) rfl ?_
        refine aw_i2l rfl ⟨by omega, by omega⟩ rfl ?_
        refine aw_lconst 0 rfl rfl rfl ?_
        refine aw_ldc2 (11) rfl rfl rfl ?_
        refine aw_fnc (m_in ⟨by omega, by omega⟩ ⟨by omega, by omega⟩ ⟨by omega, by omega⟩) rfl rfl rfl (Nat.le_of_ble_eq_true rfl) (Or.inl rfl) rfl ?_
        refine aw_ifeqb (p' := 135) rfl rfl rfl (fun c21 => ?_) (fun c21 => ?_)
        · refine aw_iconst rfl rfl ?_
          refine aw_istore rfl (Nat.le_of_ble_eq_true rfl) rfl rfl ?_
          change aw _ _ _ _ 138 [some (.ref 42), some (.int (iI _)), some (.int (iI _)), some (.int (iI _)), some (.int (iI _)), some (.int (iI _)), some (.int (iI _)), some (.int (iI _)), some (.int (iI _)), some (.int (iI _))] _ _
          exact m_grant_l138 hM hI ⟨ha1, ha2⟩ ⟨he1, he2⟩ ⟨ht1, ht2⟩ ⟨hu1, hu2⟩ ⟨hv1, hv2⟩ ⟨hf1, hf2⟩ ⟨hl1, hl2⟩ ⟨hw1, hw2⟩ _ (by first | rw [bI_t ⟨Classical.byContradiction (fun q => by have := hz.mpr q; omega), by omega⟩] | rw [bI_f (by rintro ⟨q1, q2⟩; first | omega | exact hz.mp (by omega) q1)])
        · refine aw_iload rfl rfl rfl ?_
          refine aw_bipush rfl rfl rfl ?_
          refine aw_irem rfl (by omega) (by omega) (by omega) (by omega) rfl ?_
          refine aw_i2l rfl ⟨by omega, by omega⟩ rfl ?_
          refine aw_lconst 0 rfl rfl rfl ?_
          refine aw_ldc2 (11) rfl rfl rfl ?_
          refine aw_fnc (m_in ⟨by omega, by omega⟩ ⟨by omega, by omega⟩ ⟨by omega, by omega⟩) rfl rfl rfl (Nat.le_of_ble_eq_true rfl) (Or.inl rfl) rfl ?_
          refine aw_ifeqb (p' := 135) rfl rfl rfl (fun c22 => ?_) (fun c22 => ?_)
          · refine aw_iconst rfl rfl ?_
            refine aw_istore rfl (Nat.le_of_ble_eq_true rfl) rfl rfl ?_
            change aw _ _ _ _ 138 [some (.ref 42), some (.int (iI _)), some (.int (iI _)), some (.int (iI _)), some (.int (iI _)), some (.int (iI _)), some (.int (iI _)), some (.int (iI _)), some (.int (iI _)), some (.int (iI _))] _ _
            exact m_grant_l138 hM hI ⟨ha1, ha2⟩ ⟨he1, he2⟩ ⟨ht1, ht2⟩ ⟨hu1, hu2⟩ ⟨hv1, hv2⟩ ⟨hf1, hf2⟩ ⟨hl1, hl2⟩ ⟨hw1, hw2⟩ _ (by first | rw [bI_t ⟨Classical.byContradiction (fun q => by have := hz.mpr q; omega), by omega⟩] | rw [bI_f (by rintro ⟨q1, q2⟩; first | omega | exact hz.mp (by omega) q1)])
          · refine aw_iconst rfl rfl ?_
            refine aw_goto (p' := 136) rfl rfl ?_
            refine aw_istore rfl (Nat.le_of_ble_eq_true rfl) rfl rfl ?_
            change aw _ _ _ _ 138 [some (.ref 42), some (.int (iI _)), some (.int (iI _)), some (.int (iI _)), some (.int (iI _)), some (.int (iI _)), some (.int (iI _)), some (.int (iI _)), some (.int (iI _)), some (.int (iI _))] _ _
            exact m_grant_l138 hM hI ⟨ha1, ha2⟩ ⟨he1, he2⟩ ⟨ht1, ht2⟩ ⟨hu1, hu2⟩ ⟨hv1, hv2⟩ ⟨hf1, hf2⟩ ⟨hl1, hl2⟩ ⟨hw1, hw2⟩ _ (by first | rw [bI_t ⟨Classical.byContradiction (fun q => by have := hz.mpr q; omega), by omega⟩] | rw [bI_f (by rintro ⟨q1, q2⟩; first | omega | exact hz.mp (by omega) q1)])
set_option maxRecDepth 10000 in
set_option maxHeartbeats 2000000 in
theorem m_grant {d : Nat} {sz : Nat} {A : Nat → Int → Int} {σ : az_S} (hM : MV sz A σ) (hI : MI sz A) {a e t u v f l w : Int} (ha : inI a) (he : inI e) (ht : inI t) (hu : inI u) (hv : inI v) (hf : inI f) (hl : inI l) (hw : inI w) : cal (d + 3) 191 [.ref 42, .int (iI a), .int (iI e), .int (iI t), .int (iI u), .int (iI v), .int (iI f), .int (iI l), .int (iI w)] σ (fun r τ => r = some (.int (iI (zit ((((0 ≤ a ∧ a ≤ A 42 9 - 1) ∧ (0 ≤ e ∧ e ≤ A 42 9 - 1) ∧ a ≠ e ∧ (0 ≤ t ∧ t ≤ A 42 12 - 1) ∧ (0 ≤ u ∧ u ≤ 255) ∧ (0 ≤ v ∧ v ≤ 255)) ∧ (0 ≤ u / 16 ∧ u / 16 ≤ 11) ∧ (u / 16 ≤ u % 16 ∧ u % 16 ≤ 11) ∧ (0 ≤ v / 16 ∧ v / 16 ≤ 11) ∧ (0 ≤ v % 16 ∧ v % 16 ≤ 11)) ∧ (0 ≤ f ∧ f ≤ 3599) ∧ (f ≤ l ∧ l ≤ 3599) ∧ (0 ≤ w ∧ w ≤ 2) ∧ A 42 27 ≠ 60) (A 42 27 + 1 - 1) (-1)))) ∧ MV sz (m_grant_op A a e t u v f l w) τ ∧ Mod σ τ [42, 63, 64, 65, 66, 67, 68, 69, 70, 71, 72, 73]) := by
  obtain ⟨ha1, ha2⟩ := ha
  obtain ⟨he1, he2⟩ := he
  obtain ⟨ht1, ht2⟩ := ht
  obtain ⟨hu1, hu2⟩ := hu
  obtain ⟨hv1, hv2⟩ := hv
  obtain ⟨hf1, hf2⟩ := hf
  obtain ⟨hl1, hl2⟩ := hl
  obtain ⟨hw1, hw2⟩ := hw
  have hgr := hI.grants
  have hpe := hI.people
  have hth := hI.things
  have hcl := hI.clock
  refine cal_of (M := (yX12_grant, cX12_grant, 10, (some .int))) (cd := k_X12_grant) (L := [some (.ref 42), some (.int (iI a)), some (.int (iI e)), some (.int (iI t)), some (.int (iI u)), some (.int (iI v)), some (.int (iI f)), some (.int (iI l)), some (.int (iI w)), none]) rfl (Nat.le_of_ble_eq_true rfl) rfl rfl ?_
  refine aw_aload_n rfl rfl rfl ?_
  refine aw_iload_n rfl rfl rfl ?_
  refine aw_fnc (m_isPerson hM hI ⟨by omega, by omega⟩) rfl rfl rfl (Nat.le_of_ble_eq_true rfl) (Or.inr ⟨_, rfl, (hM.f.k 42 rfl)⟩) rfl ?_
  refine aw_ifeqb (p' := 59) rfl rfl rfl (fun c23 => ?_) (fun c23 => ?_)
  · refine aw_iconst rfl rfl ?_
    refine aw_istore rfl (Nat.le_of_ble_eq_true rfl) rfl rfl ?_
    change aw _ _ _ _ 62 [some (.ref 42), some (.int (iI _)), some (.int (iI _)), some (.int (iI _)), some (.int (iI _)), some (.int (iI _)), some (.int (iI _)), some (.int (iI _)), some (.int (iI _)), some (.int (iI _))] _ _
    exact m_grant_l62 hM hI ⟨ha1, ha2⟩ ⟨he1, he2⟩ ⟨ht1, ht2⟩ ⟨hu1, hu2⟩ ⟨hv1, hv2⟩ ⟨hf1, hf2⟩ ⟨hl1, hl2⟩ ⟨hw1, hw2⟩ _ (by first | rw [bI_t (by omega)] | rw [bI_f (by omega)])
  · refine aw_aload_n rfl rfl rfl ?_
    refine aw_iload_n rfl rfl rfl ?_
    refine aw_fnc (m_isPerson hM hI ⟨by omega, by omega⟩) rfl rfl rfl (Nat.le_of_ble_eq_true rfl) (Or.inr ⟨_, rfl, (hM.f.k 42 rfl)⟩) rfl ?_
    refine aw_ifeqb (p' := 59) rfl rfl rfl (fun c24 => ?_) (fun c24 => ?_)
    · refine aw_iconst rfl rfl ?_
      refine aw_istore rfl (Nat.le_of_ble_eq_true rfl) rfl rfl ?_
      change aw _ _ _ _ 62 [some (.ref 42), some (.int (iI _)), some (.int (iI _)), some (.int (iI _)), some (.int (iI _)), some (.int (iI _)), some (.int (iI _)), some (.int (iI _)), some (.int (iI _)), some (.int (iI _))] _ _
      exact m_grant_l62 hM hI ⟨ha1, ha2⟩ ⟨he1, he2⟩ ⟨ht1, ht2⟩ ⟨hu1, hu2⟩ ⟨hv1, hv2⟩ ⟨hf1, hf2⟩ ⟨hl1, hl2⟩ ⟨hw1, hw2⟩ _ (by first | rw [bI_t (by omega)] | rw [bI_f (by omega)])
    · refine aw_iload_n rfl rfl rfl ?_
      refine aw_iload_n rfl rfl rfl ?_
      refine aw_icmp (p' := 59) rfl ⟨by omega, by omega⟩ ⟨by omega, by omega⟩ rfl rfl (fun c25 => ?_) (fun c25 => ?_)
      · dsimp only [zc] at c25
        refine aw_iconst rfl rfl ?_
        refine aw_istore rfl (Nat.le_of_ble_eq_true rfl) rfl rfl ?_
        change aw _ _ _ _ 62 [some (.ref 42), some (.int (iI _)), some (.int (iI _)), some (.int (iI _)), some (.int (iI _)), some (.int (iI _)), some (.int (iI _)), some (.int (iI _)), some (.int (iI _)), some (.int (iI _))] _ _
        exact m_grant_l62 hM hI ⟨ha1, ha2⟩ ⟨he1, he2⟩ ⟨ht1, ht2⟩ ⟨hu1, hu2⟩ ⟨hv1, hv2⟩ ⟨hf1, hf2⟩ ⟨hl1, hl2⟩ ⟨hw1, hw2⟩ _ (by first | rw [bI_t (by omega)] | rw [bI_f (by omega)])
      · dsimp only [zc] at c25
        refine aw_aload_n rfl rfl rfl ?_
        refine aw_iload_n rfl rfl rfl ?_
        refine aw_fnc (m_isThing hM hI ⟨by omega, by omega⟩) rfl rfl rfl (Nat.le_of_ble_eq_true rfl) (Or.inr ⟨_, rfl, (hM.f.k 42 rfl)⟩) rfl ?_
        refine aw_ifeqb (p' := 59) rfl rfl rfl (fun c26 => ?_) (fun c26 => ?_)
        · refine aw_iconst rfl rfl ?_
          refine aw_istore rfl (Nat.le_of_ble_eq_true rfl) rfl rfl ?_
          change aw _ _ _ _ 62 [some (.ref 42), some (.int (iI _)), some (.int (iI _)), some (.int (iI _)), some (.int (iI _)), some (.int (iI _)), some (.int (iI _)), some (.int (iI _)), some (.int (iI _)), some (.int (iI _))] _ _
          exact m_grant_l62 hM hI ⟨ha1, ha2⟩ ⟨he1, he2⟩ ⟨ht1, ht2⟩ ⟨hu1, hu2⟩ ⟨hv1, hv2⟩ ⟨hf1, hf2⟩ ⟨hl1, hl2⟩ ⟨hw1, hw2⟩ _ (by first | rw [bI_t (by omega)] | rw [bI_f (by omega)])
        · refine aw_iload rfl rfl rfl ?_
          refine aw_i2l rfl ⟨by omega, by omega⟩ rfl ?_
          refine aw_lconst 0 rfl rfl rfl ?_
          refine aw_ldc2 (255) rfl rfl rfl ?_
          refine aw_fnc (m_in ⟨by omega, by omega⟩ ⟨by omega, by omega⟩ ⟨by omega, by omega⟩) rfl rfl rfl (Nat.le_of_ble_eq_true rfl) (Or.inl rfl) rfl ?_
          refine aw_ifeqb (p' := 59) rfl rfl rfl (fun c27 => ?_) (fun c27 => ?_)
          · refine aw_iconst rfl rfl ?_
            refine aw_istore rfl (Nat.le_of_ble_eq_true rfl) rfl rfl ?_
            change aw _ _ _ _ 62 [some (.ref 42), some (.int (iI _)), some (.int (iI _)), some (.int (iI _)), some (.int (iI _)), some (.int (iI _)), some (.int (iI _)), some (.int (iI _)), some (.int (iI _)), some (.int (iI _))] _ _
            exact m_grant_l62 hM hI ⟨ha1, ha2⟩ ⟨he1, he2⟩ ⟨ht1, ht2⟩ ⟨hu1, hu2⟩ ⟨hv1, hv2⟩ ⟨hf1, hf2⟩ ⟨hl1, hl2⟩ ⟨hw1, hw2⟩ _ (by first | rw [bI_t (by omega)] | rw [bI_f (by omega)])
          · refine aw_iload rfl rfl rfl ?_
            refine aw_i2l rfl ⟨by omega, by omega⟩ rfl ?_
            refine aw_lconst 0 rfl rfl rfl ?_
            refine aw_ldc2 (255) rfl rfl rfl ?_
            refine aw_fnc (m_in ⟨by omega, by omega⟩ ⟨by omega, by omega⟩ ⟨by omega, by omega⟩) rfl rfl rfl (Nat.le_of_ble_eq_true rfl) (Or.inl rfl) rfl ?_
            refine aw_ifeqb (p' := 59) rfl rfl rfl (fun c28 => ?_) (fun c28 => ?_)
            · refine aw_iconst rfl rfl ?_
              refine aw_istore rfl (Nat.le_of_ble_eq_true rfl) rfl rfl ?_
              change aw _ _ _ _ 62 [some (.ref 42), some (.int (iI _)), some (.int (iI _)), some (.int (iI _)), some (.int (iI _)), some (.int (iI _)), some (.int (iI _)), some (.int (iI _)), some (.int (iI _)), some (.int (iI _))] _ _
              exact m_grant_l62 hM hI ⟨ha1, ha2⟩ ⟨he1, he2⟩ ⟨ht1, ht2⟩ ⟨hu1, hu2⟩ ⟨hv1, hv2⟩ ⟨hf1, hf2⟩ ⟨hl1, hl2⟩ ⟨hw1, hw2⟩ _ (by first | rw [bI_t (by omega)] | rw [bI_f (by omega)])
            · refine aw_iconst rfl rfl ?_
              refine aw_goto (p' := 60) rfl rfl ?_
              refine aw_istore rfl (Nat.le_of_ble_eq_true rfl) rfl rfl ?_
              change aw _ _ _ _ 62 [some (.ref 42), some (.int (iI _)), some (.int (iI _)), some (.int (iI _)), some (.int (iI _)), some (.int (iI _)), some (.int (iI _)), some (.int (iI _)), some (.int (iI _)), some (.int (iI _))] _ _
              exact m_grant_l62 hM hI ⟨ha1, ha2⟩ ⟨he1, he2⟩ ⟨ht1, ht2⟩ ⟨hu1, hu2⟩ ⟨hv1, hv2⟩ ⟨hf1, hf2⟩ ⟨hl1, hl2⟩ ⟨hw1, hw2⟩ _ (by first | rw [bI_t (by omega)] | rw [bI_f (by omega)])
noncomputable def mStandN (A : Nat → Int → Int) : Nat → Int := cntN (fun t => 0 ≤ mH A t (A 42 3) (A 42 3))
set_option maxRecDepth 10000 in
set_option maxHeartbeats 2000000 in
theorem m_about_l4 {d : Nat} {sz : Nat} {A : Nat → Int → Int} {σ : az_S} (hM : MV sz A σ) (hI : MI sz A) {w : Int} (hw : inI w) : ∀ (n : Nat) (t s : Int), (A 42 12 - t).toNat = n → 0 ≤ t → t ≤ A 42 12 → s = mStandN A t.toNat → aw (d + 2) k_X12_about (some .int) (fun r τ => r = some (.int (iI (if w = 0 then A 42 3 else if w = 1 then A 42 0 else if w = 2 then A 42 1 else if w = 3 then A 42 9 else if w = 4 then A 42 12 else if w = 5 then A 42 27 else if w = 6 then A 42 6 else if w = 7 then A 42 66 else if w = 8 then A 42 55 else if w = 9 then A 42 40 else if w = 10 then mStandN A (A 42 12).toNat else -1))) ∧ τ = σ) 4 [some (.ref 42), some (.int (iI w)), some (.int (iI s)), some (.int (iI t))] [] σ := by
  intro n
  induction n using Nat.strongRecOn with
  | ind n ih =>
    intro t s hn ht0 ht1 hs
    obtain ⟨hw1, hw2⟩ := hw
    have hth := hI.things
    have hcl := hI.clock
    have hq : mStandN A (t + 1).toNat = mStandN A t.toNat + _ := cntN_s ht0
    have hr := fun q => mH_range (hI.thing t ht0 q) (A 42 3) (A 42 3)
    refine aw_iload_n rfl rfl rfl ?_
    refine aw_aload_n rfl rfl rfl ?_
    refine aw_gp (12) hM rfl rfl (hM.f.k 42 rfl) rfl rfl (fun _ _ => ?_)
    refine aw_icmp (p' := 42) rfl ⟨by omega, by omega⟩ ⟨by omega, by omega⟩ rfl rfl (fun c1 => ?_) (fun c1 => ?_)
    · dsimp only [zc] at c1
      refine aw_iload_n rfl rfl rfl ?_
      refine aw_tsb (p' := 100) 0 rfl rfl ⟨by omega, by omega⟩ (by omega) rfl (fun c2 => ?_) (fun c2 => ?_)
      · refine aw_aload_n rfl rfl rfl ?_
        refine aw_gp (3) hM rfl rfl (hM.f.k 42 rfl) rfl rfl (fun _ _ => ?_)
        refine aw_reti rfl ?_
        refine ⟨?_, rfl⟩
        repeat (first | rw [if_pos (by omega)] | rw [if_neg (by omega)])
        (try rw [hs, show t = A 42 12 by omega])
      refine aw_tsb (p' := 105) 1 rfl rfl ⟨by omega, by omega⟩ (by omega) rfl (fun c3 => ?_) (fun c3 => ?_)
      · refine aw_aload_n rfl rfl rfl ?_
        refine aw_gp (0) hM rfl rfl (hM.f.k 42 rfl) rfl rfl (fun _ _ => ?_)
        refine aw_reti rfl ?_
        refine ⟨?_, rfl⟩
        repeat (first | rw [if_pos (by omega)] | rw [if_neg (by omega)])
        (try rw [hs, show t = A 42 12 by omega])
      refine aw_tsb (p' := 110) 2 rfl rfl ⟨by omega, by omega⟩ (by omega) rfl (fun c4 => ?_) (fun c4 => ?_)
      · refine aw_aload_n rfl rfl rfl ?_
        refine aw_gp (1) hM rfl rfl (hM.f.k 42 rfl) rfl rfl (fun _ _ => ?_)
        refine aw_reti rfl ?_
        refine ⟨?_, rfl⟩
        repeat (first | rw [if_pos (by omega)] | rw [if_neg (by omega)])
        (try rw [hs, show t = A 42 12 by omega])
      refine aw_tsb (p' := 115) 3 rfl rfl ⟨by omega, by omega⟩ (by omega) rfl (fun c5 => ?_) (fun c5 => ?_)
      · refine aw_aload_n rfl rfl rfl ?_
        refine aw_gp (9) hM rfl rfl (hM.f.k 42 rfl) rfl rfl (fun _ _ => ?_)
        refine aw_reti rfl ?_
        refine ⟨?_, rfl⟩
        repeat (first | rw [if_pos (by omega)] | rw [if_neg (by omega)])
        (try rw [hs, show t = A 42 12 by omega])
      refine aw_tsb (p' := 120) 4 rfl rfl ⟨by omega, by omega⟩ (by omega) rfl (fun c6 => ?_) (fun c6 => ?_)
      · refine aw_aload_n rfl rfl rfl ?_
        refine aw_gp (12) hM rfl rfl (hM.f.k 42 rfl) rfl rfl (fun _ _ => ?_)
        refine aw_reti rfl ?_
        refine ⟨?_, rfl⟩
        repeat (first | rw [if_pos (by omega)] | rw [if_neg (by omega)])
        (try rw [hs, show t = A 42 12 by omega])
      refine aw_tsb (p' := 125) 5 rfl rfl ⟨by omega, by omega⟩ (by omega) rfl (fun c7 => ?_) (fun c7 => ?_)
      · refine aw_aload_n rfl rfl rfl ?_
        refine aw_gp (27) hM rfl rfl (hM.f.k 42 rfl) rfl rfl (fun _ _ => ?_)
        refine aw_reti rfl ?_
        refine ⟨?_, rfl⟩
        repeat (first | rw [if_pos (by omega)] | rw [if_neg (by omega)])
        (try rw [hs, show t = A 42 12 by omega])
      refine aw_tsb (p' := 130) 6 rfl rfl ⟨by omega, by omega⟩ (by omega) rfl (fun c8 => ?_) (fun c8 => ?_)
      · refine aw_aload_n rfl rfl rfl ?_
        refine aw_gp (6) hM rfl rfl (hM.f.k 42 rfl) rfl rfl (fun _ _ => ?_)
        refine aw_reti rfl ?_
        refine ⟨?_, rfl⟩
        repeat (first | rw [if_pos (by omega)] | rw [if_neg (by omega)])
        (try rw [hs, show t = A 42 12 by omega])
      refine aw_tsb (p' := 135) 7 rfl rfl ⟨by omega, by omega⟩ (by omega) rfl (fun c9 => ?_) (fun c9 => ?_)
      · refine aw_aload_n rfl rfl rfl ?_
        refine aw_gp (66) hM rfl rfl (hM.f.k 42 rfl) rfl rfl (fun _ _ => ?_)
        refine aw_reti rfl ?_
        refine ⟨?_, rfl⟩
        repeat (first | rw [if_pos (by omega)] | rw [if_neg (by omega)])
        (try rw [hs, show t = A 42 12 by omega])
      refine aw_tsb (p' := 140) 8 rfl rfl ⟨by omega, by omega⟩ (by omega) rfl (fun c10 => ?_) (fun c10 => ?_)
      · refine aw_aload_n rfl rfl rfl ?_
        refine aw_gp (55) hM rfl rfl (hM.f.k 42 rfl) rfl rfl (fun _ _ => ?_)
        refine aw_reti rfl ?_
        refine ⟨?_, rfl⟩
        repeat (first | rw [if_pos (by omega)] | rw [if_neg (by omega)])
        (try rw [hs, show t = A 42 12 by omega])
      refine aw_tsb (p' := 145) 9 rfl rfl ⟨by omega, by omega⟩ (by omega) rfl (fun c11 => ?_) (fun c11 => ?_)
      · refine aw_aload_n rfl rfl rfl ?_
        refine aw_gp (40) hM rfl rfl (hM.f.k 42 rfl) rfl rfl (fun _ _ => ?_)
        refine aw_reti rfl ?_
        refine ⟨?_, rfl⟩
        repeat (first | rw [if_pos (by omega)] | rw [if_neg (by omega)])
        (try rw [hs, show t = A 42 12 by omega])
      refine aw_tsb (p' := 150) 10 rfl rfl ⟨by omega, by omega⟩ (by omega) rfl (fun c12 => ?_) (fun c12 => ?_)
      · refine aw_iload_n rfl rfl rfl ?_
        refine aw_reti rfl ?_
        refine ⟨?_, rfl⟩
        repeat (first | rw [if_pos (by omega)] | rw [if_neg (by omega)])
        (try rw [hs, show t = A 42 12 by omega])
      refine aw_tsd (p' := 152) rfl ⟨by omega, by omega⟩ (by omega) rfl ?_
      refine aw_iconst rfl rfl ?_
      refine aw_reti rfl ?_
      refine ⟨?_, rfl⟩
      repeat (first | rw [if_pos (by omega)] | rw [if_neg (by omega)])
      (try rw [hs, show t = A 42 12 by omega])
    · dsimp only [zc] at c1
      have hr := hr (by omega)
      refine aw_iload_n rfl rfl rfl ?_
      refine aw_aload_n rfl rfl rfl ?_
      refine aw_iload_n rfl rfl rfl ?_
      refine aw_aload_n rfl rfl rfl ?_
      refine aw_gp (3) hM rfl rfl (hM.f.k 42 rfl) rfl rfl (fun _ _ => ?_)
      refine aw_aload_n rfl rfl rfl ?_
      refine aw_gp (3) hM rfl rfl (hM.f.k 42 rfl) rfl rfl (fun _ _ => ?_)
      refine aw_fnc (m_heightOf hM hI (by omega) (by omega) (by omega) (by omega) (by omega) (by omega)) rfl rfl rfl (Nat.le_of_ble_eq_true rfl) (Or.inr ⟨_, rfl, (hM.f.k 42 rfl)⟩) rfl ?_
      have hrH13 := mH_range (hI.thing t (by omega) (by omega)) (A 42 3) (A 42 3)
      refine aw_if (p' := 33) rfl ⟨by omega, by omega⟩ rfl rfl (fun c14 => ?_) (fun c14 => ?_)
      · dsimp only [zc] at c14
        refine aw_iconst rfl rfl ?_
        refine aw_iadd rfl rfl ?_
        refine aw_istore_n rfl (Nat.le_of_ble_eq_true rfl) rfl rfl ?_
        change aw _ _ _ _ 36 [some (.ref 42), some (.int (iI _)), some (.int (iI _)), some (.int (iI _))] _ _
        refine aw_iinc rfl rfl rfl rfl ?_
        change aw _ _ _ _ 39 [some (.ref 42), some (.int (iI _)), some (.int (iI _)), some (.int (iI _))] _ _
        refine aw_goto (p' := 4) rfl rfl ?_
        refine ih _ (by omega) _ _ rfl (by omega) (by omega) ?_
        rw [hq, ← hs]
        first | rw [bI_t (by omega)] | rw [bI_f (by omega)]
      · dsimp only [zc] at c14
        refine aw_iconst rfl rfl ?_
        refine aw_goto (p' := 34) rfl rfl ?_
        refine aw_iadd rfl rfl ?_
        refine aw_istore_n rfl (Nat.le_of_ble_eq_true rfl) rfl rfl ?_
        change aw _ _ _ _ 36 [some (.ref 42), some (.int (iI _)), some (.int (iI _)), some (.int (iI _))] _ _
        refine aw_iinc rfl rfl rfl rfl ?_
        change aw _ _ _ _ 39 [some (.ref 42), some (.int (iI _)), some (.int (iI _)), some (.int (iI _))] _ _
        refine aw_goto (p' := 4) rfl rfl ?_
        refine ih _ (by omega) _ _ rfl (by omega) (by omega) ?_
        rw [hq, ← hs]
        first | rw [bI_t (by omega)] | rw [bI_f (by omega)]
set_option maxRecDepth 10000 in
set_option maxHeartbeats 2000000 in
theorem m_about {d : Nat} {sz : Nat} {A : Nat → Int → Int} {σ : az_S} (hM : MV sz A σ) (hI : MI sz A) {w : Int} (hw : inI w) : fn (d + 3) 251 [.ref 42, .int (iI w)] σ (.int (iI (if w = 0 then A 42 3 else if w = 1 then A 42 0 else if w = 2 then A 42 1 else if w = 3 then A 42 9 else if w = 4 then A 42 12 else if w = 5 then A 42 27 else if w = 6 then A 42 6 else if w = 7 then A 42 66 else if w = 8 then A 42 55 else if w = 9 then A 42 40 else if w = 10 then mStandN A (A 42 12).toNat else -1))) := by
  obtain ⟨hw1, hw2⟩ := hw
  have hth := hI.things
  have hcl := hI.clock
  refine fn_of (M := (yX12_about, cX12_about, 4, (some .int))) (cd := k_X12_about) (L := [some (.ref 42), some (.int (iI w)), none, none]) rfl (Nat.le_of_ble_eq_true rfl) rfl rfl ?_
  refine aw_iconst rfl rfl ?_
  refine aw_istore_n rfl (Nat.le_of_ble_eq_true rfl) rfl rfl ?_
  change aw _ _ _ _ 2 [some (.ref 42), some (.int (iI _)), some (.int (iI _)), none] _ _
  refine aw_iconst rfl rfl ?_
  refine aw_istore_n rfl (Nat.le_of_ble_eq_true rfl) rfl rfl ?_
  change aw _ _ _ _ 4 [some (.ref 42), some (.int (iI _)), some (.int (iI _)), some (.int (iI _))] _ _
  exact m_about_l4 hM hI ⟨hw1, hw2⟩ _ 0 0 rfl (by omega) (by omega) rfl
def mTakenTo (A : Nat → Int → Int) (c x h n : Int) : Prop := ∃ s : Int, 0 ≤ s ∧ s < n ∧ (A 85 s ≤ x ∧ x ≤ A 86 s) ∧ A 87 (12 * s + h) = c
abbrev mTaken (A : Nat → Int → Int) (c x h : Int) : Prop := mTakenTo A c x h (A 42 66)
theorem mTakenTo_s {A : Nat → Int → Int} {c x h n : Int} (h0 : 0 ≤ n) : mTakenTo A c x h (n + 1) ↔ mTakenTo A c x h n ∨ ((A 85 n ≤ x ∧ x ≤ A 86 n) ∧ A 87 (12 * n + h) = c) := by
  constructor
  · rintro ⟨j, h1, h2, h3⟩
    by_cases e : j < n
    · exact Or.inl ⟨j, h1, e, h3⟩
    · have : n = j := by omega
      rw [this]; exact Or.inr h3
  · rintro (⟨j, h1, h2, h3⟩ | h)
    · exact ⟨j, h1, by omega, h3⟩
    · exact ⟨n, by omega, by omega, h⟩
set_option maxRecDepth 10000 in
set_option maxHeartbeats 2000000 in
theorem m_isTaken_l6 {d : Nat} {sz : Nat} {A : Nat → Int → Int} {σ : az_S} (hM : MV sz A σ) (hI : MI sz A) {c x h : Int} (hc : inI c) (hx0 : 0 ≤ x) (hx1 : x ≤ 3599) (hh0 : 0 ≤ h) (hh1 : h ≤ 11) : ∀ (n : Nat) (s b : Int), (A 42 66 - s).toNat = n → 0 ≤ s → s ≤ A 42 66 → b = bI (mTakenTo A c x h s) → aw (d + 1) k_X12_isTaken (some .boolean) (fun r τ => r = some (.int (iI (bI (mTaken A c x h)))) ∧ τ = σ) 6 [some (.ref 42), some (.int (iI c)), some (.int (iI x)), some (.int (iI h)), some (.int (iI b)), some (.int (iI s))] [] σ := by
  intro n
  induction n using Nat.strongRecOn with
  | ind n ih =>
    intro s b hn hs0 hs1 hb
    obtain ⟨hc1, hc2⟩ := hc
    have hst := hI.stalls
    have hbi := bI_r (mTakenTo A c x h s)
    rw [← hb] at hbi
    have hz := bI_zero (mTakenTo A c x h s)
    rw [← hb] at hz
    have hs := mTakenTo_s (A := A) (c := c) (x := x) (h := h) hs0
    refine aw_iload rfl rfl rfl ?_
    refine aw_aload_n rfl rfl rfl ?_
    refine aw_gp (66) hM rfl rfl (hM.f.k 42 rfl) rfl rfl (fun _ _ => ?_)
    refine aw_icmp (p' := 73) rfl ⟨by omega, by omega⟩ ⟨by omega, by omega⟩ rfl rfl (fun c1 => ?_) (fun c1 => ?_)
    · dsimp only [zc] at c1
      refine aw_iload rfl rfl rfl ?_
      refine aw_retn rfl (by rw [hb]; exact bI_nar _) ?_
      refine ⟨?_, rfl⟩
      rw [hb, show s = A 42 66 by omega]
    · dsimp only [zc] at c1
      refine aw_iload rfl rfl rfl ?_
      refine aw_if (p' := 60) rfl ⟨by omega, by omega⟩ rfl rfl (fun c2 => ?_) (fun c2 => ?_)
      · dsimp only [zc] at c2
        refine aw_iconst rfl rfl ?_
        refine aw_goto (p' := 65) rfl rfl ?_
        refine aw_istore rfl (Nat.le_of_ble_eq_true rfl) rfl rfl ?_
        change aw _ _ _ _ 67 [some (.ref 42), some (.int (iI _)), some (.int (iI _)), some (.int (iI _)), some (.int (iI _)), some (.int (iI _))] _ _
        refine aw_iinc rfl rfl rfl rfl ?_
        change aw _ _ _ _ 70 [some (.ref 42), some (.int (iI _)), some (.int (iI _)), some (.int (iI _)), some (.int (iI _)), some (.int (iI _))] _ _
        refine aw_goto (p' := 6) rfl rfl ?_
        exact ih _ (by omega) _ _ rfl (by omega) (by omega) (by (first | rw [bI_one', hs] | rw [bI_zero', hs]); clear ih; grind)
      · dsimp only [zc] at c2
        refine aw_iload_n rfl rfl rfl ?_
        refine aw_i2l rfl ⟨by omega, by omega⟩ rfl ?_
        refine aw_aload_n rfl rfl rfl ?_
        refine aw_getr (b := 85) rfl rfl (hM.f.k 42 rfl) (hM.f.r 42 68 85 rfl) rfl ?_
        refine aw_iload rfl rfl rfl ?_
        refine aw_ap (N := 10) hM rfl (hM.f.s 85 rfl) (by omega) rfl (by omega) (by omega) rfl (fun _ _ => ?_)
        refine aw_i2l rfl ⟨by omega, by omega⟩ rfl ?_
        refine aw_aload_n rfl rfl rfl ?_
        refine aw_getr (b := 86) rfl rfl (hM.f.k 42 rfl) (hM.f.r 42 69 86 rfl) rfl ?_
        refine aw_iload rfl rfl rfl ?_
        refine aw_ap (N := 10) hM rfl (hM.f.s 86 rfl) (by omega) rfl (by omega) (by omega) rfl (fun _ _ => ?_)
        refine aw_i2l rfl ⟨by omega, by omega⟩ rfl ?_
        refine aw_fnc (m_in ⟨by omega, by omega⟩ ⟨by omega, by omega⟩ ⟨by omega, by omega⟩) rfl rfl rfl (Nat.le_of_ble_eq_true rfl) (Or.inl rfl) rfl ?_
        refine aw_ifeqb (p' := 64) rfl rfl rfl (fun c3 => ?_) (fun c3 => ?_)
        · refine aw_iconst rfl rfl ?_
          refine aw_istore rfl (Nat.le_of_ble_eq_true rfl) rfl rfl ?_
          change aw _ _ _ _ 67 [some (.ref 42), some (.int (iI _)), some (.int (iI _)), some (.int (iI _)), some (.int (iI _)), some (.int (iI _))] _ _
          refine aw_iinc rfl rfl rfl rfl ?_
          change aw _ _ _ _ 70 [some (.ref 42), some (.int (iI _)), some (.int (iI _)), some (.int (iI _)), some (.int (iI _)), some (.int (iI _))] _ _
          refine aw_goto (p' := 6) rfl rfl ?_
          exact ih _ (by omega) _ _ rfl (by omega) (by omega) (by (first | rw [bI_one', hs] | rw [bI_zero', hs]); clear ih; grind)
        · refine aw_aload_n rfl rfl rfl ?_
          refine aw_getr (b := 87) rfl rfl (hM.f.k 42 rfl) (hM.f.r 42 70 87 rfl) rfl ?_
          refine aw_bipush rfl rfl rfl ?_
          refine aw_iload rfl rfl rfl ?_
          refine aw_imul rfl rfl ?_
          refine aw_iload_n rfl rfl rfl ?_
          refine aw_iadd rfl rfl ?_
          refine aw_ap (N := 120) hM rfl (hM.f.s 87 rfl) (by omega) rfl (by omega) (by omega) rfl (fun _ _ => ?_)
          refine aw_iload_n rfl rfl rfl ?_
          refine aw_icmp (p' := 64) rfl ⟨by omega, by omega⟩ ⟨by omega, by omega⟩ rfl rfl (fun c4 => ?_) (fun c4 => ?_)
          · dsimp only [zc] at c4
            refine aw_iconst rfl rfl ?_
            refine aw_istore rfl (Nat.le_of_ble_eq_true rfl) rfl rfl ?_
            change aw _ _ _ _ 67 [some (.ref 42), some (.int (iI _)), some (.int (iI _)), some (.int (iI _)), some (.int (iI _)), some (.int (iI _))] _ _
            refine aw_iinc rfl rfl rfl rfl ?_
            change aw _ _ _ _ 70 [some (.ref 42), some (.int (iI _)), some (.int (iI _)), some (.int (iI _)), some (.int (iI _)), some (.int (iI _))] _ _
            refine aw_goto (p' := 6) rfl rfl ?_
            exact ih _ (by omega) _ _ rfl (by omega) (by omega) (by (first | rw [bI_one', hs] | rw [bI_zero', hs]); clear ih; grind)
          · dsimp only [zc] at c4
            refine aw_iconst rfl rfl ?_
            refine aw_goto (p' := 65) rfl rfl ?_
            refine aw_istore rfl (Nat.le_of_ble_eq_true rfl) rfl rfl ?_
            change aw _ _ _ _ 67 [some (.ref 42), some (.int (iI _)), some (.int (iI _)), some (.int (iI _)), some (.int (iI _)), some (.int (iI _))] _ _
            refine aw_iinc rfl rfl rfl rfl ?_
            change aw _ _ _ _ 70 [some (.ref 42), some (.int (iI _)), some (.int (iI _)), some (.int (iI _)), some (.int (iI _)), some (.int (iI _))] _ _
            refine aw_goto (p' := 6) rfl rfl ?_
            exact ih _ (by omega) _ _ rfl (by omega) (by omega) (by (first | rw [bI_one', hs] | rw [bI_zero', hs]); clear ih; grind)
set_option maxRecDepth 10000 in
set_option maxHeartbeats 2000000 in
theorem m_isTaken {d : Nat} {sz : Nat} {A : Nat → Int → Int} {σ : az_S} (hM : MV sz A σ) (hI : MI sz A) {c x h : Int} (hc : inI c) (hx0 : 0 ≤ x) (hx1 : x ≤ 3599) (hh0 : 0 ≤ h) (hh1 : h ≤ 11) : fn (d + 2) 242 [.ref 42, .int (iI c), .int (iI x), .int (iI h)] σ (.int (iI (bI (mTaken A c x h)))) := by
  obtain ⟨hc1, hc2⟩ := hc
  have hst := hI.stalls
  refine fn_of (M := (yX12_isTaken, cX12_isTaken, 6, (some .boolean))) (cd := k_X12_isTaken) (L := [some (.ref 42), some (.int (iI c)), some (.int (iI x)), some (.int (iI h)), none, none]) rfl (Nat.le_of_ble_eq_true rfl) rfl rfl ?_
  refine aw_iconst rfl rfl ?_
  refine aw_istore rfl (Nat.le_of_ble_eq_true rfl) rfl rfl ?_
  change aw _ _ _ _ 3 [some (.ref 42), some (.int (iI _)), some (.int (iI _)), some (.int (iI _)), some (.int (iI _)), none] _ _
  refine aw_iconst rfl rfl ?_
  refine aw_istore rfl (Nat.le_of_ble_eq_true rfl) rfl rfl ?_
  change aw _ _ _ _ 6 [some (.ref 42), some (.int (iI _)), some (.int (iI _)), some (.int (iI _)), some (.int (iI _)), some (.int (iI _))] _ _
  exact m_isTaken_l6 hM hI ⟨hc1, hc2⟩ hx0 hx1 hh0 hh1 _ 0 0 rfl (by omega) (by omega) (by rw [bI_zero']; rintro ⟨j, h1, h2, h3⟩; omega)
def mBeside (A : Nat → Int → Int) (c k : Int) : Int := if k = 0 then (if 0 < c / A 42 0 then c - A 42 0 else -1) else if k = 1 then (if 0 < c % A 42 0 then c - 1 else -1) else if k = 2 then c else if k = 3 then (if c % A 42 0 + 1 < A 42 0 then c + 1 else -1) else (if c / A 42 0 + 1 < A 42 1 then c + A 42 0 else -1)
set_option maxRecDepth 10000 in
set_option maxHeartbeats 2000000 in
theorem m_beside {d : Nat} {sz : Nat} {A : Nat → Int → Int} {σ : az_S} (hM : MV sz A σ) (hI : MI sz A) {c k : Int} (hc0 : 0 ≤ c) (hc1 : c < A 42 2) (hk0 : 0 ≤ k) (hk1 : k ≤ 4) : fn (d + 1) 243 [.ref 42, .int (iI c), .int (iI k)] σ (.int (iI (mBeside A c k))) := by
  have hw := hI.wide
  have hg := hI.high
  have hce := hI.cells
  have r1 := rem_b (a := c) (g := A 42 0) (by omega)
  have r2 := div_b (a := c) (g := A 42 0) hc0 (by omega)
  refine fn_of (M := (yX12_beside, cX12_beside, 5, (some .int))) (cd := k_X12_beside) (L := [some (.ref 42), some (.int (iI c)), some (.int (iI k)), none, none]) rfl (Nat.le_of_ble_eq_true rfl) rfl rfl ?_
  refine aw_iload_n rfl rfl rfl ?_
  refine aw_aload_n rfl rfl rfl ?_
  refine aw_gp (0) hM rfl rfl (hM.f.k 42 rfl) rfl rfl (fun _ _ => ?_)
  refine aw_irem rfl (by omega) (by omega) (by omega) (by omega) rfl ?_
  refine aw_istore_n rfl (Nat.le_of_ble_eq_true rfl) rfl rfl ?_
  change aw _ _ _ _ 7 [some (.ref 42), some (.int (iI _)), some (.int (iI _)), some (.int (iI _)), none] _ _
  refine aw_iload_n rfl rfl rfl ?_
  refine aw_aload_n rfl rfl rfl ?_
  refine aw_gp (0) hM rfl rfl (hM.f.k 42 rfl) rfl rfl (fun _ _ => ?_)
  refine aw_idiv rfl (by omega) (by omega) (by omega) (by omega) rfl ?_
  refine aw_istore rfl (Nat.le_of_ble_eq_true rfl) rfl rfl ?_
  change aw _ _ _ _ 15 [some (.ref 42), some (.int (iI _)), some (.int (iI _)), some (.int (iI _)), some (.int (iI _))] _ _
  refine aw_iload_n rfl rfl rfl ?_
  refine aw_tsb (p' := 48) 0 rfl rfl ⟨by omega, by omega⟩ (by omega) rfl (fun c1 => ?_) (fun c1 => ?_)
  · refine aw_iload rfl rfl rfl ?_
    refine aw_if (p' := 62) rfl ⟨by omega, by omega⟩ rfl rfl (fun c2 => ?_) (fun c2 => ?_)
    · dsimp only [zc] at c2
      refine aw_iconst rfl rfl ?_
      refine aw_reti rfl ?_
      refine ⟨?_, rfl⟩
      unfold mBeside
      repeat (first | rw [if_pos (by omega)] | rw [if_neg (by omega)])
    · dsimp only [zc] at c2
      refine aw_iload_n rfl rfl rfl ?_
      refine aw_aload_n rfl rfl rfl ?_
      refine aw_gp (0) hM rfl rfl (hM.f.k 42 rfl) rfl rfl (fun _ _ => ?_)
      refine aw_isub rfl rfl ?_
      refine aw_goto (p' := 63) rfl rfl ?_
      refine aw_reti rfl ?_
      refine ⟨?_, rfl⟩
      unfold mBeside
      repeat (first | rw [if_pos (by omega)] | rw [if_neg (by omega)])
  refine aw_tsb (p' := 64) 1 rfl rfl ⟨by omega, by omega⟩ (by omega) rfl (fun c3 => ?_) (fun c3 => ?_)
  · refine aw_iload_n rfl rfl rfl ?_
    refine aw_if (p' := 74) rfl ⟨by omega, by omega⟩ rfl rfl (fun c4 => ?_) (fun c4 => ?_)
    · dsimp only [zc] at c4
      refine aw_iconst rfl rfl ?_
      refine aw_reti rfl ?_
      refine ⟨?_, rfl⟩
      unfold mBeside
      repeat (first | rw [if_pos (by omega)] | rw [if_neg (by omega)])
    · dsimp only [zc] at c4
      refine aw_iload_n rfl rfl rfl ?_
      refine aw_iconst rfl rfl ?_
      refine aw_isub rfl rfl ?_
      refine aw_goto (p' := 75) rfl rfl ?_
      refine aw_reti rfl ?_
      refine ⟨?_, rfl⟩
      unfold mBeside
      repeat (first | rw [if_pos (by omega)] | rw [if_neg (by omega)])
  refine aw_tsb (p' := 76) 2 rfl rfl ⟨by omega, by omega⟩ (by omega) rfl (fun c5 => ?_) (fun c5 => ?_)
  · refine aw_iload_n rfl rfl rfl ?_
    refine aw_reti rfl ?_
    refine ⟨?_, rfl⟩
    unfold mBeside
    repeat (first | rw [if_pos (by omega)] | rw [if_neg (by omega)])
  refine aw_tsb (p' := 78) 3 rfl rfl ⟨by omega, by omega⟩ (by omega) rfl (fun c6 => ?_) (fun c6 => ?_)
  · refine aw_iload_n rfl rfl rfl ?_
    refine aw_iconst rfl rfl ?_
    refine aw_iadd rfl rfl ?_
    refine aw_aload_n rfl rfl rfl ?_
    refine aw_gp (0) hM rfl rfl (hM.f.k 42 rfl) rfl rfl (fun _ _ => ?_)
    refine aw_icmp (p' := 94) rfl ⟨by omega, by omega⟩ ⟨by omega, by omega⟩ rfl rfl (fun c7 => ?_) (fun c7 => ?_)
    · dsimp only [zc] at c7
      refine aw_iconst rfl rfl ?_
      refine aw_reti rfl ?_
      refine ⟨?_, rfl⟩
      unfold mBeside
      repeat (first | rw [if_pos (by omega)] | rw [if_neg (by omega)])
    · dsimp only [zc] at c7
      refine aw_iload_n rfl rfl rfl ?_
      refine aw_iconst rfl rfl ?_
      refine aw_iadd rfl rfl ?_
      refine aw_goto (p' := 95) rfl rfl ?_
      refine aw_reti rfl ?_
      refine ⟨?_, rfl⟩
      unfold mBeside
      repeat (first | rw [if_pos (by omega)] | rw [if_neg (by omega)])
  refine aw_tsd (p' := 96) rfl ⟨by omega, by omega⟩ (by omega) rfl ?_
  refine aw_iload rfl rfl rfl ?_
  refine aw_iconst rfl rfl ?_
  refine aw_iadd rfl rfl ?_
  refine aw_aload_n rfl rfl rfl ?_
  refine aw_gp (1) hM rfl rfl (hM.f.k 42 rfl) rfl rfl (fun _ _ => ?_)
  refine aw_icmp (p' := 116) rfl ⟨by omega, by omega⟩ ⟨by omega, by omega⟩ rfl rfl (fun c8 => ?_) (fun c8 => ?_)
  · dsimp only [zc] at c8
    refine aw_iconst rfl rfl ?_
    refine aw_reti rfl ?_
    refine ⟨?_, rfl⟩
    unfold mBeside
    repeat (first | rw [if_pos (by omega)] | rw [if_neg (by omega)])
  · dsimp only [zc] at c8
    refine aw_iload_n rfl rfl rfl ?_
    refine aw_aload_n rfl rfl rfl ?_
    refine aw_gp (0) hM rfl rfl (hM.f.k 42 rfl) rfl rfl (fun _ _ => ?_)
    refine aw_iadd rfl rfl ?_
    refine aw_goto (p' := 117) rfl rfl ?_
    refine aw_reti rfl ?_
    refine ⟨?_, rfl⟩
    unfold mBeside
    repeat (first | rw [if_pos (by omega)] | rw [if_neg (by omega)])
set_option maxRecDepth 10000 in
set_option maxHeartbeats 2000000 in
theorem m_placeOf {d : Nat} {sz : Nat} {A : Nat → Int → Int} {σ : az_S} (hM : MV sz A σ) (hI : MI sz A) {s h : Int} (hs : inI s) (hh : inI h) : fn (d + 3) 239 [.ref 42, .int (iI s), .int (iI h)] σ (.int (iI (zit ((0 ≤ s ∧ s ≤ A 42 66 - 1) ∧ (0 ≤ h ∧ h ≤ 11)) (A 87 (12 * s + h)) (-1)))) := by
  obtain ⟨hs1, hs2⟩ := hs
  obtain ⟨hh1, hh2⟩ := hh
  have hst := hI.stalls
  refine fn_of (M := (yX12_placeOf, cX12_placeOf, 3, (some .int))) (cd := k_X12_placeOf) (L := [some (.ref 42), some (.int (iI s)), some (.int (iI h))]) rfl (Nat.le_of_ble_eq_true rfl) rfl rfl ?_
  refine aw_iload_n rfl rfl rfl ?_
  refine aw_i2l rfl ⟨by omega, by omega⟩ rfl ?_
  refine aw_lconst 0 rfl rfl rfl ?_
  refine aw_aload_n rfl rfl rfl ?_
  refine aw_gp (66) hM rfl rfl (hM.f.k 42 rfl) rfl rfl (fun _ _ => ?_)
  refine aw_iconst rfl rfl ?_
  refine aw_isub rfl rfl ?_
  refine aw_i2l rfl ⟨by omega, by omega⟩ rfl ?_
  refine aw_fnc (m_in ⟨by omega, by omega⟩ ⟨by omega, by omega⟩ ⟨by omega, by omega⟩) rfl rfl rfl (Nat.le_of_ble_eq_true rfl) (Or.inl rfl) rfl ?_
  refine aw_ifeqb (p' := 37) rfl rfl rfl (fun c1 => ?_) (fun c1 => ?_)
  · refine aw_iconst rfl rfl ?_
    refine aw_reti rfl ?_
    refine ⟨?_, rfl⟩
    first | rw [zit_t (by omega)] | rw [zit_f (by omega)]
  · refine aw_iload_n rfl rfl rfl ?_
    refine aw_fnc (m_isHour ⟨by omega, by omega⟩) rfl rfl rfl (Nat.le_of_ble_eq_true rfl) (Or.inl rfl) rfl ?_
    refine aw_ifeqb (p' := 37) rfl rfl rfl (fun c2 => ?_) (fun c2 => ?_)
    · refine aw_iconst rfl rfl ?_
      refine aw_reti rfl ?_
      refine ⟨?_, rfl⟩
      first | rw [zit_t (by omega)] | rw [zit_f (by omega)]
    · refine aw_aload_n rfl rfl rfl ?_
      refine aw_getr (b := 87) rfl rfl (hM.f.k 42 rfl) (hM.f.r 42 70 87 rfl) rfl ?_
      refine aw_bipush rfl rfl rfl ?_
      refine aw_iload_n rfl rfl rfl ?_
      refine aw_imul rfl rfl ?_
      refine aw_iload_n rfl rfl rfl ?_
      refine aw_iadd rfl rfl ?_
      refine aw_ap (N := 120) hM rfl (hM.f.s 87 rfl) (by omega) rfl (by omega) (by omega) rfl (fun _ _ => ?_)
      refine aw_goto (p' := 38) rfl rfl ?_
      refine aw_reti rfl ?_
      refine ⟨?_, rfl⟩
      first | rw [zit_t (by omega)] | rw [zit_f (by omega)]
set_option maxRecDepth 10000 in
set_option maxHeartbeats 2000000 in
theorem m_walked {d : Nat} {sz : Nat} {A : Nat → Int → Int} {σ : az_S} (hM : MV sz A σ) (hI : MI sz A) {i : Int} (hi : inI i) : fn (d + 2) 246 [.ref 42, .int (iI i)] σ (.long (lI (if i = -1 ∧ 0 < A 42 85 then A 42 86 else if 0 ≤ i ∧ i ≤ A 42 85 - 1 then A 101 i else -1))) := by
  obtain ⟨hi1, hi2⟩ := hi
  have hwk := hI.walks
  refine fn_of (M := (yX12_walked, cX12_walked, 2, (some .long))) (cd := k_X12_walked) (L := [some (.ref 42), some (.int (iI i))]) rfl (Nat.le_of_ble_eq_true rfl) rfl rfl ?_
  refine aw_iload_n rfl rfl rfl ?_
  refine aw_iconst rfl rfl ?_
  refine aw_icmp (p' := 19) rfl ⟨by omega, by omega⟩ ⟨by omega, by omega⟩ rfl rfl (fun c1 => ?_) (fun c1 => ?_)
  · dsimp only [zc] at c1
    refine aw_iload_n rfl rfl rfl ?_
    refine aw_i2l rfl ⟨by omega, by omega⟩ rfl ?_
    refine aw_lconst 0 rfl rfl rfl ?_
    refine aw_aload_n rfl rfl rfl ?_
    refine aw_gp (85) hM rfl rfl (hM.f.k 42 rfl) rfl rfl (fun _ _ => ?_)
    refine aw_iconst rfl rfl ?_
    refine aw_isub rfl rfl ?_
    refine aw_i2l rfl ⟨by omega, by omega⟩ rfl ?_
    refine aw_fnc (m_in ⟨by omega, by omega⟩ ⟨by omega, by omega⟩ ⟨by omega, by omega⟩) rfl rfl rfl (Nat.le_of_ble_eq_true rfl) (Or.inl rfl) rfl ?_
    refine aw_ifeqb (p' := 45) rfl rfl rfl (fun c2 => ?_) (fun c2 => ?_)
    · refine aw_ldc2 (-1) rfl rfl rfl ?_
      refine aw_retl rfl ?_
      refine ⟨?_, rfl⟩
      first | (exfalso; omega) | (repeat (first | rw [if_pos (by omega)] | rw [if_neg (by omega)]))
    · refine aw_aload_n rfl rfl rfl ?_
      refine aw_getr (b := 101) rfl rfl (hM.f.k 42 rfl) (hM.f.r 42 87 101 rfl) rfl ?_
      refine aw_iload_n rfl rfl rfl ?_
      refine aw_ap (N := 12) hM rfl (hM.f.s 101 rfl) (by omega) rfl (by omega) (by omega) rfl (fun _ _ => ?_)
      refine aw_i2l rfl ⟨by omega, by omega⟩ rfl ?_
      refine aw_goto (p' := 48) rfl rfl ?_
      refine aw_retl rfl ?_
      refine ⟨?_, rfl⟩
      first | (exfalso; omega) | (repeat (first | rw [if_pos (by omega)] | rw [if_neg (by omega)]))
  · dsimp only [zc] at c1
    refine aw_aload_n rfl rfl rfl ?_
    refine aw_gp (85) hM rfl rfl (hM.f.k 42 rfl) rfl rfl (fun _ _ => ?_)
    refine aw_if (p' := 19) rfl ⟨by omega, by omega⟩ rfl rfl (fun c3 => ?_) (fun c3 => ?_)
    · dsimp only [zc] at c3
      refine aw_iload_n rfl rfl rfl ?_
      refine aw_i2l rfl ⟨by omega, by omega⟩ rfl ?_
      refine aw_lconst 0 rfl rfl rfl ?_
      refine aw_aload_n rfl rfl rfl ?_
      refine aw_gp (85) hM rfl rfl (hM.f.k 42 rfl) rfl rfl (fun _ _ => ?_)
      refine aw_iconst rfl rfl ?_
      refine aw_isub rfl rfl ?_
      refine aw_i2l rfl ⟨by omega, by omega⟩ rfl ?_
      refine aw_fnc (m_in ⟨by omega, by omega⟩ ⟨by omega, by omega⟩ ⟨by omega, by omega⟩) rfl rfl rfl (Nat.le_of_ble_eq_true rfl) (Or.inl rfl) rfl ?_
      refine aw_ifeqb (p' := 45) rfl rfl rfl (fun c4 => ?_) (fun c4 => ?_)
      · refine aw_ldc2 (-1) rfl rfl rfl ?_
        refine aw_retl rfl ?_
        refine ⟨?_, rfl⟩
        first | (exfalso; omega) | (repeat (first | rw [if_pos (by omega)] | rw [if_neg (by omega)]))
      · refine aw_aload_n rfl rfl rfl ?_
        refine aw_getr (b := 101) rfl rfl (hM.f.k 42 rfl) (hM.f.r 42 87 101 rfl) rfl ?_
        refine aw_iload_n rfl rfl rfl ?_
        refine aw_ap (N := 12) hM rfl (hM.f.s 101 rfl) (by omega) rfl (by omega) (by omega) rfl (fun _ _ => ?_)
        refine aw_i2l rfl ⟨by omega, by omega⟩ rfl ?_
        refine aw_goto (p' := 48) rfl rfl ?_
        refine aw_retl rfl ?_
        refine ⟨?_, rfl⟩
        first | (exfalso; omega) | (repeat (first | rw [if_pos (by omega)] | rw [if_neg (by omega)]))
    · dsimp only [zc] at c3
      refine aw_aload_n rfl rfl rfl ?_
      refine aw_glp hM rfl rfl (hM.f.k 42 rfl) rfl (fun _ _ => ?_)
      refine aw_goto (p' := 48) rfl rfl ?_
      refine aw_retl rfl ?_
      refine ⟨?_, rfl⟩
      first | (exfalso; omega) | (repeat (first | rw [if_pos (by omega)] | rw [if_neg (by omega)]))
set_option maxRecDepth 10000 in
set_option maxHeartbeats 2000000 in
theorem m_fault {d : Nat} {sz : Nat} {A : Nat → Int → Int} {σ : az_S} (hM : MV sz A σ) (hI : MI sz A) {i : Int} (hi : inI i) : fn (d + 1) 231 [.ref 42, .int (iI i)] σ (.int (iI (if i = 0 then A 42 48 else if i = 1 then A 42 49 else -1))) := by
  obtain ⟨hi1, hi2⟩ := hi
  refine fn_of (M := (yX12_fault, cX12_fault, 2, (some .int))) (cd := k_X12_fault) (L := [some (.ref 42), some (.int (iI i))]) rfl (Nat.le_of_ble_eq_true rfl) rfl rfl ?_
  refine aw_iload_n rfl rfl rfl ?_
  refine aw_if (p' := 11) rfl ⟨by omega, by omega⟩ rfl rfl (fun c1 => ?_) (fun c1 => ?_)
  · dsimp only [zc] at c1
    refine aw_iload_n rfl rfl rfl ?_
    refine aw_iconst rfl rfl ?_
    refine aw_icmp (p' := 23) rfl ⟨by omega, by omega⟩ ⟨by omega, by omega⟩ rfl rfl (fun c2 => ?_) (fun c2 => ?_)
    · dsimp only [zc] at c2
      refine aw_iconst rfl rfl ?_
      refine aw_reti rfl ?_
      refine ⟨?_, rfl⟩
      repeat (first | rw [if_pos (by omega)] | rw [if_neg (by omega)])
    · dsimp only [zc] at c2
      refine aw_aload_n rfl rfl rfl ?_
      refine aw_gp (49) hM rfl rfl (hM.f.k 42 rfl) rfl rfl (fun _ _ => ?_)
      refine aw_goto (p' := 24) rfl rfl ?_
      refine aw_reti rfl ?_
      refine ⟨?_, rfl⟩
      repeat (first | rw [if_pos (by omega)] | rw [if_neg (by omega)])
  · dsimp only [zc] at c1
    refine aw_aload_n rfl rfl rfl ?_
    refine aw_gp (48) hM rfl rfl (hM.f.k 42 rfl) rfl rfl (fun _ _ => ?_)
    refine aw_goto (p' := 24) rfl rfl ?_
    refine aw_reti rfl ?_
    refine ⟨?_, rfl⟩
    repeat (first | rw [if_pos (by omega)] | rw [if_neg (by omega)])
noncomputable def m_end_op (A : Nat → Int → Int) (n : Int) : Nat → Int → Int := tit ((0 ≤ n ∧ n ≤ A 42 40)) (up A 42 40 n) A
set_option maxRecDepth 10000 in
set_option maxHeartbeats 2000000 in
theorem m_end {d : Nat} {sz : Nat} {A : Nat → Int → Int} {σ : az_S} (hM : MV sz A σ) (hI : MI sz A) {n : Int} (hn : inI n) : cal (d + 2) 207 [.ref 42, .int (iI n)] σ (fun r τ => r = some (.int (iI (zit ((0 ≤ n ∧ n ≤ A 42 40)) n (-1)))) ∧ MV sz (m_end_op A n) τ ∧ Mod σ τ [42]) := by
  obtain ⟨hn1, hn2⟩ := hn
  have hta := hI.taped
  refine cal_of (M := (yX12_end, cX12_end, 2, (some .int))) (cd := k_X12_end) (L := [some (.ref 42), some (.int (iI n))]) rfl (Nat.le_of_ble_eq_true rfl) rfl rfl ?_
  refine aw_iload_n rfl rfl rfl ?_
  refine aw_i2l rfl ⟨by omega, by omega⟩ rfl ?_
  refine aw_lconst 0 rfl rfl rfl ?_
  refine aw_aload_n rfl rfl rfl ?_
  refine aw_gp (40) hM rfl rfl (hM.f.k 42 rfl) rfl rfl (fun _ _ => ?_)
  refine aw_i2l rfl ⟨by omega, by omega⟩ rfl ?_
  refine aw_fnc (m_in ⟨by omega, by omega⟩ ⟨by omega, by omega⟩ ⟨by omega, by omega⟩) rfl rfl rfl (Nat.le_of_ble_eq_true rfl) (Or.inl rfl) rfl ?_
  refine aw_ifneb (p' := 16) rfl rfl rfl (fun c1 => ?_) (fun c1 => ?_)
  · refine aw_aload_n rfl rfl rfl ?_
    refine aw_iload_n rfl rfl rfl ?_
    refine aw_fp (40) hM rfl rfl (hM.f.k 42 rfl) rfl (fun _ => rfl) rfl ⟨by omega, by omega⟩ rfl (fun τ2 hM2 hD2 => ?_)
    refine aw_iload_n rfl rfl rfl ?_
    refine aw_reti rfl ?_
    refine ⟨?_, ?_, (hD2.su (T := [42]) rfl)⟩
    · rw [zit_t (by omega)]
    · unfold m_end_op; rw [tit_t (by omega)]; exact hM2
  · refine aw_iconst rfl rfl ?_
    refine aw_reti rfl ?_
    refine ⟨?_, ?_, Mod.rf⟩
    · rw [zit_f (by omega)]
    · unfold m_end_op; rw [tit_f (by omega)]; exact hM
def mPut (A : Nat → Int → Int) (v : Int) : Nat → Int → Int := up (up (up (up (up A 74 (A 42 40) ((v / 2 ^ (24 : Int).toNat).bmod 256)) 74 (A 42 40 + 1) ((v / 2 ^ (16 : Int).toNat).bmod 256)) 74 (A 42 40 + 2) ((v / 2 ^ (8 : Int).toNat).bmod 256)) 74 (A 42 40 + 3) (v.bmod 256)) 42 40 (A 42 40 + 4)
set_option maxRecDepth 10000 in
set_option maxHeartbeats 2000000 in
theorem m_put {d : Nat} {sz : Nat} {A : Nat → Int → Int} {σ : az_S} (hM : MV sz A σ) {v : Int} (hv : inI v) (h0 : 0 ≤ A 42 40) (h1 : A 42 40 ≤ 396) : cal (d + 1) 205 [.ref 42, .int (iI v)] σ (fun r τ => r = none ∧ MV sz (mPut A v) τ ∧ Mod σ τ [42, 74]) := by
  obtain ⟨hv1, hv2⟩ := hv
  have b1 := bmod_b (v / 2 ^ (24 : Int).toNat)
  have b2 := bmod_b (v / 2 ^ (16 : Int).toNat)
  have b3 := bmod_b (v / 2 ^ (8 : Int).toNat)
  have b4 := bmod_b v
  refine cal_of (M := (yX12_put, cX12_put, 2, none)) (cd := k_X12_put) (L := [some (.ref 42), some (.int (iI v))]) rfl (Nat.le_of_ble_eq_true rfl) rfl rfl ?_
  refine aw_aload_n rfl rfl rfl ?_
  refine aw_getr (b := 74) rfl rfl (hM.f.k 42 rfl) (hM.f.r 42 39 74 rfl) rfl ?_
  refine aw_aload_n rfl rfl rfl ?_
  refine aw_gp (40) hM rfl rfl (hM.f.k 42 rfl) rfl rfl (fun _ _ => ?_)
  refine aw_iload_n rfl rfl rfl ?_
  refine aw_bipush rfl rfl rfl ?_
  refine aw_ishrg rfl ⟨by omega, by omega⟩ (by omega) (by omega) rfl ?_
  refine aw_i2b rfl rfl ?_
  refine aw_bsp (N := 400) hM rfl (hM.f.s 74 rfl) (by omega) rfl (by omega) (by omega) (by omega) (by omega) rfl (fun τ1 hM1 hD1 => ?_)
  refine aw_aload_n rfl rfl rfl ?_
  refine aw_getr (b := 74) rfl rfl (hM1.f.k 42 rfl) (hM1.f.r 42 39 74 rfl) rfl ?_
  refine aw_aload_n rfl rfl rfl ?_
  refine aw_gpv (v := A 42 40) (40) hM1 rfl rfl (hM1.f.k 42 rfl) rfl (by first | (simp [up, mEnter, mStands, mStands0]; done) | assumption) rfl (fun _ _ => ?_)
  refine aw_iconst rfl rfl ?_
  refine aw_iadd rfl rfl ?_
  refine aw_iload_n rfl rfl rfl ?_
  refine aw_bipush rfl rfl rfl ?_
  refine aw_ishrg rfl ⟨by omega, by omega⟩ (by omega) (by omega) rfl ?_
  refine aw_i2b rfl rfl ?_
  refine aw_bsp (N := 400) hM1 rfl (hM1.f.s 74 rfl) (by omega) rfl (by omega) (by omega) (by omega) (by omega) rfl (fun τ2 hM2 hD2 => ?_)
  refine aw_aload_n rfl rfl rfl ?_
  refine aw_getr (b := 74) rfl rfl (hM2.f.k 42 rfl) (hM2.f.r 42 39 74 rfl) rfl ?_
  refine aw_aload_n rfl rfl rfl ?_
  refine aw_gpv (v := A 42 40) (40) hM2 rfl rfl (hM2.f.k 42 rfl) rfl (by first | (simp [up, mEnter, mStands, mStands0]; done) | assumption) rfl (fun _ _ => ?_)
  refine aw_iconst rfl rfl ?_
  refine aw_iadd rfl rfl ?_
  refine aw_iload_n rfl rfl rfl ?_
  refine aw_bipush rfl rfl rfl ?_
  refine aw_ishrg rfl ⟨by omega, by omega⟩ (by omega) (by omega) rfl ?_
  refine aw_i2b rfl rfl ?_
  refine aw_bsp (N := 400) hM2 rfl (hM2.f.s 74 rfl) (by omega) rfl (by omega) (by omega) (by omega) (by omega) rfl (fun τ3 hM3 hD3 => ?_)
  refine aw_aload_n rfl rfl rfl ?_
  refine aw_getr (b := 74) rfl rfl (hM3.f.k 42 rfl) (hM3.f.r 42 39 74 rfl) rfl ?_
  refine aw_aload_n rfl rfl rfl ?_
  refine aw_gpv (v := A 42 40) (40) hM3 rfl rfl (hM3.f.k 42 rfl) rfl (by first | (simp [up, mEnter, mStands, mStands0]; done) | assumption) rfl (fun _ _ => ?_)
  refine aw_iconst rfl rfl ?_
  refine aw_iadd rfl rfl ?_
  refine aw_iload_n rfl rfl rfl ?_
  refine aw_i2b rfl rfl ?_
  refine aw_bsp (N := 400) hM3 rfl (hM3.f.s 74 rfl) (by omega) rfl (by omega) (by omega) (by omega) (by omega) rfl (fun τ4 hM4 hD4 => ?_)
  refine aw_aload_n rfl rfl rfl ?_
  refine aw_dup rfl rfl rfl ?_
  refine aw_gpv (v := A 42 40) (40) hM4 rfl rfl (hM4.f.k 42 rfl) rfl (by first | (simp [up, mEnter, mStands, mStands0]; done) | assumption) rfl (fun _ _ => ?_)
  refine aw_iconst rfl rfl ?_
  refine aw_iadd rfl rfl ?_
  refine aw_fp (40) hM4 rfl rfl (hM4.f.k 42 rfl) rfl (fun _ => rfl) rfl ⟨by omega, by omega⟩ rfl (fun τ5 hM5 hD5 => ?_)
  refine aw_retv rfl ?_
  exact ⟨rfl, hM5, (((((hD1.su (T := [42, 74]) rfl).tr (hD2.su (T := [42, 74]) rfl)).tr (hD3.su (T := [42, 74]) rfl)).tr (hD4.su (T := [42, 74]) rfl)).tr (hD5.su (T := [42, 74]) rfl))⟩
theorem mPut_n (A : Nat → Int → Int) (v : Int) : mPut A v 42 40 = A 42 40 + 4 := rfl
noncomputable def m_feed_op (A : Nat → Int → Int) (a b c e f : Int) : Nat → Int → Int := tit (A 42 40 + 20 ≤ 400) (mPut (mPut (mPut (mPut (mPut A a) b) c) e) f) A
set_option maxRecDepth 10000 in
set_option maxHeartbeats 2000000 in
theorem m_feed {d : Nat} {sz : Nat} {A : Nat → Int → Int} {σ : az_S} (hM : MV sz A σ) (hI : MI sz A) {a b c e f : Int} (ha : inI a) (hb : inI b) (hc : inI c) (he : inI e) (hf : inI f) : cal (d + 2) 206 [.ref 42, .int (iI a), .int (iI b), .int (iI c), .int (iI e), .int (iI f)] σ (fun r τ => r = some (.int (iI (zit (A 42 40 + 20 ≤ 400) (A 42 40 + 20) (-1)))) ∧ MV sz (m_feed_op A a b c e f) τ ∧ Mod σ τ [42, 74]) := by
  obtain ⟨ha1, ha2⟩ := ha
  obtain ⟨hb1, hb2⟩ := hb
  obtain ⟨hc1, hc2⟩ := hc
  obtain ⟨he1, he2⟩ := he
  obtain ⟨hf1, hf2⟩ := hf
  have hta := hI.taped
  refine cal_of (M := (yX12_feed, cX12_feed, 6, (some .int))) (cd := k_X12_feed) (L := [some (.ref 42), some (.int (iI a)), some (.int (iI b)), some (.int (iI c)), some (.int (iI e)), some (.int (iI f))]) rfl (Nat.le_of_ble_eq_true rfl) rfl rfl ?_
  refine aw_aload_n rfl rfl rfl ?_
  refine aw_gp (40) hM rfl rfl (hM.f.k 42 rfl) rfl rfl (fun _ _ => ?_)
  refine aw_bipush rfl rfl rfl ?_
  refine aw_iadd rfl rfl ?_
  refine aw_sipush rfl rfl rfl ?_
  refine aw_icmp (p' := 15) rfl ⟨by omega, by omega⟩ ⟨by omega, by omega⟩ rfl rfl (fun c1 => ?_) (fun c1 => ?_)
  · dsimp only [zc] at c1
    refine aw_aload_n rfl rfl rfl ?_
    refine aw_iload_n rfl rfl rfl ?_
    refine aw_calc (m_put hM ⟨by omega, by omega⟩ (by (try simp only [mPut_n]); omega) (by (try simp only [mPut_n]); omega)) rfl rfl rfl (Nat.le_of_ble_eq_true rfl) (Or.inr ⟨_, rfl, (hM.f.k 42 rfl)⟩) rfl ?_
    rintro _ τ2 ⟨rfl, hM2, hD2⟩
    change aw _ _ _ _ 20 [some (.ref 42), some (.int (iI _)), some (.int (iI _)), some (.int (iI _)), some (.int (iI _)), some (.int (iI _))] [] _
    refine aw_aload_n rfl rfl rfl ?_
    refine aw_iload_n rfl rfl rfl ?_
    refine aw_calc (m_put hM2 ⟨by omega, by omega⟩ (by (try simp only [mPut_n]); omega) (by (try simp only [mPut_n]); omega)) rfl rfl rfl (Nat.le_of_ble_eq_true rfl) (Or.inr ⟨_, rfl, (hM2.f.k 42 rfl)⟩) rfl ?_
    rintro _ τ3 ⟨rfl, hM3, hD3⟩
    change aw _ _ _ _ 25 [some (.ref 42), some (.int (iI _)), some (.int (iI _)), some (.int (iI _)), some (.int (iI _)), some (.int (iI _))] [] _
    refine aw_aload_n rfl rfl rfl ?_
    refine aw_iload_n rfl rfl rfl ?_
    refine aw_calc (m_put hM3 ⟨by omega, by omega⟩ (by (try simp only [mPut_n]); omega) (by (try simp only [mPut_n]); omega)) rfl rfl rfl (Nat.le_of_ble_eq_true rfl) (Or.inr ⟨_, rfl, (hM3.f.k 42 rfl)⟩) rfl ?_
    rintro _ τ4 ⟨rfl, hM4, hD4⟩
    change aw _ _ _ _ 30 [some (.ref 42), some (.int (iI _)), some (.int (iI _)), some (.int (iI _)), some (.int (iI _)), some (.int (iI _))] [] _
    refine aw_aload_n rfl rfl rfl ?_
    refine aw_iload rfl rfl rfl ?_
    refine aw_calc (m_put hM4 ⟨by omega, by omega⟩ (by (try simp only [mPut_n]); omega) (by (try simp only [mPut_n]); omega)) rfl rfl rfl (Nat.le_of_ble_eq_true rfl) (Or.inr ⟨_, rfl, (hM4.f.k 42 rfl)⟩) rfl ?_
    rintro _ τ5 ⟨rfl, hM5, hD5⟩
    change aw _ _ _ _ 36 [some (.ref 42), some (.int (iI _)), some (.int (iI _)), some (.int (iI _)), some (.int (iI _)), some (.int (iI _))] [] _
    refine aw_aload_n rfl rfl rfl ?_
    refine aw_iload rfl rfl rfl ?_
    refine aw_calc (m_put hM5 ⟨by omega, by omega⟩ (by (try simp only [mPut_n]); omega) (by (try simp only [mPut_n]); omega)) rfl rfl rfl (Nat.le_of_ble_eq_true rfl) (Or.inr ⟨_, rfl, (hM5.f.k 42 rfl)⟩) rfl ?_
    rintro _ τ6 ⟨rfl, hM6, hD6⟩
    change aw _ _ _ _ 42 [some (.ref 42), some (.int (iI _)), some (.int (iI _)), some (.int (iI _)), some (.int (iI _)), some (.int (iI _))] [] _
    refine aw_aload_n rfl rfl rfl ?_
    refine aw_gp (40) hM6 rfl rfl (hM6.f.k 42 rfl) rfl rfl (fun _ _ => ?_)
    simp only [mPut_n]
    rw [show A 42 40 + 4 + 4 + 4 + 4 + 4 = A 42 40 + 20 by omega]
    refine aw_reti rfl ?_
    refine ⟨?_, ?_, (((((hD2.su (T := [42, 74]) rfl).tr (hD3.su (T := [42, 74]) rfl)).tr (hD4.su (T := [42, 74]) rfl)).tr (hD5.su (T := [42, 74]) rfl)).tr (hD6.su (T := [42, 74]) rfl))⟩
    · rw [zit_t (by omega)]
    · unfold m_feed_op; rw [tit_t (by omega)]; exact hM6
  · dsimp only [zc] at c1
    refine aw_iconst rfl rfl ?_
    refine aw_reti rfl ?_
    refine ⟨?_, ?_, Mod.rf⟩
    · rw [zit_f (by omega)]
    · unfold m_feed_op; rw [tit_f (by omega)]; exact hM
