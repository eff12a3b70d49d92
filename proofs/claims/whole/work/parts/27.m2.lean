/-! BITS -/
theorem iI_nat' {a : Int} (h : 0 ≤ a) : iI a = nI a.toNat := by
  obtain ⟨n, rfl⟩ := Int.eq_ofNat_of_zero_le h
  rfl
theorem nI_and (a b : Nat) : nI a &&& nI b = nI (a &&& b) := by
  apply Int32.toBitVec_inj.1
  show BitVec.ofNat 32 a &&& BitVec.ofNat 32 b = BitVec.ofNat 32 (a &&& b)
  apply BitVec.eq_of_getLsbD_eq
  intro i hi
  simp [hi]
theorem nI_or (a b : Nat) : nI a ||| nI b = nI (a ||| b) := by
  apply Int32.toBitVec_inj.1
  show BitVec.ofNat 32 a ||| BitVec.ofNat 32 b = BitVec.ofNat 32 (a ||| b)
  apply BitVec.eq_of_getLsbD_eq
  intro i hi
  simp [hi]
theorem nI_shl1 : ∀ l, l < 31 → nI 1 <<< (nI l &&& 31) = nI (2 ^ l) := by decide +kernel
theorem nI_shm : ∀ l, l < 32 → ((nI l &&& 31).toBitVec.smod 32).toNat = l := by decide +kernel
theorem nI_shr {n l : Nat} (hn : n < 2147483648) (hl : l < 32) : nI n >>> (nI l &&& 31) = nI (n / 2 ^ l) := by
  apply Int32.toBitVec_inj.1
  rw [Int32.toBitVec_shiftRight]
  show (BitVec.ofNat 32 n).sshiftRight ((nI l &&& 31).toBitVec.smod 32).toNat = BitVec.ofNat 32 (n / 2 ^ l)
  rw [nI_shm l hl, BitVec.sshiftRight_eq_of_msb_false (by rw [BitVec.msb_eq_decide]; simp; omega)]
  apply BitVec.eq_of_toNat_eq
  rw [BitVec.toNat_ushiftRight, BitVec.toNat_ofNat, BitVec.toNat_ofNat, Nat.mod_eq_of_lt (by omega : n < 2 ^ 32), Nat.shiftRight_eq_div_pow, Nat.mod_eq_of_lt]
  exact Nat.lt_of_le_of_lt (Nat.div_le_self _ _) (by omega)
def zand (a b : Int) : Int := ((a.toNat &&& b.toNat : Nat) : Int)
def zor (a b : Int) : Int := ((a.toNat ||| b.toNat : Nat) : Int)
section AwBits
variable {d : Nat} {cd : List az_I} {rt : Option FieldType} {P : Option Value → az_S → Prop} {pc p' : Nat} {L : az_V} {st : List Value} {σ : az_S}
theorem aw_iand {a b : Int} (hf : az_fetch cd pc = some (1, .iand, [])) (ha : 0 ≤ a) (hb : 0 ≤ b) (hp : pc + 1 = p') (h : aw d cd rt P p' L (.int (iI (zand a b)) :: st) σ) : aw d cd rt P pc L (.int (iI b) :: .int (iI a) :: st) σ := by
  subst hp
  refine aw_nx hf (Nat.le_of_ble_eq_true rfl) ⟨_, _, st, rfl, rfl⟩ ?_
  show aw d cd rt P (pc + 1) L (.int (iI a &&& iI b) :: st) σ
  rw [iI_nat' ha, iI_nat' hb, nI_and]
  exact h
theorem aw_iand1 {a : Int} (hf : az_fetch cd pc = some (1, .iand, [])) (ha : 0 ≤ a) (hp : pc + 1 = p') (h : aw d cd rt P p' L (.int (iI (a % 2)) :: st) σ) : aw d cd rt P pc L (.int (iI 1) :: .int (iI a) :: st) σ := by
  refine aw_iand hf ha (by decide) hp ?_
  have e : zand a 1 = a % 2 := by
    unfold zand
    rw [show (1 : Int).toNat = 1 from rfl, Nat.and_one_is_mod]
    omega
  rw [e]
  exact h
theorem aw_ior {a b : Int} (hf : az_fetch cd pc = some (1, .ior, [])) (ha : 0 ≤ a) (hb : 0 ≤ b) (hp : pc + 1 = p') (h : aw d cd rt P p' L (.int (iI (zor a b)) :: st) σ) : aw d cd rt P pc L (.int (iI b) :: .int (iI a) :: st) σ := by
  subst hp
  refine aw_nx hf (Nat.le_of_ble_eq_true rfl) ⟨_, _, st, rfl, rfl⟩ ?_
  show aw d cd rt P (pc + 1) L (.int (iI a ||| iI b) :: st) σ
  rw [iI_nat' ha, iI_nat' hb, nI_or]
  exact h
theorem zor_p {a : Int} {n : Nat} (h0 : 0 ≤ a) (h1 : a < 2 ^ n) : zor a (2 ^ n) = a + 2 ^ n := by
  obtain ⟨m, rfl⟩ := Int.eq_ofNat_of_zero_le h0
  have h2 : m < 2 ^ n := by
    have : ((2 ^ n : Nat) : Int) = 2 ^ n := by simp
    omega
  unfold zor
  have e : ((2 : Int) ^ n).toNat = 2 ^ n := by
    rw [show (2 : Int) ^ n = ((2 ^ n : Nat) : Int) by simp, Int.toNat_natCast]
  rw [e, Int.toNat_natCast, Nat.or_comm]
  have := Nat.two_pow_add_eq_or_of_lt h2 1
  rw [Nat.mul_one] at this
  rw [← this]
  simp [Int.add_comm]
/-- a bit that is not there is set -/
theorem aw_iorp {a : Int} {n : Nat} (hf : az_fetch cd pc = some (1, .ior, [])) (h0 : 0 ≤ a) (h1 : a < 2 ^ n) (hp : pc + 1 = p') (h : aw d cd rt P p' L (.int (iI (a + 2 ^ n)) :: st) σ) : aw d cd rt P pc L (.int (iI (2 ^ n)) :: .int (iI a) :: st) σ := by
  refine aw_ior hf h0 (Int.le_of_lt (Int.pow_pos (by decide))) hp ?_
  rw [zor_p h0 h1]
  exact h
theorem aw_ishl1 {k : Int} (hf : az_fetch cd pc = some (1, .ishl, [])) (h0 : 0 ≤ k) (h1 : k < 31) (hp : pc + 1 = p') (h : aw d cd rt P p' L (.int (iI (2 ^ k.toNat)) :: st) σ) : aw d cd rt P pc L (.int (iI k) :: .int (iI 1) :: st) σ := by
  subst hp
  refine aw_nx hf (Nat.le_of_ble_eq_true rfl) ⟨_, _, st, rfl, rfl⟩ ?_
  show aw d cd rt P (pc + 1) L (.int (iI 1 <<< (iI k &&& 31)) :: st) σ
  have e : iI 1 <<< (iI k &&& 31) = iI (2 ^ k.toNat) := by
    rw [iI_nat' h0, show iI 1 = nI 1 from rfl, nI_shl1 _ (by omega), show (2 : Int) ^ k.toNat = ((2 ^ k.toNat : Nat) : Int) by simp]
    rfl
  rw [e]
  exact h
theorem aw_ishr {a k : Int} (hf : az_fetch cd pc = some (1, .ishr, [])) (ha : 0 ≤ a) (ha2 : a < 2147483648) (h0 : 0 ≤ k) (h1 : k < 32) (hp : pc + 1 = p') (h : aw d cd rt P p' L (.int (iI (a / 2 ^ k.toNat)) :: st) σ) : aw d cd rt P pc L (.int (iI k) :: .int (iI a) :: st) σ := by
  subst hp
  refine aw_nx hf (Nat.le_of_ble_eq_true rfl) ⟨_, _, st, rfl, rfl⟩ ?_
  show aw d cd rt P (pc + 1) L (.int (iI a >>> (iI k &&& 31)) :: st) σ
  have e : iI a >>> (iI k &&& 31) = iI (a / 2 ^ k.toNat) := by
    obtain ⟨m, rfl⟩ := Int.eq_ofNat_of_zero_le ha
    rw [iI_nat' h0, iI_nat, nI_shr (by omega) (by omega), show (2 : Int) ^ k.toNat = ((2 ^ k.toNat : Nat) : Int) by simp, ← Int.natCast_ediv]
    rfl
  rw [e]
  exact h
end AwBits
theorem p2_b {t : Int} (h0 : 0 ≤ t) (h1 : t < 24) : 1 ≤ (2 : Int) ^ t.toNat ∧ (2 : Int) ^ t.toNat ≤ 8388608 := by
  have hh : ∀ n, n < 24 → 1 ≤ (2 : Int) ^ n ∧ (2 : Int) ^ n ≤ 8388608 := by decide +kernel
  exact hh t.toNat (by omega)
/-! POINTS AND SHADES -/
def mPx (A : Nat → Int → Int) (c lx x h j : Int) : Int := (100 * (c % A 42 0) + 50 + j * (A 43 (12 * (x % 360 / 30) + h) + lx)) / 100
def mPy (A : Nat → Int → Int) (c ly x h j : Int) : Int := (100 * (c / A 42 0) + 50 + j * (A 44 (12 * (x % 360 / 30) + h) + ly)) / 100
def mPoint (A : Nat → Int → Int) (c lx ly x h j : Int) : Int := if (0 ≤ mPx A c lx x h j ∧ mPx A c lx x h j ≤ A 42 0 - 1) ∧ (0 ≤ mPy A c ly x h j ∧ mPy A c ly x h j ≤ A 42 1 - 1) then mPy A c ly x h j * A 42 0 + mPx A c lx x h j else -1
theorem grid_b {w h x y : Int} (hx0 : 0 ≤ x) (hx : x ≤ w - 1) (hy0 : 0 ≤ y) (hy : y ≤ h - 1) : 0 ≤ y * w + x ∧ y * w + x < w * h := by
  have a1 : 0 ≤ y * w := Int.mul_nonneg hy0 (by omega)
  have a2 : y * w ≤ (h - 1) * w := Int.mul_le_mul_of_nonneg_right hy (by omega)
  have a3 : (h - 1) * w = w * h - w := by rw [Int.sub_mul, Int.one_mul, Int.mul_comm]
  omega
theorem mPoint_r {sz : Nat} {A : Nat → Int → Int} (hI : MI sz A) (c lx ly x h j : Int) : -1 ≤ mPoint A c lx ly x h j ∧ mPoint A c lx ly x h j < A 42 2 := by
  have hc := hI.cells
  unfold mPoint
  split
  · rename_i hh
    have := grid_b hh.1.1 hh.1.2 hh.2.1 hh.2.2
    omega
  · omega
set_option maxRecDepth 10000 in
set_option maxHeartbeats 2000000 in
theorem m_pointOf {d : Nat} {sz : Nat} {A : Nat → Int → Int} {σ : az_S} (hM : MV sz A σ) (hI : MI sz A) {c lx ly x h j : Int} (hc0 : 0 ≤ c) (hc : c < A 42 2) (hl1 : -50 ≤ lx) (hl2 : lx ≤ 50) (hm1 : -50 ≤ ly) (hm2 : ly ≤ 50) (hx0 : 0 ≤ x) (hx1 : x ≤ 3599) (hh0 : 0 ≤ h) (hh1 : h ≤ 11) (hj0 : 0 ≤ j) (hj1 : j ≤ 60) : fn (d + 2) 185 [.ref 42, .int (iI c), .int (iI lx), .int (iI ly), .int (iI x), .int (iI h), .int (iI j)] σ (.int (iI (mPoint A c lx ly x h j))) := by
  have hw := hI.wide
  have hg := hI.high
  have hce := hI.cells
  have hs := hI.sun (12 * (x % 360 / 30) + h) (by omega) (by omega)
  have p1 := mul_b (U := 350) hj0 hj1 (show -350 ≤ A 43 (12 * (x % 360 / 30) + h) + lx by omega) (by omega)
  have p2 := mul_b (U := 350) hj0 hj1 (show -350 ≤ A 44 (12 * (x % 360 / 30) + h) + ly by omega) (by omega)
  have r1 := rem_b (a := c) (g := A 42 0) (by omega)
  have r2 := div_b (a := c) (g := A 42 0) hc0 (by omega)
  refine fn_of (M := (yX12_pointOf, cX12_pointOf, 10, (some .int))) (cd := k_X12_pointOf) (L := [some (.ref 42), some (.int (iI c)), some (.int (iI lx)), some (.int (iI ly)), some (.int (iI x)), some (.int (iI h)), some (.int (iI j)), none, none, none]) rfl (Nat.le_of_ble_eq_true rfl) rfl rfl ?_
  refine aw_bipush rfl rfl rfl ?_
  refine aw_iload rfl rfl rfl ?_
  refine aw_fnc (m_monthOf (by omega) (by omega)) rfl rfl rfl (Nat.le_of_ble_eq_true rfl) (Or.inl rfl) rfl ?_
  refine aw_imul rfl rfl ?_
  refine aw_iload rfl rfl rfl ?_
  refine aw_iadd rfl rfl ?_
  refine aw_istore rfl (Nat.le_of_ble_eq_true rfl) rfl rfl ?_
  change aw _ _ _ _ 13 [some (.ref 42), some (.int (iI _)), some (.int (iI _)), some (.int (iI _)), some (.int (iI _)), some (.int (iI _)), some (.int (iI _)), some (.int (iI _)), none, none] _ _
  refine aw_bipush rfl rfl rfl ?_
  refine aw_iload_n rfl rfl rfl ?_
  refine aw_aload_n rfl rfl rfl ?_
  refine aw_gp (0) hM rfl rfl (hM.f.k 42 rfl) rfl rfl (fun _ _ => ?_)
  refine aw_irem rfl (by omega) (by omega) (by omega) (by omega) rfl ?_
  refine aw_imul rfl rfl ?_
  refine aw_bipush rfl rfl rfl ?_
  refine aw_iadd rfl rfl ?_
  refine aw_iload rfl rfl rfl ?_
  refine aw_aload_n rfl rfl rfl ?_
  refine aw_getr (b := 43) rfl rfl (hM.f.k 42 rfl) (hM.f.r 42 4 43 rfl) rfl ?_
  refine aw_iload rfl rfl rfl ?_
  refine aw_ap (N := 144) hM rfl (hM.f.s 43 rfl) (by omega) rfl (by omega) (by omega) rfl (fun _ _ => ?_)
  refine aw_iload_n rfl rfl rfl ?_
  refine aw_iadd rfl rfl ?_
  refine aw_imul rfl rfl ?_
  refine aw_iadd rfl rfl ?_
  refine aw_fnc (m_below (by omega) (by omega)) rfl rfl rfl (Nat.le_of_ble_eq_true rfl) (Or.inl rfl) rfl ?_
  refine aw_istore rfl (Nat.le_of_ble_eq_true rfl) rfl rfl ?_
  change aw _ _ _ _ 43 [some (.ref 42), some (.int (iI _)), some (.int (iI _)), some (.int (iI _)), some (.int (iI _)), some (.int (iI _)), some (.int (iI _)), some (.int (iI _)), some (.int (iI _)), none] _ _
  refine aw_bipush rfl rfl rfl ?_
  refine aw_iload_n rfl rfl rfl ?_
  refine aw_aload_n rfl rfl rfl ?_
  refine aw_gp (0) hM rfl rfl (hM.f.k 42 rfl) rfl rfl (fun _ _ => ?_)
  refine aw_idiv rfl (by omega) (by omega) (by omega) (by omega) rfl ?_
  refine aw_imul rfl rfl ?_
  refine aw_bipush rfl rfl rfl ?_
  refine aw_iadd rfl rfl ?_
  refine aw_iload rfl rfl rfl ?_
  refine aw_aload_n rfl rfl rfl ?_
  refine aw_getr (b := 44) rfl rfl (hM.f.k 42 rfl) (hM.f.r 42 5 44 rfl) rfl ?_
  refine aw_iload rfl rfl rfl ?_
  refine aw_ap (N := 144) hM rfl (hM.f.s 44 rfl) (by omega) rfl (by omega) (by omega) rfl (fun _ _ => ?_)
  refine aw_iload_n rfl rfl rfl ?_
  refine aw_iadd rfl rfl ?_
  refine aw_imul rfl rfl ?_
  refine aw_iadd rfl rfl ?_
  refine aw_fnc (m_below (by omega) (by omega)) rfl rfl rfl (Nat.le_of_ble_eq_true rfl) (Or.inl rfl) rfl ?_
  refine aw_istore rfl (Nat.le_of_ble_eq_true rfl) rfl rfl ?_
  change aw _ _ _ _ 73 [some (.ref 42), some (.int (iI _)), some (.int (iI _)), some (.int (iI _)), some (.int (iI _)), some (.int (iI _)), some (.int (iI _)), some (.int (iI _)), some (.int (iI _)), some (.int (iI _))] _ _
  refine aw_iload rfl rfl rfl ?_
  refine aw_i2l rfl ⟨by omega, by omega⟩ rfl ?_
  refine aw_lconst 0 rfl rfl rfl ?_
  refine aw_aload_n rfl rfl rfl ?_
  refine aw_gp (0) hM rfl rfl (hM.f.k 42 rfl) rfl rfl (fun _ _ => ?_)
  refine aw_iconst rfl rfl ?_
  refine aw_isub rfl rfl ?_
  refine aw_i2l rfl ⟨by omega, by omega⟩ rfl ?_
  refine aw_fnc (m_in ⟨by omega, by omega⟩ ⟨by omega, by omega⟩ ⟨by omega, by omega⟩) rfl rfl rfl (Nat.le_of_ble_eq_true rfl) (Or.inl rfl) rfl ?_
  refine aw_ifeqb (p' := 120) rfl rfl rfl (fun c1 => ?_) (fun c1 => ?_)
  · refine aw_iconst rfl rfl ?_
    refine aw_reti rfl ?_
    refine ⟨?_, rfl⟩
    unfold mPoint
    first | rw [if_pos ⟨by assumption, by assumption⟩]; rfl | rw [if_neg (fun q => absurd q.1 (by assumption))] | rw [if_neg (fun q => absurd q.2 (by assumption))]
  · refine aw_iload rfl rfl rfl ?_
    refine aw_i2l rfl ⟨by omega, by omega⟩ rfl ?_
    refine aw_lconst 0 rfl rfl rfl ?_
    refine aw_aload_n rfl rfl rfl ?_
    refine aw_gp (1) hM rfl rfl (hM.f.k 42 rfl) rfl rfl (fun _ _ => ?_)
    refine aw_iconst rfl rfl ?_
    refine aw_isub rfl rfl ?_
    refine aw_i2l rfl ⟨by omega, by omega⟩ rfl ?_
    refine aw_fnc (m_in ⟨by omega, by omega⟩ ⟨by omega, by omega⟩ ⟨by omega, by omega⟩) rfl rfl rfl (Nat.le_of_ble_eq_true rfl) (Or.inl rfl) rfl ?_
    refine aw_ifeqb (p' := 120) rfl rfl rfl (fun c2 => ?_) (fun c2 => ?_)
    · refine aw_iconst rfl rfl ?_
      refine aw_reti rfl ?_
      refine ⟨?_, rfl⟩
      unfold mPoint
      first | rw [if_pos ⟨by assumption, by assumption⟩]; rfl | rw [if_neg (fun q => absurd q.1 (by assumption))] | rw [if_neg (fun q => absurd q.2 (by assumption))]
    · refine aw_iload rfl rfl rfl ?_
      refine aw_aload_n rfl rfl rfl ?_
      refine aw_gp (0) hM rfl rfl (hM.f.k 42 rfl) rfl rfl (fun _ _ => ?_)
      refine aw_imul rfl rfl ?_
      refine aw_iload rfl rfl rfl ?_
      refine aw_iadd rfl rfl ?_
      refine aw_goto (p' := 121) rfl rfl ?_
      refine aw_reti rfl ?_
      refine ⟨?_, rfl⟩
      unfold mPoint
      first | rw [if_pos ⟨by assumption, by assumption⟩]; rfl | rw [if_neg (fun q => absurd q.1 (by assumption))] | rw [if_neg (fun q => absurd q.2 (by assumption))]
def mDarkTo (A : Nat → Int → Int) (c lx ly x h w n : Int) : Prop := ¬ mCloud A x h ∧ w ≠ c ∧ ∃ i : Int, 1 ≤ i ∧ i < n ∧ mPoint A c lx ly x h i = w
abbrev mDark (A : Nat → Int → Int) (c lx ly tall x h w : Int) : Prop := mDarkTo A c lx ly x h w (tall + 1)
theorem mDarkTo_s {A : Nat → Int → Int} {c lx ly x h w n : Int} (hn : 1 ≤ n) (hc : ¬ mCloud A x h) : mDarkTo A c lx ly x h w (n + 1) ↔ mDarkTo A c lx ly x h w n ∨ (w ≠ c ∧ mPoint A c lx ly x h n = w) := by
  constructor
  · rintro ⟨h1, h2, i, h3, h4, h5⟩
    by_cases e : i < n
    · exact Or.inl ⟨h1, h2, i, h3, e, h5⟩
    · have : i = n := by omega
      rw [this] at h5
      exact Or.inr ⟨h2, h5⟩
  · rintro (⟨h1, h2, i, h3, h4, h5⟩ | ⟨h1, h2⟩)
    · exact ⟨h1, h2, i, h3, by omega, h5⟩
    · exact ⟨hc, h1, n, hn, by omega, h2⟩
set_option maxRecDepth 10000 in
set_option maxHeartbeats 2000000 in
theorem m_shades_l29 {d : Nat} {sz : Nat} {A : Nat → Int → Int} {σ : az_S} (hM : MV sz A σ) (hI : MI sz A) {c lx ly tl x h : Int} (hc0 : 0 ≤ c) (hc : c < A 42 2) (hl1 : -50 ≤ lx) (hl2 : lx ≤ 50) (hm1 : -50 ≤ ly) (hm2 : ly ≤ 50) (ht1 : -1 ≤ tl) (ht2 : tl ≤ 60) (hx0 : 0 ≤ x) (hx1 : x ≤ 3599) (hh0 : 0 ≤ h) (hh1 : h ≤ 11) : ∀ (n : Nat) (τ : az_S) (j : Int) (v : Option Value), (tl + 1 - j).toNat = n → MV sz A τ → Mod σ τ [88] → 1 ≤ j → (j = 1 ∨ j ≤ tl + 1) → (∀ w, 0 ≤ w → w < A 42 2 → zx τ 88 w = bI (mDarkTo A c lx ly x h w j)) → aw (d + 2) k_X12_shades none (fun r τ => r = none ∧ MV sz A τ ∧ Mod σ τ [88] ∧ ∀ w : Int, 0 ≤ w → w < A 42 2 → zx τ 88 w = bI (mDark A c lx ly tl x h w)) 29 [some (.ref 42), some (.int (iI c)), some (.int (iI lx)), some (.int (iI ly)), some (.int (iI tl)), some (.int (iI x)), some (.int (iI h)), some (.int (iI j)), v] [] τ := by
  intro n
  induction n using Nat.strongRecOn with
  | ind n ih =>
    intro τ j v hn hN hD hj0 hj1 hU
    have hce := hI.cells
    have hpr := mPoint_r hI c lx ly x h j
    refine aw_iload rfl rfl rfl ?_
    refine aw_iload rfl rfl rfl ?_
    refine aw_icmp (p' := 87) rfl ⟨by omega, by omega⟩ ⟨by omega, by omega⟩ rfl rfl (fun c1 => ?_) (fun c1 => ?_)
    · dsimp only [zc] at c1
      refine aw_retv rfl ?_
      refine ⟨rfl, hN, (hD.su (T := [88]) rfl), fun w h1 h2 => ?_⟩
      rw [hU w h1 h2]
      refine bI_congr ⟨?_, ?_⟩
      · rintro ⟨q1, q2, i, q3, q4, q5⟩; exact ⟨q1, q2, i, q3, by omega, q5⟩
      · rintro ⟨q1, q2, i, q3, q4, q5⟩; first | exact ⟨q1, q2, i, q3, by omega, q5⟩ | exact absurd (by assumption) q1
    · dsimp only [zc] at c1
      refine aw_aload_n rfl rfl rfl ?_
      refine aw_iload rfl rfl rfl ?_
      refine aw_iload rfl rfl rfl ?_
      refine aw_fnc (m_isCloud hN hI ⟨by omega, by omega⟩ ⟨by omega, by omega⟩) rfl rfl rfl (Nat.le_of_ble_eq_true rfl) (Or.inr ⟨_, rfl, (hN.f.k 42 rfl)⟩) rfl ?_
      refine aw_ifneb (p' := 87) rfl rfl rfl (fun c2 => ?_) (fun c2 => ?_)
      · refine aw_retv rfl ?_
        refine ⟨rfl, hN, (hD.su (T := [88]) rfl), fun w h1 h2 => ?_⟩
        rw [hU w h1 h2]
        refine bI_congr ⟨?_, ?_⟩
        · rintro ⟨q1, q2, i, q3, q4, q5⟩; exact ⟨q1, q2, i, q3, by omega, q5⟩
        · rintro ⟨q1, q2, i, q3, q4, q5⟩; first | exact ⟨q1, q2, i, q3, by omega, q5⟩ | exact absurd (by assumption) q1
      · refine aw_aload_n rfl rfl rfl ?_
        refine aw_iload_n rfl rfl rfl ?_
        refine aw_iload_n rfl rfl rfl ?_
        refine aw_iload_n rfl rfl rfl ?_
        refine aw_iload rfl rfl rfl ?_
        refine aw_iload rfl rfl rfl ?_
        refine aw_iload rfl rfl rfl ?_
        refine aw_fnc (m_pointOf hN hI (by omega) (by omega) (by omega) (by omega) (by omega) (by omega) (by omega) (by omega) (by omega) (by omega) (by omega) (by omega)) rfl rfl rfl (Nat.le_of_ble_eq_true rfl) (Or.inr ⟨_, rfl, (hN.f.k 42 rfl)⟩) rfl ?_
        refine aw_istore rfl (Nat.le_of_ble_eq_true rfl) rfl rfl ?_
        change aw _ _ _ _ 62 [some (.ref 42), some (.int (iI _)), some (.int (iI _)), some (.int (iI _)), some (.int (iI _)), some (.int (iI _)), some (.int (iI _)), some (.int (iI _)), some (.int (iI _))] _ _
        refine aw_iload rfl rfl rfl ?_
        refine aw_if (p' := 81) rfl ⟨by omega, by omega⟩ rfl rfl (fun c3 => ?_) (fun c3 => ?_)
        · dsimp only [zc] at c3
          refine aw_iinc rfl rfl rfl rfl ?_
          change aw _ _ _ _ 84 [some (.ref 42), some (.int (iI _)), some (.int (iI _)), some (.int (iI _)), some (.int (iI _)), some (.int (iI _)), some (.int (iI _)), some (.int (iI _)), some (.int (iI _))] _ _
          refine aw_goto (p' := 29) rfl rfl ?_
          refine ih _ (by omega) _ _ _ rfl hN (hD.su (T := [88]) rfl) (by omega) (by omega) (fun w h1 h2 => ?_)
          have hs := mDarkTo_s (A := A) (c := c) (lx := lx) (ly := ly) (x := x) (h := h) (w := w) hj0 (by assumption)
          rw [hU w h1 h2]; exact bI_congr (by rw [hs]; exact ⟨fun q => Or.inl q, fun q => q.elim id (fun q => by omega)⟩)
        · dsimp only [zc] at c3
          refine aw_iload rfl rfl rfl ?_
          refine aw_iload_n rfl rfl rfl ?_
          refine aw_icmp (p' := 81) rfl ⟨by omega, by omega⟩ ⟨by omega, by omega⟩ rfl rfl (fun c4 => ?_) (fun c4 => ?_)
          · dsimp only [zc] at c4
            refine aw_iinc rfl rfl rfl rfl ?_
            change aw _ _ _ _ 84 [some (.ref 42), some (.int (iI _)), some (.int (iI _)), some (.int (iI _)), some (.int (iI _)), some (.int (iI _)), some (.int (iI _)), some (.int (iI _)), some (.int (iI _))] _ _
            refine aw_goto (p' := 29) rfl rfl ?_
            refine ih _ (by omega) _ _ _ rfl hN (hD.su (T := [88]) rfl) (by omega) (by omega) (fun w h1 h2 => ?_)
            have hs := mDarkTo_s (A := A) (c := c) (lx := lx) (ly := ly) (x := x) (h := h) (w := w) hj0 (by assumption)
            rw [hU w h1 h2]; exact bI_congr (by rw [hs]; exact ⟨fun q => Or.inl q, fun q => q.elim id (fun q => by omega)⟩)
          · dsimp only [zc] at c4
            refine aw_aload_n rfl rfl rfl ?_
            refine aw_getr (b := 88) rfl rfl (hN.f.k 42 rfl) (hN.f.r 42 71 88 rfl) rfl ?_
            refine aw_iload rfl rfl rfl ?_
            refine aw_iconst rfl rfl ?_
            refine aw_sb (N := 192) hN rfl (hN.f.s 88 rfl) (by omega) rfl (by omega) (by omega) (by first | omega | exact bI_01 _) rfl (fun τ5 hM5 hD5 hU5 => ?_)
            refine aw_iinc rfl rfl rfl rfl ?_
            change aw _ _ _ _ 84 [some (.ref 42), some (.int (iI _)), some (.int (iI _)), some (.int (iI _)), some (.int (iI _)), some (.int (iI _)), some (.int (iI _)), some (.int (iI _)), some (.int (iI _))] _ _
            refine aw_goto (p' := 29) rfl rfl ?_
            refine ih _ (by omega) _ _ _ rfl hM5 ((hD.su (T := [88]) rfl).tr (hD5.su (T := [88]) rfl)) (by omega) (by omega) (fun w h1 h2 => ?_)
            have hs := mDarkTo_s (A := A) (c := c) (lx := lx) (ly := ly) (x := x) (h := h) (w := w) hj0 (by assumption)
            rw [hU5 w]
            split
            · rw [bI_one', hs]; exact Or.inr ⟨by omega, by omega⟩
            · rw [hU w h1 h2]; exact bI_congr (by rw [hs]; exact ⟨fun q => Or.inl q, fun q => q.elim id (fun q => by omega)⟩)
set_option maxRecDepth 10000 in
set_option maxHeartbeats 2000000 in
theorem m_shades_l3 {d : Nat} {sz : Nat} {A : Nat → Int → Int} {σ : az_S} (hM : MV sz A σ) (hI : MI sz A) {c lx ly tl x h : Int} (hc0 : 0 ≤ c) (hc : c < A 42 2) (hl1 : -50 ≤ lx) (hl2 : lx ≤ 50) (hm1 : -50 ≤ ly) (hm2 : ly ≤ 50) (ht1 : -1 ≤ tl) (ht2 : tl ≤ 60) (hx0 : 0 ≤ x) (hx1 : x ≤ 3599) (hh0 : 0 ≤ h) (hh1 : h ≤ 11) : ∀ (n : Nat) (τ : az_S) (j : Int), (A 42 2 - j).toNat = n → MV sz A τ → Mod σ τ [88] → 0 ≤ j → j ≤ A 42 2 → (∀ w, 0 ≤ w → w < j → zx τ 88 w = 0) → aw (d + 2) k_X12_shades none (fun r τ => r = none ∧ MV sz A τ ∧ Mod σ τ [88] ∧ ∀ w : Int, 0 ≤ w → w < A 42 2 → zx τ 88 w = bI (mDark A c lx ly tl x h w)) 3 [some (.ref 42), some (.int (iI c)), some (.int (iI lx)), some (.int (iI ly)), some (.int (iI tl)), some (.int (iI x)), some (.int (iI h)), some (.int (iI j)), none] [] τ := by
  intro n
  induction n using Nat.strongRecOn with
  | ind n ih =>
    intro τ j hn hN hD hj0 hj1 hU
    have hce := hI.cells
    refine aw_iload rfl rfl rfl ?_
    refine aw_aload_n rfl rfl rfl ?_
    refine aw_gp (2) hN rfl rfl (hN.f.k 42 rfl) rfl rfl (fun _ _ => ?_)
    refine aw_icmp (p' := 26) rfl ⟨by omega, by omega⟩ ⟨by omega, by omega⟩ rfl rfl (fun c6 => ?_) (fun c6 => ?_)
    · dsimp only [zc] at c6
      refine aw_iconst rfl rfl ?_
      refine aw_istore rfl (Nat.le_of_ble_eq_true rfl) rfl rfl ?_
      change aw _ _ _ _ 29 [some (.ref 42), some (.int (iI _)), some (.int (iI _)), some (.int (iI _)), some (.int (iI _)), some (.int (iI _)), some (.int (iI _)), some (.int (iI _)), none] _ _
      exact m_shades_l29 hM hI hc0 hc hl1 hl2 hm1 hm2 ht1 ht2 hx0 hx1 hh0 hh1 _ _ 1 _ rfl hN (hD.su (T := [88]) rfl) (by omega) (by omega) (fun w h1 h2 => by rw [hU w h1 (by omega)]; rw [bI_zero']; rintro ⟨-, -, i, q1, q2, -⟩; omega)
    · dsimp only [zc] at c6
      refine aw_aload_n rfl rfl rfl ?_
      refine aw_getr (b := 88) rfl rfl (hN.f.k 42 rfl) (hN.f.r 42 71 88 rfl) rfl ?_
      refine aw_iload rfl rfl rfl ?_
      refine aw_iconst rfl rfl ?_
      refine aw_sb (N := 192) hN rfl (hN.f.s 88 rfl) (by omega) rfl (by omega) (by omega) (by first | omega | exact bI_01 _) rfl (fun τ7 hM7 hD7 hU7 => ?_)
      refine aw_iinc rfl rfl rfl rfl ?_
      change aw _ _ _ _ 23 [some (.ref 42), some (.int (iI _)), some (.int (iI _)), some (.int (iI _)), some (.int (iI _)), some (.int (iI _)), some (.int (iI _)), some (.int (iI _)), none] _ _
      refine aw_goto (p' := 3) rfl rfl ?_
      exact ih _ (by omega) _ _ rfl hM7 ((hD.su (T := [88]) rfl).tr (hD7.su (T := [88]) rfl)) (by omega) (by omega) (fun w h1 h2 => by rw [hU7]; split; rfl; exact hU w h1 (by omega))
set_option maxRecDepth 10000 in
set_option maxHeartbeats 2000000 in
theorem m_shades {d : Nat} {sz : Nat} {A : Nat → Int → Int} {σ : az_S} (hM : MV sz A σ) (hI : MI sz A) {c lx ly tl x h : Int} (hc0 : 0 ≤ c) (hc : c < A 42 2) (hl1 : -50 ≤ lx) (hl2 : lx ≤ 50) (hm1 : -50 ≤ ly) (hm2 : ly ≤ 50) (ht1 : -1 ≤ tl) (ht2 : tl ≤ 60) (hx0 : 0 ≤ x) (hx1 : x ≤ 3599) (hh0 : 0 ≤ h) (hh1 : h ≤ 11) : cal (d + 3) 186 [.ref 42, .int (iI c), .int (iI lx), .int (iI ly), .int (iI tl), .int (iI x), .int (iI h)] σ (fun r τ => r = none ∧ MV sz A τ ∧ Mod σ τ [88] ∧ ∀ w : Int, 0 ≤ w → w < A 42 2 → zx τ 88 w = bI (mDark A c lx ly tl x h w)) := by
  have hce := hI.cells
  refine cal_of (M := (yX12_shades, cX12_shades, 9, none)) (cd := k_X12_shades) (L := [some (.ref 42), some (.int (iI c)), some (.int (iI lx)), some (.int (iI ly)), some (.int (iI tl)), some (.int (iI x)), some (.int (iI h)), none, none]) rfl (Nat.le_of_ble_eq_true rfl) rfl rfl ?_
  refine aw_iconst rfl rfl ?_
  refine aw_istore rfl (Nat.le_of_ble_eq_true rfl) rfl rfl ?_
  change aw _ _ _ _ 3 [some (.ref 42), some (.int (iI _)), some (.int (iI _)), some (.int (iI _)), some (.int (iI _)), some (.int (iI _)), some (.int (iI _)), some (.int (iI _)), none] _ _
  exact m_shades_l3 hM hI hc0 hc hl1 hl2 hm1 hm2 ht1 ht2 hx0 hx1 hh0 hh1 _ _ 0 rfl hM Mod.rf (by omega) (by omega) (fun w _ _ => by omega)
