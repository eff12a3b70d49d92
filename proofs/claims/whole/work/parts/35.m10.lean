section AwFw
variable {d : Nat} {cd : List az_I} {rt : Option FieldType} {P : Option Value → az_S → Prop} {pc p' : Nat} {L : az_V} {st : List Value} {σ : az_S} {sz : Nat} {A : Nat → Int → Int}
/-- a field of the reference that is scratch -/
theorem aw_fw {i k : Nat} {x : Int} (j : Int) (hM : MV sz A σ) (hf : az_fetch cd pc = some (3, .putfield i, [13, k])) (hk : az_ft 13 k = 0) (hs : (az_sh σ 42).1 = 13) (hj : j = (k : Int)) (hpf : pF k = false) (h86 : Nat.beq k 86 = false) (hx : inI x) (hp : pc + 3 = p') (h : ∀ τ, MV sz A τ → Mod σ τ [42] → (∀ w, zx τ 42 w = if w = j then x else zx σ 42 w) → aw d cd rt P p' L st τ) : aw d cd rt P pc L (.int (iI x) :: .ref 42 :: st) σ := by
  refine aw_fs j hf hk hs hj hx hp (fun τ hD hU hQ => h τ ⟨hD.fx hM.1, ?_⟩ hD hU)
  rw [← hM.2]
  funext a w
  unfold V
  cases hp : pA a with
  | true => exact congrFun (hD.z a (by cases hc : [42].contains a with | false => rfl | true => (have e : a = 42 := by simpa using hc); subst e; exact absurd hp (by decide))) w
  | false =>
    rw [hQ]
    by_cases hw : w < 0
    · simp only [if_pos hw]
    · simp only [if_neg hw]
      have e : pF w.toNat = true → zx τ 42 w = zx σ 42 w := by
        intro q
        rw [hU, if_neg]
        intro e2
        rw [e2, hj, Int.toNat_natCast, hpf] at q
        cases q
      cases hq : pF w.toNat with
      | true => rw [e hq]
      | false => rfl
end AwFw
def mFill (B : Nat → Int → Int) (s : Int) : Nat → Nat → Int → Int
  | 0 => B
  | n + 1 => up (mFill B s n) 87 (12 * s + n) (-1)
theorem mFill_o (B : Nat → Int → Int) (s : Int) (n : Nat) {a : Nat} (h : a ≠ 87) : mFill B s n a = B a := by
  induction n with
  | zero => rfl
  | succ n ih => unfold mFill; rw [up_fn h, ih]
def mStall0 (A : Nat → Int → Int) (p u v : Int) : Nat → Int → Int := up (up (up A 84 (A 42 66) p) 85 (A 42 66) u) 86 (A 42 66) v
noncomputable def m_stall_op (A : Nat → Int → Int) (p u v : Int) : Nat → Int → Int := tit ((0 ≤ p ∧ p ≤ A 42 9 - 1) ∧ (0 ≤ u ∧ u ≤ 3599) ∧ (u ≤ v ∧ v ≤ 3599) ∧ A 42 66 ≠ 10) (up (mFill (mStall0 A p u v) (A 42 66) 12) 42 66 (A 42 66 + 1)) A
set_option maxRecDepth 10000 in
set_option maxHeartbeats 2000000 in
theorem m_stall_l72 {d : Nat} {sz : Nat} {A : Nat → Int → Int} {σ : az_S} (hM : MV sz A σ) (hI : MI sz A) {p u v : Int} (hp : inI p) (hu : inI u) (hv : inI v) : ∀ (n : Nat) (τ : az_S) (h : Int), (12 - h).toNat = n → ((0 ≤ p ∧ p ≤ A 42 9 - 1) ∧ (0 ≤ u ∧ u ≤ 3599) ∧ (u ≤ v ∧ v ≤ 3599) ∧ A 42 66 ≠ 10) → MV sz (mFill (mStall0 A p u v) (A 42 66) h.toNat) τ → Mod σ τ [42, 84, 85, 86, 87] → 0 ≤ h → h ≤ 12 → aw (d + 2) k_X12_stall (some .int) (fun r τ => r = some (.int (iI (zit ((0 ≤ p ∧ p ≤ A 42 9 - 1) ∧ (0 ≤ u ∧ u ≤ 3599) ∧ (u ≤ v ∧ v ≤ 3599) ∧ A 42 66 ≠ 10) (A 42 66 + 1 - 1) (-1)))) ∧ MV sz (m_stall_op A p u v) τ ∧ Mod σ τ [42, 84, 85, 86, 87]) 72 [some (.ref 42), some (.int (iI p)), some (.int (iI u)), some (.int (iI v)), some (.int (iI h))] [] τ := by
  intro n
  induction n using Nat.strongRecOn with
  | ind n ih =>
    intro τ h hn hok hN hD hh0 hh1
    obtain ⟨hp1, hp2⟩ := hp
    obtain ⟨hu1, hu2⟩ := hu
    obtain ⟨hv1, hv2⟩ := hv
    have hst := hI.stalls
    have h66 : mFill (mStall0 A p u v) (A 42 66) h.toNat 42 66 = A 42 66 := by rw [mFill_o _ _ _ (by decide)]; rfl
    have hsx : (h + 1).toNat = h.toNat + 1 := by omega
    have hsc : ((h.toNat : Nat) : Int) = h := by omega
    refine aw_iload rfl rfl rfl ?_
    refine aw_bipush rfl rfl rfl ?_
    refine aw_icmp (p' := 101) rfl ⟨by omega, by omega⟩ ⟨by omega, by omega⟩ rfl rfl (fun c1 => ?_) (fun c1 => ?_)
    · dsimp only [zc] at c1
      refine aw_aload_n rfl rfl rfl ?_
      refine aw_dup rfl rfl rfl ?_
      refine aw_gpv (v := A 42 66) (66) hN rfl rfl (hN.f.k 42 rfl) rfl (by first | (simp [up, mEnter, mStands, mStands0]; done) | assumption) rfl (fun _ _ => ?_)
      refine aw_iconst rfl rfl ?_
      refine aw_iadd rfl rfl ?_
      refine aw_fp (66) hN rfl rfl (hN.f.k 42 rfl) rfl (fun _ => rfl) rfl ⟨by omega, by omega⟩ rfl (fun τ2 hM2 hD2 => ?_)
      refine aw_aload_n rfl rfl rfl ?_
      refine aw_gpv (v := (A 42 66) + 1) (66) hM2 rfl rfl (hM2.f.k 42 rfl) rfl (by first | (simp [up, mEnter, mStands, mStands0]; done) | assumption) rfl (fun _ _ => ?_)
      refine aw_iconst rfl rfl ?_
      refine aw_isub rfl rfl ?_
      refine aw_reti rfl ?_
      refine ⟨?_, ?_, ((hD.su (T := [42, 84, 85, 86, 87]) rfl).tr (hD2.su (T := [42, 84, 85, 86, 87]) rfl))⟩
      · rw [zit_t hok]
      · unfold m_stall_op; rw [tit_t hok]; rw [show h.toNat = 12 by omega] at hM2; exact hM2
    · dsimp only [zc] at c1
      refine aw_aload_n rfl rfl rfl ?_
      refine aw_getr (b := 87) rfl rfl (hN.f.k 42 rfl) (hN.f.r 42 70 87 rfl) rfl ?_
      refine aw_bipush rfl rfl rfl ?_
      refine aw_aload_n rfl rfl rfl ?_
      refine aw_gpv (v := A 42 66) (66) hN rfl rfl (hN.f.k 42 rfl) rfl (by first | (simp [up, mEnter, mStands, mStands0]; done) | assumption) rfl (fun _ _ => ?_)
      refine aw_imul rfl rfl ?_
      refine aw_iload rfl rfl rfl ?_
      refine aw_iadd rfl rfl ?_
      refine aw_iconst rfl rfl ?_
      refine aw_sp (N := 120) hN rfl (hN.f.s 87 rfl) (by omega) rfl (by omega) (by omega) ⟨by omega, by omega⟩ rfl (fun τ3 hM3 hD3 => ?_)
      refine aw_iinc rfl rfl rfl rfl ?_
      change aw _ _ _ _ 98 [some (.ref 42), some (.int (iI _)), some (.int (iI _)), some (.int (iI _)), some (.int (iI _))] _ _
      refine aw_goto (p' := 72) rfl rfl ?_
      exact ih _ (by omega) _ _ rfl hok (by rw [hsx]; unfold mFill; rw [hsc]; exact hM3) ((hD.su (T := [42, 84, 85, 86, 87]) rfl).tr (hD3.su (T := [42, 84, 85, 86, 87]) rfl)) (by omega) (by omega)
set_option maxRecDepth 10000 in
set_option maxHeartbeats 2000000 in
theorem m_stall {d : Nat} {sz : Nat} {A : Nat → Int → Int} {σ : az_S} (hM : MV sz A σ) (hI : MI sz A) {p u v : Int} (hp : inI p) (hu : inI u) (hv : inI v) : cal (d + 3) 236 [.ref 42, .int (iI p), .int (iI u), .int (iI v)] σ (fun r τ => r = some (.int (iI (zit ((0 ≤ p ∧ p ≤ A 42 9 - 1) ∧ (0 ≤ u ∧ u ≤ 3599) ∧ (u ≤ v ∧ v ≤ 3599) ∧ A 42 66 ≠ 10) (A 42 66 + 1 - 1) (-1)))) ∧ MV sz (m_stall_op A p u v) τ ∧ Mod σ τ [42, 84, 85, 86, 87]) := by
  obtain ⟨hp1, hp2⟩ := hp
  obtain ⟨hu1, hu2⟩ := hu
  obtain ⟨hv1, hv2⟩ := hv
  have hst := hI.stalls
  refine cal_of (M := (yX12_stall, cX12_stall, 5, (some .int))) (cd := k_X12_stall) (L := [some (.ref 42), some (.int (iI p)), some (.int (iI u)), some (.int (iI v)), none]) rfl (Nat.le_of_ble_eq_true rfl) rfl rfl ?_
  refine aw_aload_n rfl rfl rfl ?_
  refine aw_iload_n rfl rfl rfl ?_
  refine aw_fnc (m_isPerson hM hI ⟨by omega, by omega⟩) rfl rfl rfl (Nat.le_of_ble_eq_true rfl) (Or.inr ⟨_, rfl, (hM.f.k 42 rfl)⟩) rfl ?_
  refine aw_ifeqb (p' := 37) rfl rfl rfl (fun c4 => ?_) (fun c4 => ?_)
  · refine aw_iconst rfl rfl ?_
    refine aw_reti rfl ?_
    refine ⟨?_, ?_, Mod.rf⟩
    · rw [zit_f (by omega)]
    · unfold m_stall_op; rw [tit_f (by omega)]; exact hM
  · refine aw_iload_n rfl rfl rfl ?_
    refine aw_fnc (m_isDay ⟨by omega, by omega⟩) rfl rfl rfl (Nat.le_of_ble_eq_true rfl) (Or.inl rfl) rfl ?_
    refine aw_ifeqb (p' := 37) rfl rfl rfl (fun c5 => ?_) (fun c5 => ?_)
    · refine aw_iconst rfl rfl ?_
      refine aw_reti rfl ?_
      refine ⟨?_, ?_, Mod.rf⟩
      · rw [zit_f (by omega)]
      · unfold m_stall_op; rw [tit_f (by omega)]; exact hM
    · refine aw_iload_n rfl rfl rfl ?_
      refine aw_i2l rfl ⟨by omega, by omega⟩ rfl ?_
      refine aw_iload_n rfl rfl rfl ?_
      refine aw_i2l rfl ⟨by omega, by omega⟩ rfl ?_
      refine aw_ldc2 (3599) rfl rfl rfl ?_
      refine aw_fnc (m_in ⟨by omega, by omega⟩ ⟨by omega, by omega⟩ ⟨by omega, by omega⟩) rfl rfl rfl (Nat.le_of_ble_eq_true rfl) (Or.inl rfl) rfl ?_
      refine aw_ifeqb (p' := 37) rfl rfl rfl (fun c6 => ?_) (fun c6 => ?_)
      · refine aw_iconst rfl rfl ?_
        refine aw_reti rfl ?_
        refine ⟨?_, ?_, Mod.rf⟩
        · rw [zit_f (by omega)]
        · unfold m_stall_op; rw [tit_f (by omega)]; exact hM
      · refine aw_aload_n rfl rfl rfl ?_
        refine aw_gp (66) hM rfl rfl (hM.f.k 42 rfl) rfl rfl (fun _ _ => ?_)
        refine aw_bipush rfl rfl rfl ?_
        refine aw_icmp (p' := 39) rfl ⟨by omega, by omega⟩ ⟨by omega, by omega⟩ rfl rfl (fun c7 => ?_) (fun c7 => ?_)
        · dsimp only [zc] at c7
          refine aw_aload_n rfl rfl rfl ?_
          refine aw_getr (b := 84) rfl rfl (hM.f.k 42 rfl) (hM.f.r 42 67 84 rfl) rfl ?_
          refine aw_aload_n rfl rfl rfl ?_
          refine aw_gp (66) hM rfl rfl (hM.f.k 42 rfl) rfl rfl (fun _ _ => ?_)
          refine aw_iload_n rfl rfl rfl ?_
          refine aw_sp (N := 10) hM rfl (hM.f.s 84 rfl) (by omega) rfl (by omega) (by omega) ⟨by omega, by omega⟩ rfl (fun τ8 hM8 hD8 => ?_)
          refine aw_aload_n rfl rfl rfl ?_
          refine aw_getr (b := 85) rfl rfl (hM8.f.k 42 rfl) (hM8.f.r 42 68 85 rfl) rfl ?_
          refine aw_aload_n rfl rfl rfl ?_
          refine aw_gpv (v := A 42 66) (66) hM8 rfl rfl (hM8.f.k 42 rfl) rfl (by first | (simp [up, mEnter, mStands, mStands0]; done) | assumption) rfl (fun _ _ => ?_)
          refine aw_iload_n rfl rfl rfl ?_
          refine aw_sp (N := 10) hM8 rfl (hM8.f.s 85 rfl) (by omega) rfl (by omega) (by omega) ⟨by omega, by omega⟩ rfl (fun τ9 hM9 hD9 => ?_)
          refine aw_aload_n rfl rfl rfl ?_
          refine aw_getr (b := 86) rfl rfl (hM9.f.k 42 rfl) (hM9.f.r 42 69 86 rfl) rfl ?_
          refine aw_aload_n rfl rfl rfl ?_
          refine aw_gpv (v := A 42 66) (66) hM9 rfl rfl (hM9.f.k 42 rfl) rfl (by first | (simp [up, mEnter, mStands, mStands0]; done) | assumption) rfl (fun _ _ => ?_)
          refine aw_iload_n rfl rfl rfl ?_
          refine aw_sp (N := 10) hM9 rfl (hM9.f.s 86 rfl) (by omega) rfl (by omega) (by omega) ⟨by omega, by omega⟩ rfl (fun τ10 hM10 hD10 => ?_)
          refine aw_iconst rfl rfl ?_
          refine aw_istore rfl (Nat.le_of_ble_eq_true rfl) rfl rfl ?_
          change aw _ _ _ _ 72 [some (.ref 42), some (.int (iI _)), some (.int (iI _)), some (.int (iI _)), some (.int (iI _))] _ _
          exact m_stall_l72 hM hI ⟨hp1, hp2⟩ ⟨hu1, hu2⟩ ⟨hv1, hv2⟩ _ _ 0 rfl (by omega) hM10 (((hD8.su (T := [42, 84, 85, 86, 87]) rfl).tr (hD9.su (T := [42, 84, 85, 86, 87]) rfl)).tr (hD10.su (T := [42, 84, 85, 86, 87]) rfl)) (by omega) (by omega)
        · dsimp only [zc] at c7
          refine aw_iconst rfl rfl ?_
          refine aw_reti rfl ?_
          refine ⟨?_, ?_, Mod.rf⟩
          · rw [zit_f (by omega)]
          · unfold m_stall_op; rw [tit_f (by omega)]; exact hM
def mD0 (A : Nat → Int → Int) (s : Int) : Int := if A 42 3 < A 85 s then A 85 s else A 42 3
def mP1 (A : Nat → Int → Int) (s c n : Int) : Prop := ∀ e : Int, mD0 A s ≤ e → e < n → mOpen A c e (A 42 3)
def mP2 (A : Nat → Int → Int) (s h c n : Int) : Prop := ∀ o : Int, 0 ≤ o → o < n → o = s ∨ A 87 (12 * o + h) ≠ c ∨ A 86 o < A 85 s ∨ A 86 s < A 85 o
def mMayPl (A : Nat → Int → Int) (s h c : Int) : Prop := mP1 A s c (A 86 s + 1) ∧ mP2 A s h c (A 42 66)
theorem mP1_s {A : Nat → Int → Int} {s c n : Int} (h0 : mD0 A s ≤ n) : mP1 A s c (n + 1) ↔ mP1 A s c n ∧ mOpen A c n (A 42 3) := by
  constructor
  · intro h; exact ⟨fun t h1 h2 => h t h1 (by omega), h n h0 (by omega)⟩
  · rintro ⟨h1, h2⟩ t h3 h4
    by_cases e : t < n
    · exact h1 t h3 e
    · have : t = n := by omega
      rw [this]; exact h2
theorem mP2_s {A : Nat → Int → Int} {s h c n : Int} (h0 : 0 ≤ n) : mP2 A s h c (n + 1) ↔ mP2 A s h c n ∧ (n = s ∨ A 87 (12 * n + h) ≠ c ∨ A 86 n < A 85 s ∨ A 86 s < A 85 n) := by
  constructor
  · intro h; exact ⟨fun t h1 h2 => h t h1 (by omega), h n h0 (by omega)⟩
  · rintro ⟨h1, h2⟩ t h3 h4
    by_cases e : t < n
    · exact h1 t h3 e
    · have : t = n := by omega
      rw [this]; exact h2
set_option maxRecDepth 10000 in
set_option maxHeartbeats 2000000 in
theorem m_mayPlace_l69 {d : Nat} {sz : Nat} {A : Nat → Int → Int} {σ : az_S} (hM : MV sz A σ) (hI : MI sz A) {s h c : Int} (hs0 : 0 ≤ s) (hs1 : s < A 42 66) (hh0 : 0 ≤ h) (hh1 : h ≤ 11) (hc : inI c) : ∀ (n : Nat) (o b : Int), (A 42 66 - o).toNat = n → 0 ≤ o → o ≤ A 42 66 → b = bI (mP1 A s c (A 86 s + 1) ∧ mP2 A s h c o) → aw (d + 3) k_X12_mayPlace (some .boolean) (fun r τ => r = some (.int (iI (bI (mMayPl A s h c)))) ∧ τ = σ) 69 [some (.ref 42), some (.int (iI s)), some (.int (iI h)), some (.int (iI c)), some (.int (iI b)), some (.int (iI o))] [] σ := by
  intro n
  induction n using Nat.strongRecOn with
  | ind n ih =>
    intro o b hn ho0 ho1 hb
    obtain ⟨hc1, hc2⟩ := hc
    have hst := hI.stalls
    have hcl := hI.clock
    obtain ⟨hS, -⟩ := hI.stall s hs0 hs1
    have hd0 : mD0 A s = A 85 s ∧ A 42 3 < A 85 s ∨ mD0 A s = A 42 3 ∧ A 85 s ≤ A 42 3 := by unfold mD0; split <;> omega
    have hbi := bI_r (mP1 A s c (A 86 s + 1) ∧ mP2 A s h c o)
    rw [← hb] at hbi
    have hz := bI_zero (mP1 A s c (A 86 s + 1) ∧ mP2 A s h c o)
    rw [← hb] at hz
    have hs := mP2_s (A := A) (s := s) (h := h) (c := c) ho0
    refine aw_iload rfl rfl rfl ?_
    refine aw_aload_n rfl rfl rfl ?_
    refine aw_gp (66) hM rfl rfl (hM.f.k 42 rfl) rfl rfl (fun _ _ => ?_)
    refine aw_icmp (p' := 150) rfl ⟨by omega, by omega⟩ ⟨by omega, by omega⟩ rfl rfl (fun c1 => ?_) (fun c1 => ?_)
    · dsimp only [zc] at c1
      refine aw_iload rfl rfl rfl ?_
      refine aw_retn rfl (by rw [hb]; exact bI_nar _) ?_
      refine ⟨?_, rfl⟩
      rw [hb]
      unfold mMayPl
      first | (rw [show o = A 42 66 by omega]) | (have hq := hz.mp (by omega); rw [bI_f hq, bI_f (fun q => hq ⟨q.1, fun k a b => q.2 k a (by omega)⟩)])
    · dsimp only [zc] at c1
      refine aw_iload rfl rfl rfl ?_
      refine aw_if (p' := 150) rfl ⟨by omega, by omega⟩ rfl rfl (fun c2 => ?_) (fun c2 => ?_)
      · dsimp only [zc] at c2
        refine aw_iload rfl rfl rfl ?_
        refine aw_retn rfl (by rw [hb]; exact bI_nar _) ?_
        refine ⟨?_, rfl⟩
        rw [hb]
        unfold mMayPl
        first | (rw [show o = A 42 66 by omega]) | (have hq := hz.mp (by omega); rw [bI_f hq, bI_f (fun q => hq ⟨q.1, fun k a b => q.2 k a (by omega)⟩)])
      · dsimp only [zc] at c2
        refine aw_iload rfl rfl rfl ?_
        refine aw_iload_n rfl rfl rfl ?_
        refine aw_icmp (p' := 137) rfl ⟨by omega, by omega⟩ ⟨by omega, by omega⟩ rfl rfl (fun c3 => ?_) (fun c3 => ?_)
        · dsimp only [zc] at c3
          refine aw_iconst rfl rfl ?_
          refine aw_goto (p' := 142) rfl rfl ?_
          refine aw_istore rfl (Nat.le_of_ble_eq_true rfl) rfl rfl ?_
          change aw _ _ _ _ 144 [some (.ref 42), some (.int (iI _)), some (.int (iI _)), some (.int (iI _)), some (.int (iI _)), some (.int (iI _))] _ _
          refine aw_iinc rfl rfl rfl rfl ?_
          change aw _ _ _ _ 147 [some (.ref 42), some (.int (iI _)), some (.int (iI _)), some (.int (iI _)), some (.int (iI _)), some (.int (iI _))] _ _
          refine aw_goto (p' := 69) rfl rfl ?_
          exact ih _ (by omega) _ _ rfl (by omega) (by omega) (by (first | rw [bI_one', hs] | rw [bI_zero', hs]); clear ih; grind)
        · dsimp only [zc] at c3
          refine aw_aload_n rfl rfl rfl ?_
          refine aw_getr (b := 87) rfl rfl (hM.f.k 42 rfl) (hM.f.r 42 70 87 rfl) rfl ?_
          refine aw_bipush rfl rfl rfl ?_
          refine aw_iload rfl rfl rfl ?_
          refine aw_imul rfl rfl ?_
          refine aw_iload_n rfl rfl rfl ?_
          refine aw_iadd rfl rfl ?_
          refine aw_ap (N := 120) hM rfl (hM.f.s 87 rfl) (by omega) rfl (by omega) (by omega) rfl (fun _ _ => ?_)
          refine aw_iload_n rfl rfl rfl ?_
          refine aw_icmp (p' := 137) rfl ⟨by omega, by omega⟩ ⟨by omega, by omega⟩ rfl rfl (fun c4 => ?_) (fun c4 => ?_)
          · dsimp only [zc] at c4
            refine aw_iconst rfl rfl ?_
            refine aw_goto (p' := 142) rfl rfl ?_
            refine aw_istore rfl (Nat.le_of_ble_eq_true rfl) rfl rfl ?_
            change aw _ _ _ _ 144 [some (.ref 42), some (.int (iI _)), some (.int (iI _)), some (.int (iI _)), some (.int (iI _)), some (.int (iI _))] _ _
            refine aw_iinc rfl rfl rfl rfl ?_
            change aw _ _ _ _ 147 [some (.ref 42), some (.int (iI _)), some (.int (iI _)), some (.int (iI _)), some (.int (iI _)), some (.int (iI _))] _ _
            refine aw_goto (p' := 69) rfl rfl ?_
            exact ih _ (by omega) _ _ rfl (by omega) (by omega) (by (first | rw [bI_one', hs] | rw [bI_zero', hs]); clear ih; grind)
          · dsimp only [zc] at c4
            refine aw_aload_n rfl rfl rfl ?_
            refine aw_getr (b := 86) rfl rfl (hM.f.k 42 rfl) (hM.f.r 42 69 86 rfl) rfl ?_
            refine aw_iload rfl rfl rfl ?_
            refine aw_ap (N := 10) hM rfl (hM.f.s 86 rfl) (by omega) rfl (by omega) (by omega) rfl (fun _ _ => ?_)
            refine aw_aload_n rfl rfl rfl ?_
            refine aw_getr (b := 85) rfl rfl (hM.f.k 42 rfl) (hM.f.r 42 68 85 rfl) rfl ?_
            refine aw_iload_n rfl rfl rfl ?_
            refine aw_ap (N := 10) hM rfl (hM.f.s 85 rfl) (by omega) rfl (by omega) (by omega) rfl (fun _ _ => ?_)
            refine aw_icmp (p' := 137) rfl ⟨by omega, by omega⟩ ⟨by omega, by omega⟩ rfl rfl (fun c5 => ?_) (fun c5 => ?_)
            · dsimp only [zc] at c5
              refine aw_iconst rfl rfl ?_
              refine aw_goto (p' := 142) rfl rfl ?_
              refine aw_istore rfl (Nat.le_of_ble_eq_true rfl) rfl rfl ?_
              change aw _ _ _ _ 144 [some (.ref 42), some (.int (iI _)), some (.int (iI _)), some (.int (iI _)), some (.int (iI _)), some (.int (iI _))] _ _
              refine aw_iinc rfl rfl rfl rfl ?_
              change aw _ _ _ _ 147 [some (.ref 42), some (.int (iI _)), some (.int (iI _)), some (.int (iI _)), some (.int (iI _)), some (.int (iI _))] _ _
              refine aw_goto (p' := 69) rfl rfl ?_
              exact ih _ (by omega) _ _ rfl (by omega) (by omega) (by (first | rw [bI_one', hs] | rw [bI_zero', hs]); clear ih; grind)
            · dsimp only [zc] at c5
              refine aw_aload_n rfl rfl rfl ?_
              refine aw_getr (b := 85) rfl rfl (hM.f.k 42 rfl) (hM.f.r 42 68 85 rfl) rfl ?_
              refine aw_iload rfl rfl rfl ?_
              refine aw_ap (N := 10) hM rfl (hM.f.s 85 rfl) (by omega) rfl (by omega) (by omega) rfl (fun _ _ => ?_)
              refine aw_aload_n rfl rfl rfl ?_
              refine aw_getr (b := 86) rfl rfl (hM.f.k 42 rfl) (hM.f.r 42 69 86 rfl) rfl ?_
              refine aw_iload_n rfl rfl rfl ?_
              refine aw_ap (N := 10) hM rfl (hM.f.s 86 rfl) (by omega) rfl (by omega) (by omega) rfl (fun _ _ => ?_)
              refine aw_icmp (p' := 141) rfl ⟨by omega, by omega⟩ ⟨by omega, by omega⟩ rfl rfl (fun c6 => ?_) (fun c6 => ?_)
              · dsimp only [zc] at c6
                refine aw_iconst rfl rfl ?_
                refine aw_istore rfl (Nat.le_of_ble_eq_true rfl) rfl rfl ?_
                change aw _ _ _ _ 144 [some (.ref 42), some (.int (iI _)), some (.int (iI _)), some (.int (iI _)), some (.int (iI _)), some (.int (iI _))] _ _
                refine aw_iinc rfl rfl rfl rfl ?_
                change aw _ _ _ _ 147 [some (.ref 42), some (.int (iI _)), some (.int (iI _)), some (.int (iI _)), some (.int (iI _)), some (.int (iI _))] _ _
                refine aw_goto (p' := 69) rfl rfl ?_
                exact ih _ (by omega) _ _ rfl (by omega) (by omega) (by (first | rw [bI_one', hs] | rw [bI_zero', hs]); clear ih; grind)
              · dsimp only [zc] at c6
                refine aw_iconst rfl rfl ?_
                refine aw_goto (p' := 142) rfl rfl ?_
                refine aw_istore rfl (Nat.le_of_ble_eq_true rfl) rfl rfl ?_
                change aw _ _ _ _ 144 [some (.ref 42), some (.int (iI _)), some (.int (iI _)), some (.int (iI _)), some (.int (iI _)), some (.int (iI _))] _ _
                refine aw_iinc rfl rfl rfl rfl ?_
                change aw _ _ _ _ 147 [some (.ref 42), some (.int (iI _)), some (.int (iI _)), some (.int (iI _)), some (.int (iI _)), some (.int (iI _))] _ _
                refine aw_goto (p' := 69) rfl rfl ?_
                exact ih _ (by omega) _ _ rfl (by omega) (by omega) (by (first | rw [bI_one', hs] | rw [bI_zero', hs]); clear ih; grind)
set_option maxRecDepth 10000 in
set_option maxHeartbeats 2000000 in
theorem m_mayPlace_l31 {d : Nat} {sz : Nat} {A : Nat → Int → Int} {σ : az_S} (hM : MV sz A σ) (hI : MI sz A) {s h c : Int} (hs0 : 0 ≤ s) (hs1 : s < A 42 66) (hh0 : 0 ≤ h) (hh1 : h ≤ 11) (hc : inI c) : ∀ (n : Nat) (e b : Int), (A 86 s + 1 - e).toNat = n → mD0 A s ≤ e → (e = mD0 A s ∨ e ≤ A 86 s + 1) → b = bI (mP1 A s c e) → aw (d + 3) k_X12_mayPlace (some .boolean) (fun r τ => r = some (.int (iI (bI (mMayPl A s h c)))) ∧ τ = σ) 31 [some (.ref 42), some (.int (iI s)), some (.int (iI h)), some (.int (iI c)), some (.int (iI b)), some (.int (iI e))] [] σ := by
  intro n
  induction n using Nat.strongRecOn with
  | ind n ih =>
    intro e b hn he0 he1 hb
    obtain ⟨hc1, hc2⟩ := hc
    have hst := hI.stalls
    have hcl := hI.clock
    obtain ⟨hS, -⟩ := hI.stall s hs0 hs1
    have hd0 : mD0 A s = A 85 s ∧ A 42 3 < A 85 s ∨ mD0 A s = A 42 3 ∧ A 85 s ≤ A 42 3 := by unfold mD0; split <;> omega
    have hbi := bI_r (mP1 A s c e)
    rw [← hb] at hbi
    have hz := bI_zero (mP1 A s c e)
    rw [← hb] at hz
    have hs := mP1_s (A := A) (s := s) (c := c) he0
    refine aw_iload rfl rfl rfl ?_
    refine aw_aload_n rfl rfl rfl ?_
    refine aw_getr (b := 86) rfl rfl (hM.f.k 42 rfl) (hM.f.r 42 69 86 rfl) rfl ?_
    refine aw_iload_n rfl rfl rfl ?_
    refine aw_ap (N := 10) hM rfl (hM.f.s 86 rfl) (by omega) rfl (by omega) (by omega) rfl (fun _ _ => ?_)
    refine aw_icmp (p' := 66) rfl ⟨by omega, by omega⟩ ⟨by omega, by omega⟩ rfl rfl (fun c7 => ?_) (fun c7 => ?_)
    · dsimp only [zc] at c7
      refine aw_iconst rfl rfl ?_
      refine aw_istore rfl (Nat.le_of_ble_eq_true rfl) rfl rfl ?_
      change aw _ _ _ _ 69 [some (.ref 42), some (.int (iI _)), some (.int (iI _)), some (.int (iI _)), some (.int (iI _)), some (.int (iI _))] _ _
      exact m_mayPlace_l69 hM hI hs0 hs1 hh0 hh1 ⟨hc1, hc2⟩ _ 0 _ rfl (by omega) (by omega) (by rw [hb]; refine bI_congr ⟨fun q => ⟨fun e' w1 w2 => ?_, fun o w1 w2 => by omega⟩, fun q e' w1 w2 => q.1 e' w1 (by omega)⟩; first | exact q e' w1 (by omega) | exact absurd q (hz.mp (by omega)))
    · dsimp only [zc] at c7
      refine aw_iload rfl rfl rfl ?_
      refine aw_if (p' := 66) rfl ⟨by omega, by omega⟩ rfl rfl (fun c8 => ?_) (fun c8 => ?_)
      · dsimp only [zc] at c8
        refine aw_iconst rfl rfl ?_
        refine aw_istore rfl (Nat.le_of_ble_eq_true rfl) rfl rfl ?_
        change aw _ _ _ _ 69 [some (.ref 42), some (.int (iI _)), some (.int (iI _)), some (.int (iI _)), some (.int (iI _)), some (.int (iI _))] _ _
        exact m_mayPlace_l69 hM hI hs0 hs1 hh0 hh1 ⟨hc1, hc2⟩ _ 0 _ rfl (by omega) (by omega) (by rw [hb]; refine bI_congr ⟨fun q => ⟨fun e' w1 w2 => ?_, fun o w1 w2 => by omega⟩, fun q e' w1 w2 => q.1 e' w1 (by omega)⟩; first | exact q e' w1 (by omega) | exact absurd q (hz.mp (by omega)))
      · dsimp only [zc] at c8
        refine aw_aload_n rfl rfl rfl ?_
        refine aw_iload_n rfl rfl rfl ?_
        refine aw_iload rfl rfl rfl ?_
        refine aw_aload_n rfl rfl rfl ?_
        refine aw_gp (3) hM rfl rfl (hM.f.k 42 rfl) rfl rfl (fun _ _ => ?_)
        refine aw_fnc (m_isOpen hM hI ⟨by omega, by omega⟩ (by omega) (by omega) (by omega) (by omega)) rfl rfl rfl (Nat.le_of_ble_eq_true rfl) (Or.inr ⟨_, rfl, (hM.f.k 42 rfl)⟩) rfl ?_
        refine aw_istore rfl (Nat.le_of_ble_eq_true rfl) rfl rfl ?_
        change aw _ _ _ _ 60 [some (.ref 42), some (.int (iI _)), some (.int (iI _)), some (.int (iI _)), some (.int (iI _)), some (.int (iI _))] _ _
        refine aw_iinc rfl rfl rfl rfl ?_
        change aw _ _ _ _ 63 [some (.ref 42), some (.int (iI _)), some (.int (iI _)), some (.int (iI _)), some (.int (iI _)), some (.int (iI _))] _ _
        refine aw_goto (p' := 31) rfl rfl ?_
        exact ih _ (by omega) _ _ rfl (by omega) (by omega) (by refine bI_congr ?_; rw [hs]; exact ⟨fun q => ⟨Classical.byContradiction (fun w => by have := hz.mpr w; omega), q⟩, fun q => q.2⟩)
set_option maxRecDepth 10000 in
set_option maxHeartbeats 2000000 in
theorem m_mayPlace {d : Nat} {sz : Nat} {A : Nat → Int → Int} {σ : az_S} (hM : MV sz A σ) (hI : MI sz A) {s h c : Int} (hs0 : 0 ≤ s) (hs1 : s < A 42 66) (hh0 : 0 ≤ h) (hh1 : h ≤ 11) (hc : inI c) : fn (d + 4) 237 [.ref 42, .int (iI s), .int (iI h), .int (iI c)] σ (.int (iI (bI (mMayPl A s h c)))) := by
  obtain ⟨hc1, hc2⟩ := hc
  have hst := hI.stalls
  have hcl := hI.clock
  obtain ⟨hS, -⟩ := hI.stall s hs0 hs1
  have hd0 : mD0 A s = A 85 s ∧ A 42 3 < A 85 s ∨ mD0 A s = A 42 3 ∧ A 85 s ≤ A 42 3 := by unfold mD0; split <;> omega
  refine fn_of (M := (yX12_mayPlace, cX12_mayPlace, 6, (some .boolean))) (cd := k_X12_mayPlace) (L := [some (.ref 42), some (.int (iI s)), some (.int (iI h)), some (.int (iI c)), none, none]) rfl (Nat.le_of_ble_eq_true rfl) rfl rfl ?_
  refine aw_iconst rfl rfl ?_
  refine aw_istore rfl (Nat.le_of_ble_eq_true rfl) rfl rfl ?_
  change aw _ _ _ _ 3 [some (.ref 42), some (.int (iI _)), some (.int (iI _)), some (.int (iI _)), some (.int (iI _)), none] _ _
  refine aw_aload_n rfl rfl rfl ?_
  refine aw_getr (b := 85) rfl rfl (hM.f.k 42 rfl) (hM.f.r 42 68 85 rfl) rfl ?_
  refine aw_iload_n rfl rfl rfl ?_
  refine aw_ap (N := 10) hM rfl (hM.f.s 85 rfl) (by omega) rfl (by omega) (by omega) rfl (fun _ _ => ?_)
  refine aw_aload_n rfl rfl rfl ?_
  refine aw_gp (3) hM rfl rfl (hM.f.k 42 rfl) rfl rfl (fun _ _ => ?_)
  refine aw_icmp (p' := 25) rfl ⟨by omega, by omega⟩ ⟨by omega, by omega⟩ rfl rfl (fun c9 => ?_) (fun c9 => ?_)
  · dsimp only [zc] at c9
    refine aw_aload_n rfl rfl rfl ?_
    refine aw_gp (3) hM rfl rfl (hM.f.k 42 rfl) rfl rfl (fun _ _ => ?_)
    refine aw_istore rfl (Nat.le_of_ble_eq_true rfl) rfl rfl ?_
    change aw _ _ _ _ 31 [some (.ref 42), some (.int (iI _)), some (.int (iI _)), some (.int (iI _)), some (.int (iI _)), some (.int (iI _))] _ _
    exact m_mayPlace_l31 hM hI hs0 hs1 hh0 hh1 ⟨hc1, hc2⟩ _ _ 1 rfl (by omega) (by omega) (by rw [bI_one']; intro e q1 q2; omega)
  · dsimp only [zc] at c9
    refine aw_aload_n rfl rfl rfl ?_
    refine aw_getr (b := 85) rfl rfl (hM.f.k 42 rfl) (hM.f.r 42 68 85 rfl) rfl ?_
    refine aw_iload_n rfl rfl rfl ?_
    refine aw_ap (N := 10) hM rfl (hM.f.s 85 rfl) (by omega) rfl (by omega) (by omega) rfl (fun _ _ => ?_)
    refine aw_goto (p' := 29) rfl rfl ?_
    refine aw_istore rfl (Nat.le_of_ble_eq_true rfl) rfl rfl ?_
    change aw _ _ _ _ 31 [some (.ref 42), some (.int (iI _)), some (.int (iI _)), some (.int (iI _)), some (.int (iI _)), some (.int (iI _))] _ _
    exact m_mayPlace_l31 hM hI hs0 hs1 hh0 hh1 ⟨hc1, hc2⟩ _ _ 1 rfl (by omega) (by omega) (by rw [bI_one']; intro e q1 q2; omega)
noncomputable def m_place_op (A : Nat → Int → Int) (s h c : Int) : Nat → Int → Int := tit ((0 ≤ s ∧ s ≤ A 42 66 - 1) ∧ (0 ≤ h ∧ h ≤ 11) ∧ (c = -1 ∨ ((0 ≤ c ∧ c ≤ A 42 2 - 1) ∧ mMayPl A s h c))) (up A 87 (12 * s + h) c) A
set_option maxRecDepth 10000 in
set_option maxHeartbeats 2000000 in
theorem m_place {d : Nat} {sz : Nat} {A : Nat → Int → Int} {σ : az_S} (hM : MV sz A σ) (hI : MI sz A) {s h c : Int} (hs : inI s) (hh : inI h) (hc : inI c) : cal (d + 5) 238 [.ref 42, .int (iI s), .int (iI h), .int (iI c)] σ (fun r τ => r = some (.int (iI (bI ((0 ≤ s ∧ s ≤ A 42 66 - 1) ∧ (0 ≤ h ∧ h ≤ 11) ∧ (c = -1 ∨ ((0 ≤ c ∧ c ≤ A 42 2 - 1) ∧ mMayPl A s h c)))))) ∧ MV sz (m_place_op A s h c) τ ∧ Mod σ τ [87]) := by
  obtain ⟨hs1, hs2⟩ := hs
  obtain ⟨hh1, hh2⟩ := hh
  obtain ⟨hc1, hc2⟩ := hc
  have hst := hI.stalls
  have hce := hI.cells
  refine cal_of (M := (yX12_place, cX12_place, 4, (some .boolean))) (cd := k_X12_place) (L := [some (.ref 42), some (.int (iI s)), some (.int (iI h)), some (.int (iI c))]) rfl (Nat.le_of_ble_eq_true rfl) rfl rfl ?_
  refine aw_iload_n rfl rfl rfl ?_
  refine aw_i2l rfl ⟨by omega, by omega⟩ rfl ?_
  refine aw_lconst 0 rfl rfl rfl ?_
  refine aw_aload_n rfl rfl rfl ?_
  refine aw_gp (66) hM rfl rfl (hM.f.k 42 rfl) rfl rfl (fun _ _ => ?_)
  refine aw_iconst rfl rfl ?_
  refine aw_isub rfl rfl ?_
  refine aw_i2l rfl ⟨by omega, by omega⟩ rfl ?_
  refine aw_fnc (m_in ⟨by omega, by omega⟩ ⟨by omega, by omega⟩ ⟨by omega, by omega⟩) rfl rfl rfl (Nat.le_of_ble_eq_true rfl) (Or.inl rfl) rfl ?_
  refine aw_ifeqb (p' := 46) rfl rfl rfl (fun c1 => ?_) (fun c1 => ?_)
  · refine aw_iconst rfl rfl ?_
    refine aw_retn rfl (by first | rfl | exact bI_nar _) ?_
    refine ⟨?_, ?_, Mod.rf⟩
    · rw [bI_f (by rintro ⟨q1, q2, q3 | ⟨q3, q4⟩⟩ <;> first | omega | exact absurd q4 (by assumption))]
    · unfold m_place_op; rw [tit_f (by rintro ⟨q1, q2, q3 | ⟨q3, q4⟩⟩ <;> first | omega | exact absurd q4 (by assumption))]; exact hM
  · refine aw_iload_n rfl rfl rfl ?_
    refine aw_fnc (m_isHour ⟨by omega, by omega⟩) rfl rfl rfl (Nat.le_of_ble_eq_true rfl) (Or.inl rfl) rfl ?_
    refine aw_ifeqb (p' := 46) rfl rfl rfl (fun c2 => ?_) (fun c2 => ?_)
    · refine aw_iconst rfl rfl ?_
      refine aw_retn rfl (by first | rfl | exact bI_nar _) ?_
      refine ⟨?_, ?_, Mod.rf⟩
      · rw [bI_f (by rintro ⟨q1, q2, q3 | ⟨q3, q4⟩⟩ <;> first | omega | exact absurd q4 (by assumption))]
      · unfold m_place_op; rw [tit_f (by rintro ⟨q1, q2, q3 | ⟨q3, q4⟩⟩ <;> first | omega | exact absurd q4 (by assumption))]; exact hM
    · refine aw_iload_n rfl rfl rfl ?_
      refine aw_iconst rfl rfl ?_
      refine aw_icmp (p' := 48) rfl ⟨by omega, by omega⟩ ⟨by omega, by omega⟩ rfl rfl (fun c3 => ?_) (fun c3 => ?_)
      · dsimp only [zc] at c3
        refine aw_aload_n rfl rfl rfl ?_
        refine aw_getr (b := 87) rfl rfl (hM.f.k 42 rfl) (hM.f.r 42 70 87 rfl) rfl ?_
        refine aw_bipush rfl rfl rfl ?_
        refine aw_iload_n rfl rfl rfl ?_
        refine aw_imul rfl rfl ?_
        refine aw_iload_n rfl rfl rfl ?_
        refine aw_iadd rfl rfl ?_
        refine aw_iload_n rfl rfl rfl ?_
        refine aw_sp (N := 120) hM rfl (hM.f.s 87 rfl) (by omega) rfl (by omega) (by omega) ⟨by omega, by omega⟩ rfl (fun τ4 hM4 hD4 => ?_)
        refine aw_iconst rfl rfl ?_
        refine aw_retn rfl (by first | rfl | exact bI_nar _) ?_
        refine ⟨?_, ?_, (hD4.su (T := [87]) rfl)⟩
        · rw [bI_t ⟨by omega, by omega, by first | exact Or.inl (by omega) | exact Or.inr ⟨by omega, by assumption⟩⟩]
        · unfold m_place_op; rw [tit_t ⟨by omega, by omega, by first | exact Or.inl (by omega) | exact Or.inr ⟨by omega, by assumption⟩⟩]; exact hM4
      · dsimp only [zc] at c3
        refine aw_aload_n rfl rfl rfl ?_
        refine aw_iload_n rfl rfl rfl ?_
        refine aw_fnc (m_isCell hM hI ⟨by omega, by omega⟩) rfl rfl rfl (Nat.le_of_ble_eq_true rfl) (Or.inr ⟨_, rfl, (hM.f.k 42 rfl)⟩) rfl ?_
        refine aw_ifeqb (p' := 46) rfl rfl rfl (fun c5 => ?_) (fun c5 => ?_)
        · refine aw_iconst rfl rfl ?_
          refine aw_retn rfl (by first | rfl | exact bI_nar _) ?_
          refine ⟨?_, ?_, Mod.rf⟩
          · rw [bI_f (by rintro ⟨q1, q2, q3 | ⟨q3, q4⟩⟩ <;> first | omega | exact absurd q4 (by assumption))]
          · unfold m_place_op; rw [tit_f (by rintro ⟨q1, q2, q3 | ⟨q3, q4⟩⟩ <;> first | omega | exact absurd q4 (by assumption))]; exact hM
        · refine aw_aload_n rfl rfl rfl ?_
          refine aw_iload_n rfl rfl rfl ?_
          refine aw_iload_n rfl rfl rfl ?_
          refine aw_iload_n rfl rfl rfl ?_
          refine aw_fnc (m_mayPlace hM hI (by omega) (by omega) (by omega) (by omega) ⟨by omega, by omega⟩) rfl rfl rfl (Nat.le_of_ble_eq_true rfl) (Or.inr ⟨_, rfl, (hM.f.k 42 rfl)⟩) rfl ?_
          refine aw_ifneb (p' := 48) rfl rfl rfl (fun c6 => ?_) (fun c6 => ?_)
          · refine aw_aload_n rfl rfl rfl ?_
            refine aw_getr (b := 87) rfl rfl (hM.f.k 42 rfl) (hM.f.r 42 70 87 rfl) rfl ?_
            refine aw_bipush rfl rfl rfl ?_
            refine aw_iload_n rfl rfl rfl ?_
            refine aw_imul rfl rfl ?_
            refine aw_iload_n rfl rfl rfl ?_
            refine aw_iadd rfl rfl ?_
            refine aw_iload_n rfl rfl rfl ?_
            refine aw_sp (N := 120) hM rfl (hM.f.s 87 rfl) (by omega) rfl (by omega) (by omega) ⟨by omega, by omega⟩ rfl (fun τ7 hM7 hD7 => ?_)
            refine aw_iconst rfl rfl ?_
            refine aw_retn rfl (by first | rfl | exact bI_nar _) ?_
            refine ⟨?_, ?_, (hD7.su (T := [87]) rfl)⟩
            · rw [bI_t ⟨by omega, by omega, by first | exact Or.inl (by omega) | exact Or.inr ⟨by omega, by assumption⟩⟩]
            · unfold m_place_op; rw [tit_t ⟨by omega, by omega, by first | exact Or.inl (by omega) | exact Or.inr ⟨by omega, by assumption⟩⟩]; exact hM7
          · refine aw_iconst rfl rfl ?_
            refine aw_retn rfl (by first | rfl | exact bI_nar _) ?_
            refine ⟨?_, ?_, Mod.rf⟩
            · rw [bI_f (by rintro ⟨q1, q2, q3 | ⟨q3, q4⟩⟩ <;> first | omega | exact absurd q4 (by assumption))]
            · unfold m_place_op; rw [tit_f (by rintro ⟨q1, q2, q3 | ⟨q3, q4⟩⟩ <;> first | omega | exact absurd q4 (by assumption))]; exact hM
