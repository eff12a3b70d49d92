/-! HOLDERS AND PARTS of the class -/
noncomputable def cIn (A : Nat → Int → Int) (x h y c : Int) (t : Nat) : Bool := cBit A x h y c t && decide (rk (cBit A x h y c) t < 12)
theorem cIn_m (A : Nat → Int → Int) (x h y c : Int) (t : Nat) : cIn A x h y c t = true ↔ mIn A x h y c t := by
  unfold cIn mIn
  rw [Bool.and_eq_true, decide_eq_true_eq, Int.toNat_natCast, mMany_rk]
  have e : cBit A x h y c t = true ↔ mSh A x h y t c := dB_t
  rw [e]
  constructor
  · rintro ⟨h1, h2⟩
    exact ⟨h1, by rw [if_pos (by omega)]; omega⟩
  · rintro ⟨h1, h2⟩
    exact ⟨h1, by split at h2 <;> omega⟩
theorem mSet_in (A : Nat → Int → Int) (x h y c : Int) : mSet A x h y c = nbI (cIn A x h y c) (A 42 12).toNat := mSet_nb A x h y c _
noncomputable def cHB (A : Nat → Int → Int) (p x h y : Int) (t : Nat) : Bool := dB (mWho A t x h y = p)
noncomputable def cHeld (A : Nat → Int → Int) (p x h y : Int) : Int := nbI (cHB A p x h y) (A 42 12).toNat
theorem cHB_t {A : Nat → Int → Int} {p x h y i : Int} (hi : 0 ≤ i) : cHB A p x h y i.toNat = true ↔ mWho A i x h y = p := by
  unfold cHB
  rw [dB_t, show ((i.toNat : Nat) : Int) = i by omega]
theorem nbI24 {f : Nat → Bool} {n : Nat} (h : n ≤ 24) : 0 ≤ nbI f n ∧ nbI f n < 16777216 := by
  have h1 := nbI_r f n
  have h2 := p2_24 h
  omega
theorem cHeld_b {sz : Nat} {A : Nat → Int → Int} (hI : MI sz A) (p x h y : Int) : 0 ≤ cHeld A p x h y ∧ cHeld A p x h y < 16777216 := nbI24 (by have := hI.things; omega)
theorem zand_nb (f g : Nat → Bool) (n : Nat) : zand (nbI f n) (nbI g n) = nbI (fun t => f t && g t) n := by
  unfold zand nbI
  rw [Int.toNat_natCast, Int.toNat_natCast]
  congr 1
  apply tb_ext
  intro t
  rw [Nat.testBit_and, nb_tb, nb_tb, nb_tb]
  cases decide (t < n) <;> simp
theorem nbI_0 {f : Nat → Bool} {n : Nat} (h : nbI f n = 0) : ∀ t, t < n → f t = false := by
  intro t ht
  have e0 : nb f n = 0 := by unfold nbI at h; omega
  have e := nb_tb f n t
  rw [e0, Nat.zero_testBit] at e
  simpa [ht] using e.symm
theorem rkI {f : Nat → Bool} {n : Nat} (hn : n ≤ 24) : ((rk (fun t => (nbI f n).toNat.testBit t) 24 : Nat) : Int) = ((rk f n : Nat) : Int) := by
  unfold nbI
  rw [Int.toNat_natCast, rk_tb hn]
theorem rk_zero {f : Nat → Bool} : ∀ {n : Nat}, (∀ t, t < n → f t = false) → rk f n = 0 := by
  intro n
  induction n with
  | zero => intro _; rfl
  | succ n ih => intro h; rw [rk_su, ih (fun t ht => h t (by omega)), h n (by omega)]; rfl
theorem sumN_zero {f : Int → Int} : ∀ n : Nat, (∀ i : Int, 0 ≤ i → i < n → f i = 0) → sumN f n = 0 := by
  intro n
  induction n with
  | zero => intro _; rfl
  | succ n ih => intro h; unfold sumN; rw [ih (fun i a b => h i a (by omega)), h n (by omega) (by omega)]; rfl
theorem sum_rk (q : Int → Prop) (K : Int) : ∀ n : Nat, sumN (fun t => zit (q t) K 0) n = K * ((rk (fun t => dB (q t)) n : Nat) : Int) := by
  intro n
  induction n with
  | zero => simp [sumN, rk]
  | succ n ih =>
    rw [show sumN (fun t => zit (q t) K 0) (n + 1) = sumN (fun t => zit (q t) K 0) n + zit (q n) K 0 from rfl, ih, rk_su, Int.natCast_add, Int.mul_add]
    by_cases h : q n
    · rw [zit_t h, if_pos (dB_t.mpr h)]; simp
    · rw [zit_f h, if_neg (fun e => h (dB_t.mp e))]; simp
theorem mPart_rk (A : Nat → Int → Int) (p c x h y : Int) : mPart A p c x h y = 27720 / mMany A x h y c * ((rk (fun t => cIn A x h y c t && cHB A p x h y t) (A 42 12).toNat : Nat) : Int) := by
  unfold mPart
  rw [show mPf A p c x h y = fun t => zit (mIn A x h y c t ∧ mWho A t x h y = p) (27720 / mMany A x h y c) 0 from rfl, sum_rk]
  have e : rk (fun t => dB (mIn A x h y c t ∧ mWho A t x h y = p)) (A 42 12).toNat = rk (fun t => cIn A x h y c t && cHB A p x h y t) (A 42 12).toNat := by
    refine rk_congr _ (fun t _ => ?_)
    have h1 := cIn_m A x h y c t
    have h2 : cHB A p x h y t = true ↔ mWho A t x h y = p := dB_t
    rw [Bool.eq_iff_iff, dB_t, Bool.and_eq_true, h1, h2]
  rw [e]
theorem cMany_bc {sz : Nat} {A : Nat → Int → Int} (hI : MI sz A) (x h y c : Int) : ((rk (fun t => (mSet A x h y c).toNat.testBit t) 24 : Nat) : Int) = mMany A x h y c := by
  have hth := hI.things
  rw [mSet_in, rkI (by omega)]
  exact mSet_rk A x h y c _
theorem zand_c (A : Nat → Int → Int) (p x h y c : Int) : zand (mSet A x h y c) (cHeld A p x h y) = nbI (fun t => cIn A x h y c t && cHB A p x h y t) (A 42 12).toNat := by
  rw [mSet_in]
  exact zand_nb _ _ _
theorem zand_a (A : Nat → Int → Int) (p x h y c : Int) : zand (cAll A x h y c) (cHeld A p x h y) = nbI (fun t => cBit A x h y c t && cHB A p x h y t) (A 42 12).toNat := zand_nb _ _ _
theorem mPart_n {A : Nat → Int → Int} {p c x h y : Int} (q : nbI (fun t => cBit A x h y c t && cHB A p x h y t) (A 42 12).toNat = 0) : mPart A p c x h y = 0 := by
  rw [mPart_rk, rk_zero]
  · simp
  · intro t ht
    have := nbI_0 q t ht
    simp only [cIn]
    cases h1 : cBit A x h y c t with
    | false => rfl
    | true =>
      rw [h1] at this
      simp only [Bool.true_and] at this
      rw [this]
      simp
theorem mHr_n {A : Nat → Int → Int} {p x h y : Int} (q : cHeld A p x h y = 0) : mHr A p x y h = 0 := by
  refine sumN_zero _ (fun c _ _ => ?_)
  rw [mPart_rk, rk_zero]
  · simp
  · intro t ht
    rw [nbI_0 q t ht]
    simp
theorem cAll_bit {A : Nat → Int → Int} {x h y c t : Int} (h0 : 0 ≤ t) (h1 : t < A 42 12) : cAll A x h y c / 2 ^ t.toNat % 2 = 1 ↔ mSh A x h y t c := by
  have e := nb_tb (cBit A x h y c) (A 42 12).toNat t.toNat
  rw [Nat.testBit_eq_decide_div_mod_eq, show decide (t.toNat < (A 42 12).toNat) = true from decide_eq_true (by omega), Bool.true_and] at e
  have e2 : cAll A x h y c / 2 ^ t.toNat % 2 = ((nb (cBit A x h y c) (A 42 12).toNat / 2 ^ t.toNat % 2 : Nat) : Int) := by
    unfold cAll nbI
    rw [← p2_c]
    simp
  rw [e2]
  have e3 : cBit A x h y c t.toNat = true ↔ mSh A x h y t c := by
    unfold cBit
    rw [dB_t, show ((t.toNat : Nat) : Int) = t by omega]
  rw [← e3, ← e, decide_eq_true_eq]
  omega
theorem mShadow_c (A : Nat → Int → Int) (t x h y : Int) : mShadow A t x h y = cntN (fun c => mSh A x h y t c) (A 42 2).toNat := by
  unfold mShadow cntN
  refine sumN_congr _ (fun c _ _ => ?_)
  refine bI_congr ⟨fun q => ⟨?_, q⟩, fun q => q.2⟩
  obtain ⟨⟨-, -, i, h1, h2, -⟩, -⟩ := q
  omega
def cHK (A : Nat → Int → Int) (x h y : Int) (τ : az_S) : Prop := ∀ u : Int, 0 ≤ u → u < A 42 12 → zx τ 15 u = mWho A u x h y
theorem cHK.mod {A : Nat → Int → Int} {x h y : Int} {σ τ : az_S} {S : List Nat} (k : cHK A x h y σ) (hd : Mod σ τ S) (h1 : S.contains 15 = false) : cHK A x h y τ := by
  unfold cHK
  rw [hd.z 15 h1]
  exact k
set_option maxRecDepth 10000 in
set_option maxHeartbeats 2000000 in
theorem c_partsOf {d : Nat} {sz : Nat} {κ : Nat × (Nat → Int32) × Option Nat} {A : Nat → Int → Int} {g : Nat → Nat} {σ : az_S} (hC : CR sz κ A g σ) (hI : MI sz A) {x h : Int} (hx0 : 0 ≤ x) (hx1 : x ≤ 3599) (hh0 : 0 ≤ h) (hh1 : h ≤ 11) {y : Int} (hy0 : 0 ≤ y) (hy1 : y ≤ 3599) (hT : cST A x h y σ) {c : Int} (hc0 : 0 ≤ c) (hc1 : c < A 42 2) {p : Int} : fn (d + 2) 43 [.ref 29, .int (iI (cHeld A p x h y)), .int (iI c)] σ (.int (iI (mPart A p c x h y))) := by
  have hth := hI.things
  have hhb := cHeld_b hI p x h y
  have hmr := mMany_r A x h y c
  refine fn_of (M := (yX5_partsOf, cX5_partsOf, 5, (some .int))) (cd := k_X5_partsOf) (L := [some (.ref 29), some (.int (iI (cHeld A p x h y))), some (.int (iI c)), none, none]) rfl (Nat.le_of_ble_eq_true rfl) rfl rfl ?_
  refine aw_aload_n rfl rfl rfl ?_
  refine aw_iload_n rfl rfl rfl ?_
  refine aw_fnc (c_shaders hC hI (by omega) (by omega) (by omega) (by omega) (by omega) (by omega) hT (by omega) (by omega)) rfl rfl rfl (Nat.le_of_ble_eq_true rfl) (Or.inr ⟨_, rfl, (hC.f.k 29 rfl)⟩) rfl ?_
  have hsb1 := mSet_b hI x h y c
  refine aw_istore_n rfl (Nat.le_of_ble_eq_true rfl) rfl rfl ?_
  change aw _ _ _ _ 6 [some (.ref 29), some (.int (iI _)), some (.int (iI _)), some (.int (iI _)), none] _ _
  refine aw_iload_n rfl rfl rfl ?_
  refine aw_fnc (j_bitCount (by omega) (by omega)) rfl rfl rfl (Nat.le_of_ble_eq_true rfl) (Or.inl rfl) rfl ?_
  rw [cMany_bc hI]
  refine aw_istore rfl (Nat.le_of_ble_eq_true rfl) rfl rfl ?_
  change aw _ _ _ _ 12 [some (.ref 29), some (.int (iI _)), some (.int (iI _)), some (.int (iI _)), some (.int (iI _))] _ _
  refine aw_iload rfl rfl rfl ?_
  refine aw_if (p' := 33) rfl ⟨by omega, by omega⟩ rfl rfl (fun c2 => ?_) (fun c2 => ?_)
  · dsimp only [zc] at c2
    refine aw_iconst rfl rfl ?_
    refine aw_reti rfl ?_
    refine ⟨?_, rfl⟩
    first | (rw [mPart_0 (by omega)]; done) | rw [mPart_rk]
  · dsimp only [zc] at c2
    refine aw_sipush rfl rfl rfl ?_
    refine aw_iload rfl rfl rfl ?_
    refine aw_idiv rfl (by omega) (by omega) (by omega) (by omega) rfl ?_
    refine aw_iload_n rfl rfl rfl ?_
    refine aw_iload_n rfl rfl rfl ?_
    refine aw_iand rfl (by omega) (by omega) rfl ?_
    rw [zand_c]
    have hzb := nbI24 (f := fun t => cIn A x h y c t && cHB A p x h y t) (n := (A 42 12).toNat) (by omega)
    refine aw_fnc (j_bitCount (by omega) (by omega)) rfl rfl rfl (Nat.le_of_ble_eq_true rfl) (Or.inl rfl) rfl ?_
    rw [rkI (by omega)]
    refine aw_imul rfl rfl ?_
    refine aw_goto (p' := 34) rfl rfl ?_
    refine aw_reti rfl ?_
    refine ⟨?_, rfl⟩
    first | (rw [mPart_0 (by omega)]; done) | rw [mPart_rk]
set_option maxRecDepth 10000 in
set_option maxHeartbeats 2000000 in
theorem c_partsOfAll_l5 {d : Nat} {sz : Nat} {κ : Nat × (Nat → Int32) × Option Nat} {A : Nat → Int → Int} {g : Nat → Nat} {σ : az_S} (hC : CR sz κ A g σ) (hI : MI sz A) {x h : Int} (hx0 : 0 ≤ x) (hx1 : x ≤ 3599) (hh0 : 0 ≤ h) (hh1 : h ≤ 11) {y : Int} (hy0 : 0 ≤ y) (hy1 : y ≤ 3599) (hT : cST A x h y σ) {p : Int} : ∀ (n : Nat) (c s : Int), (A 42 2 - c).toNat = n → 0 ≤ c → c ≤ A 42 2 → s = sumN (fun c => mPart A p c x h y) c.toNat → aw (d + 2) k_X5_partsOfAll (some .long) (fun r τ => r = some (.long (lI (mHr A p x y h))) ∧ τ = σ) 5 [some (.ref 29), some (.int (iI (cHeld A p x h y))), some (.long (lI s)), none, some (.int (iI c))] [] σ := by
  intro n
  induction n using Nat.strongRecOn with
  | ind n ih =>
    intro c s hn hc0 hc1 hs
    have hce := hI.cells
    have hth := hI.things
    have hhb := cHeld_b hI p x h y
    have hsz := hC.f.1
    have hab := cAll_b hI x h y c
    have hpb := mPart_b hI p c x h y
    have hq := sumN_s (f := fun c => mPart A p c x h y) hc0
    have hzb := nbI24 (f := fun t => cBit A x h y c t && cHB A p x h y t) (n := (A 42 12).toNat) (by omega)
    refine aw_iload rfl rfl rfl ?_
    refine aw_aload_n rfl rfl rfl ?_
    refine aw_getr (b := 32) rfl rfl (hC.f.k 29 rfl) (hC.f.r 29 5 32 rfl) rfl ?_
    refine aw_alen (N := sz) rfl (hC.f.s 32 rfl) (by decide) rfl ?_
    refine aw_icmp (p' := 44) rfl ⟨by omega, by omega⟩ ⟨by omega, by omega⟩ rfl rfl (fun c1 => ?_) (fun c1 => ?_)
    · dsimp only [zc] at c1
      refine aw_lload_n rfl rfl rfl ?_
      refine aw_retl rfl ?_
      refine ⟨?_, rfl⟩
      rw [hs, show c = A 42 2 by omega]
    · dsimp only [zc] at c1
      refine aw_aload_n rfl rfl rfl ?_
      refine aw_getr (b := 32) rfl rfl (hC.f.k 29 rfl) (hC.f.r 29 5 32 rfl) rfl ?_
      refine aw_iload rfl rfl rfl ?_
      refine aw_as (N := sz) rfl (hC.f.s 32 rfl) (by omega) (by omega) (by omega) rfl (fun _ _ => ?_)
      rw [hT c hc0 (by omega)]
      refine aw_iload_n rfl rfl rfl ?_
      refine aw_iand rfl (by omega) (by omega) rfl ?_
      rw [zand_a]
      refine aw_if (p' := 38) rfl ⟨by omega, by omega⟩ rfl rfl (fun c2 => ?_) (fun c2 => ?_)
      · dsimp only [zc] at c2
        refine aw_iinc rfl rfl rfl rfl ?_
        change aw _ _ _ _ 41 [some (.ref 29), some (.int (iI _)), some (.long (lI _)), none, some (.int (iI _))] _ _
        refine aw_goto (p' := 5) rfl rfl ?_
        refine ih _ (by omega) _ _ rfl (by omega) (by omega) ?_
        rw [hq, hs]
        try first | (rw [mPart_n (by omega)]; try omega) | omega
      · dsimp only [zc] at c2
        refine aw_lload_n rfl rfl rfl ?_
        refine aw_aload_n rfl rfl rfl ?_
        refine aw_iload_n rfl rfl rfl ?_
        refine aw_iload rfl rfl rfl ?_
        refine aw_fnc (c_partsOf hC hI (by omega) (by omega) (by omega) (by omega) (by omega) (by omega) hT (by omega) (by omega)) rfl rfl rfl (Nat.le_of_ble_eq_true rfl) (Or.inr ⟨_, rfl, (hC.f.k 29 rfl)⟩) rfl ?_
        refine aw_i2l rfl ⟨by omega, by omega⟩ rfl ?_
        refine aw_ladd rfl rfl ?_
        refine aw_lstore_n rfl (Nat.le_of_ble_eq_true rfl) rfl rfl ?_
        change aw _ _ _ _ 38 [some (.ref 29), some (.int (iI _)), some (.long (lI _)), none, some (.int (iI _))] _ _
        refine aw_iinc rfl rfl rfl rfl ?_
        change aw _ _ _ _ 41 [some (.ref 29), some (.int (iI _)), some (.long (lI _)), none, some (.int (iI _))] _ _
        refine aw_goto (p' := 5) rfl rfl ?_
        refine ih _ (by omega) _ _ rfl (by omega) (by omega) ?_
        rw [hq, hs]
        try first | (rw [mPart_n (by omega)]; try omega) | omega
set_option maxRecDepth 10000 in
set_option maxHeartbeats 2000000 in
theorem c_partsOfAll {d : Nat} {sz : Nat} {κ : Nat × (Nat → Int32) × Option Nat} {A : Nat → Int → Int} {g : Nat → Nat} {σ : az_S} (hC : CR sz κ A g σ) (hI : MI sz A) {x h : Int} (hx0 : 0 ≤ x) (hx1 : x ≤ 3599) (hh0 : 0 ≤ h) (hh1 : h ≤ 11) {y : Int} (hy0 : 0 ≤ y) (hy1 : y ≤ 3599) (hT : cST A x h y σ) {p : Int} : fn (d + 3) 44 [.ref 29, .int (iI (cHeld A p x h y))] σ (.long (lI (mHr A p x y h))) := by
  have hce := hI.cells
  have hth := hI.things
  have hhb := cHeld_b hI p x h y
  have hsz := hC.f.1
  refine fn_of (M := (yX5_partsOfAll, cX5_partsOfAll, 5, (some .long))) (cd := k_X5_partsOfAll) (L := [some (.ref 29), some (.int (iI (cHeld A p x h y))), none, none, none]) rfl (Nat.le_of_ble_eq_true rfl) rfl rfl ?_
  refine aw_lconst 0 rfl rfl rfl ?_
  refine aw_lstore_n rfl (Nat.le_of_ble_eq_true rfl) rfl rfl ?_
  change aw _ _ _ _ 2 [some (.ref 29), some (.int (iI _)), some (.long (lI _)), none, none] _ _
  refine aw_iconst rfl rfl ?_
  refine aw_istore rfl (Nat.le_of_ble_eq_true rfl) rfl rfl ?_
  change aw _ _ _ _ 5 [some (.ref 29), some (.int (iI _)), some (.long (lI _)), none, some (.int (iI _))] _ _
  exact c_partsOfAll_l5 hC hI hx0 hx1 hh0 hh1 hy0 hy1 hT _ 0 0 rfl (by omega) (by omega) rfl
set_option maxRecDepth 10000 in
set_option maxHeartbeats 2000000 in
theorem c_cellsBy_l4 {d : Nat} {sz : Nat} {κ : Nat × (Nat → Int32) × Option Nat} {A : Nat → Int → Int} {g : Nat → Nat} {σ : az_S} (hC : CR sz κ A g σ) (hI : MI sz A) {x h : Int} (hx0 : 0 ≤ x) (hx1 : x ≤ 3599) (hh0 : 0 ≤ h) (hh1 : h ≤ 11) {y : Int} (hy0 : 0 ≤ y) (hy1 : y ≤ 3599) (hT : cST A x h y σ) {t : Int} (ht0 : 0 ≤ t) (ht1 : t < A 42 12) : ∀ (n : Nat) (c s : Int), (A 42 2 - c).toNat = n → 0 ≤ c → c ≤ A 42 2 → s = cntN (fun c => mSh A x h y t c) c.toNat → aw (d) k_X5_cellsShadedBy (some .int) (fun r τ => r = some (.int (iI (mShadow A t x h y))) ∧ τ = σ) 4 [some (.ref 29), some (.int (iI t)), some (.int (iI s)), some (.int (iI c))] [] σ := by
  intro n
  induction n using Nat.strongRecOn with
  | ind n ih =>
    intro c s hn hc0 hc1 hs
    have hce := hI.cells
    have hth := hI.things
    have hsz := hC.f.1
    have hab := cAll_b hI x h y c
    have hq := cntN_s (p := fun c => mSh A x h y t c) hc0
    have hbt := cAll_bit (A := A) (x := x) (h := h) (y := y) (c := c) ht0 ht1
    have hcb := cntN_b (fun c => mSh A x h y t c) c.toNat
    have hdv : 0 ≤ cAll A x h y c / 2 ^ t.toNat := Int.ediv_nonneg hab.1 (Int.le_of_lt (Int.pow_pos (by decide)))
    refine aw_iload_n rfl rfl rfl ?_
    refine aw_aload_n rfl rfl rfl ?_
    refine aw_getr (b := 32) rfl rfl (hC.f.k 29 rfl) (hC.f.r 29 5 32 rfl) rfl ?_
    refine aw_alen (N := sz) rfl (hC.f.s 32 rfl) (by decide) rfl ?_
    refine aw_icmp (p' := 35) rfl ⟨by omega, by omega⟩ ⟨by omega, by omega⟩ rfl rfl (fun c1 => ?_) (fun c1 => ?_)
    · dsimp only [zc] at c1
      refine aw_iload_n rfl rfl rfl ?_
      refine aw_reti rfl ?_
      refine ⟨?_, rfl⟩
      rw [hs, show c = A 42 2 by omega, mShadow_c]
    · dsimp only [zc] at c1
      refine aw_aload_n rfl rfl rfl ?_
      refine aw_getr (b := 32) rfl rfl (hC.f.k 29 rfl) (hC.f.r 29 5 32 rfl) rfl ?_
      refine aw_iload_n rfl rfl rfl ?_
      refine aw_as (N := sz) rfl (hC.f.s 32 rfl) (by omega) (by omega) (by omega) rfl (fun _ _ => ?_)
      rw [hT c hc0 (by omega)]
      refine aw_iload_n rfl rfl rfl ?_
      refine aw_ishr rfl (by omega) (by omega) (by omega) (by omega) rfl ?_
      refine aw_iconst rfl rfl ?_
      refine aw_iand1 rfl (by omega) rfl ?_
      refine aw_if (p' := 29) rfl ⟨by omega, by omega⟩ rfl rfl (fun c2 => ?_) (fun c2 => ?_)
      · dsimp only [zc] at c2
        refine aw_iinc rfl rfl rfl rfl ?_
        change aw _ _ _ _ 32 [some (.ref 29), some (.int (iI _)), some (.int (iI _)), some (.int (iI _))] _ _
        refine aw_goto (p' := 4) rfl rfl ?_
        refine ih _ (by omega) _ _ rfl (by omega) (by omega) ?_
        rw [hq, hs]
        first | (rw [bI_t (hbt.mp (by omega))]; done) | (rw [bI_f (fun q => by have := hbt.mpr q; omega)]; omega)
      · dsimp only [zc] at c2
        refine aw_iinc rfl rfl rfl rfl ?_
        change aw _ _ _ _ 29 [some (.ref 29), some (.int (iI _)), some (.int (iI _)), some (.int (iI _))] _ _
        refine aw_iinc rfl rfl rfl rfl ?_
        change aw _ _ _ _ 32 [some (.ref 29), some (.int (iI _)), some (.int (iI _)), some (.int (iI _))] _ _
        refine aw_goto (p' := 4) rfl rfl ?_
        refine ih _ (by omega) _ _ rfl (by omega) (by omega) ?_
        rw [hq, hs]
        first | (rw [bI_t (hbt.mp (by omega))]; done) | (rw [bI_f (fun q => by have := hbt.mpr q; omega)]; omega)
set_option maxRecDepth 10000 in
set_option maxHeartbeats 2000000 in
theorem c_cellsBy {d : Nat} {sz : Nat} {κ : Nat × (Nat → Int32) × Option Nat} {A : Nat → Int → Int} {g : Nat → Nat} {σ : az_S} (hC : CR sz κ A g σ) (hI : MI sz A) {x h : Int} (hx0 : 0 ≤ x) (hx1 : x ≤ 3599) (hh0 : 0 ≤ h) (hh1 : h ≤ 11) {y : Int} (hy0 : 0 ≤ y) (hy1 : y ≤ 3599) (hT : cST A x h y σ) {t : Int} (ht0 : 0 ≤ t) (ht1 : t < A 42 12) : fn (d + 1) 45 [.ref 29, .int (iI t)] σ (.int (iI (mShadow A t x h y))) := by
  have hce := hI.cells
  have hth := hI.things
  have hsz := hC.f.1
  refine fn_of (M := (yX5_cellsShadedBy, cX5_cellsShadedBy, 4, (some .int))) (cd := k_X5_cellsShadedBy) (L := [some (.ref 29), some (.int (iI t)), none, none]) rfl (Nat.le_of_ble_eq_true rfl) rfl rfl ?_
  refine aw_iconst rfl rfl ?_
  refine aw_istore_n rfl (Nat.le_of_ble_eq_true rfl) rfl rfl ?_
  change aw _ _ _ _ 2 [some (.ref 29), some (.int (iI _)), some (.int (iI _)), none] _ _
  refine aw_iconst rfl rfl ?_
  refine aw_istore_n rfl (Nat.le_of_ble_eq_true rfl) rfl rfl ?_
  change aw _ _ _ _ 4 [some (.ref 29), some (.int (iI _)), some (.int (iI _)), some (.int (iI _))] _ _
  exact c_cellsBy_l4 hC hI hx0 hx1 hh0 hh1 hy0 hy1 hT ht0 ht1 _ 0 0 rfl (by omega) (by omega) rfl
set_option maxRecDepth 10000 in
set_option maxHeartbeats 2000000 in
theorem c_findHolders_l56 {d : Nat} {sz : Nat} {κ : Nat × (Nat → Int32) × Option Nat} {A : Nat → Int → Int} {g : Nat → Nat} {σ : az_S} (hC : CR sz κ A g σ) (hI : MI sz A) {x h : Int} (hx0 : 0 ≤ x) (hx1 : x ≤ 3599) (hh0 : 0 ≤ h) (hh1 : h ≤ 11) {y : Int} (hy0 : 0 ≤ y) (hy1 : y ≤ 3599) : ∀ (n : Nat) (τ : az_S) (j : Int) (w1 w2 w3 : Option Value), (A 42 27 - j).toNat = n → CR sz κ A g τ → Mod σ τ [15] → 0 ≤ j → j ≤ A 42 27 → (∀ u : Int, 0 ≤ u → u < A 42 12 → zx τ 15 u = mWhoN A u x h y j.toNat) → aw (d + 3) k_X11_findHolders none (fun r τ => r = none ∧ CR sz κ A g τ ∧ Mod σ τ [15] ∧ cHK A x h y τ) 56 [some (.ref 0), some (.int (iI x)), some (.int (iI h)), some (.int (iI y)), some (.int (iI j)), w1, w2, w3] [] τ := by
  intro n
  induction n using Nat.strongRecOn with
  | ind n ih =>
    intro τ j w1 w2 w3 hn hN hD hj0 hj1 hU
    have hth := hI.things
    have hgr := hI.grants
    have hpe := hI.people
    have hGI := fun q => hI.grant j hj0 q
    have hw := fun u => mWhoN_s (A := A) (t := u) (x := x) (h := h) (y := y) hj0
    refine aw_iload rfl rfl rfl ?_
    refine aw_aload_n rfl rfl rfl ?_
    refine aw_getr (b := 7) rfl rfl (hN.f.k 0 rfl) (hN.f.r 0 4 7 rfl) rfl ?_
    refine aw_fnc (c_size (hN.f.k 7 rfl) hN.lG.1) rfl rfl rfl (Nat.le_of_ble_eq_true rfl) (Or.inr ⟨_, rfl, (hN.f.k 7 rfl)⟩) rfl ?_
    refine aw_icmp (p' := 178) rfl ⟨by omega, by omega⟩ ⟨by omega, by omega⟩ rfl rfl (fun c1 => ?_) (fun c1 => ?_)
    · dsimp only [zc] at c1
      refine aw_retv rfl ?_
      exact ⟨rfl, hN, (hD.su (T := [15]) rfl), fun u h1 h2 => by rw [hU u h1 h2, show j = A 42 27 by omega]⟩
    · dsimp only [zc] at c1
      refine aw_aload_n rfl rfl rfl ?_
      refine aw_getr (b := 7) rfl rfl (hN.f.k 0 rfl) (hN.f.r 0 4 7 rfl) rfl ?_
      refine aw_iload rfl rfl rfl ?_
      refine aw_fnc (c_get (hN.f.k 7 rfl) hN.lG (by omega) (by omega) (by omega)) rfl rfl rfl (Nat.le_of_ble_eq_true rfl) (Or.inr ⟨_, rfl, (hN.f.k 7 rfl)⟩) rfl ?_
      refine aw_cast rfl rfl (hN.kG (by omega) (by omega)) rfl ?_
      refine aw_astore rfl (Nat.le_of_ble_eq_true rfl) rfl rfl ?_
      change aw _ _ _ _ 82 [some (.ref 0), some (.int (iI _)), some (.int (iI _)), some (.int (iI _)), some (.int (iI _)), some (.ref (gG g j)), _, _] _ _
      refine aw_aload rfl rfl rfl ?_
      obtain ⟨hG1, hG2, hG3, hG4, hG5, hG6, hG7, hG8⟩ := hGI (by omega)
      refine aw_gk (v := (A 65 j)) (3) rfl rfl (hN.kG (by omega) (by omega)) rfl (hN.G3 (by omega) (by omega)) rfl (fun _ _ => ?_)
      refine aw_istore rfl (Nat.le_of_ble_eq_true rfl) rfl rfl ?_
      change aw _ _ _ _ 89 [some (.ref 0), some (.int (iI _)), some (.int (iI _)), some (.int (iI _)), some (.int (iI _)), some (.ref (gG g j)), some (.int (iI _)), _] _ _
      refine aw_iload rfl rfl rfl ?_
      refine aw_if (p' := 123) rfl ⟨by omega, by omega⟩ rfl rfl (fun c2 => ?_) (fun c2 => ?_)
      · dsimp only [zc] at c2
        omega
      · dsimp only [zc] at c2
        refine aw_iload rfl rfl rfl ?_
        refine aw_aload_n rfl rfl rfl ?_
        refine aw_getr (b := 15) rfl rfl (hN.f.k 0 rfl) (hN.f.r 0 11 15 rfl) rfl ?_
        refine aw_alen (N := 24) rfl (hN.f.s 15 rfl) (by decide) rfl ?_
        refine aw_icmp (p' := 123) rfl ⟨by omega, by omega⟩ ⟨by omega, by omega⟩ rfl rfl (fun c3 => ?_) (fun c3 => ?_)
        · dsimp only [zc] at c3
          omega
        · dsimp only [zc] at c3
          refine aw_aload_n rfl rfl rfl ?_
          refine aw_getr (b := 15) rfl rfl (hN.f.k 0 rfl) (hN.f.r 0 11 15 rfl) rfl ?_
          refine aw_iload rfl rfl rfl ?_
          refine aw_as (N := 24) rfl (hN.f.s 15 rfl) (by omega) (by omega) (by omega) rfl (fun _ _ => ?_)
          rw [hU (A 65 j) (by omega) (by omega)]
          have hwr := mWhoN_r hI (x := x) (h := h) (y := y) (t := A 65 j) (by omega) (by omega) j.toNat (by omega)
          refine aw_aload rfl rfl rfl ?_
          refine aw_gk (v := (A 63 j)) (0) rfl rfl (hN.kG (by omega) (by omega)) rfl (hN.G0 (by omega) (by omega)) rfl (fun _ _ => ?_)
          refine aw_icmp (p' := 123) rfl ⟨by omega, by omega⟩ ⟨by omega, by omega⟩ rfl rfl (fun c4 => ?_) (fun c4 => ?_)
          · dsimp only [zc] at c4
            refine aw_iconst rfl rfl ?_
            refine aw_istore rfl (Nat.le_of_ble_eq_true rfl) rfl rfl ?_
            change aw _ _ _ _ 126 [some (.ref 0), some (.int (iI _)), some (.int (iI _)), some (.int (iI _)), some (.int (iI _)), some (.ref (gG g j)), some (.int (iI _)), some (.int (iI _))] _ _
            refine aw_iload rfl rfl rfl ?_
            refine aw_if (p' := 172) rfl ⟨by omega, by omega⟩ rfl rfl (fun c5 => ?_) (fun c5 => ?_)
            · dsimp only [zc] at c5
              refine aw_iinc rfl rfl rfl rfl ?_
              change aw _ _ _ _ 175 [some (.ref 0), some (.int (iI _)), some (.int (iI _)), some (.int (iI _)), some (.int (iI _)), some (.ref (gG g j)), some (.int (iI _)), some (.int (iI _))] _ _
              refine aw_goto (p' := 56) rfl rfl ?_
              refine ih _ (by omega) _ _ _ _ _ rfl hN (hD.su (T := [15]) rfl) (by omega) (by omega) (fun u h1 h2 => ?_)
              rw [hw u, hU u h1 h2, zit_f ?_]
              rintro ⟨q1, q2, q3⟩
              rw [← q1] at q2
              first | omega | (have := q3.1; omega) | exact (by assumption : ¬ ((A 66 j ≤ h ∧ h ≤ A 67 j) ∧ mMon A j (x % 360 / 30))) ⟨q3.2.1, q3.2.2.1⟩ | exact absurd q3.2.2.2 (by assumption)
            · dsimp only [zc] at c5
              omega
          · dsimp only [zc] at c4
            refine aw_iconst rfl rfl ?_
            refine aw_goto (p' := 124) rfl rfl ?_
            refine aw_istore rfl (Nat.le_of_ble_eq_true rfl) rfl rfl ?_
            change aw _ _ _ _ 126 [some (.ref 0), some (.int (iI _)), some (.int (iI _)), some (.int (iI _)), some (.int (iI _)), some (.ref (gG g j)), some (.int (iI _)), some (.int (iI _))] _ _
            refine aw_iload rfl rfl rfl ?_
            refine aw_if (p' := 172) rfl ⟨by omega, by omega⟩ rfl rfl (fun c6 => ?_) (fun c6 => ?_)
            · dsimp only [zc] at c6
              omega
            · dsimp only [zc] at c6
              refine aw_aload rfl rfl rfl ?_
              refine aw_gk (v := (A 73 j)) (5) rfl rfl (hN.kG (by omega) (by omega)) rfl (hN.G5 (by omega) (by omega)) rfl (fun _ _ => ?_)
              refine aw_iload_n rfl rfl rfl ?_
              refine aw_icmp (p' := 172) rfl ⟨by omega, by omega⟩ ⟨by omega, by omega⟩ rfl rfl (fun c7 => ?_) (fun c7 => ?_)
              · dsimp only [zc] at c7
                refine aw_iinc rfl rfl rfl rfl ?_
                change aw _ _ _ _ 175 [some (.ref 0), some (.int (iI _)), some (.int (iI _)), some (.int (iI _)), some (.int (iI _)), some (.ref (gG g j)), some (.int (iI _)), some (.int (iI _))] _ _
                refine aw_goto (p' := 56) rfl rfl ?_
                refine ih _ (by omega) _ _ _ _ _ rfl hN (hD.su (T := [15]) rfl) (by omega) (by omega) (fun u h1 h2 => ?_)
                rw [hw u, hU u h1 h2, zit_f ?_]
                rintro ⟨q1, q2, q3⟩
                rw [← q1] at q2
                first | omega | (have := q3.1; omega) | exact (by assumption : ¬ ((A 66 j ≤ h ∧ h ≤ A 67 j) ∧ mMon A j (x % 360 / 30))) ⟨q3.2.1, q3.2.2.1⟩ | exact absurd q3.2.2.2 (by assumption)
              · dsimp only [zc] at c7
                refine aw_aload rfl rfl rfl ?_
                refine aw_iload_n rfl rfl rfl ?_
                refine aw_iload_n rfl rfl rfl ?_
                refine aw_fnc (c_covers hN hI (by omega) (by omega) (by omega) (by omega) (by omega) (by omega)) rfl rfl rfl (Nat.le_of_ble_eq_true rfl) (Or.inr ⟨_, rfl, (hN.kG (by omega) (by omega))⟩) rfl ?_
                refine aw_ifeqb (p' := 172) rfl rfl rfl (fun c8 => ?_) (fun c8 => ?_)
                · refine aw_iinc rfl rfl rfl rfl ?_
                  change aw _ _ _ _ 175 [some (.ref 0), some (.int (iI _)), some (.int (iI _)), some (.int (iI _)), some (.int (iI _)), some (.ref (gG g j)), some (.int (iI _)), some (.int (iI _))] _ _
                  refine aw_goto (p' := 56) rfl rfl ?_
                  refine ih _ (by omega) _ _ _ _ _ rfl hN (hD.su (T := [15]) rfl) (by omega) (by omega) (fun u h1 h2 => ?_)
                  rw [hw u, hU u h1 h2, zit_f ?_]
                  rintro ⟨q1, q2, q3⟩
                  rw [← q1] at q2
                  first | omega | (have := q3.1; omega) | exact (by assumption : ¬ ((A 66 j ≤ h ∧ h ≤ A 67 j) ∧ mMon A j (x % 360 / 30))) ⟨q3.2.1, q3.2.2.1⟩ | exact absurd q3.2.2.2 (by assumption)
                · refine aw_aload rfl rfl rfl ?_
                  refine aw_iload_n rfl rfl rfl ?_
                  refine aw_iload_n rfl rfl rfl ?_
                  refine aw_fnc (c_holdsOn hN hI (by omega) (by omega) (by omega) (by omega) (by omega) (by omega)) rfl rfl rfl (Nat.le_of_ble_eq_true rfl) (Or.inr ⟨_, rfl, (hN.kG (by omega) (by omega))⟩) rfl ?_
                  refine aw_ifeqb (p' := 172) rfl rfl rfl (fun c9 => ?_) (fun c9 => ?_)
                  · refine aw_iinc rfl rfl rfl rfl ?_
                    change aw _ _ _ _ 175 [some (.ref 0), some (.int (iI _)), some (.int (iI _)), some (.int (iI _)), some (.int (iI _)), some (.ref (gG g j)), some (.int (iI _)), some (.int (iI _))] _ _
                    refine aw_goto (p' := 56) rfl rfl ?_
                    refine ih _ (by omega) _ _ _ _ _ rfl hN (hD.su (T := [15]) rfl) (by omega) (by omega) (fun u h1 h2 => ?_)
                    rw [hw u, hU u h1 h2, zit_f ?_]
                    rintro ⟨q1, q2, q3⟩
                    rw [← q1] at q2
                    first | omega | (have := q3.1; omega) | exact (by assumption : ¬ ((A 66 j ≤ h ∧ h ≤ A 67 j) ∧ mMon A j (x % 360 / 30))) ⟨q3.2.1, q3.2.2.1⟩ | exact absurd q3.2.2.2 (by assumption)
                  · refine aw_aload_n rfl rfl rfl ?_
                    refine aw_getr (b := 15) rfl rfl (hN.f.k 0 rfl) (hN.f.r 0 11 15 rfl) rfl ?_
                    refine aw_iload rfl rfl rfl ?_
                    refine aw_aload rfl rfl rfl ?_
                    refine aw_gk (v := (A 64 j)) (2) rfl rfl (hN.kG (by omega) (by omega)) rfl (hN.G2 (by omega) (by omega)) rfl (fun _ _ => ?_)
                    refine aw_cs (N := 24) hN hI rfl (hN.f.s 15 rfl) (by omega) rfl (by omega) (by omega) ⟨by omega, by omega⟩ rfl (fun τ10 hM10 hD10 hU10 => ?_)
                    refine aw_iinc rfl rfl rfl rfl ?_
                    change aw _ _ _ _ 175 [some (.ref 0), some (.int (iI _)), some (.int (iI _)), some (.int (iI _)), some (.int (iI _)), some (.ref (gG g j)), some (.int (iI _)), some (.int (iI _))] _ _
                    refine aw_goto (p' := 56) rfl rfl ?_
                    refine ih _ (by omega) _ _ _ _ _ rfl hM10 ((hD.su (T := [15]) rfl).tr (hD10.su (T := [15]) rfl)) (by omega) (by omega) (fun u h1 h2 => ?_)
                    rw [hU10, hw u]
                    split
                    · rename_i e
                      rw [zit_t ⟨e.symm, by rw [e]; omega, by omega, (by assumption : (A 66 j ≤ h ∧ h ≤ A 67 j) ∧ mMon A j (x % 360 / 30)).1, (by assumption : (A 66 j ≤ h ∧ h ≤ A 67 j) ∧ mMon A j (x % 360 / 30)).2, by assumption⟩]
                    · rename_i e
                      rw [zit_f (fun q => e q.1.symm)]
                      exact hU u h1 h2
set_option maxRecDepth 10000 in
set_option maxHeartbeats 2000000 in
theorem c_findHolders_l3 {d : Nat} {sz : Nat} {κ : Nat × (Nat → Int32) × Option Nat} {A : Nat → Int → Int} {g : Nat → Nat} {σ : az_S} (hC : CR sz κ A g σ) (hI : MI sz A) {x h : Int} (hx0 : 0 ≤ x) (hx1 : x ≤ 3599) (hh0 : 0 ≤ h) (hh1 : h ≤ 11) {y : Int} (hy0 : 0 ≤ y) (hy1 : y ≤ 3599) : ∀ (n : Nat) (τ : az_S) (i : Int), (A 42 12 - i).toNat = n → CR sz κ A g τ → Mod σ τ [15] → 0 ≤ i → i ≤ A 42 12 → (∀ u : Int, 0 ≤ u → u < i → zx τ 15 u = A 51 u) → aw (d + 3) k_X11_findHolders none (fun r τ => r = none ∧ CR sz κ A g τ ∧ Mod σ τ [15] ∧ cHK A x h y τ) 3 [some (.ref 0), some (.int (iI x)), some (.int (iI h)), some (.int (iI y)), some (.int (iI i)), none, none, none] [] τ := by
  intro n
  induction n using Nat.strongRecOn with
  | ind n ih =>
    intro τ i hn hN hD hi0 hi1 hU
    have hth := hI.things
    have hgr := hI.grants
    have hpe := hI.people
    have hTI := fun q => hI.thing i hi0 q
    refine aw_iload rfl rfl rfl ?_
    refine aw_aload_n rfl rfl rfl ?_
    refine aw_getr (b := 6) rfl rfl (hN.f.k 0 rfl) (hN.f.r 0 3 6 rfl) rfl ?_
    refine aw_fnc (c_size (hN.f.k 6 rfl) hN.lT.1) rfl rfl rfl (Nat.le_of_ble_eq_true rfl) (Or.inr ⟨_, rfl, (hN.f.k 6 rfl)⟩) rfl ?_
    refine aw_icmp (p' := 53) rfl ⟨by omega, by omega⟩ ⟨by omega, by omega⟩ rfl rfl (fun c11 => ?_) (fun c11 => ?_)
    · dsimp only [zc] at c11
      refine aw_iconst rfl rfl ?_
      refine aw_istore rfl (Nat.le_of_ble_eq_true rfl) rfl rfl ?_
      change aw _ _ _ _ 56 [some (.ref 0), some (.int (iI _)), some (.int (iI _)), some (.int (iI _)), some (.int (iI _)), none, none, none] _ _
      exact c_findHolders_l56 hC hI hx0 hx1 hh0 hh1 hy0 hy1 _ _ 0 _ _ _ rfl hN (hD.su (T := [15]) rfl) (by omega) (by omega) (fun u h1 h2 => hU u h1 (by omega))
    · dsimp only [zc] at c11
      refine aw_iload rfl rfl rfl ?_
      refine aw_aload_n rfl rfl rfl ?_
      refine aw_getr (b := 15) rfl rfl (hN.f.k 0 rfl) (hN.f.r 0 11 15 rfl) rfl ?_
      refine aw_alen (N := 24) rfl (hN.f.s 15 rfl) (by decide) rfl ?_
      refine aw_icmp (p' := 53) rfl ⟨by omega, by omega⟩ ⟨by omega, by omega⟩ rfl rfl (fun c12 => ?_) (fun c12 => ?_)
      · dsimp only [zc] at c12
        omega
      · dsimp only [zc] at c12
        refine aw_aload_n rfl rfl rfl ?_
        refine aw_getr (b := 15) rfl rfl (hN.f.k 0 rfl) (hN.f.r 0 11 15 rfl) rfl ?_
        refine aw_iload rfl rfl rfl ?_
        refine aw_aload_n rfl rfl rfl ?_
        refine aw_getr (b := 6) rfl rfl (hN.f.k 0 rfl) (hN.f.r 0 3 6 rfl) rfl ?_
        refine aw_iload rfl rfl rfl ?_
        refine aw_fnc (c_get (hN.f.k 6 rfl) hN.lT (by omega) (by omega) (by omega)) rfl rfl rfl (Nat.le_of_ble_eq_true rfl) (Or.inr ⟨_, rfl, (hN.f.k 6 rfl)⟩) rfl ?_
        refine aw_cast rfl rfl (hN.kT (by omega) (by omega)) rfl ?_
        obtain ⟨⟨he1, he2⟩, ⟨he3, he4⟩, hTe, hkg, hTc, hTo, hTs, hTl, hTf, hTm⟩ := hTI (by omega)
        refine aw_gk (v := (A 51 i)) (2) rfl rfl (hN.kT (by omega) (by omega)) rfl (hN.T2 (by omega) (by omega)) rfl (fun _ _ => ?_)
        refine aw_cs (N := 24) hN hI rfl (hN.f.s 15 rfl) (by omega) rfl (by omega) (by omega) ⟨by omega, by omega⟩ rfl (fun τ13 hM13 hD13 hU13 => ?_)
        refine aw_iinc rfl rfl rfl rfl ?_
        change aw _ _ _ _ 50 [some (.ref 0), some (.int (iI _)), some (.int (iI _)), some (.int (iI _)), some (.int (iI _)), none, none, none] _ _
        refine aw_goto (p' := 3) rfl rfl ?_
        refine ih _ (by omega) _ _ rfl hM13 ((hD.su (T := [15]) rfl).tr (hD13.su (T := [15]) rfl)) (by omega) (by omega) (fun u h1 h2 => ?_)
        rw [hU13]
        split
        · rename_i e; rw [e]
        · exact hU u h1 (by omega)
set_option maxRecDepth 10000 in
set_option maxHeartbeats 2000000 in
theorem c_findHolders {d : Nat} {sz : Nat} {κ : Nat × (Nat → Int32) × Option Nat} {A : Nat → Int → Int} {g : Nat → Nat} {σ : az_S} (hC : CR sz κ A g σ) (hI : MI sz A) {x h : Int} (hx0 : 0 ≤ x) (hx1 : x ≤ 3599) (hh0 : 0 ≤ h) (hh1 : h ≤ 11) {y : Int} (hy0 : 0 ≤ y) (hy1 : y ≤ 3599) : cal (d + 4) 146 [.ref 0, .int (iI x), .int (iI h), .int (iI y)] σ (fun r τ => r = none ∧ CR sz κ A g τ ∧ Mod σ τ [15] ∧ cHK A x h y τ) := by
  have hth := hI.things
  have hgr := hI.grants
  refine cal_of (M := (yX11_findHolders, cX11_findHolders, 8, none)) (cd := k_X11_findHolders) (L := [some (.ref 0), some (.int (iI x)), some (.int (iI h)), some (.int (iI y)), none, none, none, none]) rfl (Nat.le_of_ble_eq_true rfl) rfl rfl ?_
  refine aw_iconst rfl rfl ?_
  refine aw_istore rfl (Nat.le_of_ble_eq_true rfl) rfl rfl ?_
  change aw _ _ _ _ 3 [some (.ref 0), some (.int (iI _)), some (.int (iI _)), some (.int (iI _)), some (.int (iI _)), none, none, none] _ _
  exact c_findHolders_l3 hC hI hx0 hx1 hh0 hh1 hy0 hy1 _ _ 0 rfl hC Mod.rf (by omega) (by omega) (fun u _ _ => by omega)
set_option maxRecDepth 10000 in
set_option maxHeartbeats 2000000 in
theorem c_heldBy_l14 {d : Nat} {sz : Nat} {κ : Nat × (Nat → Int32) × Option Nat} {A : Nat → Int → Int} {g : Nat → Nat} {σ : az_S} (hC : CR sz κ A g σ) (hI : MI sz A) {p : Int} (hp : inI p) {x h : Int} (hx0 : 0 ≤ x) (hx1 : x ≤ 3599) (hh0 : 0 ≤ h) (hh1 : h ≤ 11) {y : Int} (hy0 : 0 ≤ y) (hy1 : y ≤ 3599) : ∀ (n : Nat) (τ : az_S) (i s : Int), (A 42 12 - i).toNat = n → CR sz κ A g τ → Mod σ τ [15] → 0 ≤ i → i ≤ A 42 12 → cHK A x h y τ → s = nbI (cHB A p x h y) i.toNat → aw (d + 4) k_X11_heldBy (some .int) (fun r τ => r = some (.int (iI (cHeld A p x h y))) ∧ CR sz κ A g τ ∧ Mod σ τ [15]) 14 [some (.ref 0), some (.int (iI p)), some (.int (iI x)), some (.int (iI h)), some (.int (iI y)), some (.int (iI s)), some (.int (iI i))] [] τ := by
  intro n
  induction n using Nat.strongRecOn with
  | ind n ih =>
    intro τ i s hn hN hD hi0 hi1 hH hs
    have hth := hI.things
    obtain ⟨hp1, hp2⟩ := hp
    have hb := nbI_r (cHB A p x h y) i.toNat
    have hb2 := nbI24 (f := cHB A p x h y) (n := i.toNat) (by omega)
    have hq := nbI_s (cHB A p x h y) hi0
    rw [← hs] at hb hb2 hq
    have hwr := fun q => mWho_r hI (x := x) (h := h) (y := y) hi0 q
    have hpe := hI.people
    have hcb := cHB_t (A := A) (p := p) (x := x) (h := h) (y := y) hi0
    refine aw_iload rfl rfl rfl ?_
    refine aw_aload_n rfl rfl rfl ?_
    refine aw_getr (b := 6) rfl rfl (hN.f.k 0 rfl) (hN.f.r 0 3 6 rfl) rfl ?_
    refine aw_fnc (c_size (hN.f.k 6 rfl) hN.lT.1) rfl rfl rfl (Nat.le_of_ble_eq_true rfl) (Or.inr ⟨_, rfl, (hN.f.k 6 rfl)⟩) rfl ?_
    refine aw_icmp (p' := 62) rfl ⟨by omega, by omega⟩ ⟨by omega, by omega⟩ rfl rfl (fun c1 => ?_) (fun c1 => ?_)
    · dsimp only [zc] at c1
      refine aw_iload rfl rfl rfl ?_
      refine aw_reti rfl ?_
      refine ⟨?_, hN, (hD.su (T := [15]) rfl)⟩
      rw [hs, show i = A 42 12 by omega]
      rfl
    · dsimp only [zc] at c1
      refine aw_iload rfl rfl rfl ?_
      refine aw_aload_n rfl rfl rfl ?_
      refine aw_getr (b := 15) rfl rfl (hN.f.k 0 rfl) (hN.f.r 0 11 15 rfl) rfl ?_
      refine aw_alen (N := 24) rfl (hN.f.s 15 rfl) (by decide) rfl ?_
      refine aw_icmp (p' := 62) rfl ⟨by omega, by omega⟩ ⟨by omega, by omega⟩ rfl rfl (fun c2 => ?_) (fun c2 => ?_)
      · dsimp only [zc] at c2
        omega
      · dsimp only [zc] at c2
        refine aw_aload_n rfl rfl rfl ?_
        refine aw_getr (b := 15) rfl rfl (hN.f.k 0 rfl) (hN.f.r 0 11 15 rfl) rfl ?_
        refine aw_iload rfl rfl rfl ?_
        refine aw_as (N := 24) rfl (hN.f.s 15 rfl) (by omega) (by omega) (by omega) rfl (fun _ _ => ?_)
        rw [hH i hi0 (by omega)]
        have hwr := hwr (by omega)
        refine aw_iload_n rfl rfl rfl ?_
        refine aw_icmp (p' := 56) rfl ⟨by omega, by omega⟩ ⟨by omega, by omega⟩ rfl rfl (fun c3 => ?_) (fun c3 => ?_)
        · dsimp only [zc] at c3
          refine aw_iinc rfl rfl rfl rfl ?_
          change aw _ _ _ _ 59 [some (.ref 0), some (.int (iI _)), some (.int (iI _)), some (.int (iI _)), some (.int (iI _)), some (.int (iI _)), some (.int (iI _))] _ _
          refine aw_goto (p' := 14) rfl rfl ?_
          refine ih _ (by omega) _ _ _ rfl hN (hD.su (T := [15]) rfl) (by omega) (by omega) hH ?_
          rw [hq]
          first | (rw [zit_t (hcb.mpr (by omega))]; done) | (rw [zit_f (fun q => by have := hcb.mp q; omega)]; omega)
        · dsimp only [zc] at c3
          refine aw_iload rfl rfl rfl ?_
          refine aw_iconst rfl rfl ?_
          refine aw_iload rfl rfl rfl ?_
          refine aw_ishl1 rfl (by omega) (by omega) rfl ?_
          refine aw_iorp rfl hb.1 hb.2 rfl ?_
          refine aw_istore rfl (Nat.le_of_ble_eq_true rfl) rfl rfl ?_
          change aw _ _ _ _ 56 [some (.ref 0), some (.int (iI _)), some (.int (iI _)), some (.int (iI _)), some (.int (iI _)), some (.int (iI _)), some (.int (iI _))] _ _
          refine aw_iinc rfl rfl rfl rfl ?_
          change aw _ _ _ _ 59 [some (.ref 0), some (.int (iI _)), some (.int (iI _)), some (.int (iI _)), some (.int (iI _)), some (.int (iI _)), some (.int (iI _))] _ _
          refine aw_goto (p' := 14) rfl rfl ?_
          refine ih _ (by omega) _ _ _ rfl hN (hD.su (T := [15]) rfl) (by omega) (by omega) hH ?_
          rw [hq]
          first | (rw [zit_t (hcb.mpr (by omega))]; done) | (rw [zit_f (fun q => by have := hcb.mp q; omega)]; omega)
set_option maxRecDepth 10000 in
set_option maxHeartbeats 2000000 in
theorem c_heldBy {d : Nat} {sz : Nat} {κ : Nat × (Nat → Int32) × Option Nat} {A : Nat → Int → Int} {g : Nat → Nat} {σ : az_S} (hC : CR sz κ A g σ) (hI : MI sz A) {p : Int} (hp : inI p) {x h : Int} (hx0 : 0 ≤ x) (hx1 : x ≤ 3599) (hh0 : 0 ≤ h) (hh1 : h ≤ 11) {y : Int} (hy0 : 0 ≤ y) (hy1 : y ≤ 3599) : cal (d + 5) 147 [.ref 0, .int (iI p), .int (iI x), .int (iI h), .int (iI y)] σ (fun r τ => r = some (.int (iI (cHeld A p x h y))) ∧ CR sz κ A g τ ∧ Mod σ τ [15]) := by
  have hth := hI.things
  obtain ⟨hp1, hp2⟩ := hp
  refine cal_of (M := (yX11_heldBy, cX11_heldBy, 7, (some .int))) (cd := k_X11_heldBy) (L := [some (.ref 0), some (.int (iI p)), some (.int (iI x)), some (.int (iI h)), some (.int (iI y)), none, none]) rfl (Nat.le_of_ble_eq_true rfl) rfl rfl ?_
  refine aw_aload_n rfl rfl rfl ?_
  refine aw_iload_n rfl rfl rfl ?_
  refine aw_iload_n rfl rfl rfl ?_
  refine aw_iload rfl rfl rfl ?_
  refine aw_calc (c_findHolders hC hI (by omega) (by omega) (by omega) (by omega) (by omega) (by omega)) rfl rfl rfl (Nat.le_of_ble_eq_true rfl) (Or.inr ⟨_, rfl, (hC.f.k 0 rfl)⟩) rfl ?_
  rintro _ τ4 ⟨rfl, hM4, hD4, hH4⟩
  change aw _ _ _ _ 8 [some (.ref 0), some (.int (iI _)), some (.int (iI _)), some (.int (iI _)), some (.int (iI _)), none, none] [] _
  refine aw_iconst rfl rfl ?_
  refine aw_istore rfl (Nat.le_of_ble_eq_true rfl) rfl rfl ?_
  change aw _ _ _ _ 11 [some (.ref 0), some (.int (iI _)), some (.int (iI _)), some (.int (iI _)), some (.int (iI _)), some (.int (iI _)), none] _ _
  refine aw_iconst rfl rfl ?_
  refine aw_istore rfl (Nat.le_of_ble_eq_true rfl) rfl rfl ?_
  change aw _ _ _ _ 14 [some (.ref 0), some (.int (iI _)), some (.int (iI _)), some (.int (iI _)), some (.int (iI _)), some (.int (iI _)), some (.int (iI _))] _ _
  exact c_heldBy_l14 hC hI ⟨hp1, hp2⟩ hx0 hx1 hh0 hh1 hy0 hy1 _ _ 0 0 rfl hM4 (hD4.su (T := [15]) rfl) (by omega) (by omega) hH4 rfl
set_option maxRecDepth 10000 in
set_option maxHeartbeats 2000000 in
theorem c_partsOnDay_l15 {d : Nat} {sz : Nat} {κ : Nat × (Nat → Int32) × Option Nat} {A : Nat → Int → Int} {g : Nat → Nat} {σ : az_S} (hC : CR sz κ A g σ) (hI : MI sz A) {p x y : Int} (hp : inI p) (hx0 : 0 ≤ x) (hx1 : x ≤ 3599) (hy0 : 0 ≤ y) (hy1 : y ≤ 3599) : ∀ (n : Nat) (τ : az_S) (h s : Int) (w : Option Value), (12 - h).toNat = n → CR sz κ A g τ → Mod σ τ [15, 29, 30, 31, 32] → 0 ≤ h → h ≤ 12 → cSL A x y τ → s = sumN (mHr A p x y) h.toNat → aw (d + 5) k_X11_partsOnDay (some .long) (fun r τ => r = some (.long (lI (mDay A p x y))) ∧ CR sz κ A g τ ∧ Mod σ τ [15, 29, 30, 31, 32]) 15 [some (.ref 0), some (.int (iI p)), some (.int (iI x)), some (.int (iI y)), some (.long (lI s)), none, some (.int (iI h)), w] [] τ := by
  intro n
  induction n using Nat.strongRecOn with
  | ind n ih =>
    intro τ h s w hn hN hD hh0 hh1 hS hs
    obtain ⟨hp1, hp2⟩ := hp
    have hhb := cHeld_b hI p x h y
    have hq := sumN_s (f := mHr A p x y) hh0
    refine aw_iload rfl rfl rfl ?_
    refine aw_bipush rfl rfl rfl ?_
    refine aw_icmp (p' := 67) rfl ⟨by omega, by omega⟩ ⟨by omega, by omega⟩ rfl rfl (fun c1 => ?_) (fun c1 => ?_)
    · dsimp only [zc] at c1
      refine aw_lload rfl rfl rfl ?_
      refine aw_retl rfl ?_
      refine ⟨?_, hN, (hD.su (T := [15, 29, 30, 31, 32]) rfl)⟩
      rw [hs, show h = 12 by omega]
      rfl
    · dsimp only [zc] at c1
      refine aw_aload_n rfl rfl rfl ?_
      refine aw_iload_n rfl rfl rfl ?_
      refine aw_iload_n rfl rfl rfl ?_
      refine aw_iload rfl rfl rfl ?_
      refine aw_iload_n rfl rfl rfl ?_
      refine aw_calc (c_heldBy hN hI ⟨by omega, by omega⟩ (by omega) (by omega) (by omega) (by omega) (by omega) (by omega)) rfl rfl rfl (Nat.le_of_ble_eq_true rfl) (Or.inr ⟨_, rfl, (hN.f.k 0 rfl)⟩) rfl ?_
      rintro _ τ2 ⟨rfl, hM2, hD2⟩
      change aw _ _ _ _ 31 [some (.ref 0), some (.int (iI _)), some (.int (iI _)), some (.int (iI _)), some (.long (lI _)), none, some (.int (iI _)), _] [.int (iI _)] _
      refine aw_istore rfl (Nat.le_of_ble_eq_true rfl) rfl rfl ?_
      change aw _ _ _ _ 33 [some (.ref 0), some (.int (iI _)), some (.int (iI _)), some (.int (iI _)), some (.long (lI _)), none, some (.int (iI _)), some (.int (iI _))] _ _
      refine aw_iload rfl rfl rfl ?_
      refine aw_if (p' := 61) rfl ⟨by omega, by omega⟩ rfl rfl (fun c3 => ?_) (fun c3 => ?_)
      · dsimp only [zc] at c3
        refine aw_iinc rfl rfl rfl rfl ?_
        change aw _ _ _ _ 64 [some (.ref 0), some (.int (iI _)), some (.int (iI _)), some (.int (iI _)), some (.long (lI _)), none, some (.int (iI _)), some (.int (iI _))] _ _
        refine aw_goto (p' := 15) rfl rfl ?_
        refine ih _ (by omega) _ _ _ _ rfl hM2 ((hD.su (T := [15, 29, 30, 31, 32]) rfl).tr (hD2.su (T := [15, 29, 30, 31, 32]) rfl)) (by omega) (by omega) (hS.mod hD2 rfl rfl rfl) ?_
        rw [hq, hs]
        rw [mHr_n (by omega)]; omega
      · dsimp only [zc] at c3
        refine aw_aload_n rfl rfl rfl ?_
        refine aw_getr (b := 29) rfl rfl (hM2.f.k 0 rfl) (hM2.f.r 0 6 29 rfl) rfl ?_
        refine aw_iload rfl rfl rfl ?_
        refine aw_calc (c_turnTo hM2 hI hx0 hx1 hh0 (by omega) hy0 hy1 (hS.mod hD2 rfl rfl rfl)) rfl rfl rfl (Nat.le_of_ble_eq_true rfl) (Or.inr ⟨_, rfl, (hM2.f.k 29 rfl)⟩) rfl ?_
        rintro _ τ4 ⟨rfl, hM4, hD4, hT4⟩
        change aw _ _ _ _ 47 [some (.ref 0), some (.int (iI _)), some (.int (iI _)), some (.int (iI _)), some (.long (lI _)), none, some (.int (iI _)), some (.int (iI _))] [] _
        refine aw_lload rfl rfl rfl ?_
        refine aw_aload_n rfl rfl rfl ?_
        refine aw_getr (b := 29) rfl rfl (hM4.f.k 0 rfl) (hM4.f.r 0 6 29 rfl) rfl ?_
        refine aw_iload rfl rfl rfl ?_
        refine aw_fnc (c_partsOfAll hM4 hI (by omega) (by omega) (by omega) (by omega) (by omega) (by omega) hT4) rfl rfl rfl (Nat.le_of_ble_eq_true rfl) (Or.inr ⟨_, rfl, (hM4.f.k 29 rfl)⟩) rfl ?_
        refine aw_ladd rfl rfl ?_
        refine aw_lstore rfl (Nat.le_of_ble_eq_true rfl) rfl rfl ?_
        change aw _ _ _ _ 61 [some (.ref 0), some (.int (iI _)), some (.int (iI _)), some (.int (iI _)), some (.long (lI _)), none, some (.int (iI _)), some (.int (iI _))] _ _
        refine aw_iinc rfl rfl rfl rfl ?_
        change aw _ _ _ _ 64 [some (.ref 0), some (.int (iI _)), some (.int (iI _)), some (.int (iI _)), some (.long (lI _)), none, some (.int (iI _)), some (.int (iI _))] _ _
        refine aw_goto (p' := 15) rfl rfl ?_
        refine ih _ (by omega) _ _ _ _ rfl hM4 (((hD.su (T := [15, 29, 30, 31, 32]) rfl).tr (hD2.su (T := [15, 29, 30, 31, 32]) rfl)).tr (hD4.su (T := [15, 29, 30, 31, 32]) rfl)) (by omega) (by omega) ((hS.mod hD2 rfl rfl rfl).mod hD4 rfl rfl rfl) ?_
        rw [hq, hs]
        try rfl
set_option maxRecDepth 10000 in
set_option maxHeartbeats 2000000 in
theorem c_partsOnDay {d : Nat} {sz : Nat} {κ : Nat × (Nat → Int32) × Option Nat} {A : Nat → Int → Int} {g : Nat → Nat} {σ : az_S} (hC : CR sz κ A g σ) (hI : MI sz A) {p x y : Int} (hp : inI p) (hx0 : 0 ≤ x) (hx1 : x ≤ 3599) (hy0 : 0 ≤ y) (hy1 : y ≤ 3599) : cal (d + 6) 148 [.ref 0, .int (iI p), .int (iI x), .int (iI y)] σ (fun r τ => r = some (.long (lI (mDay A p x y))) ∧ CR sz κ A g τ ∧ Mod σ τ [15, 29, 30, 31, 32]) := by
  obtain ⟨hp1, hp2⟩ := hp
  refine cal_of (M := (yX11_partsOnDay, cX11_partsOnDay, 8, (some .long))) (cd := k_X11_partsOnDay) (L := [some (.ref 0), some (.int (iI p)), some (.int (iI x)), some (.int (iI y)), none, none, none, none]) rfl (Nat.le_of_ble_eq_true rfl) rfl rfl ?_
  refine aw_aload_n rfl rfl rfl ?_
  refine aw_getr (b := 29) rfl rfl (hC.f.k 0 rfl) (hC.f.r 0 6 29 rfl) rfl ?_
  refine aw_iload_n rfl rfl rfl ?_
  refine aw_iload_n rfl rfl rfl ?_
  refine aw_calc (c_lookAt hC hI (by omega) (by omega) (by omega) (by omega)) rfl rfl rfl (Nat.le_of_ble_eq_true rfl) (Or.inr ⟨_, rfl, (hC.f.k 29 rfl)⟩) rfl ?_
  rintro _ τ5 ⟨rfl, hM5, hD5, hS5⟩
  change aw _ _ _ _ 9 [some (.ref 0), some (.int (iI _)), some (.int (iI _)), some (.int (iI _)), none, none, none, none] [] _
  refine aw_lconst 0 rfl rfl rfl ?_
  refine aw_lstore rfl (Nat.le_of_ble_eq_true rfl) rfl rfl ?_
  change aw _ _ _ _ 12 [some (.ref 0), some (.int (iI _)), some (.int (iI _)), some (.int (iI _)), some (.long (lI _)), none, none, none] _ _
  refine aw_iconst rfl rfl ?_
  refine aw_istore rfl (Nat.le_of_ble_eq_true rfl) rfl rfl ?_
  change aw _ _ _ _ 15 [some (.ref 0), some (.int (iI _)), some (.int (iI _)), some (.int (iI _)), some (.long (lI _)), none, some (.int (iI _)), none] _ _
  exact c_partsOnDay_l15 hC hI ⟨hp1, hp2⟩ hx0 hx1 hy0 hy1 _ _ 0 0 _ rfl hM5 (hD5.su (T := [15, 29, 30, 31, 32]) rfl) (by omega) (by omega) hS5 rfl
set_option maxRecDepth 10000 in
set_option maxHeartbeats 2000000 in
theorem c_partsYear_l5 {d : Nat} {sz : Nat} {κ : Nat × (Nat → Int32) × Option Nat} {A : Nat → Int → Int} {g : Nat → Nat} {σ : az_S} (hC : CR sz κ A g σ) (hI : MI sz A) {p x : Int} (hp : inI p) (hx0 : 0 ≤ x) (hx1 : x ≤ 3269) : ∀ (n : Nat) (τ : az_S) (m s : Int), (12 - m).toNat = n → CR sz κ A g τ → Mod σ τ [15, 29, 30, 31, 32] → 0 ≤ m → m ≤ 12 → s = sumN (fun k => mDay A p (x + 30 * k) (A 42 3)) m.toNat → aw (d + 6) k_X11_partsOverYear (some .long) (fun r τ => r = some (.long (lI (mYear A p x (A 42 3) * 30))) ∧ CR sz κ A g τ ∧ Mod σ τ [15, 29, 30, 31, 32]) 5 [some (.ref 0), some (.int (iI p)), some (.int (iI x)), some (.long (lI s)), none, some (.int (iI m))] [] τ := by
  intro n
  induction n using Nat.strongRecOn with
  | ind n ih =>
    intro τ m s hn hN hD hm0 hm1 hs
    obtain ⟨hp1, hp2⟩ := hp
    have hcl := hI.clock
    have hq := sumN_s (f := fun k => mDay A p (x + 30 * k) (A 42 3)) hm0
    refine aw_iload rfl rfl rfl ?_
    refine aw_bipush rfl rfl rfl ?_
    refine aw_icmp (p' := 37) rfl ⟨by omega, by omega⟩ ⟨by omega, by omega⟩ rfl rfl (fun c1 => ?_) (fun c1 => ?_)
    · dsimp only [zc] at c1
      refine aw_lload_n rfl rfl rfl ?_
      refine aw_ldc2 (30) rfl rfl rfl ?_
      refine aw_lmul rfl rfl ?_
      refine aw_retl rfl ?_
      refine ⟨?_, hN, (hD.su (T := [15, 29, 30, 31, 32]) rfl)⟩
      rw [hs, show m = 12 by omega]
      rfl
    · dsimp only [zc] at c1
      refine aw_lload_n rfl rfl rfl ?_
      refine aw_aload_n rfl rfl rfl ?_
      refine aw_iload_n rfl rfl rfl ?_
      refine aw_iload_n rfl rfl rfl ?_
      refine aw_bipush rfl rfl rfl ?_
      refine aw_iload rfl rfl rfl ?_
      refine aw_imul rfl rfl ?_
      refine aw_iadd rfl rfl ?_
      refine aw_aload_n rfl rfl rfl ?_
      refine aw_gk (v := A 42 3) (15) rfl rfl (hN.f.k 0 rfl) rfl hN.today rfl (fun _ _ => ?_)
      refine aw_calc (c_partsOnDay hN hI ⟨by omega, by omega⟩ (by omega) (by omega) (by omega) (by omega)) rfl rfl rfl (Nat.le_of_ble_eq_true rfl) (Or.inr ⟨_, rfl, (hN.f.k 0 rfl)⟩) rfl ?_
      rintro _ τ2 ⟨rfl, hM2, hD2⟩
      change aw _ _ _ _ 29 [some (.ref 0), some (.int (iI _)), some (.int (iI _)), some (.long (lI _)), none, some (.int (iI _))] [.long (lI _), .long (lI _)] _
      refine aw_ladd rfl rfl ?_
      refine aw_lstore_n rfl (Nat.le_of_ble_eq_true rfl) rfl rfl ?_
      change aw _ _ _ _ 31 [some (.ref 0), some (.int (iI _)), some (.int (iI _)), some (.long (lI _)), none, some (.int (iI _))] _ _
      refine aw_iinc rfl rfl rfl rfl ?_
      change aw _ _ _ _ 34 [some (.ref 0), some (.int (iI _)), some (.int (iI _)), some (.long (lI _)), none, some (.int (iI _))] _ _
      refine aw_goto (p' := 5) rfl rfl ?_
      refine ih _ (by omega) _ _ _ rfl hM2 ((hD.su (T := [15, 29, 30, 31, 32]) rfl).tr (hD2.su (T := [15, 29, 30, 31, 32]) rfl)) (by omega) (by omega) ?_
      rw [hq, hs]
set_option maxRecDepth 10000 in
set_option maxHeartbeats 2000000 in
theorem c_partsYear {d : Nat} {sz : Nat} {κ : Nat × (Nat → Int32) × Option Nat} {A : Nat → Int → Int} {g : Nat → Nat} {σ : az_S} (hC : CR sz κ A g σ) (hI : MI sz A) {p x : Int} (hp : inI p) (hx0 : 0 ≤ x) (hx1 : x ≤ 3269) : cal (d + 7) 149 [.ref 0, .int (iI p), .int (iI x)] σ (fun r τ => r = some (.long (lI (mYear A p x (A 42 3) * 30))) ∧ CR sz κ A g τ ∧ Mod σ τ [15, 29, 30, 31, 32]) := by
  obtain ⟨hp1, hp2⟩ := hp
  have hcl := hI.clock
  refine cal_of (M := (yX11_partsOverYear, cX11_partsOverYear, 6, (some .long))) (cd := k_X11_partsOverYear) (L := [some (.ref 0), some (.int (iI p)), some (.int (iI x)), none, none, none]) rfl (Nat.le_of_ble_eq_true rfl) rfl rfl ?_
  refine aw_lconst 0 rfl rfl rfl ?_
  refine aw_lstore_n rfl (Nat.le_of_ble_eq_true rfl) rfl rfl ?_
  change aw _ _ _ _ 2 [some (.ref 0), some (.int (iI _)), some (.int (iI _)), some (.long (lI _)), none, none] _ _
  refine aw_iconst rfl rfl ?_
  refine aw_istore rfl (Nat.le_of_ble_eq_true rfl) rfl rfl ?_
  change aw _ _ _ _ 5 [some (.ref 0), some (.int (iI _)), some (.int (iI _)), some (.long (lI _)), none, some (.int (iI _))] _ _
  exact c_partsYear_l5 hC hI ⟨hp1, hp2⟩ hx0 hx1 _ _ 0 0 rfl hC Mod.rf (by omega) (by omega) rfl
