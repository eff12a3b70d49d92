theorem p2_24 {n : Nat} (h : n ≤ 24) : (2 : Int) ^ n ≤ 16777216 := by
  have hh : ∀ n, n < 25 → (2 : Int) ^ n ≤ 16777216 := by decide +kernel
  exact hh n (by omega)
theorem mSet_b {sz : Nat} {A : Nat → Int → Int} (hI : MI sz A) (x h y c : Int) : 0 ≤ mSet A x h y c ∧ mSet A x h y c < 16777216 := by
  have h1 : 0 ≤ mSet A x h y c ∧ mSet A x h y c < 2 ^ (A 42 12).toNat := mSetN_r A x h y c (A 42 12).toNat
  have h2 := p2_24 (n := (A 42 12).toNat) (by have := hI.things; omega)
  omega
theorem mMany_r (A : Nat → Int → Int) (x h y c : Int) : 0 ≤ mMany A x h y c ∧ mMany A x h y c ≤ 12 := ⟨(mManyN_r A x h y c _).1, (mManyN_r A x h y c _).2.1⟩
theorem LK.set {A : Nat → Int → Int} {x h y : Int} {τ : az_S} (k : LK A x h y τ) {c : Int} (h0 : 0 ≤ c) (h1 : c < A 42 2) : zx τ 89 c = mSet A x h y c := (k.2 c h0 h1).1
theorem LK.many {A : Nat → Int → Int} {x h y : Int} {τ : az_S} (k : LK A x h y τ) {c : Int} (h0 : 0 ≤ c) (h1 : c < A 42 2) : zx τ 90 c = mMany A x h y c := (k.2 c h0 h1).2.1
theorem LK.opn {A : Nat → Int → Int} {x h y : Int} {τ : az_S} (k : LK A x h y τ) {c : Int} (h0 : 0 ≤ c) (h1 : c < A 42 2) : zx τ 91 c = bI (mOpen A c x y) := (k.2 c h0 h1).2.2
theorem LK.tall {A : Nat → Int → Int} {x h y : Int} {τ : az_S} (k : LK A x h y τ) {t : Int} (h0 : 0 ≤ t) (h1 : t < A 42 12) : zx τ 92 t = mH A t x y := k.1 t h0 h1
def mIn (A : Nat → Int → Int) (x h y c t : Int) : Prop := mSh A x h y t c ∧ mManyN A x h y c t.toNat < 12
theorem mSet_bitN (A : Nat → Int → Int) (x h y c : Int) : ∀ (n t : Nat), t < n → (mSetN A x h y c n / 2 ^ t % 2 = 1 ↔ mIn A x h y c t) := by
  intro n
  induction n with
  | zero => intro t h; omega
  | succ n ih =>
    intro t ht
    have hr := mSetN_r A x h y c n
    have hp : (0 : Int) < 2 ^ t := Int.pow_pos (by decide)
    have hm := (mSM_s (A := A) (x := x) (h := h) (y := y) (c := c) (t := n) (by omega))
    have e0 : ((n : Int) + 1).toNat = n + 1 := by omega
    rw [e0] at hm
    simp only [Int.toNat_natCast] at hm
    by_cases e : t = n
    · subst e
      unfold mIn
      rw [Int.toNat_natCast]
      by_cases q : mSh A x h y t c ∧ mManyN A x h y c t < 12
      · rw [(hm.1 q).2]
        have : (mSetN A x h y c t + 2 ^ t) / 2 ^ t = 1 := by
          have := Int.add_mul_ediv_right (mSetN A x h y c t) 1 (Int.ne_of_gt hp)
          rw [Int.one_mul] at this
          rw [this, Int.ediv_eq_zero_of_lt hr.1 hr.2]; rfl
        rw [this]
        exact ⟨fun _ => q, fun _ => rfl⟩
      · rw [(hm.2 q).2, Int.ediv_eq_zero_of_lt hr.1 hr.2]
        exact ⟨fun z => absurd z (by decide), fun z => absurd z q⟩
    · have ht2 : t < n := by omega
      rw [← ih t ht2]
      by_cases q : mSh A x h y n c ∧ mManyN A x h y c n < 12
      · rw [(hm.1 q).2]
        have e3 : (2 : Int) ^ n = (2 ^ (n - t - 1) * 2) * 2 ^ t := by
          rw [← Int.pow_succ, ← Int.pow_add]
          congr 1
          omega
        rw [e3, Int.add_mul_ediv_right _ _ (Int.ne_of_gt hp), Int.add_mul_emod_self_right]
      · rw [(hm.2 q).2]
theorem mSet_bit {sz : Nat} {A : Nat → Int → Int} (hI : MI sz A) (x h y c : Int) {t : Int} (h0 : 0 ≤ t) (h1 : t < A 42 12) : mSet A x h y c / 2 ^ t.toNat % 2 = 1 ↔ mIn A x h y c t := by
  have := mSet_bitN A x h y c (A 42 12).toNat t.toNat (by omega)
  rw [this, show ((t.toNat : Nat) : Int) = t by omega]
theorem mMany_pos (A : Nat → Int → Int) (x h y c : Int) : ∀ (n t : Nat), t < n → mIn A x h y c t → 1 ≤ mManyN A x h y c n := by
  intro n
  induction n with
  | zero => intro t h; omega
  | succ n ih =>
    intro t ht hq
    have hm := (mSM_s (A := A) (x := x) (h := h) (y := y) (c := c) (t := n) (by omega))
    have e0 : ((n : Int) + 1).toNat = n + 1 := by omega
    rw [e0] at hm
    simp only [Int.toNat_natCast] at hm
    have hr := mManyN_r A x h y c n
    by_cases q : mSh A x h y n c ∧ mManyN A x h y c n < 12
    · rw [(hm.1 q).1]; omega
    · rw [(hm.2 q).1]
      by_cases e : t = n
      · subst e
        unfold mIn at hq
        rw [Int.toNat_natCast] at hq
        exact absurd hq q
      · exact ih t (by omega) hq
theorem mMany_p {A : Nat → Int → Int} {x h y c t : Int} (h0 : 0 ≤ t) (h1 : t < A 42 12) (q : mIn A x h y c t) : 1 ≤ mMany A x h y c := mMany_pos A x h y c _ t.toNat (by omega) (by rw [show ((t.toNat : Nat) : Int) = t by omega]; exact q)
noncomputable abbrev mPf (A : Nat → Int → Int) (p c x h y : Int) : Int → Int := fun t => zit (mIn A x h y c t ∧ mWho A t x h y = p) (27720 / mMany A x h y c) 0
noncomputable def mPart (A : Nat → Int → Int) (p c x h y : Int) : Int := sumN (mPf A p c x h y) (A 42 12).toNat
theorem mPf_b (A : Nat → Int → Int) (p c x h y t : Int) : 0 ≤ mPf A p c x h y t ∧ mPf A p c x h y t ≤ 27720 := by
  have hr := mMany_r A x h y c
  have : 0 ≤ 27720 / mMany A x h y c ∧ 27720 / mMany A x h y c ≤ 27720 := ⟨Int.ediv_nonneg (by decide) hr.1, Int.ediv_le_self _ (by decide)⟩
  rcases zit_or (mIn A x h y c t ∧ mWho A t x h y = p) (27720 / mMany A x h y c) 0 with ⟨-, q⟩ | ⟨-, q⟩ <;> (show 0 ≤ zit _ _ _ ∧ zit _ _ _ ≤ 27720) <;> rw [q] <;> omega
theorem mPart_b {sz : Nat} {A : Nat → Int → Int} (hI : MI sz A) (p c x h y : Int) : 0 ≤ mPart A p c x h y ∧ mPart A p c x h y ≤ 665280 := by
  have h1 := sumN_b (f := mPf A p c x h y) (M := 27720) (A 42 12).toNat (fun i _ _ => mPf_b A p c x h y i)
  have := hI.things
  unfold mPart
  omega
theorem mPart_0 {A : Nat → Int → Int} {p c x h y : Int} (q : mMany A x h y c ≤ 0) : mPart A p c x h y = 0 := by
  unfold mPart
  rw [sumN_congr (g := fun _ => 0) _ (fun i a b => zit_f (fun r => by have := mMany_p a (by omega) r.1; omega))]
  generalize (A 42 12).toNat = n
  induction n with
  | zero => rfl
  | succ n ih => unfold sumN; rw [ih]; rfl
noncomputable abbrev mHr (A : Nat → Int → Int) (p x y : Int) : Int → Int := fun h => sumN (fun c => mPart A p c x h y) (A 42 2).toNat
/-- a person's parts of a day -/
noncomputable def mDay (A : Nat → Int → Int) (p x y : Int) : Int := sumN (mHr A p x y) 12
set_option maxRecDepth 10000 in
set_option maxHeartbeats 2000000 in
theorem m_partsIn_l5 {d : Nat} {sz : Nat} {A : Nat → Int → Int} {σ : az_S} (hM : MV sz A σ) (hI : MI sz A) {x h y : Int} (hx0 : 0 ≤ x) (hx1 : x ≤ 3599) (hh0 : 0 ≤ h) (hh1 : h ≤ 11) (hy0 : 0 ≤ y) (hy1 : y ≤ 3599) (hL : LK A x h y σ) (hH : HK A x h y (A 42 12) σ) {p c : Int} (hp : inI p) (hc0 : 0 ≤ c) (hc1 : c < A 42 2) : ∀ (n : Nat) (t s : Int), (A 42 12 - t).toNat = n → 0 ≤ t → t ≤ A 42 12 → s = sumN (mPf A p c x h y) t.toNat → aw (d) k_X12_partsIn (some .int) (fun r τ => r = some (.int (iI (mPart A p c x h y))) ∧ τ = σ) 5 [some (.ref 42), some (.int (iI p)), some (.int (iI c)), some (.int (iI s)), some (.int (iI t))] [] σ := by
  intro n
  induction n using Nat.strongRecOn with
  | ind n ih =>
    intro t s hn ht0 ht1 hs
    obtain ⟨hp1, hp2⟩ := hp
    have hth := hI.things
    have hpe := hI.people
    have hce := hI.cells
    have hb := mSet_b hI x h y c
    have hq := sumN_s (f := mPf A p c x h y) ht0
    have hsb := sumN_b (f := mPf A p c x h y) (M := 27720) t.toNat (fun i _ _ => mPf_b A p c x h y i)
    rw [← hs] at hq hsb
    have hbit := fun q => mSet_bit hI x h y c ht0 q
    have p2b := p2_b (t := t) ht0
    refine aw_iload rfl rfl rfl ?_
    refine aw_aload_n rfl rfl rfl ?_
    refine aw_gp (12) hM rfl rfl (hM.f.k 42 rfl) rfl rfl (fun _ _ => ?_)
    refine aw_icmp (p' := 63) rfl ⟨by omega, by omega⟩ ⟨by omega, by omega⟩ rfl rfl (fun c1 => ?_) (fun c1 => ?_)
    · dsimp only [zc] at c1
      refine aw_iload_n rfl rfl rfl ?_
      refine aw_reti rfl ?_
      refine ⟨?_, rfl⟩
      rw [hs, show t = A 42 12 by omega]
      rfl
    · dsimp only [zc] at c1
      have hbit := hbit (by omega)
      have p2b := p2b (by omega)
      refine aw_iload_n rfl rfl rfl ?_
      refine aw_aload_n rfl rfl rfl ?_
      refine aw_getr (b := 89) rfl rfl (hM.f.k 42 rfl) (hM.f.r 42 72 89 rfl) rfl ?_
      refine aw_iload_n rfl rfl rfl ?_
      refine aw_as (N := 192) rfl (hM.f.s 89 rfl) (by omega) (by omega) (by omega) rfl (fun _ _ => ?_)
      rw [hL.set hc0 hc1]
      refine aw_iload rfl rfl rfl ?_
      refine aw_ishr rfl (by omega) (by omega) (by omega) (by omega) rfl ?_
      have hdq : 0 ≤ mSet A x h y c / 2 ^ t.toNat := Int.ediv_nonneg (by omega) (by omega)
      refine aw_iconst rfl rfl ?_
      refine aw_iand1 rfl (by omega) rfl ?_
      refine aw_iconst rfl rfl ?_
      refine aw_icmp (p' := 54) rfl ⟨by omega, by omega⟩ ⟨by omega, by omega⟩ rfl rfl (fun c2 => ?_) (fun c2 => ?_)
      · dsimp only [zc] at c2
        refine aw_iconst rfl rfl ?_
        refine aw_iadd rfl rfl ?_
        refine aw_istore_n rfl (Nat.le_of_ble_eq_true rfl) rfl rfl ?_
        change aw _ _ _ _ 57 [some (.ref 42), some (.int (iI _)), some (.int (iI _)), some (.int (iI _)), some (.int (iI _))] _ _
        refine aw_iinc rfl rfl rfl rfl ?_
        change aw _ _ _ _ 60 [some (.ref 42), some (.int (iI _)), some (.int (iI _)), some (.int (iI _)), some (.int (iI _))] _ _
        refine aw_goto (p' := 5) rfl rfl ?_
        refine ih _ (by omega) _ _ rfl (by omega) (by omega) ?_
        rw [hq]
        show _ = s + zit _ _ _
        first | rw [zit_t ⟨hbit.mp (by omega), by omega⟩] | rw [zit_f (by rintro ⟨q1, q2⟩; first | omega | (have := hbit.mpr q1; omega))]
      · dsimp only [zc] at c2
        refine aw_aload_n rfl rfl rfl ?_
        refine aw_getr (b := 93) rfl rfl (hM.f.k 42 rfl) (hM.f.r 42 76 93 rfl) rfl ?_
        refine aw_iload rfl rfl rfl ?_
        refine aw_as (N := 24) rfl (hM.f.s 93 rfl) (by omega) (by omega) (by omega) rfl (fun _ _ => ?_)
        rw [hH t ht0 (by omega)]
        have hw := mWho_r (x := x) (h := h) (y := y) hI ht0 (by omega)
        refine aw_iload_n rfl rfl rfl ?_
        refine aw_icmp (p' := 54) rfl ⟨by omega, by omega⟩ ⟨by omega, by omega⟩ rfl rfl (fun c3 => ?_) (fun c3 => ?_)
        · dsimp only [zc] at c3
          refine aw_iconst rfl rfl ?_
          refine aw_iadd rfl rfl ?_
          refine aw_istore_n rfl (Nat.le_of_ble_eq_true rfl) rfl rfl ?_
          change aw _ _ _ _ 57 [some (.ref 42), some (.int (iI _)), some (.int (iI _)), some (.int (iI _)), some (.int (iI _))] _ _
          refine aw_iinc rfl rfl rfl rfl ?_
          change aw _ _ _ _ 60 [some (.ref 42), some (.int (iI _)), some (.int (iI _)), some (.int (iI _)), some (.int (iI _))] _ _
          refine aw_goto (p' := 5) rfl rfl ?_
          refine ih _ (by omega) _ _ rfl (by omega) (by omega) ?_
          rw [hq]
          show _ = s + zit _ _ _
          first | rw [zit_t ⟨hbit.mp (by omega), by omega⟩] | rw [zit_f (by rintro ⟨q1, q2⟩; first | omega | (have := hbit.mpr q1; omega))]
        · dsimp only [zc] at c3
          refine aw_sipush rfl rfl rfl ?_
          refine aw_aload_n rfl rfl rfl ?_
          refine aw_getr (b := 90) rfl rfl (hM.f.k 42 rfl) (hM.f.r 42 73 90 rfl) rfl ?_
          refine aw_iload_n rfl rfl rfl ?_
          refine aw_as (N := 192) rfl (hM.f.s 90 rfl) (by omega) (by omega) (by omega) rfl (fun _ _ => ?_)
          rw [hL.many hc0 hc1]
          have hmp := mMany_p ht0 (by omega) (hbit.mp (by omega))
          have hmr := mMany_r A x h y c
          have hdv := div_b (a := 27720) (g := mMany A x h y c) (by omega) (by omega)
          refine aw_idiv rfl (by omega) (by omega) (by omega) (by omega) rfl ?_
          refine aw_goto (p' := 55) rfl rfl ?_
          refine aw_iadd rfl rfl ?_
          refine aw_istore_n rfl (Nat.le_of_ble_eq_true rfl) rfl rfl ?_
          change aw _ _ _ _ 57 [some (.ref 42), some (.int (iI _)), some (.int (iI _)), some (.int (iI _)), some (.int (iI _))] _ _
          refine aw_iinc rfl rfl rfl rfl ?_
          change aw _ _ _ _ 60 [some (.ref 42), some (.int (iI _)), some (.int (iI _)), some (.int (iI _)), some (.int (iI _))] _ _
          refine aw_goto (p' := 5) rfl rfl ?_
          refine ih _ (by omega) _ _ rfl (by omega) (by omega) ?_
          rw [hq]
          show _ = s + zit _ _ _
          first | rw [zit_t ⟨hbit.mp (by omega), by omega⟩] | rw [zit_f (by rintro ⟨q1, q2⟩; first | omega | (have := hbit.mpr q1; omega))]
set_option maxRecDepth 10000 in
set_option maxHeartbeats 2000000 in
theorem m_partsIn {d : Nat} {sz : Nat} {A : Nat → Int → Int} {σ : az_S} (hM : MV sz A σ) (hI : MI sz A) {x h y : Int} (hx0 : 0 ≤ x) (hx1 : x ≤ 3599) (hh0 : 0 ≤ h) (hh1 : h ≤ 11) (hy0 : 0 ≤ y) (hy1 : y ≤ 3599) (hL : LK A x h y σ) (hH : HK A x h y (A 42 12) σ) {p c : Int} (hp : inI p) (hc0 : 0 ≤ c) (hc1 : c < A 42 2) : fn (d + 1) 196 [.ref 42, .int (iI p), .int (iI c)] σ (.int (iI (mPart A p c x h y))) := by
  obtain ⟨hp1, hp2⟩ := hp
  have hth := hI.things
  have hpe := hI.people
  have hce := hI.cells
  have hb := mSet_b hI x h y c
  refine fn_of (M := (yX12_partsIn, cX12_partsIn, 5, (some .int))) (cd := k_X12_partsIn) (L := [some (.ref 42), some (.int (iI p)), some (.int (iI c)), none, none]) rfl (Nat.le_of_ble_eq_true rfl) rfl rfl ?_
  refine aw_iconst rfl rfl ?_
  refine aw_istore_n rfl (Nat.le_of_ble_eq_true rfl) rfl rfl ?_
  change aw _ _ _ _ 2 [some (.ref 42), some (.int (iI _)), some (.int (iI _)), some (.int (iI _)), none] _ _
  refine aw_iconst rfl rfl ?_
  refine aw_istore rfl (Nat.le_of_ble_eq_true rfl) rfl rfl ?_
  change aw _ _ _ _ 5 [some (.ref 42), some (.int (iI _)), some (.int (iI _)), some (.int (iI _)), some (.int (iI _))] _ _
  exact m_partsIn_l5 hM hI hx0 hx1 hh0 hh1 hy0 hy1 hL hH ⟨hp1, hp2⟩ hc0 hc1 _ 0 0 rfl (by omega) (by omega) rfl
set_option maxRecDepth 10000 in
set_option maxHeartbeats 2000000 in
theorem m_parts {d : Nat} {sz : Nat} {A : Nat → Int → Int} {σ : az_S} (hM : MV sz A σ) (hI : MI sz A) {p c x h y : Int} (hp : inI p) (hc : inI c) (hx : inI x) (hh : inI h) (hy : inI y) : cal (d + 5) 197 [.ref 42, .int (iI p), .int (iI c), .int (iI x), .int (iI h), .int (iI y)] σ (fun r τ => r = some (.int (iI (zit ((0 ≤ p ∧ p ≤ A 42 9 - 1) ∧ (0 ≤ c ∧ c ≤ A 42 2 - 1) ∧ (0 ≤ x ∧ x ≤ 3599) ∧ (0 ≤ h ∧ h ≤ 11) ∧ (0 ≤ y ∧ y ≤ 3599)) (mPart A p c x h y) (-1)))) ∧ MV sz A τ ∧ Mod σ τ [88, 89, 90, 91, 92, 93]) := by
  obtain ⟨hp1, hp2⟩ := hp
  obtain ⟨hc1, hc2⟩ := hc
  obtain ⟨hx1, hx2⟩ := hx
  obtain ⟨hh1, hh2⟩ := hh
  obtain ⟨hy1, hy2⟩ := hy
  have hce := hI.cells
  refine cal_of (M := (yX12_parts, cX12_parts, 6, (some .int))) (cd := k_X12_parts) (L := [some (.ref 42), some (.int (iI p)), some (.int (iI c)), some (.int (iI x)), some (.int (iI h)), some (.int (iI y))]) rfl (Nat.le_of_ble_eq_true rfl) rfl rfl ?_
  refine aw_aload_n rfl rfl rfl ?_
  refine aw_iload_n rfl rfl rfl ?_
  refine aw_fnc (m_isPerson hM hI ⟨by omega, by omega⟩) rfl rfl rfl (Nat.le_of_ble_eq_true rfl) (Or.inr ⟨_, rfl, (hM.f.k 42 rfl)⟩) rfl ?_
  refine aw_ifeqb (p' := 28) rfl rfl rfl (fun c1 => ?_) (fun c1 => ?_)
  · refine aw_iconst rfl rfl ?_
    refine aw_reti rfl ?_
    first | (refine ⟨?_, hM, Mod.rf⟩; rw [zit_f (by omega)]; done) | (refine ⟨?_, hM, Mod.rf⟩; rw [zit_t (by omega)])
  · refine aw_aload_n rfl rfl rfl ?_
    refine aw_iload_n rfl rfl rfl ?_
    refine aw_fnc (m_isCell hM hI ⟨by omega, by omega⟩) rfl rfl rfl (Nat.le_of_ble_eq_true rfl) (Or.inr ⟨_, rfl, (hM.f.k 42 rfl)⟩) rfl ?_
    refine aw_ifeqb (p' := 28) rfl rfl rfl (fun c2 => ?_) (fun c2 => ?_)
    · refine aw_iconst rfl rfl ?_
      refine aw_reti rfl ?_
      first | (refine ⟨?_, hM, Mod.rf⟩; rw [zit_f (by omega)]; done) | (refine ⟨?_, hM, Mod.rf⟩; rw [zit_t (by omega)])
    · refine aw_aload_n rfl rfl rfl ?_
      refine aw_iload_n rfl rfl rfl ?_
      refine aw_iload rfl rfl rfl ?_
      refine aw_iload rfl rfl rfl ?_
      refine aw_fnc (m_isAsked hM hI ⟨by omega, by omega⟩ ⟨by omega, by omega⟩ ⟨by omega, by omega⟩) rfl rfl rfl (Nat.le_of_ble_eq_true rfl) (Or.inr ⟨_, rfl, (hM.f.k 42 rfl)⟩) rfl ?_
      refine aw_ifneb (p' := 30) rfl rfl rfl (fun c3 => ?_) (fun c3 => ?_)
      · refine aw_aload_n rfl rfl rfl ?_
        refine aw_iload_n rfl rfl rfl ?_
        refine aw_iload rfl rfl rfl ?_
        refine aw_iload rfl rfl rfl ?_
        refine aw_calc (m_looks hM hI (by omega) (by omega) (by omega) (by omega) (by omega) (by omega)) rfl rfl rfl (Nat.le_of_ble_eq_true rfl) (Or.inr ⟨_, rfl, (hM.f.k 42 rfl)⟩) rfl ?_
        rintro _ τ4 ⟨rfl, hM4, hD4, hU4⟩
        change aw _ _ _ _ 39 [some (.ref 42), some (.int (iI _)), some (.int (iI _)), some (.int (iI _)), some (.int (iI _)), some (.int (iI _))] [] _
        refine aw_aload_n rfl rfl rfl ?_
        refine aw_iload_n rfl rfl rfl ?_
        refine aw_iload rfl rfl rfl ?_
        refine aw_iload rfl rfl rfl ?_
        refine aw_calc (m_holds hM4 hI (by omega) (by omega) (by omega) (by omega) (by omega) (by omega)) rfl rfl rfl (Nat.le_of_ble_eq_true rfl) (Or.inr ⟨_, rfl, (hM4.f.k 42 rfl)⟩) rfl ?_
        rintro _ τ5 ⟨rfl, hM5, hD5, hU5⟩
        change aw _ _ _ _ 48 [some (.ref 42), some (.int (iI _)), some (.int (iI _)), some (.int (iI _)), some (.int (iI _)), some (.int (iI _))] [] _
        refine aw_aload_n rfl rfl rfl ?_
        refine aw_iload_n rfl rfl rfl ?_
        refine aw_iload_n rfl rfl rfl ?_
        refine aw_fnc (m_partsIn hM5 hI (by omega) (by omega) (by omega) (by omega) (by omega) (by omega) (hU4.mod hD5 rfl rfl rfl rfl) hU5 ⟨by omega, by omega⟩ (by omega) (by omega)) rfl rfl rfl (Nat.le_of_ble_eq_true rfl) (Or.inr ⟨_, rfl, (hM5.f.k 42 rfl)⟩) rfl ?_
        refine aw_reti rfl ?_
        first | (refine ⟨?_, hM, Mod.rf⟩; rw [zit_f (by omega)]; done) | (refine ⟨?_, hM5, ((hD4.su (T := [88, 89, 90, 91, 92, 93]) rfl).tr (hD5.su (T := [88, 89, 90, 91, 92, 93]) rfl))⟩; rw [zit_t (by omega)])
      · refine aw_iconst rfl rfl ?_
        refine aw_reti rfl ?_
        first | (refine ⟨?_, hM, Mod.rf⟩; rw [zit_f (by omega)]; done) | (refine ⟨?_, hM, Mod.rf⟩; rw [zit_t (by omega)])
set_option maxRecDepth 10000 in
set_option maxHeartbeats 2000000 in
theorem m_partsOn_l32 {d : Nat} {sz : Nat} {A : Nat → Int → Int} {σ : az_S} (hM : MV sz A σ) (hI : MI sz A) {p x y : Int} (hp : inI p) (hx0 : 0 ≤ x) (hx1 : x ≤ 3599) (hy0 : 0 ≤ y) (hy1 : y ≤ 3599) {h s0 : Int} (hh0 : 0 ≤ h) (hh1 : h ≤ 11) (hK : ∀ (τ : az_S) (s : Int) (v : Option Value), MV sz A τ → Mod σ τ [88, 89, 90, 91, 92, 93] → s = s0 + mHr A p x y h → aw (d + 4) k_X12_partsOn (some .long) (fun r τ => r = some (.long (lI (mDay A p x y))) ∧ MV sz A τ ∧ Mod σ τ [88, 89, 90, 91, 92, 93]) 6 [some (.ref 42), some (.int (iI p)), some (.int (iI x)), some (.int (iI y)), some (.long (lI s)), none, some (.int (iI (h + 1))), v] [] τ) : ∀ (n : Nat) (τ : az_S) (c s : Int), (A 42 2 - c).toNat = n → MV sz A τ → Mod σ τ [88, 89, 90, 91, 92, 93] → 0 ≤ c → c ≤ A 42 2 → LK A x h y τ → HK A x h y (A 42 12) τ → s = s0 + sumN (fun c => mPart A p c x h y) c.toNat → aw (d + 4) k_X12_partsOn (some .long) (fun r τ => r = some (.long (lI (mDay A p x y))) ∧ MV sz A τ ∧ Mod σ τ [88, 89, 90, 91, 92, 93]) 32 [some (.ref 42), some (.int (iI p)), some (.int (iI x)), some (.int (iI y)), some (.long (lI s)), none, some (.int (iI h)), some (.int (iI c))] [] τ := by
  intro n
  induction n using Nat.strongRecOn with
  | ind n ih =>
    intro τ c s hn hN hD hc0 hc1 hL hH hs
    obtain ⟨hp1, hp2⟩ := hp
    have hce := hI.cells
    have hq := sumN_s (f := fun c => mPart A p c x h y) hc0
    have hpb := mPart_b hI p c x h y
    have hmr := mMany_r A x h y c
    refine aw_iload rfl rfl rfl ?_
    refine aw_aload_n rfl rfl rfl ?_
    refine aw_gp (2) hN rfl rfl (hN.f.k 42 rfl) rfl rfl (fun _ _ => ?_)
    refine aw_icmp (p' := 74) rfl ⟨by omega, by omega⟩ ⟨by omega, by omega⟩ rfl rfl (fun c1 => ?_) (fun c1 => ?_)
    · dsimp only [zc] at c1
      refine aw_iinc rfl rfl rfl rfl ?_
      change aw _ _ _ _ 77 [some (.ref 42), some (.int (iI _)), some (.int (iI _)), some (.int (iI _)), some (.long (lI _)), none, some (.int (iI _)), some (.int (iI _))] _ _
      refine aw_goto (p' := 6) rfl rfl ?_
      exact hK _ _ _ hN (hD.su (T := [88, 89, 90, 91, 92, 93]) rfl) (by rw [hs, show c = A 42 2 by omega])
    · dsimp only [zc] at c1
      refine aw_lload rfl rfl rfl ?_
      refine aw_aload_n rfl rfl rfl ?_
      refine aw_getr (b := 90) rfl rfl (hN.f.k 42 rfl) (hN.f.r 42 73 90 rfl) rfl ?_
      refine aw_iload rfl rfl rfl ?_
      refine aw_as (N := 192) rfl (hN.f.s 90 rfl) (by omega) (by omega) (by omega) rfl (fun _ _ => ?_)
      rw [hL.many hc0 (by omega)]
      refine aw_if (p' := 64) rfl ⟨by omega, by omega⟩ rfl rfl (fun c2 => ?_) (fun c2 => ?_)
      · dsimp only [zc] at c2
        refine aw_lconst 0 rfl rfl rfl ?_
        refine aw_ladd rfl rfl ?_
        refine aw_lstore rfl (Nat.le_of_ble_eq_true rfl) rfl rfl ?_
        change aw _ _ _ _ 68 [some (.ref 42), some (.int (iI _)), some (.int (iI _)), some (.int (iI _)), some (.long (lI _)), none, some (.int (iI _)), some (.int (iI _))] _ _
        refine aw_iinc rfl rfl rfl rfl ?_
        change aw _ _ _ _ 71 [some (.ref 42), some (.int (iI _)), some (.int (iI _)), some (.int (iI _)), some (.long (lI _)), none, some (.int (iI _)), some (.int (iI _))] _ _
        refine aw_goto (p' := 32) rfl rfl ?_
        refine ih _ (by omega) _ _ _ rfl hN (hD.su (T := [88, 89, 90, 91, 92, 93]) rfl) (by omega) (by omega) hL hH ?_
        rw [hq, hs]
        first | omega | (rw [mPart_0 (by omega)]; omega)
      · dsimp only [zc] at c2
        refine aw_aload_n rfl rfl rfl ?_
        refine aw_iload_n rfl rfl rfl ?_
        refine aw_iload rfl rfl rfl ?_
        refine aw_fnc (m_partsIn hN hI hx0 hx1 hh0 (by omega) hy0 hy1 hL hH ⟨by omega, by omega⟩ (by omega) (by omega)) rfl rfl rfl (Nat.le_of_ble_eq_true rfl) (Or.inr ⟨_, rfl, (hN.f.k 42 rfl)⟩) rfl ?_
        refine aw_i2l rfl ⟨by omega, by omega⟩ rfl ?_
        refine aw_goto (p' := 65) rfl rfl ?_
        refine aw_ladd rfl rfl ?_
        refine aw_lstore rfl (Nat.le_of_ble_eq_true rfl) rfl rfl ?_
        change aw _ _ _ _ 68 [some (.ref 42), some (.int (iI _)), some (.int (iI _)), some (.int (iI _)), some (.long (lI _)), none, some (.int (iI _)), some (.int (iI _))] _ _
        refine aw_iinc rfl rfl rfl rfl ?_
        change aw _ _ _ _ 71 [some (.ref 42), some (.int (iI _)), some (.int (iI _)), some (.int (iI _)), some (.long (lI _)), none, some (.int (iI _)), some (.int (iI _))] _ _
        refine aw_goto (p' := 32) rfl rfl ?_
        refine ih _ (by omega) _ _ _ rfl hN (hD.su (T := [88, 89, 90, 91, 92, 93]) rfl) (by omega) (by omega) hL hH ?_
        rw [hq, hs]
        first | omega | (rw [mPart_0 (by omega)]; omega)
set_option maxRecDepth 10000 in
set_option maxHeartbeats 2000000 in
theorem m_partsOn_l6 {d : Nat} {sz : Nat} {A : Nat → Int → Int} {σ : az_S} (hM : MV sz A σ) (hI : MI sz A) {p x y : Int} (hp : inI p) (hx0 : 0 ≤ x) (hx1 : x ≤ 3599) (hy0 : 0 ≤ y) (hy1 : y ≤ 3599) : ∀ (n : Nat) (τ : az_S) (h s : Int) (v : Option Value), (12 - h).toNat = n → MV sz A τ → Mod σ τ [88, 89, 90, 91, 92, 93] → 0 ≤ h → h ≤ 12 → s = sumN (mHr A p x y) h.toNat → aw (d + 4) k_X12_partsOn (some .long) (fun r τ => r = some (.long (lI (mDay A p x y))) ∧ MV sz A τ ∧ Mod σ τ [88, 89, 90, 91, 92, 93]) 6 [some (.ref 42), some (.int (iI p)), some (.int (iI x)), some (.int (iI y)), some (.long (lI s)), none, some (.int (iI h)), v] [] τ := by
  intro n
  induction n using Nat.strongRecOn with
  | ind n ih =>
    intro τ h s v hn hN hD hh0 hh1 hs
    obtain ⟨hp1, hp2⟩ := hp
    have hce := hI.cells
    refine aw_iload rfl rfl rfl ?_
    refine aw_bipush rfl rfl rfl ?_
    refine aw_icmp (p' := 80) rfl ⟨by omega, by omega⟩ ⟨by omega, by omega⟩ rfl rfl (fun c3 => ?_) (fun c3 => ?_)
    · dsimp only [zc] at c3
      refine aw_lload rfl rfl rfl ?_
      refine aw_retl rfl ?_
      refine ⟨?_, hN, (hD.su (T := [88, 89, 90, 91, 92, 93]) rfl)⟩
      rw [hs, show h = 12 by omega]
      rfl
    · dsimp only [zc] at c3
      refine aw_aload_n rfl rfl rfl ?_
      refine aw_iload_n rfl rfl rfl ?_
      refine aw_iload rfl rfl rfl ?_
      refine aw_iload_n rfl rfl rfl ?_
      refine aw_calc (m_looks hN hI (by omega) (by omega) (by omega) (by omega) (by omega) (by omega)) rfl rfl rfl (Nat.le_of_ble_eq_true rfl) (Or.inr ⟨_, rfl, (hN.f.k 42 rfl)⟩) rfl ?_
      rintro _ τ4 ⟨rfl, hM4, hD4, hU4⟩
      change aw _ _ _ _ 21 [some (.ref 42), some (.int (iI _)), some (.int (iI _)), some (.int (iI _)), some (.long (lI _)), none, some (.int (iI _)), _] [] _
      refine aw_aload_n rfl rfl rfl ?_
      refine aw_iload_n rfl rfl rfl ?_
      refine aw_iload rfl rfl rfl ?_
      refine aw_iload_n rfl rfl rfl ?_
      refine aw_calc (m_holds hM4 hI (by omega) (by omega) (by omega) (by omega) (by omega) (by omega)) rfl rfl rfl (Nat.le_of_ble_eq_true rfl) (Or.inr ⟨_, rfl, (hM4.f.k 42 rfl)⟩) rfl ?_
      rintro _ τ5 ⟨rfl, hM5, hD5, hU5⟩
      change aw _ _ _ _ 29 [some (.ref 42), some (.int (iI _)), some (.int (iI _)), some (.int (iI _)), some (.long (lI _)), none, some (.int (iI _)), _] [] _
      refine aw_iconst rfl rfl ?_
      refine aw_istore rfl (Nat.le_of_ble_eq_true rfl) rfl rfl ?_
      change aw _ _ _ _ 32 [some (.ref 42), some (.int (iI _)), some (.int (iI _)), some (.int (iI _)), some (.long (lI _)), none, some (.int (iI _)), some (.int (iI _))] _ _
      exact m_partsOn_l32 hM hI ⟨hp1, hp2⟩ hx0 hx1 hy0 hy1 (s0 := s) hh0 (by omega) (fun τ s1 v k1 k2 k3 => ih _ (by omega) _ _ _ _ rfl k1 k2 (by omega) (by omega) (by rw [k3, hs, ← sumN_s hh0])) _ _ 0 _ rfl hM5 (((hD.su (T := [88, 89, 90, 91, 92, 93]) rfl).tr (hD4.su (T := [88, 89, 90, 91, 92, 93]) rfl)).tr (hD5.su (T := [88, 89, 90, 91, 92, 93]) rfl)) (by omega) (by omega) (hU4.mod hD5 rfl rfl rfl rfl) hU5 (by rw [show (0 : Int).toNat = 0 from rfl]; unfold sumN; omega)
set_option maxRecDepth 10000 in
set_option maxHeartbeats 2000000 in
theorem m_partsOn {d : Nat} {sz : Nat} {A : Nat → Int → Int} {σ : az_S} (hM : MV sz A σ) (hI : MI sz A) {p x y : Int} (hp : inI p) (hx0 : 0 ≤ x) (hx1 : x ≤ 3599) (hy0 : 0 ≤ y) (hy1 : y ≤ 3599) : cal (d + 5) 198 [.ref 42, .int (iI p), .int (iI x), .int (iI y)] σ (fun r τ => r = some (.long (lI (mDay A p x y))) ∧ MV sz A τ ∧ Mod σ τ [88, 89, 90, 91, 92, 93]) := by
  obtain ⟨hp1, hp2⟩ := hp
  have hce := hI.cells
  refine cal_of (M := (yX12_partsOn, cX12_partsOn, 8, (some .long))) (cd := k_X12_partsOn) (L := [some (.ref 42), some (.int (iI p)), some (.int (iI x)), some (.int (iI y)), none, none, none, none]) rfl (Nat.le_of_ble_eq_true rfl) rfl rfl ?_
  refine aw_lconst 0 rfl rfl rfl ?_
  refine aw_lstore rfl (Nat.le_of_ble_eq_true rfl) rfl rfl ?_
  change aw _ _ _ _ 3 [some (.ref 42), some (.int (iI _)), some (.int (iI _)), some (.int (iI _)), some (.long (lI _)), none, none, none] _ _
  refine aw_iconst rfl rfl ?_
  refine aw_istore rfl (Nat.le_of_ble_eq_true rfl) rfl rfl ?_
  change aw _ _ _ _ 6 [some (.ref 42), some (.int (iI _)), some (.int (iI _)), some (.int (iI _)), some (.long (lI _)), none, some (.int (iI _)), none] _ _
  exact m_partsOn_l6 hM hI ⟨hp1, hp2⟩ hx0 hx1 hy0 hy1 _ _ 0 0 _ rfl hM Mod.rf (by omega) (by omega) rfl
noncomputable def mAcc (A : Nat → Int → Int) (p u v y : Int) : Int := sumN (fun i => mDay A p (u + i) y) (v - u + 1).toNat
set_option maxRecDepth 10000 in
set_option maxHeartbeats 2000000 in
theorem m_account_l54 {d : Nat} {sz : Nat} {A : Nat → Int → Int} {σ : az_S} (hM : MV sz A σ) (hI : MI sz A) {p u v y : Int} (hp : inI p) (hu : inI u) (hv : inI v) (hy : inI y) : ∀ (n : Nat) (τ : az_S) (x s : Int), (v + 1 - x).toNat = n → ((0 ≤ p ∧ p ≤ A 42 9 - 1) ∧ (0 ≤ u ∧ u ≤ 3599) ∧ (u ≤ v ∧ v ≤ 3599) ∧ v - u ≤ 59 ∧ (0 ≤ y ∧ y ≤ 3599)) → MV sz A τ → Mod σ τ [88, 89, 90, 91, 92, 93] → u ≤ x → x ≤ v + 1 → s = sumN (fun i => mDay A p (u + i) y) (x - u).toNat → aw (d + 5) k_X12_account (some .long) (fun r τ => r = some (.long (lI (zit ((0 ≤ p ∧ p ≤ A 42 9 - 1) ∧ (0 ≤ u ∧ u ≤ 3599) ∧ (u ≤ v ∧ v ≤ 3599) ∧ v - u ≤ 59 ∧ (0 ≤ y ∧ y ≤ 3599)) (mAcc A p u v y) (-1)))) ∧ MV sz A τ ∧ Mod σ τ [88, 89, 90, 91, 92, 93]) 54 [some (.ref 42), some (.int (iI p)), some (.int (iI u)), some (.int (iI v)), some (.int (iI y)), some (.long (lI s)), none, some (.int (iI x))] [] τ := by
  intro n
  induction n using Nat.strongRecOn with
  | ind n ih =>
    intro τ x s hn hok hN hD hx0 hx1 hs
    obtain ⟨hp1, hp2⟩ := hp
    obtain ⟨hu1, hu2⟩ := hu
    obtain ⟨hv1, hv2⟩ := hv
    obtain ⟨hy1, hy2⟩ := hy
    have hpe := hI.people
    refine aw_iload rfl rfl rfl ?_
    refine aw_iload_n rfl rfl rfl ?_
    refine aw_icmp (p' := 80) rfl ⟨by omega, by omega⟩ ⟨by omega, by omega⟩ rfl rfl (fun c1 => ?_) (fun c1 => ?_)
    · dsimp only [zc] at c1
      refine aw_lload rfl rfl rfl ?_
      refine aw_retl rfl ?_
      refine ⟨?_, hN, (hD.su (T := [88, 89, 90, 91, 92, 93]) rfl)⟩
      rw [zit_t hok, hs, show x - u = v - u + 1 by omega]
      rfl
    · dsimp only [zc] at c1
      refine aw_lload rfl rfl rfl ?_
      refine aw_aload_n rfl rfl rfl ?_
      refine aw_iload_n rfl rfl rfl ?_
      refine aw_iload rfl rfl rfl ?_
      refine aw_iload rfl rfl rfl ?_
      refine aw_calc (m_partsOn hN hI ⟨by omega, by omega⟩ (by omega) (by omega) (by omega) (by omega)) rfl rfl rfl (Nat.le_of_ble_eq_true rfl) (Or.inr ⟨_, rfl, (hN.f.k 42 rfl)⟩) rfl ?_
      rintro _ τ2 ⟨rfl, hM2, hD2⟩
      change aw _ _ _ _ 71 [some (.ref 42), some (.int (iI _)), some (.int (iI _)), some (.int (iI _)), some (.int (iI _)), some (.long (lI _)), none, some (.int (iI _))] [.long (lI _), .long (lI _)] _
      refine aw_ladd rfl rfl ?_
      refine aw_lstore rfl (Nat.le_of_ble_eq_true rfl) rfl rfl ?_
      change aw _ _ _ _ 74 [some (.ref 42), some (.int (iI _)), some (.int (iI _)), some (.int (iI _)), some (.int (iI _)), some (.long (lI _)), none, some (.int (iI _))] _ _
      refine aw_iinc rfl rfl rfl rfl ?_
      change aw _ _ _ _ 77 [some (.ref 42), some (.int (iI _)), some (.int (iI _)), some (.int (iI _)), some (.int (iI _)), some (.long (lI _)), none, some (.int (iI _))] _ _
      refine aw_goto (p' := 54) rfl rfl ?_
      refine ih _ (by omega) _ _ _ rfl hok hM2 ((hD.su (T := [88, 89, 90, 91, 92, 93]) rfl).tr (hD2.su (T := [88, 89, 90, 91, 92, 93]) rfl)) (by omega) (by omega) ?_
      have hq := sumN_s (f := fun i => mDay A p (u + i) y) (t := x - u) (by omega)
      rw [show x + 1 - u = x - u + 1 by omega, hq, hs, show u + (x - u) = x by omega]
set_option maxRecDepth 10000 in
set_option maxHeartbeats 2000000 in
theorem m_account {d : Nat} {sz : Nat} {A : Nat → Int → Int} {σ : az_S} (hM : MV sz A σ) (hI : MI sz A) {p u v y : Int} (hp : inI p) (hu : inI u) (hv : inI v) (hy : inI y) : cal (d + 6) 199 [.ref 42, .int (iI p), .int (iI u), .int (iI v), .int (iI y)] σ (fun r τ => r = some (.long (lI (zit ((0 ≤ p ∧ p ≤ A 42 9 - 1) ∧ (0 ≤ u ∧ u ≤ 3599) ∧ (u ≤ v ∧ v ≤ 3599) ∧ v - u ≤ 59 ∧ (0 ≤ y ∧ y ≤ 3599)) (mAcc A p u v y) (-1)))) ∧ MV sz A τ ∧ Mod σ τ [88, 89, 90, 91, 92, 93]) := by
  obtain ⟨hp1, hp2⟩ := hp
  obtain ⟨hu1, hu2⟩ := hu
  obtain ⟨hv1, hv2⟩ := hv
  obtain ⟨hy1, hy2⟩ := hy
  have hpe := hI.people
  refine cal_of (M := (yX12_account, cX12_account, 8, (some .long))) (cd := k_X12_account) (L := [some (.ref 42), some (.int (iI p)), some (.int (iI u)), some (.int (iI v)), some (.int (iI y)), none, none, none]) rfl (Nat.le_of_ble_eq_true rfl) rfl rfl ?_
  refine aw_aload_n rfl rfl rfl ?_
  refine aw_iload_n rfl rfl rfl ?_
  refine aw_fnc (m_isPerson hM hI ⟨by omega, by omega⟩) rfl rfl rfl (Nat.le_of_ble_eq_true rfl) (Or.inr ⟨_, rfl, (hM.f.k 42 rfl)⟩) rfl ?_
  refine aw_ifeqb (p' := 44) rfl rfl rfl (fun c3 => ?_) (fun c3 => ?_)
  · refine aw_ldc2 (-1) rfl rfl rfl ?_
    refine aw_retl rfl ?_
    refine ⟨?_, hM, Mod.rf⟩
    rw [zit_f (by omega)]
  · refine aw_iload_n rfl rfl rfl ?_
    refine aw_fnc (m_isDay ⟨by omega, by omega⟩) rfl rfl rfl (Nat.le_of_ble_eq_true rfl) (Or.inl rfl) rfl ?_
    refine aw_ifeqb (p' := 44) rfl rfl rfl (fun c4 => ?_) (fun c4 => ?_)
    · refine aw_ldc2 (-1) rfl rfl rfl ?_
      refine aw_retl rfl ?_
      refine ⟨?_, hM, Mod.rf⟩
      rw [zit_f (by omega)]
    · refine aw_iload_n rfl rfl rfl ?_
      refine aw_i2l rfl ⟨by omega, by omega⟩ rfl ?_
      refine aw_iload_n rfl rfl rfl ?_
      refine aw_i2l rfl ⟨by omega, by omega⟩ rfl ?_
      refine aw_ldc2 (3599) rfl rfl rfl ?_
      refine aw_fnc (m_in ⟨by omega, by omega⟩ ⟨by omega, by omega⟩ ⟨by omega, by omega⟩) rfl rfl rfl (Nat.le_of_ble_eq_true rfl) (Or.inl rfl) rfl ?_
      refine aw_ifeqb (p' := 44) rfl rfl rfl (fun c5 => ?_) (fun c5 => ?_)
      · refine aw_ldc2 (-1) rfl rfl rfl ?_
        refine aw_retl rfl ?_
        refine ⟨?_, hM, Mod.rf⟩
        rw [zit_f (by omega)]
      · refine aw_iload_n rfl rfl rfl ?_
        refine aw_iload_n rfl rfl rfl ?_
        refine aw_isub rfl rfl ?_
        refine aw_bipush rfl rfl rfl ?_
        refine aw_icmp (p' := 44) rfl ⟨by omega, by omega⟩ ⟨by omega, by omega⟩ rfl rfl (fun c6 => ?_) (fun c6 => ?_)
        · dsimp only [zc] at c6
          refine aw_ldc2 (-1) rfl rfl rfl ?_
          refine aw_retl rfl ?_
          refine ⟨?_, hM, Mod.rf⟩
          rw [zit_f (by omega)]
        · dsimp only [zc] at c6
          refine aw_iload rfl rfl rfl ?_
          refine aw_fnc (m_isDay ⟨by omega, by omega⟩) rfl rfl rfl (Nat.le_of_ble_eq_true rfl) (Or.inl rfl) rfl ?_
          refine aw_ifneb (p' := 48) rfl rfl rfl (fun c7 => ?_) (fun c7 => ?_)
          · refine aw_lconst 0 rfl rfl rfl ?_
            refine aw_lstore rfl (Nat.le_of_ble_eq_true rfl) rfl rfl ?_
            change aw _ _ _ _ 51 [some (.ref 42), some (.int (iI _)), some (.int (iI _)), some (.int (iI _)), some (.int (iI _)), some (.long (lI _)), none, none] _ _
            refine aw_iload_n rfl rfl rfl ?_
            refine aw_istore rfl (Nat.le_of_ble_eq_true rfl) rfl rfl ?_
            change aw _ _ _ _ 54 [some (.ref 42), some (.int (iI _)), some (.int (iI _)), some (.int (iI _)), some (.int (iI _)), some (.long (lI _)), none, some (.int (iI _))] _ _
            exact m_account_l54 hM hI ⟨by omega, by omega⟩ ⟨by omega, by omega⟩ ⟨by omega, by omega⟩ ⟨by omega, by omega⟩ _ _ _ 0 rfl (by omega) hM Mod.rf (by omega) (by omega) (by rw [Int.sub_self]; rfl)
          · refine aw_ldc2 (-1) rfl rfl rfl ?_
            refine aw_retl rfl ?_
            refine ⟨?_, hM, Mod.rf⟩
            rw [zit_f (by omega)]
