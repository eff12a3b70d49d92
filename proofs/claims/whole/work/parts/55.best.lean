/-! THE BEST TREE -/
def sA (u j : Int) : Int := (50 + j * u) / 100
theorem sA_mono {u i j k : Int} (h1 : i ≤ j) (h2 : j ≤ k) : (sA u i ≤ sA u j ∧ sA u j ≤ sA u k) ∨ (sA u j ≤ sA u i ∧ sA u k ≤ sA u j) := by
  unfold sA
  rcases Int.lt_or_le u 0 with q | q
  · have a1 := Int.mul_le_mul_of_nonpos_right h1 (Int.le_of_lt q)
    have a2 := Int.mul_le_mul_of_nonpos_right h2 (Int.le_of_lt q)
    right; omega
  · have a1 := Int.mul_le_mul_of_nonneg_right h1 q
    have a2 := Int.mul_le_mul_of_nonneg_right h2 q
    left; omega
theorem sA_0 (u : Int) : sA u 0 = 0 := by unfold sA; rw [Int.zero_mul]; rfl
def sC (A : Nat → Int → Int) (p x h j : Int) : Int := gAt A (p % A 42 0 - sA (A 43 (12 * (x % 360 / 30) + h)) j) (p / A 42 0 - sA (A 44 (12 * (x % 360 / 30) + h)) j)
theorem gAt_dm {sz : Nat} {A : Nat → Int → Int} (hI : MI sz A) {x y : Int} (h : 0 ≤ gAt A x y) : gAt A x y % A 42 0 = x ∧ gAt A x y / A 42 0 = y ∧ (0 ≤ x ∧ x < A 42 0) ∧ (0 ≤ y ∧ y < A 42 1) := by
  have hw := hI.wide
  unfold gAt at h ⊢
  split at h
  · rename_i k
    rw [if_pos k]
    refine ⟨?_, ?_, k.1, k.2⟩
    · rw [Int.add_comm, Int.add_mul_emod_self_right]
      exact Int.emod_eq_of_lt k.1.1 k.1.2
    · rw [Int.add_comm, Int.add_mul_ediv_right _ _ (by omega), Int.ediv_eq_zero_of_lt k.1.1 k.1.2]
      omega
  · omega
theorem gAt_in {A : Nat → Int → Int} {x y : Int} (hx : 0 ≤ x ∧ x < A 42 0) (hy : 0 ≤ y ∧ y < A 42 1) : gAt A x y = y * A 42 0 + x := by unfold gAt; rw [if_pos ⟨hx, hy⟩]
theorem cell_dm {sz : Nat} {A : Nat → Int → Int} (hI : MI sz A) {p : Int} (h0 : 0 ≤ p) (h1 : p < A 42 2) : (0 ≤ p % A 42 0 ∧ p % A 42 0 < A 42 0) ∧ (0 ≤ p / A 42 0 ∧ p / A 42 0 < A 42 1) ∧ gAt A (p % A 42 0) (p / A 42 0) = p := by
  have hw := hI.wide
  have hce := hI.cells
  have r1 := rem_b (a := p) (g := A 42 0) (by omega)
  have r2 : 0 ≤ p / A 42 0 ∧ p / A 42 0 < A 42 1 := ⟨Int.ediv_nonneg h0 (by omega), Int.ediv_lt_of_lt_mul (by omega) (by rw [Int.mul_comm]; omega)⟩
  refine ⟨r1, r2, ?_⟩
  rw [gAt_in r1 r2, Int.mul_comm]
  have := Int.emod_add_mul_ediv p (A 42 0)
  omega
theorem sC_0 {sz : Nat} {A : Nat → Int → Int} (hI : MI sz A) {p x h : Int} (h0 : 0 ≤ p) (h1 : p < A 42 2) : sC A p x h 0 = p := by
  unfold sC
  rw [sA_0, sA_0, Int.sub_zero, Int.sub_zero]
  exact (cell_dm hI h0 h1).2.2
theorem sC_r {sz : Nat} {A : Nat → Int → Int} (hI : MI sz A) (p x h j : Int) : -1 ≤ sC A p x h j ∧ sC A p x h j < A 42 2 := gAt_r hI _ _
theorem sC_mid {sz : Nat} {A : Nat → Int → Int} (hI : MI sz A) {p x h i j k : Int} (h1 : i ≤ j) (h2 : j ≤ k) (h0 : 0 ≤ sC A p x h i) (he : sC A p x h k = sC A p x h i) : sC A p x h j = sC A p x h i := by
  have a := gAt_dm hI h0
  have b := gAt_dm hI (show 0 ≤ gAt A (p % A 42 0 - sA (A 43 (12 * (x % 360 / 30) + h)) k) (p / A 42 0 - sA (A 44 (12 * (x % 360 / 30) + h)) k) from by unfold sC at he h0; omega)
  have e : gAt A (p % A 42 0 - sA (A 43 (12 * (x % 360 / 30) + h)) k) (p / A 42 0 - sA (A 44 (12 * (x % 360 / 30) + h)) k) = gAt A (p % A 42 0 - sA (A 43 (12 * (x % 360 / 30) + h)) i) (p / A 42 0 - sA (A 44 (12 * (x % 360 / 30) + h)) i) := he
  rw [e] at b
  have ex := a.1.symm.trans b.1
  have ey := a.2.1.symm.trans b.2.1
  have m1 := sA_mono (u := A 43 (12 * (x % 360 / 30) + h)) h1 h2
  have m2 := sA_mono (u := A 44 (12 * (x % 360 / 30) + h)) h1 h2
  unfold sC
  rw [show sA (A 43 (12 * (x % 360 / 30) + h)) j = sA (A 43 (12 * (x % 360 / 30) + h)) i by omega, show sA (A 44 (12 * (x % 360 / 30) + h)) j = sA (A 44 (12 * (x % 360 / 30) + h)) i by omega]
theorem sC_out {sz : Nat} {A : Nat → Int → Int} (hI : MI sz A) {p x h j k : Int} (h0 : 0 ≤ p) (h1 : p < A 42 2) (hj : 0 ≤ j) (h2 : j ≤ k) (ho : sC A p x h j = -1) : sC A p x h k = -1 := by
  have hr := sC_r hI p x h k
  rcases Int.lt_or_le (sC A p x h k) 0 with q | q
  · omega
  · exfalso
    have b := gAt_dm hI q
    have c := cell_dm hI h0 h1
    have m1 := sA_mono (u := A 43 (12 * (x % 360 / 30) + h)) hj h2
    have m2 := sA_mono (u := A 44 (12 * (x % 360 / 30) + h)) hj h2
    rw [sA_0] at m1 m2
    have e := gAt_in (A := A) (x := p % A 42 0 - sA (A 43 (12 * (x % 360 / 30) + h)) j) (y := p / A 42 0 - sA (A 44 (12 * (x % 360 / 30) + h)) j) (by omega) (by omega)
    have hw := hI.wide
    have hg := grid_b (w := A 42 0) (h := A 42 1) (x := p % A 42 0 - sA (A 43 (12 * (x % 360 / 30) + h)) j) (y := p / A 42 0 - sA (A 44 (12 * (x % 360 / 30) + h)) j) (by omega) (by omega) (by omega) (by omega)
    unfold sC at ho
    omega
def sMet (A : Nat → Int → Int) (p x h c n : Int) : Prop := p ≠ c ∧ ∃ i : Int, 1 ≤ i ∧ i < n ∧ sC A p x h i = c
theorem dark_sC {sz : Nat} {A : Nat → Int → Int} (hI : MI sz A) {p x h c tl : Int} (hnc : ¬ mCloud A x h) (hp0 : 0 ≤ p) (hp1 : p < A 42 2) (hc0 : 0 ≤ c) (hc1 : c < A 42 2) : mDark A c 0 0 tl x h p ↔ sMet A p x h c (tl + 1) := by
  have e : ∀ i : Int, mPoint A c 0 0 x h i = p ↔ sC A p x h i = c := by
    intro i
    rw [mPoint_is hI hp0 hp1, mPx_a, mPy_a, Int.add_zero, Int.add_zero]
    have d := cell_dm hI hc0 hc1
    constructor
    · rintro ⟨q1, q2⟩
      unfold sC sA
      rw [← q1, ← q2, Int.add_sub_cancel, Int.add_sub_cancel]
      exact d.2.2
    · intro q
      have b := gAt_dm hI (show 0 ≤ sC A p x h i by omega)
      have q' : gAt A (p % A 42 0 - sA (A 43 (12 * (x % 360 / 30) + h)) i) (p / A 42 0 - sA (A 44 (12 * (x % 360 / 30) + h)) i) = c := q
      rw [q'] at b
      unfold sA at b
      omega
  constructor
  · rintro ⟨-, h2, i, h3, h4, h5⟩
    exact ⟨h2, i, h3, h4, (e i).mp h5⟩
  · rintro ⟨h2, i, h3, h4, h5⟩
    exact ⟨hnc, h2, i, h3, h4, (e i).mpr h5⟩
theorem sMet_s {A : Nat → Int → Int} {p x h c n : Int} (hn : 1 ≤ n) : sMet A p x h c (n + 1) ↔ sMet A p x h c n ∨ (p ≠ c ∧ sC A p x h n = c) := by
  constructor
  · rintro ⟨h1, i, h2, h3, h4⟩
    by_cases e : i < n
    · exact Or.inl ⟨h1, i, h2, e, h4⟩
    · have : i = n := by omega
      rw [this] at h4
      exact Or.inr ⟨h1, h4⟩
  · rintro (⟨h1, i, h2, h3, h4⟩ | ⟨h1, h4⟩)
    · exact ⟨h1, i, h2, by omega, h4⟩
    · exact ⟨h1, n, hn, by omega, h4⟩
theorem sMet_step {sz : Nat} {A : Nat → Int → Int} (hI : MI sz A) {p x h c j : Int} (hp0 : 0 ≤ p) (hp1 : p < A 42 2) (hc0 : 0 ≤ c) (hj : 1 ≤ j) : (sC A p x h j = sC A p x h (j - 1) → (sMet A p x h c (j + 1) ↔ sMet A p x h c j)) ∧ (sC A p x h j ≠ sC A p x h (j - 1) → sC A p x h j = c → sMet A p x h c (j + 1) ∧ ¬ sMet A p x h c j) ∧ (sC A p x h j ≠ c → (sMet A p x h c (j + 1) ↔ sMet A p x h c j)) := by
  have hs := sMet_s (A := A) (p := p) (x := x) (h := h) (c := c) hj
  have z0 := sC_0 hI (x := x) (h := h) hp0 hp1
  refine ⟨fun e => ?_, fun e ec => ?_, fun e => ?_⟩
  · rw [hs]
    refine ⟨fun q => q.elim id (fun q => ?_), Or.inl⟩
    by_cases e1 : j = 1
    · subst e1
      rw [show (1 : Int) - 1 = 0 by rfl, z0] at e
      exact absurd (e.symm.trans q.2) q.1
    · exact ⟨q.1, j - 1, by omega, by omega, e.symm.trans q.2⟩
  · have npc : p ≠ c := by
      intro epc
      refine e ?_
      have := sC_mid hI (p := p) (x := x) (h := h) (i := 0) (j := j - 1) (k := j) (by omega) (by omega) (by omega) (by omega)
      omega
    refine ⟨hs.mpr (Or.inr ⟨npc, ec⟩), ?_⟩
    rintro ⟨-, i, h1, h2, h3⟩
    refine e ?_
    have := sC_mid hI (p := p) (x := x) (h := h) (i := i) (j := j - 1) (k := j) (by omega) (by omega) (by omega) (by omega)
    omega
  · rw [hs]
    exact ⟨fun q => q.elim id (fun q => absurd q.2 e), Or.inl⟩
theorem mSet_0 {A : Nat → Int → Int} {x h y c : Int} : mSet A x h y c = 0 ↔ mMany A x h y c = 0 := by
  have e2 : ((rk (cIn A x h y c) (A 42 12).toNat : Nat) : Int) = mMany A x h y c := mSet_rk A x h y c _
  rw [← e2, mSet_in]
  constructor
  · intro q
    rw [rk_zero (nbI_0 q)]
    rfl
  · intro q
    have q2 : rk (cIn A x h y c) (A 42 12).toNat = 0 := by omega
    have : ∀ t, t < (A 42 12).toNat → cIn A x h y c t = false := by
      intro t ht
      cases e : cIn A x h y c t with
      | false => rfl
      | true => have := rk_lt ht e; omega
    unfold nbI
    rw [nb_congr (g := fun _ => false) _ this]
    have : nb (fun _ => false) (A 42 12).toNat = 0 := tb_ext (fun t => by rw [nb_tb, Nat.zero_testBit]; simp)
    rw [this]
    rfl
theorem cntN_zero {p : Int → Prop} (n : Nat) (h : ∀ i : Int, 0 ≤ i → i < n → ¬ p i) : cntN p n = 0 := sumN_zero n (fun i a b => bI_f (h i a b))
theorem mBest_may {A : Nat → Int → Int} {x tl : Int} : ∀ n : Nat, 0 ≤ mBestN A x tl n → mMayB A x (mBestN A x tl n) := by
  intro n
  induction n with
  | zero => intro h; exact absurd h (by show ¬ (0 : Int) ≤ -1; decide)
  | succ n ih =>
    intro h
    have e : mBestN A x tl (n + 1) = zit (mMayB A x n ∧ (mBestN A x tl n < 0 ∨ mSrv A x tl (mBestN A x tl n) < mSrv A x tl n)) n (mBestN A x tl n) := rfl
    rw [e] at h ⊢
    rcases zit_or (mMayB A x n ∧ (mBestN A x tl n < 0 ∨ mSrv A x tl (mBestN A x tl n) < mSrv A x tl n)) n (mBestN A x tl n) with ⟨q, e1⟩ | ⟨q, e1⟩
    · rw [e1]; exact q.1
    · rw [e1] at h ⊢; exact ih h
set_option maxRecDepth 10000 in
set_option maxHeartbeats 2000000 in
theorem c_hasStall_l2 {d : Nat} {sz : Nat} {κ : Nat × (Nat → Int32) × Option Nat} {A : Nat → Int → Int} {g : Nat → Nat} {σ : az_S} (hC : CR sz κ A g σ) (hI : MI sz A) {c : Int} (hc : inI c) {x : Int} (hx0 : 0 ≤ x) (hx1 : x ≤ 3599) : ∀ (n : Nat) (s : Int) (w : Option Value), (A 42 66 - s).toNat = n → 0 ≤ s → s ≤ A 42 66 → (∀ o : Int, 0 ≤ o → o < s → ¬ ((A 85 o ≤ x ∧ x ≤ A 86 o) ∧ ∃ h : Int, 0 ≤ h ∧ h < 12 ∧ A 87 (12 * o + h) = c)) → aw (d + 3) k_X11_hasStall (some .boolean) (fun r τ => r = some (.int (iI (bI (∃ s : Int, 0 ≤ s ∧ s < A 42 66 ∧ (A 85 s ≤ x ∧ x ≤ A 86 s) ∧ ∃ h : Int, 0 ≤ h ∧ h < 12 ∧ A 87 (12 * s + h) = c)))) ∧ τ = σ) 2 [some (.ref 0), some (.int (iI c)), some (.int (iI x)), some (.int (iI s)), w] [] σ := by
  intro n
  induction n using Nat.strongRecOn with
  | ind n ih =>
    intro s w hn hs0 hs1 hb
    obtain ⟨hc1, hc2⟩ := hc
    have hst := hI.stalls
    refine aw_iload_n rfl rfl rfl ?_
    refine aw_aload_n rfl rfl rfl ?_
    refine aw_getr (b := 8) rfl rfl (hC.f.k 0 rfl) (hC.f.r 0 5 8 rfl) rfl ?_
    refine aw_fnc (c_size (hC.f.k 8 rfl) hC.lS.1) rfl rfl rfl (Nat.le_of_ble_eq_true rfl) (Or.inr ⟨_, rfl, (hC.f.k 8 rfl)⟩) rfl ?_
    refine aw_icmp (p' := 52) rfl ⟨by omega, by omega⟩ ⟨by omega, by omega⟩ rfl rfl (fun c1 => ?_) (fun c1 => ?_)
    · dsimp only [zc] at c1
      refine aw_iconst rfl rfl ?_
      refine aw_retn rfl rfl ?_
      refine ⟨?_, rfl⟩
      rw [bI_f (by rintro ⟨o, h1, h2, h3⟩; exact hb o h1 (by omega) h3)]
    · dsimp only [zc] at c1
      refine aw_aload_n rfl rfl rfl ?_
      refine aw_getr (b := 8) rfl rfl (hC.f.k 0 rfl) (hC.f.r 0 5 8 rfl) rfl ?_
      refine aw_iload_n rfl rfl rfl ?_
      refine aw_fnc (c_get (hC.f.k 8 rfl) hC.lS (by omega) (by omega) (by omega)) rfl rfl rfl (Nat.le_of_ble_eq_true rfl) (Or.inr ⟨_, rfl, (hC.f.k 8 rfl)⟩) rfl ?_
      refine aw_cast rfl rfl (hC.kS (by omega) (by omega)) rfl ?_
      refine aw_astore rfl (Nat.le_of_ble_eq_true rfl) rfl rfl ?_
      change aw _ _ _ _ 26 [some (.ref 0), some (.int (iI _)), some (.int (iI _)), some (.int (iI _)), some (.ref (gS g s))] _ _
      refine aw_aload rfl rfl rfl ?_
      refine aw_iload_n rfl rfl rfl ?_
      refine aw_fnc (c_isOn hC hI (by omega) (by omega) ⟨by omega, by omega⟩) rfl rfl rfl (Nat.le_of_ble_eq_true rfl) (Or.inr ⟨_, rfl, (hC.kS (by omega) (by omega))⟩) rfl ?_
      refine aw_ifeqb (p' := 46) rfl rfl rfl (fun c2 => ?_) (fun c2 => ?_)
      · refine aw_iinc rfl rfl rfl rfl ?_
        change aw _ _ _ _ 49 [some (.ref 0), some (.int (iI _)), some (.int (iI _)), some (.int (iI _)), some (.ref (gS g s))] _ _
        refine aw_goto (p' := 2) rfl rfl ?_
        refine ih _ (by omega) _ _ rfl (by omega) (by omega) (fun o h1 h2 => ?_)
        by_cases e : o = s
        · rw [e]; rintro ⟨q1, q2⟩; first | exact absurd q1 (by assumption) | exact absurd q2 (by assumption)
        · exact hb o h1 (by omega)
      · refine aw_aload rfl rfl rfl ?_
        refine aw_iload_n rfl rfl rfl ?_
        refine aw_fnc (c_hasCell hC hI (by omega) (by omega) ⟨by omega, by omega⟩) rfl rfl rfl (Nat.le_of_ble_eq_true rfl) (Or.inr ⟨_, rfl, (hC.kS (by omega) (by omega))⟩) rfl ?_
        refine aw_ifeqb (p' := 46) rfl rfl rfl (fun c3 => ?_) (fun c3 => ?_)
        · refine aw_iinc rfl rfl rfl rfl ?_
          change aw _ _ _ _ 49 [some (.ref 0), some (.int (iI _)), some (.int (iI _)), some (.int (iI _)), some (.ref (gS g s))] _ _
          refine aw_goto (p' := 2) rfl rfl ?_
          refine ih _ (by omega) _ _ rfl (by omega) (by omega) (fun o h1 h2 => ?_)
          by_cases e : o = s
          · rw [e]; rintro ⟨q1, q2⟩; first | exact absurd q1 (by assumption) | exact absurd q2 (by assumption)
          · exact hb o h1 (by omega)
        · refine aw_iconst rfl rfl ?_
          refine aw_retn rfl rfl ?_
          refine ⟨?_, rfl⟩
          rw [bI_t ⟨s, hs0, by omega, by assumption, by assumption⟩]
set_option maxRecDepth 10000 in
set_option maxHeartbeats 2000000 in
theorem c_hasStall {d : Nat} {sz : Nat} {κ : Nat × (Nat → Int32) × Option Nat} {A : Nat → Int → Int} {g : Nat → Nat} {σ : az_S} (hC : CR sz κ A g σ) (hI : MI sz A) {c : Int} (hc : inI c) {x : Int} (hx0 : 0 ≤ x) (hx1 : x ≤ 3599) : fn (d + 4) 155 [.ref 0, .int (iI c), .int (iI x)] σ (.int (iI (bI (∃ s : Int, 0 ≤ s ∧ s < A 42 66 ∧ (A 85 s ≤ x ∧ x ≤ A 86 s) ∧ ∃ h : Int, 0 ≤ h ∧ h < 12 ∧ A 87 (12 * s + h) = c)))) := by
  obtain ⟨hc1, hc2⟩ := hc
  have hst := hI.stalls
  refine fn_of (M := (yX11_hasStall, cX11_hasStall, 5, (some .boolean))) (cd := k_X11_hasStall) (L := [some (.ref 0), some (.int (iI c)), some (.int (iI x)), none, none]) rfl (Nat.le_of_ble_eq_true rfl) rfl rfl ?_
  refine aw_iconst rfl rfl ?_
  refine aw_istore_n rfl (Nat.le_of_ble_eq_true rfl) rfl rfl ?_
  change aw _ _ _ _ 2 [some (.ref 0), some (.int (iI _)), some (.int (iI _)), some (.int (iI _)), none] _ _
  exact c_hasStall_l2 hC hI ⟨hc1, hc2⟩ hx0 hx1 _ 0 _ rfl (by omega) (by omega) (fun o _ _ => by omega)
set_option maxRecDepth 10000 in
set_option maxHeartbeats 2000000 in
theorem c_servePlace_l60 {d : Nat} {sz : Nat} {κ : Nat × (Nat → Int32) × Option Nat} {A : Nat → Int → Int} {g : Nat → Nat} {σ : az_S} (hC : CR sz κ A g σ) (hI : MI sz A) {x h : Int} (hx0 : 0 ≤ x) (hx1 : x ≤ 3599) (hh0 : 0 ≤ h) (hh1 : h ≤ 11) {y : Int} (hS : cSL A x y σ) (hnc : ¬ mCloud A x h) {tl : Int} (ht0 : 1 ≤ tl) (ht1 : tl ≤ 60) {p : Int} (hp0 : 0 ≤ p) (hp1 : p < A 42 2) (hb : ∀ c : Int, 0 ≤ c → c < A 42 2 → -1 ≤ zx σ 41 c ∧ zx σ 41 c ≤ 1000) : ∀ (n : Nat) (τ : az_S) (j l : Int) (w1 w2 : Option Value), (tl + 1 - j).toNat = n → CR sz κ A g τ → Mod σ τ [41] → 1 ≤ j → j ≤ tl + 1 → l = sC A p x h (j - 1) → (∀ c : Int, 0 ≤ c → c < A 42 2 → zx τ 41 c = if zx σ 41 c = -1 then -1 else zx σ 41 c + bI (sMet A p x h c j)) → aw (d + 2) k_X11_servePlace none (fun r τ => r = none ∧ CR sz κ A g τ ∧ Mod σ τ [41] ∧ ∀ c : Int, 0 ≤ c → c < A 42 2 → zx τ 41 c = if zx σ 41 c = -1 then -1 else zx σ 41 c + bI (mDark A c 0 0 tl x h p)) 60 [some (.ref 0), some (.int (iI p)), some (.int (iI h)), some (.int (iI tl)), some (.int (iI (A 43 (12 * (x % 360 / 30) + h)))), some (.int (iI (A 44 (12 * (x % 360 / 30) + h)))), some (.int (iI (p % A 42 0))), some (.int (iI (p / A 42 0))), some (.int (iI l)), some (.int (iI j)), w1, w2] [] τ := by
  intro n
  induction n using Nat.strongRecOn with
  | ind n ih =>
    intro τ j l w1 w2 hn hN hD hj0 hj1 hl hU
    have hw := hI.wide
    have hh := hI.high
    have hce := hI.cells
    have hsz := hC.f.1
    have hsu := hI.sun (12 * (x % 360 / 30) + h) (by omega) (by omega)
    have hdm := cell_dm hI hp0 hp1
    have hr := sC_r hI p x h j
    have hr1 := sC_r hI p x h (j - 1)
    rw [← hl] at hr1
    have hst := fun c hc => sMet_step hI (p := p) (x := x) (h := h) (c := c) (j := j) hp0 hp1 hc hj0
    have hm1 := fun q => mul_b (j := j) (u := (A 43 (12 * (x % 360 / 30) + h))) (J := 60) (U := 1000) (by omega) q (by omega) (by omega)
    have hm2 := fun q => mul_b (j := j) (u := (A 44 (12 * (x % 360 / 30) + h))) (J := 60) (U := 1000) (by omega) q (by omega) (by omega)
    refine aw_iload rfl rfl rfl ?_
    refine aw_iload_n rfl rfl rfl ?_
    refine aw_icmp (p' := 167) rfl ⟨by omega, by omega⟩ ⟨by omega, by omega⟩ rfl rfl (fun c1 => ?_) (fun c1 => ?_)
    · dsimp only [zc] at c1
      refine aw_retv rfl ?_
      refine ⟨rfl, hN, (hD.su (T := [41]) rfl), fun c c0 c1 => ?_⟩
      rw [hU c c0 c1, propext (dark_sC hI hnc hp0 hp1 c0 c1)]
      have hfin : sMet A p x h c j ↔ sMet A p x h c (tl + 1) := by
        by_cases ej : j = tl + 1
        · rw [ej]
        · have ho : sC A p x h (j - 1) = -1 := by omega
          constructor
          · rintro ⟨q1, i, q2, q3, q4⟩
            exact ⟨q1, i, q2, by omega, q4⟩
          · rintro ⟨q1, i, q2, q3, q4⟩
            refine ⟨q1, i, q2, ?_, q4⟩
            rcases Int.lt_or_le i j with q | q
            · exact q
            · have := sC_out hI (x := x) (h := h) (j := j - 1) (k := i) hp0 hp1 (by omega) (by omega) ho
              omega
      rw [propext hfin]
    · dsimp only [zc] at c1
      refine aw_iload rfl rfl rfl ?_
      refine aw_iconst rfl rfl ?_
      refine aw_icmp (p' := 167) rfl ⟨by omega, by omega⟩ ⟨by omega, by omega⟩ rfl rfl (fun c2 => ?_) (fun c2 => ?_)
      · dsimp only [zc] at c2
        refine aw_retv rfl ?_
        refine ⟨rfl, hN, (hD.su (T := [41]) rfl), fun c c0 c1 => ?_⟩
        rw [hU c c0 c1, propext (dark_sC hI hnc hp0 hp1 c0 c1)]
        have hfin : sMet A p x h c j ↔ sMet A p x h c (tl + 1) := by
          by_cases ej : j = tl + 1
          · rw [ej]
          · have ho : sC A p x h (j - 1) = -1 := by omega
            constructor
            · rintro ⟨q1, i, q2, q3, q4⟩
              exact ⟨q1, i, q2, by omega, q4⟩
            · rintro ⟨q1, i, q2, q3, q4⟩
              refine ⟨q1, i, q2, ?_, q4⟩
              rcases Int.lt_or_le i j with q | q
              · exact q
              · have := sC_out hI (x := x) (h := h) (j := j - 1) (k := i) hp0 hp1 (by omega) (by omega) ho
                omega
        rw [propext hfin]
      · dsimp only [zc] at c2
        have hm1 := hm1 (by omega)
        have hm2 := hm2 (by omega)
        refine aw_aload_n rfl rfl rfl ?_
        refine aw_getr (b := 28) rfl rfl (hN.f.k 0 rfl) (hN.f.r 0 0 28 rfl) rfl ?_
        refine aw_iload rfl rfl rfl ?_
        refine aw_iload rfl rfl rfl ?_
        refine aw_iload rfl rfl rfl ?_
        refine aw_fnc (c_aside (by omega) (by omega) (by omega) (by omega)) rfl rfl rfl (Nat.le_of_ble_eq_true rfl) (Or.inl rfl) rfl ?_
        refine aw_isub rfl rfl ?_
        refine aw_iload rfl rfl rfl ?_
        refine aw_iload rfl rfl rfl ?_
        refine aw_iload rfl rfl rfl ?_
        refine aw_fnc (c_aside (by omega) (by omega) (by omega) (by omega)) rfl rfl rfl (Nat.le_of_ble_eq_true rfl) (Or.inl rfl) rfl ?_
        refine aw_isub rfl rfl ?_
        refine aw_fnc (c_cellAt hN hI (by omega) (by omega) (by omega) (by omega)) rfl rfl rfl (Nat.le_of_ble_eq_true rfl) (Or.inr ⟨_, rfl, (hN.f.k 28 rfl)⟩) rfl ?_
        rw [show gAt A (p % A 42 0 - (50 + j * (A 43 (12 * (x % 360 / 30) + h))) / 100) (p / A 42 0 - (50 + j * (A 44 (12 * (x % 360 / 30) + h))) / 100) = sC A p x h j from rfl]
        refine aw_istore rfl (Nat.le_of_ble_eq_true rfl) rfl rfl ?_
        change aw _ _ _ _ 101 [some (.ref 0), some (.int (iI _)), some (.int (iI _)), some (.int (iI _)), some (.int (iI _)), some (.int (iI _)), some (.int (iI _)), some (.int (iI _)), some (.int (iI _)), some (.int (iI _)), some (.int (iI _)), _] _ _
        refine aw_iload rfl rfl rfl ?_
        refine aw_iload rfl rfl rfl ?_
        refine aw_icmp (p' := 127) rfl ⟨by omega, by omega⟩ ⟨by omega, by omega⟩ rfl rfl (fun c3 => ?_) (fun c3 => ?_)
        · dsimp only [zc] at c3
          refine aw_iconst rfl rfl ?_
          refine aw_istore rfl (Nat.le_of_ble_eq_true rfl) rfl rfl ?_
          change aw _ _ _ _ 130 [some (.ref 0), some (.int (iI _)), some (.int (iI _)), some (.int (iI _)), some (.int (iI _)), some (.int (iI _)), some (.int (iI _)), some (.int (iI _)), some (.int (iI _)), some (.int (iI _)), some (.int (iI _)), some (.int (iI _))] _ _
          refine aw_iload rfl rfl rfl ?_
          refine aw_if (p' := 157) rfl ⟨by omega, by omega⟩ rfl rfl (fun c4 => ?_) (fun c4 => ?_)
          · dsimp only [zc] at c4
            refine aw_iload rfl rfl rfl ?_
            refine aw_istore rfl (Nat.le_of_ble_eq_true rfl) rfl rfl ?_
            change aw _ _ _ _ 161 [some (.ref 0), some (.int (iI _)), some (.int (iI _)), some (.int (iI _)), some (.int (iI _)), some (.int (iI _)), some (.int (iI _)), some (.int (iI _)), some (.int (iI _)), some (.int (iI _)), some (.int (iI _)), some (.int (iI _))] _ _
            refine aw_iinc rfl rfl rfl rfl ?_
            change aw _ _ _ _ 164 [some (.ref 0), some (.int (iI _)), some (.int (iI _)), some (.int (iI _)), some (.int (iI _)), some (.int (iI _)), some (.int (iI _)), some (.int (iI _)), some (.int (iI _)), some (.int (iI _)), some (.int (iI _)), some (.int (iI _))] _ _
            refine aw_goto (p' := 60) rfl rfl ?_
            refine ih _ (by omega) _ _ _ _ _ rfl hN (hD.su (T := [41]) rfl) (by omega) (by omega) (by rw [show j + 1 - 1 = j by omega]) (fun c c0 c1 => ?_)
            have hcs := hst c c0
            rw [hU c c0 c1]
            by_cases el : sC A p x h j = sC A p x h (j - 1)
            · rw [propext (hcs.1 el)]
            · by_cases e : sC A p x h j = c
              · have e2 : zx τ 41 (sC A p x h j) = zx τ 41 c := by rw [e]
                have hbc := hb c c0 c1
                have hv := hU c c0 c1
                have h01 := bI_r (sMet A p x h c j)
                by_cases q : zx σ 41 c = -1
                · rw [if_pos q, if_pos q]
                · rw [if_neg q] at hv
                  exfalso; omega
              · rw [propext (hcs.2.2 e)]
          · dsimp only [zc] at c4
            omega
        · dsimp only [zc] at c3
          refine aw_iload rfl rfl rfl ?_
          refine aw_if (p' := 127) rfl ⟨by omega, by omega⟩ rfl rfl (fun c5 => ?_) (fun c5 => ?_)
          · dsimp only [zc] at c5
            refine aw_iconst rfl rfl ?_
            refine aw_istore rfl (Nat.le_of_ble_eq_true rfl) rfl rfl ?_
            change aw _ _ _ _ 130 [some (.ref 0), some (.int (iI _)), some (.int (iI _)), some (.int (iI _)), some (.int (iI _)), some (.int (iI _)), some (.int (iI _)), some (.int (iI _)), some (.int (iI _)), some (.int (iI _)), some (.int (iI _)), some (.int (iI _))] _ _
            refine aw_iload rfl rfl rfl ?_
            refine aw_if (p' := 157) rfl ⟨by omega, by omega⟩ rfl rfl (fun c6 => ?_) (fun c6 => ?_)
            · dsimp only [zc] at c6
              refine aw_iload rfl rfl rfl ?_
              refine aw_istore rfl (Nat.le_of_ble_eq_true rfl) rfl rfl ?_
              change aw _ _ _ _ 161 [some (.ref 0), some (.int (iI _)), some (.int (iI _)), some (.int (iI _)), some (.int (iI _)), some (.int (iI _)), some (.int (iI _)), some (.int (iI _)), some (.int (iI _)), some (.int (iI _)), some (.int (iI _)), some (.int (iI _))] _ _
              refine aw_iinc rfl rfl rfl rfl ?_
              change aw _ _ _ _ 164 [some (.ref 0), some (.int (iI _)), some (.int (iI _)), some (.int (iI _)), some (.int (iI _)), some (.int (iI _)), some (.int (iI _)), some (.int (iI _)), some (.int (iI _)), some (.int (iI _)), some (.int (iI _)), some (.int (iI _))] _ _
              refine aw_goto (p' := 60) rfl rfl ?_
              refine ih _ (by omega) _ _ _ _ _ rfl hN (hD.su (T := [41]) rfl) (by omega) (by omega) (by rw [show j + 1 - 1 = j by omega]) (fun c c0 c1 => ?_)
              have hcs := hst c c0
              rw [hU c c0 c1]
              by_cases el : sC A p x h j = sC A p x h (j - 1)
              · rw [propext (hcs.1 el)]
              · by_cases e : sC A p x h j = c
                · have e2 : zx τ 41 (sC A p x h j) = zx τ 41 c := by rw [e]
                  have hbc := hb c c0 c1
                  have hv := hU c c0 c1
                  have h01 := bI_r (sMet A p x h c j)
                  by_cases q : zx σ 41 c = -1
                  · rw [if_pos q, if_pos q]
                  · rw [if_neg q] at hv
                    exfalso; omega
                · rw [propext (hcs.2.2 e)]
            · dsimp only [zc] at c6
              omega
          · dsimp only [zc] at c5
            refine aw_iload rfl rfl rfl ?_
            refine aw_aload_n rfl rfl rfl ?_
            refine aw_getr (b := 41) rfl rfl (hN.f.k 0 rfl) (hN.f.r 0 12 41 rfl) rfl ?_
            refine aw_alen (N := sz) rfl (hN.f.s 41 rfl) (by decide) rfl ?_
            refine aw_icmp (p' := 127) rfl ⟨by omega, by omega⟩ ⟨by omega, by omega⟩ rfl rfl (fun c7 => ?_) (fun c7 => ?_)
            · dsimp only [zc] at c7
              omega
            · dsimp only [zc] at c7
              refine aw_iconst rfl rfl ?_
              refine aw_goto (p' := 128) rfl rfl ?_
              refine aw_istore rfl (Nat.le_of_ble_eq_true rfl) rfl rfl ?_
              change aw _ _ _ _ 130 [some (.ref 0), some (.int (iI _)), some (.int (iI _)), some (.int (iI _)), some (.int (iI _)), some (.int (iI _)), some (.int (iI _)), some (.int (iI _)), some (.int (iI _)), some (.int (iI _)), some (.int (iI _)), some (.int (iI _))] _ _
              refine aw_iload rfl rfl rfl ?_
              refine aw_if (p' := 157) rfl ⟨by omega, by omega⟩ rfl rfl (fun c8 => ?_) (fun c8 => ?_)
              · dsimp only [zc] at c8
                omega
              · dsimp only [zc] at c8
                have hvU := hU (sC A p x h j) (by omega) (by omega)
                have hvb := hb (sC A p x h j) (by omega) (by omega)
                have hv01 := bI_r (sMet A p x h (sC A p x h j) j)
                have hvr : -1 ≤ zx τ 41 (sC A p x h j) ∧ zx τ 41 (sC A p x h j) ≤ 1001 := by rw [hvU]; split <;> omega
                refine aw_aload_n rfl rfl rfl ?_
                refine aw_getr (b := 41) rfl rfl (hN.f.k 0 rfl) (hN.f.r 0 12 41 rfl) rfl ?_
                refine aw_iload rfl rfl rfl ?_
                refine aw_as (N := sz) rfl (hN.f.s 41 rfl) (by omega) (by omega) (by omega) rfl (fun _ _ => ?_)
                refine aw_iconst rfl rfl ?_
                refine aw_icmp (p' := 157) rfl ⟨by omega, by omega⟩ ⟨by omega, by omega⟩ rfl rfl (fun c9 => ?_) (fun c9 => ?_)
                · dsimp only [zc] at c9
                  refine aw_iload rfl rfl rfl ?_
                  refine aw_istore rfl (Nat.le_of_ble_eq_true rfl) rfl rfl ?_
                  change aw _ _ _ _ 161 [some (.ref 0), some (.int (iI _)), some (.int (iI _)), some (.int (iI _)), some (.int (iI _)), some (.int (iI _)), some (.int (iI _)), some (.int (iI _)), some (.int (iI _)), some (.int (iI _)), some (.int (iI _)), some (.int (iI _))] _ _
                  refine aw_iinc rfl rfl rfl rfl ?_
                  change aw _ _ _ _ 164 [some (.ref 0), some (.int (iI _)), some (.int (iI _)), some (.int (iI _)), some (.int (iI _)), some (.int (iI _)), some (.int (iI _)), some (.int (iI _)), some (.int (iI _)), some (.int (iI _)), some (.int (iI _)), some (.int (iI _))] _ _
                  refine aw_goto (p' := 60) rfl rfl ?_
                  refine ih _ (by omega) _ _ _ _ _ rfl hN (hD.su (T := [41]) rfl) (by omega) (by omega) (by rw [show j + 1 - 1 = j by omega]) (fun c c0 c1 => ?_)
                  have hcs := hst c c0
                  rw [hU c c0 c1]
                  by_cases el : sC A p x h j = sC A p x h (j - 1)
                  · rw [propext (hcs.1 el)]
                  · by_cases e : sC A p x h j = c
                    · have e2 : zx τ 41 (sC A p x h j) = zx τ 41 c := by rw [e]
                      have hbc := hb c c0 c1
                      have hv := hU c c0 c1
                      have h01 := bI_r (sMet A p x h c j)
                      by_cases q : zx σ 41 c = -1
                      · rw [if_pos q, if_pos q]
                      · rw [if_neg q] at hv
                        exfalso; omega
                    · rw [propext (hcs.2.2 e)]
                · dsimp only [zc] at c9
                  refine aw_aload_n rfl rfl rfl ?_
                  refine aw_getr (b := 41) rfl rfl (hN.f.k 0 rfl) (hN.f.r 0 12 41 rfl) rfl ?_
                  refine aw_iload rfl rfl rfl ?_
                  refine aw_dup2 rfl rfl rfl rfl ?_
                  refine aw_as (N := sz) rfl (hN.f.s 41 rfl) (by omega) (by omega) (by omega) rfl (fun _ _ => ?_)
                  refine aw_iconst rfl rfl ?_
                  refine aw_iadd rfl rfl ?_
                  refine aw_cs (N := sz) hN hI rfl (hN.f.s 41 rfl) (by omega) rfl (by omega) (by omega) ⟨by omega, by omega⟩ rfl (fun τ10 hM10 hD10 hU10 => ?_)
                  refine aw_iload rfl rfl rfl ?_
                  refine aw_istore rfl (Nat.le_of_ble_eq_true rfl) rfl rfl ?_
                  change aw _ _ _ _ 161 [some (.ref 0), some (.int (iI _)), some (.int (iI _)), some (.int (iI _)), some (.int (iI _)), some (.int (iI _)), some (.int (iI _)), some (.int (iI _)), some (.int (iI _)), some (.int (iI _)), some (.int (iI _)), some (.int (iI _))] _ _
                  refine aw_iinc rfl rfl rfl rfl ?_
                  change aw _ _ _ _ 164 [some (.ref 0), some (.int (iI _)), some (.int (iI _)), some (.int (iI _)), some (.int (iI _)), some (.int (iI _)), some (.int (iI _)), some (.int (iI _)), some (.int (iI _)), some (.int (iI _)), some (.int (iI _)), some (.int (iI _))] _ _
                  refine aw_goto (p' := 60) rfl rfl ?_
                  refine ih _ (by omega) _ _ _ _ _ rfl hM10 ((hD.su (T := [41]) rfl).tr (hD10.su (T := [41]) rfl)) (by omega) (by omega) (by rw [show j + 1 - 1 = j by omega]) (fun c c0 c1 => ?_)
                  have hcs := hst c c0
                  rw [hU10]
                  by_cases e : c = sC A p x h j
                  · have q := hcs.2.1 (by omega) e.symm
                    have e2 : zx τ 41 (sC A p x h j) = zx τ 41 c := by rw [e]
                    have hv := hU c c0 c1
                    have hbc := hb c c0 c1
                    rw [if_pos e, bI_t q.1, e2]
                    rw [bI_f q.2] at hv
                    by_cases q2 : zx σ 41 c = -1
                    · rw [if_pos q2] at hv
                      exfalso; omega
                    · rw [if_neg q2] at hv ⊢
                      omega
                  · rw [if_neg e, hU c c0 c1, propext (hcs.2.2 (fun q => e q.symm))]
set_option maxRecDepth 10000 in
set_option maxHeartbeats 2000000 in
theorem c_servePlace {d : Nat} {sz : Nat} {κ : Nat × (Nat → Int32) × Option Nat} {A : Nat → Int → Int} {g : Nat → Nat} {σ : az_S} (hC : CR sz κ A g σ) (hI : MI sz A) {x h : Int} (hx0 : 0 ≤ x) (hx1 : x ≤ 3599) (hh0 : 0 ≤ h) (hh1 : h ≤ 11) {y : Int} (hS : cSL A x y σ) (hnc : ¬ mCloud A x h) {tl : Int} (ht0 : 1 ≤ tl) (ht1 : tl ≤ 60) {p : Int} (hp0 : 0 ≤ p) (hp1 : p < A 42 2) (hb : ∀ c : Int, 0 ≤ c → c < A 42 2 → -1 ≤ zx σ 41 c ∧ zx σ 41 c ≤ 1000) : cal (d + 3) 157 [.ref 0, .int (iI p), .int (iI h), .int (iI tl)] σ (fun r τ => r = none ∧ CR sz κ A g τ ∧ Mod σ τ [41] ∧ ∀ c : Int, 0 ≤ c → c < A 42 2 → zx τ 41 c = if zx σ 41 c = -1 then -1 else zx σ 41 c + bI (mDark A c 0 0 tl x h p)) := by
  have hw := hI.wide
  have hh := hI.high
  have hce := hI.cells
  have hsz := hC.f.1
  have hsu := hI.sun (12 * (x % 360 / 30) + h) (by omega) (by omega)
  have hdm := cell_dm hI hp0 hp1
  refine cal_of (M := (yX11_servePlace, cX11_servePlace, 12, none)) (cd := k_X11_servePlace) (L := [some (.ref 0), some (.int (iI p)), some (.int (iI h)), some (.int (iI tl)), none, none, none, none, none, none, none, none]) rfl (Nat.le_of_ble_eq_true rfl) rfl rfl ?_
  refine aw_aload_n rfl rfl rfl ?_
  refine aw_getr (b := 1) rfl rfl (hC.f.k 0 rfl) (hC.f.r 0 1 1 rfl) rfl ?_
  refine aw_aload_n rfl rfl rfl ?_
  refine aw_getr (b := 29) rfl rfl (hC.f.k 0 rfl) (hC.f.r 0 6 29 rfl) rfl ?_
  refine aw_gk (v := x) (6) rfl rfl (hC.f.k 29 rfl) rfl hS.1 rfl (fun _ _ => ?_)
  refine aw_iload_n rfl rfl rfl ?_
  refine aw_fnc (c_sunX hC hI (by omega) (by omega) (by omega) (by omega)) rfl rfl rfl (Nat.le_of_ble_eq_true rfl) (Or.inr ⟨_, rfl, (hC.f.k 1 rfl)⟩) rfl ?_
  refine aw_istore rfl (Nat.le_of_ble_eq_true rfl) rfl rfl ?_
  change aw _ _ _ _ 17 [some (.ref 0), some (.int (iI _)), some (.int (iI _)), some (.int (iI _)), some (.int (iI _)), none, none, none, none, none, none, none] _ _
  refine aw_aload_n rfl rfl rfl ?_
  refine aw_getr (b := 1) rfl rfl (hC.f.k 0 rfl) (hC.f.r 0 1 1 rfl) rfl ?_
  refine aw_aload_n rfl rfl rfl ?_
  refine aw_getr (b := 29) rfl rfl (hC.f.k 0 rfl) (hC.f.r 0 6 29 rfl) rfl ?_
  refine aw_gk (v := x) (6) rfl rfl (hC.f.k 29 rfl) rfl hS.1 rfl (fun _ _ => ?_)
  refine aw_iload_n rfl rfl rfl ?_
  refine aw_fnc (c_sunY hC hI (by omega) (by omega) (by omega) (by omega)) rfl rfl rfl (Nat.le_of_ble_eq_true rfl) (Or.inr ⟨_, rfl, (hC.f.k 1 rfl)⟩) rfl ?_
  refine aw_istore rfl (Nat.le_of_ble_eq_true rfl) rfl rfl ?_
  change aw _ _ _ _ 34 [some (.ref 0), some (.int (iI _)), some (.int (iI _)), some (.int (iI _)), some (.int (iI _)), some (.int (iI _)), none, none, none, none, none, none] _ _
  refine aw_aload_n rfl rfl rfl ?_
  refine aw_getr (b := 28) rfl rfl (hC.f.k 0 rfl) (hC.f.r 0 0 28 rfl) rfl ?_
  refine aw_iload_n rfl rfl rfl ?_
  refine aw_fnc (c_col hC hI (by omega) (by omega)) rfl rfl rfl (Nat.le_of_ble_eq_true rfl) (Or.inr ⟨_, rfl, (hC.f.k 28 rfl)⟩) rfl ?_
  refine aw_istore rfl (Nat.le_of_ble_eq_true rfl) rfl rfl ?_
  change aw _ _ _ _ 44 [some (.ref 0), some (.int (iI _)), some (.int (iI _)), some (.int (iI _)), some (.int (iI _)), some (.int (iI _)), some (.int (iI _)), none, none, none, none, none] _ _
  refine aw_aload_n rfl rfl rfl ?_
  refine aw_getr (b := 28) rfl rfl (hC.f.k 0 rfl) (hC.f.r 0 0 28 rfl) rfl ?_
  refine aw_iload_n rfl rfl rfl ?_
  refine aw_fnc (c_row hC hI (by omega) (by omega)) rfl rfl rfl (Nat.le_of_ble_eq_true rfl) (Or.inr ⟨_, rfl, (hC.f.k 28 rfl)⟩) rfl ?_
  refine aw_istore rfl (Nat.le_of_ble_eq_true rfl) rfl rfl ?_
  change aw _ _ _ _ 54 [some (.ref 0), some (.int (iI _)), some (.int (iI _)), some (.int (iI _)), some (.int (iI _)), some (.int (iI _)), some (.int (iI _)), some (.int (iI _)), none, none, none, none] _ _
  refine aw_iload_n rfl rfl rfl ?_
  refine aw_istore rfl (Nat.le_of_ble_eq_true rfl) rfl rfl ?_
  change aw _ _ _ _ 57 [some (.ref 0), some (.int (iI _)), some (.int (iI _)), some (.int (iI _)), some (.int (iI _)), some (.int (iI _)), some (.int (iI _)), some (.int (iI _)), some (.int (iI _)), none, none, none] _ _
  refine aw_iconst rfl rfl ?_
  refine aw_istore rfl (Nat.le_of_ble_eq_true rfl) rfl rfl ?_
  change aw _ _ _ _ 60 [some (.ref 0), some (.int (iI _)), some (.int (iI _)), some (.int (iI _)), some (.int (iI _)), some (.int (iI _)), some (.int (iI _)), some (.int (iI _)), some (.int (iI _)), some (.int (iI _)), none, none] _ _
  exact c_servePlace_l60 hC hI hx0 hx1 hh0 hh1 hS hnc ht0 ht1 hp0 hp1 hb _ _ 1 _ _ _ rfl hC Mod.rf (by omega) (by omega) (by rw [show (1 : Int) - 1 = 0 by rfl, sC_0 hI hp0 hp1]) (fun c c0 c1 => by rw [bI_f (by rintro ⟨-, i, a, b, -⟩; omega)]; split <;> omega)
set_option maxRecDepth 10000 in
set_option maxHeartbeats 2000000 in
theorem c_serveHour_l2 {d : Nat} {sz : Nat} {κ : Nat × (Nat → Int32) × Option Nat} {A : Nat → Int → Int} {g : Nat → Nat} {σ : az_S} (hC : CR sz κ A g σ) (hI : MI sz A) {x h : Int} (hx0 : 0 ≤ x) (hx1 : x ≤ 3599) (hh0 : 0 ≤ h) (hh1 : h ≤ 11) (hS : cSL A x (A 42 3) σ) (hT : cST A x h (A 42 3) σ) (hnc : ¬ mCloud A x h) {tl : Int} (ht0 : 1 ≤ tl) (ht1 : tl ≤ 60) (hb : ∀ c : Int, 0 ≤ c → c < A 42 2 → -1 ≤ zx σ 41 c ∧ zx σ 41 c ≤ 900) : ∀ (n : Nat) (τ : az_S) (s : Int) (w1 w2 : Option Value), (A 42 66 - s).toNat = n → CR sz κ A g τ → Mod σ τ [41] → 0 ≤ s → s ≤ A 42 66 → (∀ c : Int, 0 ≤ c → c < A 42 2 → zx τ 41 c = if zx σ 41 c = -1 then -1 else zx σ 41 c + cntN (mServ A c x h tl) s.toNat) → aw (d + 3) k_X11_serveHour none (fun r τ => r = none ∧ CR sz κ A g τ ∧ Mod σ τ [41] ∧ ∀ c : Int, 0 ≤ c → c < A 42 2 → zx τ 41 c = if zx σ 41 c = -1 then -1 else zx σ 41 c + cntN (mServ A c x h tl) (A 42 66).toNat) 2 [some (.ref 0), some (.int (iI h)), some (.int (iI tl)), some (.int (iI s)), w1, w2] [] τ := by
  intro n
  induction n using Nat.strongRecOn with
  | ind n ih =>
    intro τ s w1 w2 hn hN hD hs0 hs1 hU
    have hst := hI.stalls
    have hce := hI.cells
    have hcl := hI.clock
    have hcn := fun c => cntN_s (p := mServ A c x h tl) hs0
    have hSI := fun q => (hI.stall s hs0 q).2 h hh0 (by omega)
    have y := A 42 3
    refine aw_iload_n rfl rfl rfl ?_
    refine aw_aload_n rfl rfl rfl ?_
    refine aw_getr (b := 8) rfl rfl (hN.f.k 0 rfl) (hN.f.r 0 5 8 rfl) rfl ?_
    refine aw_fnc (c_size (hN.f.k 8 rfl) hN.lS.1) rfl rfl rfl (Nat.le_of_ble_eq_true rfl) (Or.inr ⟨_, rfl, (hN.f.k 8 rfl)⟩) rfl ?_
    refine aw_icmp (p' := 87) rfl ⟨by omega, by omega⟩ ⟨by omega, by omega⟩ rfl rfl (fun c1 => ?_) (fun c1 => ?_)
    · dsimp only [zc] at c1
      refine aw_retv rfl ?_
      exact ⟨rfl, hN, (hD.su (T := [41]) rfl), fun c c0 c1 => by rw [hU c c0 c1, show s = A 42 66 by omega]⟩
    · dsimp only [zc] at c1
      refine aw_aload_n rfl rfl rfl ?_
      refine aw_getr (b := 8) rfl rfl (hN.f.k 0 rfl) (hN.f.r 0 5 8 rfl) rfl ?_
      refine aw_iload_n rfl rfl rfl ?_
      refine aw_fnc (c_get (hN.f.k 8 rfl) hN.lS (by omega) (by omega) (by omega)) rfl rfl rfl (Nat.le_of_ble_eq_true rfl) (Or.inr ⟨_, rfl, (hN.f.k 8 rfl)⟩) rfl ?_
      refine aw_cast rfl rfl (hN.kS (by omega) (by omega)) rfl ?_
      refine aw_astore rfl (Nat.le_of_ble_eq_true rfl) rfl rfl ?_
      change aw _ _ _ _ 26 [some (.ref 0), some (.int (iI _)), some (.int (iI _)), some (.int (iI _)), some (.ref (gS g s)), _] _ _
      have hSI1 := hSI (by omega)
      refine aw_aload rfl rfl rfl ?_
      refine aw_iload_n rfl rfl rfl ?_
      refine aw_fnc (c_cellIn hN hI (by omega) (by omega) ⟨by omega, by omega⟩) rfl rfl rfl (Nat.le_of_ble_eq_true rfl) (Or.inr ⟨_, rfl, (hN.kS (by omega) (by omega))⟩) rfl ?_
      rw [zit_t (by omega)]
      refine aw_istore rfl (Nat.le_of_ble_eq_true rfl) rfl rfl ?_
      change aw _ _ _ _ 34 [some (.ref 0), some (.int (iI _)), some (.int (iI _)), some (.int (iI _)), some (.ref (gS g s)), some (.int (iI _))] _ _
      refine aw_aload rfl rfl rfl ?_
      refine aw_aload_n rfl rfl rfl ?_
      refine aw_getr (b := 29) rfl rfl (hN.f.k 0 rfl) (hN.f.r 0 6 29 rfl) rfl ?_
      refine aw_gk (v := x) (6) rfl rfl (hN.f.k 29 rfl) rfl (hS.mod hD rfl rfl rfl).1 rfl (fun _ _ => ?_)
      refine aw_fnc (c_isOn hN hI (by omega) (by omega) ⟨by omega, by omega⟩) rfl rfl rfl (Nat.le_of_ble_eq_true rfl) (Or.inr ⟨_, rfl, (hN.kS (by omega) (by omega))⟩) rfl ?_
      refine aw_ifeqb (p' := 81) rfl rfl rfl (fun c2 => ?_) (fun c2 => ?_)
      · refine aw_iinc rfl rfl rfl rfl ?_
        change aw _ _ _ _ 84 [some (.ref 0), some (.int (iI _)), some (.int (iI _)), some (.int (iI _)), some (.ref (gS g s)), some (.int (iI _))] _ _
        refine aw_goto (p' := 2) rfl rfl ?_
        refine ih _ (by omega) _ _ _ _ rfl hN (hD.su (T := [41]) rfl) (by omega) (by omega) (fun c c0 c1 => ?_)
        rw [hU c c0 c1, hcn c]
        split
        · rfl
        · rw [bI_f (by rintro ⟨q1, q2, q3, q4, q5⟩; first | omega | exact absurd q2 (by assumption) | exact (by assumption : ¬ ((0 ≤ A 87 (12 * s + h) ∧ A 87 (12 * s + h) < A 42 2) ∧ mOpen A (A 87 (12 * s + h)) x (A 42 3))) ⟨by omega, q3⟩ | (have := mSet_0.mpr q4; omega))]
          omega
      · refine aw_aload_n rfl rfl rfl ?_
        refine aw_getr (b := 29) rfl rfl (hN.f.k 0 rfl) (hN.f.r 0 6 29 rfl) rfl ?_
        refine aw_iload rfl rfl rfl ?_
        refine aw_fnc (c_sOpen hN hI hx0 hx1 hcl.1 hcl.2 ⟨by omega, by omega⟩ (hS.mod hD rfl rfl rfl)) rfl rfl rfl (Nat.le_of_ble_eq_true rfl) (Or.inr ⟨_, rfl, (hN.f.k 29 rfl)⟩) rfl ?_
        refine aw_ifeqb (p' := 81) rfl rfl rfl (fun c3 => ?_) (fun c3 => ?_)
        · refine aw_iinc rfl rfl rfl rfl ?_
          change aw _ _ _ _ 84 [some (.ref 0), some (.int (iI _)), some (.int (iI _)), some (.int (iI _)), some (.ref (gS g s)), some (.int (iI _))] _ _
          refine aw_goto (p' := 2) rfl rfl ?_
          refine ih _ (by omega) _ _ _ _ rfl hN (hD.su (T := [41]) rfl) (by omega) (by omega) (fun c c0 c1 => ?_)
          rw [hU c c0 c1, hcn c]
          split
          · rfl
          · rw [bI_f (by rintro ⟨q1, q2, q3, q4, q5⟩; first | omega | exact absurd q2 (by assumption) | exact (by assumption : ¬ ((0 ≤ A 87 (12 * s + h) ∧ A 87 (12 * s + h) < A 42 2) ∧ mOpen A (A 87 (12 * s + h)) x (A 42 3))) ⟨by omega, q3⟩ | (have := mSet_0.mpr q4; omega))]
            omega
        · refine aw_aload_n rfl rfl rfl ?_
          refine aw_getr (b := 29) rfl rfl (hN.f.k 0 rfl) (hN.f.r 0 6 29 rfl) rfl ?_
          refine aw_iload rfl rfl rfl ?_
          refine aw_fnc (c_shaders hN hI hx0 hx1 hh0 hh1 hcl.1 hcl.2 (hT.mod hD rfl) (by omega) (by omega)) rfl rfl rfl (Nat.le_of_ble_eq_true rfl) (Or.inr ⟨_, rfl, (hN.f.k 29 rfl)⟩) rfl ?_
          have hsb := mSet_b hI x h (A 42 3) (A 87 (12 * s + h))
          refine aw_if (p' := 81) rfl ⟨by omega, by omega⟩ rfl rfl (fun c4 => ?_) (fun c4 => ?_)
          · dsimp only [zc] at c4
            refine aw_iinc rfl rfl rfl rfl ?_
            change aw _ _ _ _ 84 [some (.ref 0), some (.int (iI _)), some (.int (iI _)), some (.int (iI _)), some (.ref (gS g s)), some (.int (iI _))] _ _
            refine aw_goto (p' := 2) rfl rfl ?_
            refine ih _ (by omega) _ _ _ _ rfl hN (hD.su (T := [41]) rfl) (by omega) (by omega) (fun c c0 c1 => ?_)
            rw [hU c c0 c1, hcn c]
            split
            · rfl
            · rw [bI_f (by rintro ⟨q1, q2, q3, q4, q5⟩; first | omega | exact absurd q2 (by assumption) | exact (by assumption : ¬ ((0 ≤ A 87 (12 * s + h) ∧ A 87 (12 * s + h) < A 42 2) ∧ mOpen A (A 87 (12 * s + h)) x (A 42 3))) ⟨by omega, q3⟩ | (have := mSet_0.mpr q4; omega))]
              omega
          · dsimp only [zc] at c4
            refine aw_aload_n rfl rfl rfl ?_
            refine aw_iload rfl rfl rfl ?_
            refine aw_iload_n rfl rfl rfl ?_
            refine aw_iload_n rfl rfl rfl ?_
            refine aw_calc (c_servePlace hN hI hx0 hx1 hh0 hh1 (hS.mod hD rfl rfl rfl) hnc ht0 ht1 (by omega) (by omega) (fun c c0 c1 => by
                  have hbc := hb c c0 c1
                  have hcb := cntN_b (mServ A c x h tl) s.toNat
                  rw [hU c c0 c1]
                  split <;> omega)) rfl rfl rfl (Nat.le_of_ble_eq_true rfl) (Or.inr ⟨_, rfl, (hN.f.k 0 rfl)⟩) rfl ?_
            rintro _ τ5 ⟨rfl, hM5, hD5, hU5⟩
            change aw _ _ _ _ 81 [some (.ref 0), some (.int (iI _)), some (.int (iI _)), some (.int (iI _)), some (.ref (gS g s)), some (.int (iI _))] [] _
            refine aw_iinc rfl rfl rfl rfl ?_
            change aw _ _ _ _ 84 [some (.ref 0), some (.int (iI _)), some (.int (iI _)), some (.int (iI _)), some (.ref (gS g s)), some (.int (iI _))] _ _
            refine aw_goto (p' := 2) rfl rfl ?_
            have hop := (by assumption : (0 ≤ A 87 (12 * s + h) ∧ A 87 (12 * s + h) < A 42 2) ∧ mOpen A (A 87 (12 * s + h)) x (A 42 3))
            have hon := (by assumption : A 85 s ≤ x ∧ x ≤ A 86 s)
            refine ih _ (by omega) _ _ _ _ rfl hM5 ((hD.su (T := [41]) rfl).tr (hD5.su (T := [41]) rfl)) (by omega) (by omega) (fun c c0 c1 => ?_)
            rw [hU5 c c0 c1, hU c c0 c1, hcn c]
            have hbc := hb c c0 c1
            have hcb := cntN_b (mServ A c x h tl) s.toNat
            have e : mServ A c x h tl s ↔ mDark A c 0 0 tl x h (A 87 (12 * s + h)) := ⟨fun q => q.2.2.2.2, fun q => ⟨hop.1.1, hon, hop.2, mSet_0.mp (by omega), q⟩⟩
            rw [propext e]
            by_cases q : zx σ 41 c = -1
            · rw [if_pos q, if_pos rfl, if_pos q]
            · rw [if_neg q, if_neg (by omega), if_neg q]
              omega
set_option maxRecDepth 10000 in
set_option maxHeartbeats 2000000 in
theorem c_serveHour {d : Nat} {sz : Nat} {κ : Nat × (Nat → Int32) × Option Nat} {A : Nat → Int → Int} {g : Nat → Nat} {σ : az_S} (hC : CR sz κ A g σ) (hI : MI sz A) {x h : Int} (hx0 : 0 ≤ x) (hx1 : x ≤ 3599) (hh0 : 0 ≤ h) (hh1 : h ≤ 11) (hS : cSL A x (A 42 3) σ) (hT : cST A x h (A 42 3) σ) (hnc : ¬ mCloud A x h) {tl : Int} (ht0 : 1 ≤ tl) (ht1 : tl ≤ 60) (hb : ∀ c : Int, 0 ≤ c → c < A 42 2 → -1 ≤ zx σ 41 c ∧ zx σ 41 c ≤ 900) : cal (d + 4) 156 [.ref 0, .int (iI h), .int (iI tl)] σ (fun r τ => r = none ∧ CR sz κ A g τ ∧ Mod σ τ [41] ∧ ∀ c : Int, 0 ≤ c → c < A 42 2 → zx τ 41 c = if zx σ 41 c = -1 then -1 else zx σ 41 c + cntN (mServ A c x h tl) (A 42 66).toNat) := by
  have hst := hI.stalls
  have hce := hI.cells
  have hcl := hI.clock
  refine cal_of (M := (yX11_serveHour, cX11_serveHour, 6, none)) (cd := k_X11_serveHour) (L := [some (.ref 0), some (.int (iI h)), some (.int (iI tl)), none, none, none]) rfl (Nat.le_of_ble_eq_true rfl) rfl rfl ?_
  refine aw_iconst rfl rfl ?_
  refine aw_istore_n rfl (Nat.le_of_ble_eq_true rfl) rfl rfl ?_
  change aw _ _ _ _ 2 [some (.ref 0), some (.int (iI _)), some (.int (iI _)), some (.int (iI _)), none, none] _ _
  exact c_serveHour_l2 hC hI hx0 hx1 hh0 hh1 hS hT hnc ht0 ht1 hb _ _ 0 _ _ rfl hC Mod.rf (by omega) (by omega) (fun c c0 c1 => by rw [show cntN (mServ A c x h tl) (0 : Int).toNat = 0 from rfl]; split <;> omega)
theorem mMayB_is {A : Nat → Int → Int} {x c : Int} : mMayB A x c ↔ mOpen A c x (A 42 3) ∧ ¬ ∃ s : Int, 0 ≤ s ∧ s < A 42 66 ∧ (A 85 s ≤ x ∧ x ≤ A 86 s) ∧ ∃ h : Int, 0 ≤ h ∧ h < 12 ∧ A 87 (12 * s + h) = c := by
  constructor
  · rintro ⟨h1, h2⟩
    refine ⟨h1, ?_⟩
    rintro ⟨s, s0, s1, s2, e, e0, e1, e2⟩
    exact h2 e e0 e1 ⟨s, s0, s1, s2, e2⟩
  · rintro ⟨h1, h2⟩
    refine ⟨h1, fun e e0 e1 => ?_⟩
    rintro ⟨s, s0, s1, s2, e2⟩
    exact h2 ⟨s, s0, s1, s2, e, e0, e1, e2⟩
set_option maxRecDepth 10000 in
set_option maxHeartbeats 2000000 in
theorem c_bestTree_l129 {d : Nat} {sz : Nat} {κ : Nat × (Nat → Int32) × Option Nat} {A : Nat → Int → Int} {g : Nat → Nat} {σ : az_S} (hC : CR sz κ A g σ) (hI : MI sz A) {x : Int} (hx : inI x) {tl : Int} (htl : inI tl) : ∀ (n : Nat) (τ : az_S) (c b m : Int), (A 42 2 - c).toNat = n → ((0 ≤ x ∧ x ≤ 3599) ∧ (1 ≤ tl ∧ tl ≤ 60)) → CR sz κ A g τ → Mod σ τ [29, 30, 31, 32, 41] → 0 ≤ c → c ≤ A 42 2 → (∀ w : Int, 0 ≤ w → w < A 42 2 → zx τ 41 w = zit (mMayB A x w) (mSrv A x tl w) (-1)) → b = mBestN A x tl c.toNat → m = (if b < 0 then -1 else mSrv A x tl b) → aw (d + 4) k_X11_bestTree (some .int) (fun r τ => r = some (.int (iI (zit ((0 ≤ x ∧ x ≤ 3599) ∧ (1 ≤ tl ∧ tl ≤ 60)) (mBest A x tl) (-1)))) ∧ CR sz κ A g τ ∧ Mod σ τ [29, 30, 31, 32, 41] ∧ (((0 ≤ x ∧ x ≤ 3599) ∧ (1 ≤ tl ∧ tl ≤ 60)) → ∀ c : Int, 0 ≤ c → c < A 42 2 → zx τ 41 c = zit (mMayB A x c) (mSrv A x tl c) (-1))) 129 [some (.ref 0), some (.int (iI x)), some (.int (iI tl)), some (.int (iI b)), some (.int (iI m)), some (.int (iI c))] [] τ := by
  intro n
  induction n using Nat.strongRecOn with
  | ind n ih =>
    intro τ c b m hn hok hN hD hc0 hc1 hU hb hm
    obtain ⟨hx1, hx2⟩ := hx
    obtain ⟨htl1, htl2⟩ := htl
    have hce := hI.cells
    have hcl := hI.clock
    have hsz := hC.f.1
    have hst := hI.stalls
    have hq := mBestN_s (A := A) (x := x) (tl := tl) hc0
    have hr := mBestN_r A x tl c.toNat
    rw [← hb] at hq hr
    have hsb := mSrv_b hI x tl c
    have hsb2 := mSrv_b hI x tl b
    have hmr : -1 ≤ m ∧ m ≤ 120 := by rw [hm]; split <;> omega
    have hv := fun q => hU c hc0 q
    have hz := zit_or (mMayB A x c) (mSrv A x tl c) (-1)
    refine aw_iload rfl rfl rfl ?_
    refine aw_aload_n rfl rfl rfl ?_
    refine aw_getr (b := 41) rfl rfl (hN.f.k 0 rfl) (hN.f.r 0 12 41 rfl) rfl ?_
    refine aw_alen (N := sz) rfl (hN.f.s 41 rfl) (by decide) rfl ?_
    refine aw_icmp (p' := 169) rfl ⟨by omega, by omega⟩ ⟨by omega, by omega⟩ rfl rfl (fun c1 => ?_) (fun c1 => ?_)
    · dsimp only [zc] at c1
      refine aw_iload_n rfl rfl rfl ?_
      refine aw_reti rfl ?_
      refine ⟨?_, hN, (hD.su (T := [29, 30, 31, 32, 41]) rfl), fun _ => hU⟩
      rw [zit_t hok, hb, show c = A 42 2 by omega]
      rfl
    · dsimp only [zc] at c1
      refine aw_aload_n rfl rfl rfl ?_
      refine aw_getr (b := 41) rfl rfl (hN.f.k 0 rfl) (hN.f.r 0 12 41 rfl) rfl ?_
      refine aw_iload rfl rfl rfl ?_
      refine aw_as (N := sz) rfl (hN.f.s 41 rfl) (by omega) (by omega) (by omega) rfl (fun _ _ => ?_)
      rw [hU c hc0 (by omega)]
      have hzr : -1 ≤ zit (mMayB A x c) (mSrv A x tl c) (-1) ∧ zit (mMayB A x c) (mSrv A x tl c) (-1) ≤ 120 := by rcases hz with ⟨-, q⟩ | ⟨-, q⟩ <;> omega
      refine aw_iload rfl rfl rfl ?_
      refine aw_icmp (p' := 163) rfl ⟨by omega, by omega⟩ ⟨by omega, by omega⟩ rfl rfl (fun c2 => ?_) (fun c2 => ?_)
      · dsimp only [zc] at c2
        refine aw_iinc rfl rfl rfl rfl ?_
        change aw _ _ _ _ 166 [some (.ref 0), some (.int (iI _)), some (.int (iI _)), some (.int (iI _)), some (.int (iI _)), some (.int (iI _))] _ _
        refine aw_goto (p' := 129) rfl rfl ?_
        refine ih _ (by omega) _ _ _ _ rfl hok hN (hD.su (T := [29, 30, 31, 32, 41]) rfl) (by omega) (by omega) hU ?_ ?_
        · rw [hq]
          rcases hz with ⟨q1, q2⟩ | ⟨q1, q2⟩
          · first | (rw [zit_t ⟨q1, by split at hm <;> omega⟩]; done) | (rw [zit_f (fun e => by split at hm <;> omega)])
          · first | (rw [zit_f (fun e => q1 e.1)]; done) | (exfalso; omega)
        · first | exact hm | (rw [if_neg (by omega)]; rcases hz with ⟨q1, q2⟩ | ⟨q1, q2⟩ <;> omega)
      · dsimp only [zc] at c2
        refine aw_iload rfl rfl rfl ?_
        refine aw_istore_n rfl (Nat.le_of_ble_eq_true rfl) rfl rfl ?_
        change aw _ _ _ _ 154 [some (.ref 0), some (.int (iI _)), some (.int (iI _)), some (.int (iI _)), some (.int (iI _)), some (.int (iI _))] _ _
        refine aw_aload_n rfl rfl rfl ?_
        refine aw_getr (b := 41) rfl rfl (hN.f.k 0 rfl) (hN.f.r 0 12 41 rfl) rfl ?_
        refine aw_iload rfl rfl rfl ?_
        refine aw_as (N := sz) rfl (hN.f.s 41 rfl) (by omega) (by omega) (by omega) rfl (fun _ _ => ?_)
        rw [hU c hc0 (by omega)]
        refine aw_istore rfl (Nat.le_of_ble_eq_true rfl) rfl rfl ?_
        change aw _ _ _ _ 163 [some (.ref 0), some (.int (iI _)), some (.int (iI _)), some (.int (iI _)), some (.int (iI _)), some (.int (iI _))] _ _
        refine aw_iinc rfl rfl rfl rfl ?_
        change aw _ _ _ _ 166 [some (.ref 0), some (.int (iI _)), some (.int (iI _)), some (.int (iI _)), some (.int (iI _)), some (.int (iI _))] _ _
        refine aw_goto (p' := 129) rfl rfl ?_
        refine ih _ (by omega) _ _ _ _ rfl hok hN (hD.su (T := [29, 30, 31, 32, 41]) rfl) (by omega) (by omega) hU ?_ ?_
        · rw [hq]
          rcases hz with ⟨q1, q2⟩ | ⟨q1, q2⟩
          · first | (rw [zit_t ⟨q1, by split at hm <;> omega⟩]; done) | (rw [zit_f (fun e => by split at hm <;> omega)])
          · first | (rw [zit_f (fun e => q1 e.1)]; done) | (exfalso; omega)
        · first | exact hm | (rw [if_neg (by omega)]; rcases hz with ⟨q1, q2⟩ | ⟨q1, q2⟩ <;> omega)
set_option maxRecDepth 10000 in
set_option maxHeartbeats 2000000 in
theorem c_bestTree_l83 {d : Nat} {sz : Nat} {κ : Nat × (Nat → Int32) × Option Nat} {A : Nat → Int → Int} {g : Nat → Nat} {σ : az_S} (hC : CR sz κ A g σ) (hI : MI sz A) {x : Int} (hx : inI x) {tl : Int} (htl : inI tl) : ∀ (n : Nat) (τ : az_S) (h : Int), (12 - h).toNat = n → ((0 ≤ x ∧ x ≤ 3599) ∧ (1 ≤ tl ∧ tl ≤ 60)) → CR sz κ A g τ → Mod σ τ [29, 30, 31, 32, 41] → 0 ≤ h → h ≤ 12 → cSL A x (A 42 3) τ → (∀ w : Int, 0 ≤ w → w < A 42 2 → zx τ 41 w = zit (mMayB A x w) (sumN (mServH A x tl w) h.toNat) (-1)) → aw (d + 4) k_X11_bestTree (some .int) (fun r τ => r = some (.int (iI (zit ((0 ≤ x ∧ x ≤ 3599) ∧ (1 ≤ tl ∧ tl ≤ 60)) (mBest A x tl) (-1)))) ∧ CR sz κ A g τ ∧ Mod σ τ [29, 30, 31, 32, 41] ∧ (((0 ≤ x ∧ x ≤ 3599) ∧ (1 ≤ tl ∧ tl ≤ 60)) → ∀ c : Int, 0 ≤ c → c < A 42 2 → zx τ 41 c = zit (mMayB A x c) (mSrv A x tl c) (-1))) 83 [some (.ref 0), some (.int (iI x)), some (.int (iI tl)), some (.int (iI h)), none, none] [] τ := by
  intro n
  induction n using Nat.strongRecOn with
  | ind n ih =>
    intro τ h hn hok hN hD hh0 hh1 hS hU
    obtain ⟨hx1, hx2⟩ := hx
    obtain ⟨htl1, htl2⟩ := htl
    have hce := hI.cells
    have hcl := hI.clock
    have hsz := hC.f.1
    have hst := hI.stalls
    have hsm := fun c => sumN_s (f := mServH A x tl c) hh0
    refine aw_iload_n rfl rfl rfl ?_
    refine aw_bipush rfl rfl rfl ?_
    refine aw_icmp (p' := 121) rfl ⟨by omega, by omega⟩ ⟨by omega, by omega⟩ rfl rfl (fun c3 => ?_) (fun c3 => ?_)
    · dsimp only [zc] at c3
      refine aw_iconst rfl rfl ?_
      refine aw_istore_n rfl (Nat.le_of_ble_eq_true rfl) rfl rfl ?_
      change aw _ _ _ _ 123 [some (.ref 0), some (.int (iI _)), some (.int (iI _)), some (.int (iI _)), none, none] _ _
      refine aw_iconst rfl rfl ?_
      refine aw_istore rfl (Nat.le_of_ble_eq_true rfl) rfl rfl ?_
      change aw _ _ _ _ 126 [some (.ref 0), some (.int (iI _)), some (.int (iI _)), some (.int (iI _)), some (.int (iI _)), none] _ _
      refine aw_iconst rfl rfl ?_
      refine aw_istore rfl (Nat.le_of_ble_eq_true rfl) rfl rfl ?_
      change aw _ _ _ _ 129 [some (.ref 0), some (.int (iI _)), some (.int (iI _)), some (.int (iI _)), some (.int (iI _)), some (.int (iI _))] _ _
      exact c_bestTree_l129 hC hI ⟨by omega, by omega⟩ ⟨by omega, by omega⟩ _ _ 0 _ _ rfl hok hN (hD.su (T := [29, 30, 31, 32, 41]) rfl) (by omega) (by omega) (fun w h1 h2 => by rw [hU w h1 h2, show h = 12 by omega]; rfl) rfl rfl
    · dsimp only [zc] at c3
      refine aw_aload_n rfl rfl rfl ?_
      refine aw_getr (b := 1) rfl rfl (hN.f.k 0 rfl) (hN.f.r 0 1 1 rfl) rfl ?_
      refine aw_iload_n rfl rfl rfl ?_
      refine aw_iload_n rfl rfl rfl ?_
      refine aw_fnc (c_isClouded hN hI (by omega) (by omega) (by omega) (by omega)) rfl rfl rfl (Nat.le_of_ble_eq_true rfl) (Or.inr ⟨_, rfl, (hN.f.k 1 rfl)⟩) rfl ?_
      refine aw_ifneb (p' := 115) rfl rfl rfl (fun c4 => ?_) (fun c4 => ?_)
      · refine aw_iinc rfl rfl rfl rfl ?_
        change aw _ _ _ _ 118 [some (.ref 0), some (.int (iI _)), some (.int (iI _)), some (.int (iI _)), none, none] _ _
        refine aw_goto (p' := 83) rfl rfl ?_
        have hcd := (by assumption : mCloud A x h)
        refine ih _ (by omega) _ _ rfl hok hN (hD.su (T := [29, 30, 31, 32, 41]) rfl) (by omega) (by omega) hS (fun w h1 h2 => ?_)
        rw [hU w h1 h2, hsm w, show mServH A x tl w h = 0 from ?_, Int.add_zero]
        unfold mServH
        rw [cntN_zero _ (fun i _ _ q => q.2.2.2.2.1 hcd)]
        rcases zit_or (mOpen A w x (A 42 3)) 0 0 with ⟨-, q⟩ | ⟨-, q⟩ <;> exact q
      · refine aw_aload_n rfl rfl rfl ?_
        refine aw_getr (b := 29) rfl rfl (hN.f.k 0 rfl) (hN.f.r 0 6 29 rfl) rfl ?_
        refine aw_iload_n rfl rfl rfl ?_
        refine aw_calc (c_turnTo hN hI (by omega) (by omega) (by omega) (by omega) (by omega) (by omega) hS) rfl rfl rfl (Nat.le_of_ble_eq_true rfl) (Or.inr ⟨_, rfl, (hN.f.k 29 rfl)⟩) rfl ?_
        rintro _ τ5 ⟨rfl, hM5, hD5, hT5⟩
        change aw _ _ _ _ 109 [some (.ref 0), some (.int (iI _)), some (.int (iI _)), some (.int (iI _)), none, none] [] _
        refine aw_aload_n rfl rfl rfl ?_
        refine aw_iload_n rfl rfl rfl ?_
        refine aw_iload_n rfl rfl rfl ?_
        refine aw_calc (c_serveHour hM5 hI (by omega) (by omega) (by omega) (by omega) (hS.mod hD5 rfl rfl rfl) hT5 (by assumption) (by omega) (by omega) (fun c c0 c1 => by
              have hb2 := sumN_b (f := mServH A x tl c) (M := 10) h.toNat (fun i _ _ => mServH_b hI x tl c i)
              rw [hD5.z 41 rfl, hU c c0 c1]
              rcases zit_or (mMayB A x c) (sumN (mServH A x tl c) h.toNat) (-1) with ⟨-, q⟩ | ⟨-, q⟩ <;> rw [q] <;> omega)) rfl rfl rfl (Nat.le_of_ble_eq_true rfl) (Or.inr ⟨_, rfl, (hM5.f.k 0 rfl)⟩) rfl ?_
        rintro _ τ6 ⟨rfl, hM6, hD6, hU6⟩
        change aw _ _ _ _ 115 [some (.ref 0), some (.int (iI _)), some (.int (iI _)), some (.int (iI _)), none, none] [] _
        refine aw_iinc rfl rfl rfl rfl ?_
        change aw _ _ _ _ 118 [some (.ref 0), some (.int (iI _)), some (.int (iI _)), some (.int (iI _)), none, none] _ _
        refine aw_goto (p' := 83) rfl rfl ?_
        refine ih _ (by omega) _ _ rfl hok hM6 (((hD.su (T := [29, 30, 31, 32, 41]) rfl).tr (hD5.su (T := [29, 30, 31, 32, 41]) rfl)).tr (hD6.su (T := [29, 30, 31, 32, 41]) rfl)) (by omega) (by omega) ((hS.mod hD5 rfl rfl rfl).mod hD6 rfl rfl rfl) (fun w h1 h2 => ?_)
        rw [hU6 w h1 h2, hD5.z 41 rfl, hU w h1 h2, hsm w]
        by_cases q : mMayB A x w
        · have hb2 := sumN_b (f := mServH A x tl w) (M := 10) h.toNat (fun i _ _ => mServH_b hI x tl w i)
          rw [zit_t q, zit_t q, if_neg (by omega)]
          unfold mServH
          rw [zit_t q.1]
        · rw [zit_f q, zit_f q, if_pos rfl]
set_option maxRecDepth 10000 in
set_option maxHeartbeats 2000000 in
theorem c_bestTree_l35 {d : Nat} {sz : Nat} {κ : Nat × (Nat → Int32) × Option Nat} {A : Nat → Int → Int} {g : Nat → Nat} {σ : az_S} (hC : CR sz κ A g σ) (hI : MI sz A) {x : Int} (hx : inI x) {tl : Int} (htl : inI tl) : ∀ (n : Nat) (τ : az_S) (c : Int), (A 42 2 - c).toNat = n → ((0 ≤ x ∧ x ≤ 3599) ∧ (1 ≤ tl ∧ tl ≤ 60)) → CR sz κ A g τ → Mod σ τ [29, 30, 31, 32, 41] → 0 ≤ c → c ≤ A 42 2 → cSL A x (A 42 3) τ → (∀ w : Int, 0 ≤ w → w < c → zx τ 41 w = zit (mMayB A x w) 0 (-1)) → aw (d + 4) k_X11_bestTree (some .int) (fun r τ => r = some (.int (iI (zit ((0 ≤ x ∧ x ≤ 3599) ∧ (1 ≤ tl ∧ tl ≤ 60)) (mBest A x tl) (-1)))) ∧ CR sz κ A g τ ∧ Mod σ τ [29, 30, 31, 32, 41] ∧ (((0 ≤ x ∧ x ≤ 3599) ∧ (1 ≤ tl ∧ tl ≤ 60)) → ∀ c : Int, 0 ≤ c → c < A 42 2 → zx τ 41 c = zit (mMayB A x c) (mSrv A x tl c) (-1))) 35 [some (.ref 0), some (.int (iI x)), some (.int (iI tl)), some (.int (iI c)), none, none] [] τ := by
  intro n
  induction n using Nat.strongRecOn with
  | ind n ih =>
    intro τ c hn hok hN hD hc0 hc1 hS hU
    obtain ⟨hx1, hx2⟩ := hx
    obtain ⟨htl1, htl2⟩ := htl
    have hce := hI.cells
    have hcl := hI.clock
    have hsz := hC.f.1
    have hst := hI.stalls
    have hm := mMayB_is (A := A) (x := x) (c := c)
    refine aw_iload_n rfl rfl rfl ?_
    refine aw_aload_n rfl rfl rfl ?_
    refine aw_getr (b := 41) rfl rfl (hN.f.k 0 rfl) (hN.f.r 0 12 41 rfl) rfl ?_
    refine aw_alen (N := sz) rfl (hN.f.s 41 rfl) (by decide) rfl ?_
    refine aw_icmp (p' := 81) rfl ⟨by omega, by omega⟩ ⟨by omega, by omega⟩ rfl rfl (fun c7 => ?_) (fun c7 => ?_)
    · dsimp only [zc] at c7
      refine aw_iconst rfl rfl ?_
      refine aw_istore_n rfl (Nat.le_of_ble_eq_true rfl) rfl rfl ?_
      change aw _ _ _ _ 83 [some (.ref 0), some (.int (iI _)), some (.int (iI _)), some (.int (iI _)), none, none] _ _
      exact c_bestTree_l83 hC hI ⟨by omega, by omega⟩ ⟨by omega, by omega⟩ _ _ 0 rfl hok hN (hD.su (T := [29, 30, 31, 32, 41]) rfl) (by omega) (by omega) hS (fun w h1 h2 => hU w h1 (by omega))
    · dsimp only [zc] at c7
      refine aw_aload_n rfl rfl rfl ?_
      refine aw_getr (b := 41) rfl rfl (hN.f.k 0 rfl) (hN.f.r 0 12 41 rfl) rfl ?_
      refine aw_iload_n rfl rfl rfl ?_
      refine aw_aload_n rfl rfl rfl ?_
      refine aw_getr (b := 29) rfl rfl (hN.f.k 0 rfl) (hN.f.r 0 6 29 rfl) rfl ?_
      refine aw_iload_n rfl rfl rfl ?_
      refine aw_fnc (c_sOpen hN hI (by omega) (by omega) (by omega) (by omega) ⟨by omega, by omega⟩ hS) rfl rfl rfl (Nat.le_of_ble_eq_true rfl) (Or.inr ⟨_, rfl, (hN.f.k 29 rfl)⟩) rfl ?_
      refine aw_ifeqb (p' := 73) rfl rfl rfl (fun c8 => ?_) (fun c8 => ?_)
      · refine aw_iconst rfl rfl ?_
        refine aw_cs (N := sz) hN hI rfl (hN.f.s 41 rfl) (by omega) rfl (by omega) (by omega) ⟨by omega, by omega⟩ rfl (fun τ9 hM9 hD9 hU9 => ?_)
        refine aw_iinc rfl rfl rfl rfl ?_
        change aw _ _ _ _ 78 [some (.ref 0), some (.int (iI _)), some (.int (iI _)), some (.int (iI _)), none, none] _ _
        refine aw_goto (p' := 35) rfl rfl ?_
        refine ih _ (by omega) _ _ rfl hok hM9 ((hD.su (T := [29, 30, 31, 32, 41]) rfl).tr (hD9.su (T := [29, 30, 31, 32, 41]) rfl)) (by omega) (by omega) (hS.mod hD9 rfl rfl rfl) (fun w h1 h2 => ?_)
        rw [hU9]
        split
        · rename_i e
          rw [e]
          first | (rw [zit_t (hm.mpr ⟨(by assumption : (0 ≤ c ∧ c < A 42 2) ∧ mOpen A c x (A 42 3)).2, by assumption⟩)]; done) | (rw [zit_f (fun q => absurd (hm.mp q).2 (Classical.not_not.mpr (by assumption)))]; done) | (rw [zit_f (fun q => (by assumption : ¬ ((0 ≤ c ∧ c < A 42 2) ∧ mOpen A c x (A 42 3))) ⟨by omega, (hm.mp q).1⟩)])
        · exact hU w h1 (by omega)
      · refine aw_aload_n rfl rfl rfl ?_
        refine aw_iload_n rfl rfl rfl ?_
        refine aw_iload_n rfl rfl rfl ?_
        refine aw_fnc (c_hasStall hN hI ⟨by omega, by omega⟩ (by omega) (by omega)) rfl rfl rfl (Nat.le_of_ble_eq_true rfl) (Or.inr ⟨_, rfl, (hN.f.k 0 rfl)⟩) rfl ?_
        refine aw_ifneb (p' := 73) rfl rfl rfl (fun c10 => ?_) (fun c10 => ?_)
        · refine aw_iconst rfl rfl ?_
          refine aw_cs (N := sz) hN hI rfl (hN.f.s 41 rfl) (by omega) rfl (by omega) (by omega) ⟨by omega, by omega⟩ rfl (fun τ11 hM11 hD11 hU11 => ?_)
          refine aw_iinc rfl rfl rfl rfl ?_
          change aw _ _ _ _ 78 [some (.ref 0), some (.int (iI _)), some (.int (iI _)), some (.int (iI _)), none, none] _ _
          refine aw_goto (p' := 35) rfl rfl ?_
          refine ih _ (by omega) _ _ rfl hok hM11 ((hD.su (T := [29, 30, 31, 32, 41]) rfl).tr (hD11.su (T := [29, 30, 31, 32, 41]) rfl)) (by omega) (by omega) (hS.mod hD11 rfl rfl rfl) (fun w h1 h2 => ?_)
          rw [hU11]
          split
          · rename_i e
            rw [e]
            first | (rw [zit_t (hm.mpr ⟨(by assumption : (0 ≤ c ∧ c < A 42 2) ∧ mOpen A c x (A 42 3)).2, by assumption⟩)]; done) | (rw [zit_f (fun q => absurd (hm.mp q).2 (Classical.not_not.mpr (by assumption)))]; done) | (rw [zit_f (fun q => (by assumption : ¬ ((0 ≤ c ∧ c < A 42 2) ∧ mOpen A c x (A 42 3))) ⟨by omega, (hm.mp q).1⟩)])
          · exact hU w h1 (by omega)
        · refine aw_iconst rfl rfl ?_
          refine aw_goto (p' := 74) rfl rfl ?_
          refine aw_cs (N := sz) hN hI rfl (hN.f.s 41 rfl) (by omega) rfl (by omega) (by omega) ⟨by omega, by omega⟩ rfl (fun τ12 hM12 hD12 hU12 => ?_)
          refine aw_iinc rfl rfl rfl rfl ?_
          change aw _ _ _ _ 78 [some (.ref 0), some (.int (iI _)), some (.int (iI _)), some (.int (iI _)), none, none] _ _
          refine aw_goto (p' := 35) rfl rfl ?_
          refine ih _ (by omega) _ _ rfl hok hM12 ((hD.su (T := [29, 30, 31, 32, 41]) rfl).tr (hD12.su (T := [29, 30, 31, 32, 41]) rfl)) (by omega) (by omega) (hS.mod hD12 rfl rfl rfl) (fun w h1 h2 => ?_)
          rw [hU12]
          split
          · rename_i e
            rw [e]
            first | (rw [zit_t (hm.mpr ⟨(by assumption : (0 ≤ c ∧ c < A 42 2) ∧ mOpen A c x (A 42 3)).2, by assumption⟩)]; done) | (rw [zit_f (fun q => absurd (hm.mp q).2 (Classical.not_not.mpr (by assumption)))]; done) | (rw [zit_f (fun q => (by assumption : ¬ ((0 ≤ c ∧ c < A 42 2) ∧ mOpen A c x (A 42 3))) ⟨by omega, (hm.mp q).1⟩)])
          · exact hU w h1 (by omega)
set_option maxRecDepth 10000 in
set_option maxHeartbeats 2000000 in
theorem c_bestTree {d : Nat} {sz : Nat} {κ : Nat × (Nat → Int32) × Option Nat} {A : Nat → Int → Int} {g : Nat → Nat} {σ : az_S} (hC : CR sz κ A g σ) (hI : MI sz A) {x : Int} (hx : inI x) {tl : Int} (htl : inI tl) : cal (d + 5) 154 [.ref 0, .int (iI x), .int (iI tl)] σ (fun r τ => r = some (.int (iI (zit ((0 ≤ x ∧ x ≤ 3599) ∧ (1 ≤ tl ∧ tl ≤ 60)) (mBest A x tl) (-1)))) ∧ CR sz κ A g τ ∧ Mod σ τ [29, 30, 31, 32, 41] ∧ (((0 ≤ x ∧ x ≤ 3599) ∧ (1 ≤ tl ∧ tl ≤ 60)) → ∀ c : Int, 0 ≤ c → c < A 42 2 → zx τ 41 c = zit (mMayB A x c) (mSrv A x tl c) (-1))) := by
  obtain ⟨hx1, hx2⟩ := hx
  obtain ⟨htl1, htl2⟩ := htl
  have hce := hI.cells
  have hcl := hI.clock
  have hsz := hC.f.1
  have hst := hI.stalls
  refine cal_of (M := (yX11_bestTree, cX11_bestTree, 6, (some .int))) (cd := k_X11_bestTree) (L := [some (.ref 0), some (.int (iI x)), some (.int (iI tl)), none, none, none]) rfl (Nat.le_of_ble_eq_true rfl) rfl rfl ?_
  refine aw_iload_n rfl rfl rfl ?_
  refine aw_fnc (c_isDay ⟨by omega, by omega⟩) rfl rfl rfl (Nat.le_of_ble_eq_true rfl) (Or.inl rfl) rfl ?_
  refine aw_ifeqb (p' := 19) rfl rfl rfl (fun c13 => ?_) (fun c13 => ?_)
  · refine aw_iconst rfl rfl ?_
    refine aw_reti rfl ?_
    refine ⟨?_, hC, Mod.rf, fun q => ?_⟩
    · rw [zit_f (by omega)]
    · omega
  · refine aw_iload_n rfl rfl rfl ?_
    refine aw_iconst rfl rfl ?_
    refine aw_icmp (p' := 19) rfl ⟨by omega, by omega⟩ ⟨by omega, by omega⟩ rfl rfl (fun c14 => ?_) (fun c14 => ?_)
    · dsimp only [zc] at c14
      refine aw_iconst rfl rfl ?_
      refine aw_reti rfl ?_
      refine ⟨?_, hC, Mod.rf, fun q => ?_⟩
      · rw [zit_f (by omega)]
      · omega
    · dsimp only [zc] at c14
      refine aw_iload_n rfl rfl rfl ?_
      refine aw_fnc (c_isHeight ⟨by omega, by omega⟩) rfl rfl rfl (Nat.le_of_ble_eq_true rfl) (Or.inl rfl) rfl ?_
      refine aw_ifneb (p' := 21) rfl rfl rfl (fun c15 => ?_) (fun c15 => ?_)
      · refine aw_aload_n rfl rfl rfl ?_
        refine aw_getr (b := 29) rfl rfl (hC.f.k 0 rfl) (hC.f.r 0 6 29 rfl) rfl ?_
        refine aw_iload_n rfl rfl rfl ?_
        refine aw_aload_n rfl rfl rfl ?_
        refine aw_gk (v := A 42 3) (15) rfl rfl (hC.f.k 0 rfl) rfl hC.today rfl (fun _ _ => ?_)
        refine aw_calc (c_lookAt hC hI (by omega) (by omega) (by omega) (by omega)) rfl rfl rfl (Nat.le_of_ble_eq_true rfl) (Or.inr ⟨_, rfl, (hC.f.k 29 rfl)⟩) rfl ?_
        rintro _ τ16 ⟨rfl, hM16, hD16, hS16⟩
        change aw _ _ _ _ 33 [some (.ref 0), some (.int (iI _)), some (.int (iI _)), none, none, none] [] _
        refine aw_iconst rfl rfl ?_
        refine aw_istore_n rfl (Nat.le_of_ble_eq_true rfl) rfl rfl ?_
        change aw _ _ _ _ 35 [some (.ref 0), some (.int (iI _)), some (.int (iI _)), some (.int (iI _)), none, none] _ _
        exact c_bestTree_l35 hC hI ⟨by omega, by omega⟩ ⟨by omega, by omega⟩ _ _ 0 rfl (by omega) hM16 (hD16.su (T := [29, 30, 31, 32, 41]) rfl) (by omega) (by omega) hS16 (fun w _ _ => by omega)
      · refine aw_iconst rfl rfl ?_
        refine aw_reti rfl ?_
        refine ⟨?_, hC, Mod.rf, fun q => ?_⟩
        · rw [zit_f (by omega)]
        · omega
set_option maxRecDepth 10000 in
set_option maxHeartbeats 2000000 in
theorem c_best {d : Nat} {sz : Nat} {κ : Nat × (Nat → Int32) × Option Nat} {A : Nat → Int → Int} {g : Nat → Nat} {σ : az_S} (hC : CR sz κ A g σ) (hI : MI sz A) {x : Int} (hx : inI x) {tl : Int} (htl : inI tl) : cal (d + 6) 127 [.ref 0, .int (iI x), .int (iI tl)] σ (fun r τ => r = some (.int (iI (zit ((0 ≤ x ∧ x ≤ 3599) ∧ (1 ≤ tl ∧ tl ≤ 60)) (mBest A x tl) (-1)))) ∧ CR sz κ A g τ ∧ Mod σ τ [29, 30, 31, 32, 41]) := by
  obtain ⟨hx1, hx2⟩ := hx
  obtain ⟨htl1, htl2⟩ := htl
  refine cal_of (M := (yX11_best, cX11_best, 3, (some .int))) (cd := k_X11_best) (L := [some (.ref 0), some (.int (iI x)), some (.int (iI tl))]) rfl (Nat.le_of_ble_eq_true rfl) rfl rfl ?_
  refine aw_aload_n rfl rfl rfl ?_
  refine aw_iload_n rfl rfl rfl ?_
  refine aw_iload_n rfl rfl rfl ?_
  refine aw_calc (c_bestTree hC hI ⟨by omega, by omega⟩ ⟨by omega, by omega⟩) rfl rfl rfl (Nat.le_of_ble_eq_true rfl) (Or.inr ⟨_, rfl, (hC.f.k 0 rfl)⟩) rfl ?_
  rintro _ τ1 ⟨rfl, hM1, hD1, hU1⟩
  change aw _ _ _ _ 6 [some (.ref 0), some (.int (iI _)), some (.int (iI _))] [.int (iI _)] _
  refine aw_reti rfl ?_
  exact ⟨rfl, hM1, (hD1.su (T := [29, 30, 31, 32, 41]) rfl)⟩
set_option maxRecDepth 10000 in
set_option maxHeartbeats 2000000 in
theorem c_serves {d : Nat} {sz : Nat} {κ : Nat × (Nat → Int32) × Option Nat} {A : Nat → Int → Int} {g : Nat → Nat} {σ : az_S} (hC : CR sz κ A g σ) (hI : MI sz A) {x : Int} (hx : inI x) {tl : Int} (htl : inI tl) : cal (d + 6) 128 [.ref 0, .int (iI x), .int (iI tl)] σ (fun r τ => r = some (.int (iI (zit ((0 ≤ x ∧ x ≤ 3599) ∧ (1 ≤ tl ∧ tl ≤ 60)) (mBestS A x tl) (-1)))) ∧ CR sz κ A g τ ∧ Mod σ τ [29, 30, 31, 32, 41]) := by
  obtain ⟨hx1, hx2⟩ := hx
  obtain ⟨htl1, htl2⟩ := htl
  have hce := hI.cells
  have hsz := hC.f.1
  have hbr : -1 ≤ mBest A x tl ∧ mBest A x tl < A 42 2 := by
    have := mBestN_r A x tl (A 42 2).toNat
    unfold mBest
    omega
  have hzo := zit_or ((0 ≤ x ∧ x ≤ 3599) ∧ (1 ≤ tl ∧ tl ≤ 60)) (mBest A x tl) (-1)
  refine cal_of (M := (yX11_serves, cX11_serves, 4, (some .int))) (cd := k_X11_serves) (L := [some (.ref 0), some (.int (iI x)), some (.int (iI tl)), none]) rfl (Nat.le_of_ble_eq_true rfl) rfl rfl ?_
  refine aw_aload_n rfl rfl rfl ?_
  refine aw_iload_n rfl rfl rfl ?_
  refine aw_iload_n rfl rfl rfl ?_
  refine aw_calc (c_bestTree hC hI ⟨by omega, by omega⟩ ⟨by omega, by omega⟩) rfl rfl rfl (Nat.le_of_ble_eq_true rfl) (Or.inr ⟨_, rfl, (hC.f.k 0 rfl)⟩) rfl ?_
  rintro _ τ1 ⟨rfl, hM1, hD1, hU1⟩
  change aw _ _ _ _ 6 [some (.ref 0), some (.int (iI _)), some (.int (iI _)), none] [.int (iI _)] _
  refine aw_istore_n rfl (Nat.le_of_ble_eq_true rfl) rfl rfl ?_
  change aw _ _ _ _ 7 [some (.ref 0), some (.int (iI _)), some (.int (iI _)), some (.int (iI _))] _ _
  refine aw_aload_n rfl rfl rfl ?_
  refine aw_getr (b := 28) rfl rfl (hM1.f.k 0 rfl) (hM1.f.r 0 0 28 rfl) rfl ?_
  refine aw_iload_n rfl rfl rfl ?_
  refine aw_fnc (c_has hM1 hI ⟨by omega, by omega⟩) rfl rfl rfl (Nat.le_of_ble_eq_true rfl) (Or.inr ⟨_, rfl, (hM1.f.k 28 rfl)⟩) rfl ?_
  refine aw_ifeqb (p' := 27) rfl rfl rfl (fun c2 => ?_) (fun c2 => ?_)
  · refine aw_iconst rfl rfl ?_
    refine aw_reti rfl ?_
    refine ⟨?_, hM1, (hD1.su (T := [29, 30, 31, 32, 41]) rfl)⟩
    rcases hzo with ⟨q1, q2⟩ | ⟨q1, q2⟩
    · try rw [q2]
      rw [zit_t q1]
      unfold mBestS
      first | (rw [if_pos (by omega)]; done) | (rw [if_neg (by omega), hU1 q1 _ (by omega) (by omega), zit_t (show mMayB A x (mBest A x tl) from mBest_may (A 42 2).toNat (show 0 ≤ mBest A x tl by omega))])
    · rw [zit_f q1]
      first | done | (exfalso; omega)
  · refine aw_aload_n rfl rfl rfl ?_
    refine aw_getr (b := 41) rfl rfl (hM1.f.k 0 rfl) (hM1.f.r 0 12 41 rfl) rfl ?_
    refine aw_iload_n rfl rfl rfl ?_
    refine aw_as (N := sz) rfl (hM1.f.s 41 rfl) (by omega) (by omega) (by omega) rfl (fun _ _ => ?_)
    refine aw_goto (p' := 28) rfl rfl ?_
    refine aw_reti rfl ?_
    refine ⟨?_, hM1, (hD1.su (T := [29, 30, 31, 32, 41]) rfl)⟩
    rcases hzo with ⟨q1, q2⟩ | ⟨q1, q2⟩
    · try rw [q2]
      rw [zit_t q1]
      unfold mBestS
      first | (rw [if_pos (by omega)]; done) | (rw [if_neg (by omega), hU1 q1 _ (by omega) (by omega), zit_t (show mMayB A x (mBest A x tl) from mBest_may (A 42 2).toNat (show 0 ≤ mBest A x tl by omega))])
    · rw [zit_f q1]
      first | done | (exfalso; omega)
