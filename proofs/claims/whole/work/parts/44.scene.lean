/-! THE SCENE -/
noncomputable def cBit (A : Nat → Int → Int) (x h y c : Int) (t : Nat) : Bool := dB (mSh A x h y t c)
def nbI (f : Nat → Bool) (n : Nat) : Int := ((nb f n : Nat) : Int)
theorem p2_c (n : Nat) : ((2 ^ n : Nat) : Int) = 2 ^ n := by simp
theorem nbI_s (f : Nat → Bool) {t : Int} (h : 0 ≤ t) : nbI f (t + 1).toNat = nbI f t.toNat + zit (f t.toNat = true) (2 ^ t.toNat) 0 := by
  obtain ⟨n, rfl⟩ := Int.eq_ofNat_of_zero_le h
  rw [show ((n : Int) + 1).toNat = n + 1 by omega, Int.toNat_natCast]
  unfold nbI
  rw [show nb f (n + 1) = nb f n + (if f n then 2 ^ n else 0) from rfl, Int.natCast_add]
  by_cases hf : f n = true
  · rw [if_pos hf, zit_t hf, p2_c]
  · rw [if_neg hf, zit_f hf]; rfl
theorem nbI_r (f : Nat → Bool) (n : Nat) : 0 ≤ nbI f n ∧ nbI f n < 2 ^ n := by
  have := nb_lt f n
  rw [← p2_c]
  unfold nbI
  omega
def cSL (A : Nat → Int → Int) (x y : Int) (τ : az_S) : Prop := zx τ 29 6 = x ∧ (∀ t : Int, 0 ≤ t → t < A 42 12 → zx τ 30 t = mH A t x y) ∧ ∀ c : Int, 0 ≤ c → c < A 42 2 → zx τ 31 c = bI (¬ mOpen A c x y)
noncomputable def cAll (A : Nat → Int → Int) (x h y c : Int) : Int := nbI (cBit A x h y c) (A 42 12).toNat
def cST (A : Nat → Int → Int) (x h y : Int) (τ : az_S) : Prop := ∀ c : Int, 0 ≤ c → c < A 42 2 → zx τ 32 c = cAll A x h y c
theorem cSL.mod {A : Nat → Int → Int} {x y : Int} {σ τ : az_S} {S : List Nat} (k : cSL A x y σ) (hd : Mod σ τ S) (h1 : S.contains 29 = false) (h2 : S.contains 30 = false) (h3 : S.contains 31 = false) : cSL A x y τ := by
  unfold cSL
  rw [hd.z 29 h1, hd.z 30 h2, hd.z 31 h3]
  exact k
theorem cST.mod {A : Nat → Int → Int} {x h y : Int} {σ τ : az_S} {S : List Nat} (k : cST A x h y σ) (hd : Mod σ τ S) (h1 : S.contains 32 = false) : cST A x h y τ := by
  unfold cST
  rw [hd.z 32 h1]
  exact k
theorem mMany_rk (A : Nat → Int → Int) (x h y c : Int) : ∀ n : Nat, mManyN A x h y c n = (if (rk (cBit A x h y c) n : Int) < 12 then (rk (cBit A x h y c) n : Int) else 12) := by
  intro n
  induction n with
  | zero => rfl
  | succ n ih =>
    rw [rk_su, show mManyN A x h y c (n + 1) = @ite Int (mSh A x h y n c ∧ mManyN A x h y c n < 12) (Classical.propDecidable _) (mManyN A x h y c n + 1) (mManyN A x h y c n) from rfl]
    by_cases hb : mSh A x h y n c
    · have : cBit A x h y c n = true := dB_t.mpr hb
      rw [if_pos this]
      by_cases h1 : mManyN A x h y c n < 12
      · rw [if_pos ⟨hb, h1⟩, ih]
        rw [ih] at h1
        split at h1 <;> (rw [Int.natCast_add]; (repeat' split) <;> omega)
      · rw [if_neg (fun q => h1 q.2), ih]
        rw [ih] at h1
        split at h1 <;> (rw [Int.natCast_add]; (repeat' split) <;> omega)
    · have : ¬ cBit A x h y c n = true := fun q => hb (dB_t.mp q)
      rw [if_neg this, if_neg (fun q => hb q.1), ih]
      rfl
theorem mSet_nb (A : Nat → Int → Int) (x h y c : Int) : ∀ n : Nat, mSetN A x h y c n = nbI (fun t => cBit A x h y c t && decide (rk (cBit A x h y c) t < 12)) n := by
  intro n
  induction n with
  | zero => rfl
  | succ n ih =>
    have hm := mMany_rk A x h y c n
    have e : mManyN A x h y c n < 12 ↔ rk (cBit A x h y c) n < 12 := by
      rw [hm]; split <;> omega
    rw [show mSetN A x h y c (n + 1) = @ite Int (mSh A x h y n c ∧ mManyN A x h y c n < 12) (Classical.propDecidable _) (mSetN A x h y c n + 2 ^ n) (mSetN A x h y c n) from rfl]
    unfold nbI at ih ⊢
    rw [show nb (fun t => cBit A x h y c t && decide (rk (cBit A x h y c) t < 12)) (n + 1) = nb (fun t => cBit A x h y c t && decide (rk (cBit A x h y c) t < 12)) n + (if (cBit A x h y c n && decide (rk (cBit A x h y c) n < 12)) then 2 ^ n else 0) from rfl, Int.natCast_add, ← ih]
    by_cases hb : mSh A x h y n c ∧ mManyN A x h y c n < 12
    · have h1 : cBit A x h y c n = true := dB_t.mpr hb.1
      rw [if_pos hb, if_pos (by rw [h1]; simp [e.mp hb.2]), p2_c]
    · rw [if_neg hb, if_neg (fun q => hb (by rw [Bool.and_eq_true, decide_eq_true_eq] at q; exact ⟨dB_t.mp q.1, e.mpr q.2⟩))]
      simp
theorem mSet_rk (A : Nat → Int → Int) (x h y c : Int) : ∀ n : Nat, (rk (fun t => cBit A x h y c t && decide (rk (cBit A x h y c) t < 12)) n : Int) = mManyN A x h y c n := by
  intro n
  induction n with
  | zero => rfl
  | succ n ih =>
    have hm := mMany_rk A x h y c n
    have e : mManyN A x h y c n < 12 ↔ rk (cBit A x h y c) n < 12 := by
      rw [hm]; split <;> omega
    rw [show mManyN A x h y c (n + 1) = @ite Int (mSh A x h y n c ∧ mManyN A x h y c n < 12) (Classical.propDecidable _) (mManyN A x h y c n + 1) (mManyN A x h y c n) from rfl, rk_su, Int.natCast_add, ih]
    by_cases hb : mSh A x h y n c ∧ mManyN A x h y c n < 12
    · have h1 : cBit A x h y c n = true := dB_t.mpr hb.1
      rw [if_pos hb, if_pos (by rw [h1]; simp [e.mp hb.2])]
      rfl
    · rw [if_neg hb, if_neg (fun q => hb (by rw [Bool.and_eq_true, decide_eq_true_eq] at q; exact ⟨dB_t.mp q.1, e.mpr q.2⟩))]
      simp
theorem nb_ext {f : Nat → Bool} {n m : Nat} (h : n ≤ m) : nb (fun t => decide (t < n) && f t) m = nb f n := by
  apply tb_ext
  intro t
  rw [nb_tb, nb_tb]
  by_cases h1 : t < n
  · simp [h1, show t < m by omega]
  · simp [h1]
theorem rk_ext {f : Nat → Bool} {n : Nat} : ∀ {m : Nat}, n ≤ m → rk (fun t => decide (t < n) && f t) m = rk f n := by
  intro m h
  induction m with
  | zero => rw [show n = 0 by omega]; rfl
  | succ m ih =>
    by_cases e : n = m + 1
    · rw [e]; exact rk_congr _ (fun t ht => by simp [ht])
    · rw [rk_su, ih (by omega)]
      simp [show ¬ m < n by omega]
theorem rk_tb {f : Nat → Bool} {n m : Nat} (h : n ≤ m) : rk (fun t => (nb f n).testBit t) m = rk f n := by
  rw [← rk_ext (f := f) h]
  exact rk_congr m (fun t _ => by rw [nb_tb])
/-! a shadow runs straight -/
def cPt (A : Nat → Int → Int) (t x h y w n : Int) : Prop := mOpen A w x y ∧ ∃ i : Int, 1 ≤ i ∧ i < n ∧ mPoint A (A 50 t) (A 54 t) (A 55 t) x h i = w
theorem cPt_s {A : Nat → Int → Int} {t x h y w n : Int} (hn : 1 ≤ n) : cPt A t x h y w (n + 1) ↔ cPt A t x h y w n ∨ (mOpen A w x y ∧ mPoint A (A 50 t) (A 54 t) (A 55 t) x h n = w) := by
  constructor
  · rintro ⟨h1, i, h2, h3, h4⟩
    by_cases e : i < n
    · exact Or.inl ⟨h1, i, h2, e, h4⟩
    · have : i = n := by omega
      rw [this] at h4
      exact Or.inr ⟨h1, h4⟩
  · rintro (⟨h1, i, h2, h3, h4⟩ | ⟨h1, h4⟩)
    · exact ⟨h1, i, h2, by omega, h4⟩
    · exact ⟨h1, n, hn, by omega, h4⟩
theorem sh_iff {A : Nat → Int → Int} {t x h y w : Int} (ht0 : 0 ≤ t) (ht1 : t < A 42 12) (hc : ¬ mCloud A x h) : mSh A x h y t w ↔ cPt A t x h y w (mH A t x y + 1) := by
  constructor
  · rintro ⟨h1, ⟨h2, h3, h4⟩, h5⟩
    exact ⟨h5, h4⟩
  · rintro ⟨h1, i, h2, h3, h4⟩
    refine ⟨by omega, ⟨hc, ?_, i, h2, h3, h4⟩, h1⟩
    intro e
    rcases h1 t ht0 ht1 with q | q
    · exact q e.symm
    · omega
theorem run_out {a s j i W : Int} (h0 : 0 ≤ a) (h1 : a < W) (hj : 0 ≤ j) (hi : j ≤ i) (ho : a + j * s < 0 ∨ W ≤ a + j * s) : a + i * s < 0 ∨ W ≤ a + i * s := by
  have e : i * s = j * s + (i - j) * s := by rw [← Int.add_mul]; congr 1; omega
  rcases ho with ho | ho
  · left
    have hs : s < 0 := by
      rcases Int.lt_or_le s 0 with q | q
      · exact q
      · have := Int.mul_nonneg hj q; omega
    have : (i - j) * s ≤ 0 := Int.mul_nonpos_of_nonneg_of_nonpos (by omega) (by omega)
    omega
  · right
    have hs : 0 < s := by
      rcases Int.lt_or_le 0 s with q | q
      · exact q
      · have := Int.mul_nonpos_of_nonneg_of_nonpos hj q; omega
    have : 0 ≤ (i - j) * s := Int.mul_nonneg (by omega) (by omega)
    omega
theorem mPoint_in {A : Nat → Int → Int} {c lx ly x h j X Y : Int} (eX : X = 100 * (c % A 42 0) + 50 + j * (A 43 (12 * (x % 360 / 30) + h) + lx)) (eY : Y = 100 * (c / A 42 0) + 50 + j * (A 44 (12 * (x % 360 / 30) + h) + ly)) (h1 : 0 ≤ X) (h2 : X < 100 * A 42 0) (h3 : 0 ≤ Y) (h4 : Y < 100 * A 42 1) : mPoint A c lx ly x h j = Y / 100 * A 42 0 + X / 100 := by
  unfold mPoint mPx mPy
  rw [← eX, ← eY, if_pos (by omega)]
theorem mPoint_out {A : Nat → Int → Int} {c lx ly x h j X Y : Int} (eX : X = 100 * (c % A 42 0) + 50 + j * (A 43 (12 * (x % 360 / 30) + h) + lx)) (eY : Y = 100 * (c / A 42 0) + 50 + j * (A 44 (12 * (x % 360 / 30) + h) + ly)) (h1 : X < 0 ∨ 100 * A 42 0 ≤ X ∨ Y < 0 ∨ 100 * A 42 1 ≤ Y) : mPoint A c lx ly x h j = -1 := by
  unfold mPoint mPx mPy
  rw [← eX, ← eY, if_neg (by omega)]
theorem cPt_stop {sz : Nat} {A : Nat → Int → Int} (hI : MI sz A) {t x h y w j n : Int} (hc0 : 0 ≤ A 50 t) (hc1 : A 50 t < A 42 2) (hw : 0 ≤ w) (hj : 1 ≤ j) (hn : j ≤ n) (ho : (100 * (A 50 t % A 42 0) + 50 + j * (A 43 (12 * (x % 360 / 30) + h) + A 54 t) < 0 ∨ 100 * A 42 0 ≤ 100 * (A 50 t % A 42 0) + 50 + j * (A 43 (12 * (x % 360 / 30) + h) + A 54 t)) ∨ (100 * (A 50 t / A 42 0) + 50 + j * (A 44 (12 * (x % 360 / 30) + h) + A 55 t) < 0 ∨ 100 * A 42 1 ≤ 100 * (A 50 t / A 42 0) + 50 + j * (A 44 (12 * (x % 360 / 30) + h) + A 55 t))) : cPt A t x h y w n ↔ cPt A t x h y w j := by
  have hwd := hI.wide
  have hhd := hI.high
  have hce := hI.cells
  have r1 := rem_b (a := A 50 t) (g := A 42 0) (by omega)
  have r2 : 0 ≤ A 50 t / A 42 0 ∧ A 50 t / A 42 0 < A 42 1 := ⟨Int.ediv_nonneg hc0 (by omega), Int.ediv_lt_of_lt_mul (by omega) (by rw [Int.mul_comm]; omega)⟩
  constructor
  · rintro ⟨h1, i, h2, h3, h4⟩
    refine ⟨h1, i, h2, ?_, h4⟩
    rcases Int.lt_or_le i j with q | q
    · exact q
    · exfalso
      have : mPoint A (A 50 t) (A 54 t) (A 55 t) x h i = -1 := by
        refine mPoint_out rfl rfl ?_
        rcases ho with ho | ho
        · have := run_out (W := 100 * A 42 0) (by omega) (by omega) (by omega : 0 ≤ j) q ho
          omega
        · have := run_out (W := 100 * A 42 1) (by omega) (by omega) (by omega : 0 ≤ j) q ho
          omega
      omega
  · rintro ⟨h1, i, h2, h3, h4⟩
    exact ⟨h1, i, h2, by omega, h4⟩
section AwBits3
variable {d : Nat} {cd : List az_I} {rt : Option FieldType} {P : Option Value → az_S → Prop} {pc p' : Nat} {L : az_V} {st : List Value} {σ : az_S}
theorem zor_q {b : Int} {n : Nat} (h0 : 0 ≤ b) (h1 : b < 2 ^ n) : zor (b + 2 ^ n) (2 ^ n) = b + 2 ^ n := by
  rw [← zor_p h0 h1]
  unfold zor
  rw [Int.toNat_natCast, Nat.or_assoc, Nat.or_self]
theorem aw_iorb {a b : Int} {n : Nat} (hf : az_fetch cd pc = some (1, .ior, [])) (h0 : 0 ≤ b) (h1 : b < 2 ^ n) (ha : a = b ∨ a = b + 2 ^ n) (hp : pc + 1 = p') (h : aw d cd rt P p' L (.int (iI (b + 2 ^ n)) :: st) σ) : aw d cd rt P pc L (.int (iI (2 ^ n)) :: .int (iI a) :: st) σ := by
  have h2 : (0 : Int) ≤ 2 ^ n := by rw [← p2_c]; exact Int.natCast_nonneg _
  refine aw_ior hf (by omega) h2 hp ?_
  rcases ha with rfl | rfl
  · rw [zor_p h0 h1]; exact h
  · rw [zor_q h0 h1]; exact h
end AwBits3
set_option maxRecDepth 10000 in
set_option maxHeartbeats 2000000 in
theorem c_lookAt_l31 {d : Nat} {sz : Nat} {κ : Nat × (Nat → Int32) × Option Nat} {A : Nat → Int → Int} {g : Nat → Nat} {σ : az_S} (hC : CR sz κ A g σ) (hI : MI sz A) {x y : Int} (hx0 : 0 ≤ x) (hx1 : x ≤ 3599) (hy0 : 0 ≤ y) (hy1 : y ≤ 3599) : ∀ (n : Nat) (τ : az_S) (t : Int) (v : Option Value), (A 42 12 - t).toNat = n → CR sz κ A g τ → Mod σ τ [29, 30, 31] → 0 ≤ t → t ≤ A 42 12 → zx τ 29 6 = x → (∀ u : Int, 0 ≤ u → u < t → zx τ 30 u = mH A u x y) → (∀ c : Int, 0 ≤ c → c < A 42 2 → zx τ 31 c = bI (¬ mOpenTo A c x y t)) → aw (d + 3) k_X5_lookAt none (fun r τ => r = none ∧ CR sz κ A g τ ∧ Mod σ τ [29, 30, 31] ∧ cSL A x y τ) 31 [some (.ref 29), some (.int (iI x)), some (.int (iI y)), some (.int (iI t)), v] [] τ := by
  intro n
  induction n using Nat.strongRecOn with
  | ind n ih =>
    intro τ t v hn hN hD ht0 ht1 hX hH hB
    have hth := hI.things
    have hce := hI.cells
    have hsz := hC.f.1
    have hTI := fun q => hI.thing t ht0 q
    have hos := fun c => mOpenTo_s (A := A) (c := c) (d := x) (k := y) ht0
    refine aw_iload_n rfl rfl rfl ?_
    refine aw_aload_n rfl rfl rfl ?_
    refine aw_getr (b := 6) rfl rfl (hN.f.k 29 rfl) (hN.f.r 29 2 6 rfl) rfl ?_
    refine aw_fnc (c_size (hN.f.k 6 rfl) hN.lT.1) rfl rfl rfl (Nat.le_of_ble_eq_true rfl) (Or.inr ⟨_, rfl, (hN.f.k 6 rfl)⟩) rfl ?_
    refine aw_icmp (p' := 125) rfl ⟨by omega, by omega⟩ ⟨by omega, by omega⟩ rfl rfl (fun c1 => ?_) (fun c1 => ?_)
    · dsimp only [zc] at c1
      refine aw_retv rfl ?_
      exact ⟨rfl, hN, (hD.su (T := [29, 30, 31]) rfl), hX, fun u h1 h2 => hH u h1 (by omega), fun c h1 h2 => by rw [hB c h1 h2, show t = A 42 12 by omega]⟩
    · dsimp only [zc] at c1
      refine aw_iload_n rfl rfl rfl ?_
      refine aw_aload_n rfl rfl rfl ?_
      refine aw_getr (b := 30) rfl rfl (hN.f.k 29 rfl) (hN.f.r 29 3 30 rfl) rfl ?_
      refine aw_alen (N := 24) rfl (hN.f.s 30 rfl) (by decide) rfl ?_
      refine aw_icmp (p' := 125) rfl ⟨by omega, by omega⟩ ⟨by omega, by omega⟩ rfl rfl (fun c2 => ?_) (fun c2 => ?_)
      · dsimp only [zc] at c2
        refine aw_retv rfl ?_
        exact ⟨rfl, hN, (hD.su (T := [29, 30, 31]) rfl), hX, fun u h1 h2 => hH u h1 (by omega), fun c h1 h2 => by rw [hB c h1 h2, show t = A 42 12 by omega]⟩
      · dsimp only [zc] at c2
        obtain ⟨⟨he1, he2⟩, ⟨he3, he4⟩, hTe, hkg, hTc, hTo, hTs, hTl, hTf, hTm⟩ := hTI (by omega)
        refine aw_aload_n rfl rfl rfl ?_
        refine aw_getr (b := 6) rfl rfl (hN.f.k 29 rfl) (hN.f.r 29 2 6 rfl) rfl ?_
        refine aw_iload_n rfl rfl rfl ?_
        refine aw_fnc (c_get (hN.f.k 6 rfl) hN.lT (by omega) (by omega) (by omega)) rfl rfl rfl (Nat.le_of_ble_eq_true rfl) (Or.inr ⟨_, rfl, (hN.f.k 6 rfl)⟩) rfl ?_
        refine aw_cast rfl rfl (hN.kT (by omega) (by omega)) rfl ?_
        refine aw_astore rfl (Nat.le_of_ble_eq_true rfl) rfl rfl ?_
        change aw _ _ _ _ 64 [some (.ref 29), some (.int (iI _)), some (.int (iI _)), some (.int (iI _)), some (.ref (gT g t))] _ _
        refine aw_aload_n rfl rfl rfl ?_
        refine aw_getr (b := 30) rfl rfl (hN.f.k 29 rfl) (hN.f.r 29 3 30 rfl) rfl ?_
        refine aw_iload_n rfl rfl rfl ?_
        refine aw_aload rfl rfl rfl ?_
        refine aw_iload_n rfl rfl rfl ?_
        refine aw_iload_n rfl rfl rfl ?_
        refine aw_fnc (c_heightOn hN hI (by omega) (by omega) (by omega) (by omega) (by omega) (by omega)) rfl rfl rfl (Nat.le_of_ble_eq_true rfl) (Or.inr ⟨_, rfl, (hN.kT (by omega) (by omega))⟩) rfl ?_
        have hrH3 := mH_range (hI.thing t (by omega) (by omega)) x y
        refine aw_cs (N := 24) hN hI rfl (hN.f.s 30 rfl) (by omega) rfl (by omega) (by omega) ⟨by omega, by omega⟩ rfl (fun τ4 hM4 hD4 hU4 => ?_)
        refine aw_aload_n rfl rfl rfl ?_
        refine aw_getr (b := 30) rfl rfl (hM4.f.k 29 rfl) (hM4.f.r 29 3 30 rfl) rfl ?_
        refine aw_iload_n rfl rfl rfl ?_
        refine aw_as (N := 24) rfl (hM4.f.s 30 rfl) (by omega) (by omega) (by omega) rfl (fun _ _ => ?_)
        rw [hU4, if_pos rfl]
        refine aw_iconst rfl rfl ?_
        refine aw_icmp (p' := 119) rfl ⟨by omega, by omega⟩ ⟨by omega, by omega⟩ rfl rfl (fun c5 => ?_) (fun c5 => ?_)
        · dsimp only [zc] at c5
          refine aw_iinc rfl rfl rfl rfl ?_
          change aw _ _ _ _ 122 [some (.ref 29), some (.int (iI _)), some (.int (iI _)), some (.int (iI _)), some (.ref (gT g t))] _ _
          refine aw_goto (p' := 31) rfl rfl ?_
          refine ih _ (by omega) _ _ _ rfl hM4 ((hD.su (T := [29, 30, 31]) rfl).tr (hD4.su (T := [29, 30, 31]) rfl)) (by omega) (by omega) (by rw [hD4.z 29 rfl]; exact hX) (fun u h1 h2 => ?_) (fun c h1 h2 => ?_)
          · rw [hU4]
            split
            · rename_i e; rw [e]
            · exact hH u h1 (by omega)
          · rw [hD4.z 31 rfl]
            rw [propext (hos c)]
            rw [hB c h1 h2]
            exact bI_congr ⟨fun q r => q r.1, fun q r => q ⟨r, Or.inr (by omega)⟩⟩
        · dsimp only [zc] at c5
          refine aw_aload rfl rfl rfl ?_
          refine aw_gk (v := (A 50 t)) (1) rfl rfl (hM4.kT (by omega) (by omega)) rfl (hM4.T1 (by omega) (by omega)) rfl (fun _ _ => ?_)
          refine aw_if (p' := 119) rfl ⟨by omega, by omega⟩ rfl rfl (fun c6 => ?_) (fun c6 => ?_)
          · dsimp only [zc] at c6
            omega
          · dsimp only [zc] at c6
            refine aw_aload rfl rfl rfl ?_
            refine aw_gk (v := (A 50 t)) (1) rfl rfl (hM4.kT (by omega) (by omega)) rfl (hM4.T1 (by omega) (by omega)) rfl (fun _ _ => ?_)
            refine aw_aload_n rfl rfl rfl ?_
            refine aw_getr (b := 31) rfl rfl (hM4.f.k 29 rfl) (hM4.f.r 29 4 31 rfl) rfl ?_
            refine aw_alen (N := sz) rfl (hM4.f.s 31 rfl) (by decide) rfl ?_
            refine aw_icmp (p' := 119) rfl ⟨by omega, by omega⟩ ⟨by omega, by omega⟩ rfl rfl (fun c7 => ?_) (fun c7 => ?_)
            · dsimp only [zc] at c7
              omega
            · dsimp only [zc] at c7
              refine aw_aload_n rfl rfl rfl ?_
              refine aw_getr (b := 31) rfl rfl (hM4.f.k 29 rfl) (hM4.f.r 29 4 31 rfl) rfl ?_
              refine aw_aload rfl rfl rfl ?_
              refine aw_gk (v := (A 50 t)) (1) rfl rfl (hM4.kT (by omega) (by omega)) rfl (hM4.T1 (by omega) (by omega)) rfl (fun _ _ => ?_)
              refine aw_iconst rfl rfl ?_
              refine aw_cb (N := sz) hM4 hI rfl (hM4.f.s 31 rfl) (by omega) rfl (by omega) (by omega) (by first | omega | exact bI_01 _) rfl (fun τ8 hM8 hD8 hU8 => ?_)
              refine aw_iinc rfl rfl rfl rfl ?_
              change aw _ _ _ _ 122 [some (.ref 29), some (.int (iI _)), some (.int (iI _)), some (.int (iI _)), some (.ref (gT g t))] _ _
              refine aw_goto (p' := 31) rfl rfl ?_
              refine ih _ (by omega) _ _ _ rfl hM8 (((hD.su (T := [29, 30, 31]) rfl).tr (hD4.su (T := [29, 30, 31]) rfl)).tr (hD8.su (T := [29, 30, 31]) rfl)) (by omega) (by omega) (by rw [hD8.z 29 rfl, hD4.z 29 rfl]; exact hX) (fun u h1 h2 => ?_) (fun c h1 h2 => ?_)
              · rw [hD8.z 30 rfl, hU4]
                split
                · rename_i e; rw [e]
                · exact hH u h1 (by omega)
              · rw [hU8, hD4.z 31 rfl]
                rw [propext (hos c)]
                split
                · rename_i e
                  rw [bI_t]
                  rintro ⟨-, q⟩
                  omega
                · rename_i e
                  rw [hB c h1 h2]
                  exact bI_congr ⟨fun q r => q r.1, fun q r => q ⟨r, Or.inl (fun e2 => e e2.symm)⟩⟩
set_option maxRecDepth 10000 in
set_option maxHeartbeats 2000000 in
theorem c_lookAt_l7 {d : Nat} {sz : Nat} {κ : Nat × (Nat → Int32) × Option Nat} {A : Nat → Int → Int} {g : Nat → Nat} {σ : az_S} (hC : CR sz κ A g σ) (hI : MI sz A) {x y : Int} (hx0 : 0 ≤ x) (hx1 : x ≤ 3599) (hy0 : 0 ≤ y) (hy1 : y ≤ 3599) : ∀ (n : Nat) (τ : az_S) (j : Int), (A 42 2 - j).toNat = n → CR sz κ A g τ → Mod σ τ [29, 30, 31] → 0 ≤ j → j ≤ A 42 2 → zx τ 29 6 = x → (∀ w : Int, 0 ≤ w → w < j → zx τ 31 w = 0) → aw (d + 3) k_X5_lookAt none (fun r τ => r = none ∧ CR sz κ A g τ ∧ Mod σ τ [29, 30, 31] ∧ cSL A x y τ) 7 [some (.ref 29), some (.int (iI x)), some (.int (iI y)), some (.int (iI j)), none] [] τ := by
  intro n
  induction n using Nat.strongRecOn with
  | ind n ih =>
    intro τ j hn hN hD hj0 hj1 hX hU
    have hth := hI.things
    have hce := hI.cells
    have hsz := hC.f.1
    refine aw_iload_n rfl rfl rfl ?_
    refine aw_aload_n rfl rfl rfl ?_
    refine aw_getr (b := 31) rfl rfl (hN.f.k 29 rfl) (hN.f.r 29 4 31 rfl) rfl ?_
    refine aw_alen (N := sz) rfl (hN.f.s 31 rfl) (by decide) rfl ?_
    refine aw_icmp (p' := 29) rfl ⟨by omega, by omega⟩ ⟨by omega, by omega⟩ rfl rfl (fun c9 => ?_) (fun c9 => ?_)
    · dsimp only [zc] at c9
      refine aw_iconst rfl rfl ?_
      refine aw_istore_n rfl (Nat.le_of_ble_eq_true rfl) rfl rfl ?_
      change aw _ _ _ _ 31 [some (.ref 29), some (.int (iI _)), some (.int (iI _)), some (.int (iI _)), none] _ _
      exact c_lookAt_l31 hC hI hx0 hx1 hy0 hy1 _ _ 0 _ rfl hN (hD.su (T := [29, 30, 31]) rfl) (by omega) (by omega) hX (fun u _ _ => by omega) (fun c h1 h2 => by rw [hU c h1 (by omega)]; exact (bI_f (fun q => q (fun t a b => by omega))).symm)
    · dsimp only [zc] at c9
      refine aw_aload_n rfl rfl rfl ?_
      refine aw_getr (b := 31) rfl rfl (hN.f.k 29 rfl) (hN.f.r 29 4 31 rfl) rfl ?_
      refine aw_iload_n rfl rfl rfl ?_
      refine aw_iconst rfl rfl ?_
      refine aw_cb (N := sz) hN hI rfl (hN.f.s 31 rfl) (by omega) rfl (by omega) (by omega) (by first | omega | exact bI_01 _) rfl (fun τ10 hM10 hD10 hU10 => ?_)
      refine aw_iinc rfl rfl rfl rfl ?_
      change aw _ _ _ _ 26 [some (.ref 29), some (.int (iI _)), some (.int (iI _)), some (.int (iI _)), none] _ _
      refine aw_goto (p' := 7) rfl rfl ?_
      exact ih _ (by omega) _ _ rfl hM10 ((hD.su (T := [29, 30, 31]) rfl).tr (hD10.su (T := [29, 30, 31]) rfl)) (by omega) (by omega) (by rw [hD10.z 29 rfl]; exact hX) (fun w h1 h2 => by rw [hU10]; split; rfl; exact hU w h1 (by omega))
set_option maxRecDepth 10000 in
set_option maxHeartbeats 2000000 in
theorem c_lookAt {d : Nat} {sz : Nat} {κ : Nat × (Nat → Int32) × Option Nat} {A : Nat → Int → Int} {g : Nat → Nat} {σ : az_S} (hC : CR sz κ A g σ) (hI : MI sz A) {x y : Int} (hx0 : 0 ≤ x) (hx1 : x ≤ 3599) (hy0 : 0 ≤ y) (hy1 : y ≤ 3599) : cal (d + 4) 37 [.ref 29, .int (iI x), .int (iI y)] σ (fun r τ => r = none ∧ CR sz κ A g τ ∧ Mod σ τ [29, 30, 31] ∧ cSL A x y τ) := by
  have hth := hI.things
  have hce := hI.cells
  have hsz := hC.f.1
  refine cal_of (M := (yX5_lookAt, cX5_lookAt, 5, none)) (cd := k_X5_lookAt) (L := [some (.ref 29), some (.int (iI x)), some (.int (iI y)), none, none]) rfl (Nat.le_of_ble_eq_true rfl) rfl rfl ?_
  refine aw_aload_n rfl rfl rfl ?_
  refine aw_iload_n rfl rfl rfl ?_
  refine aw_cf (6) hC hI rfl rfl (hC.f.k 29 rfl) rfl rfl ⟨by omega, by omega⟩ rfl (fun τ11 hM11 hD11 hU11 => ?_)
  refine aw_iconst rfl rfl ?_
  refine aw_istore_n rfl (Nat.le_of_ble_eq_true rfl) rfl rfl ?_
  change aw _ _ _ _ 7 [some (.ref 29), some (.int (iI _)), some (.int (iI _)), some (.int (iI _)), none] _ _
  exact c_lookAt_l7 hC hI hx0 hx1 hy0 hy1 _ _ 0 rfl hM11 (hD11.su (T := [29, 30, 31]) rfl) (by omega) (by omega) (by rw [hU11, if_pos rfl]) (fun w _ _ => by omega)
set_option maxRecDepth 10000 in
set_option maxHeartbeats 2000000 in
theorem c_sHeight {d : Nat} {sz : Nat} {κ : Nat × (Nat → Int32) × Option Nat} {A : Nat → Int → Int} {g : Nat → Nat} {σ : az_S} (hC : CR sz κ A g σ) (hI : MI sz A) {x y : Int} (hx0 : 0 ≤ x) (hx1 : x ≤ 3599) (hy0 : 0 ≤ y) (hy1 : y ≤ 3599) {t : Int} (ht0 : 0 ≤ t) (ht1 : t < A 42 12) (hS : cSL A x y σ) : fn (d + 1) 40 [.ref 29, .int (iI t)] σ (.int (iI (mH A t x y))) := by
  have hth := hI.things
  refine fn_of (M := (yX5_heightOf, cX5_heightOf, 2, (some .int))) (cd := k_X5_heightOf) (L := [some (.ref 29), some (.int (iI t))]) rfl (Nat.le_of_ble_eq_true rfl) rfl rfl ?_
  refine aw_iload_n rfl rfl rfl ?_
  refine aw_if (p' := 22) rfl ⟨by omega, by omega⟩ rfl rfl (fun c1 => ?_) (fun c1 => ?_)
  · dsimp only [zc] at c1
    refine aw_iconst rfl rfl ?_
    refine aw_reti rfl ?_
    refine ⟨?_, rfl⟩
    first | rfl | omega
  · dsimp only [zc] at c1
    refine aw_iload_n rfl rfl rfl ?_
    refine aw_aload_n rfl rfl rfl ?_
    refine aw_getr (b := 30) rfl rfl (hC.f.k 29 rfl) (hC.f.r 29 3 30 rfl) rfl ?_
    refine aw_alen (N := 24) rfl (hC.f.s 30 rfl) (by decide) rfl ?_
    refine aw_icmp (p' := 22) rfl ⟨by omega, by omega⟩ ⟨by omega, by omega⟩ rfl rfl (fun c2 => ?_) (fun c2 => ?_)
    · dsimp only [zc] at c2
      refine aw_iconst rfl rfl ?_
      refine aw_reti rfl ?_
      refine ⟨?_, rfl⟩
      first | rfl | omega
    · dsimp only [zc] at c2
      refine aw_aload_n rfl rfl rfl ?_
      refine aw_getr (b := 30) rfl rfl (hC.f.k 29 rfl) (hC.f.r 29 3 30 rfl) rfl ?_
      refine aw_iload_n rfl rfl rfl ?_
      refine aw_as (N := 24) rfl (hC.f.s 30 rfl) (by omega) (by omega) (by omega) rfl (fun _ _ => ?_)
      rw [hS.2.1 t ht0 ht1]
      refine aw_goto (p' := 23) rfl rfl ?_
      refine aw_reti rfl ?_
      refine ⟨?_, rfl⟩
      first | rfl | omega
set_option maxRecDepth 10000 in
set_option maxHeartbeats 2000000 in
theorem c_sOpen {d : Nat} {sz : Nat} {κ : Nat × (Nat → Int32) × Option Nat} {A : Nat → Int → Int} {g : Nat → Nat} {σ : az_S} (hC : CR sz κ A g σ) (hI : MI sz A) {x y : Int} (hx0 : 0 ≤ x) (hx1 : x ≤ 3599) (hy0 : 0 ≤ y) (hy1 : y ≤ 3599) {c : Int} (hc : inI c) (hS : cSL A x y σ) : fn (d + 1) 41 [.ref 29, .int (iI c)] σ (.int (iI (bI ((0 ≤ c ∧ c < A 42 2) ∧ mOpen A c x y)))) := by
  obtain ⟨hc1, hc2⟩ := hc
  have hce := hI.cells
  have hz := bI_zero (¬ mOpen A c x y)
  have hr := bI_r (¬ mOpen A c x y)
  refine fn_of (M := (yX5_isOpen, cX5_isOpen, 2, (some .boolean))) (cd := k_X5_isOpen) (L := [some (.ref 29), some (.int (iI c))]) rfl (Nat.le_of_ble_eq_true rfl) rfl rfl ?_
  refine aw_iload_n rfl rfl rfl ?_
  refine aw_if (p' := 26) rfl ⟨by omega, by omega⟩ rfl rfl (fun c1 => ?_) (fun c1 => ?_)
  · dsimp only [zc] at c1
    refine aw_iconst rfl rfl ?_
    refine aw_retn rfl (by first | rfl | exact bI_nar _) ?_
    refine ⟨?_, rfl⟩
    first | rw [bI_f (by rintro ⟨q1, q2⟩; first | omega | (have := hz.mpr (fun e => e q2); omega))] | rw [bI_t ⟨by omega, Classical.not_not.mp (hz.mp (by omega))⟩]
  · dsimp only [zc] at c1
    refine aw_iload_n rfl rfl rfl ?_
    refine aw_aload_n rfl rfl rfl ?_
    refine aw_getr (b := 31) rfl rfl (hC.f.k 29 rfl) (hC.f.r 29 4 31 rfl) rfl ?_
    refine aw_alen (N := sz) rfl (hC.f.s 31 rfl) (by decide) rfl ?_
    refine aw_icmp (p' := 26) rfl ⟨by omega, by omega⟩ ⟨by omega, by omega⟩ rfl rfl (fun c2 => ?_) (fun c2 => ?_)
    · dsimp only [zc] at c2
      refine aw_iconst rfl rfl ?_
      refine aw_retn rfl (by first | rfl | exact bI_nar _) ?_
      refine ⟨?_, rfl⟩
      first | rw [bI_f (by rintro ⟨q1, q2⟩; first | omega | (have := hz.mpr (fun e => e q2); omega))] | rw [bI_t ⟨by omega, Classical.not_not.mp (hz.mp (by omega))⟩]
    · dsimp only [zc] at c2
      refine aw_aload_n rfl rfl rfl ?_
      refine aw_getr (b := 31) rfl rfl (hC.f.k 29 rfl) (hC.f.r 29 4 31 rfl) rfl ?_
      refine aw_iload_n rfl rfl rfl ?_
      refine aw_bs (N := sz) rfl (hC.f.s 31 rfl) (by decide) (by omega) (by omega) (by omega) rfl (fun _ _ => ?_)
      rw [hS.2.2 c (by omega) (by omega)]
      refine aw_if (p' := 26) rfl ⟨by omega, by omega⟩ rfl rfl (fun c3 => ?_) (fun c3 => ?_)
      · dsimp only [zc] at c3
        refine aw_iconst rfl rfl ?_
        refine aw_retn rfl (by first | rfl | exact bI_nar _) ?_
        refine ⟨?_, rfl⟩
        first | rw [bI_f (by rintro ⟨q1, q2⟩; first | omega | (have := hz.mpr (fun e => e q2); omega))] | rw [bI_t ⟨by omega, Classical.not_not.mp (hz.mp (by omega))⟩]
      · dsimp only [zc] at c3
        refine aw_iconst rfl rfl ?_
        refine aw_goto (p' := 27) rfl rfl ?_
        refine aw_retn rfl (by first | rfl | exact bI_nar _) ?_
        refine ⟨?_, rfl⟩
        first | rw [bI_f (by rintro ⟨q1, q2⟩; first | omega | (have := hz.mpr (fun e => e q2); omega))] | rw [bI_t ⟨by omega, Classical.not_not.mp (hz.mp (by omega))⟩]
set_option maxRecDepth 10000 in
set_option maxHeartbeats 2000000 in
theorem c_cast_l66 {d : Nat} {sz : Nat} {κ : Nat × (Nat → Int32) × Option Nat} {A : Nat → Int → Int} {g : Nat → Nat} {σ : az_S} (hC : CR sz κ A g σ) (hI : MI sz A) {x h : Int} (hx0 : 0 ≤ x) (hx1 : x ≤ 3599) (hh0 : 0 ≤ h) (hh1 : h ≤ 11) {y : Int} (hy0 : 0 ≤ y) (hy1 : y ≤ 3599) {t : Int} (ht0 : 0 ≤ t) (ht1 : t < A 42 12) (hS : cSL A x y σ) (hnc : ¬ mCloud A x h) (hlo : ∀ w : Int, 0 ≤ w → w < A 42 2 → 0 ≤ zx σ 32 w ∧ zx σ 32 w < 2 ^ t.toNat) : ∀ (n : Nat) (τ : az_S) (j X Y : Int) (v : Option Value), (mH A t x y + 1 - j).toNat = n → CR sz κ A g τ → Mod σ τ [32] → 1 ≤ j → (j ≤ 1 ∨ j ≤ mH A t x y + 1) → X = 100 * (A 50 t % A 42 0) + 50 + (j - 1) * (A 43 (12 * (x % 360 / 30) + h) + A 54 t) → Y = 100 * (A 50 t / A 42 0) + 50 + (j - 1) * (A 44 (12 * (x % 360 / 30) + h) + A 55 t) → (∀ w : Int, 0 ≤ w → w < A 42 2 → zx τ 32 w = zx σ 32 w + zit (cPt A t x h y w j) (2 ^ t.toNat) 0) → aw (d + 1) k_X5_castShadow none (fun r τ => r = none ∧ CR sz κ A g τ ∧ Mod σ τ [32] ∧ ∀ w : Int, 0 ≤ w → w < A 42 2 → zx τ 32 w = zx σ 32 w + zit (mSh A x h y t w) (2 ^ t.toNat) 0) 66 [some (.ref 29), some (.int (iI t)), some (.int (iI (A 50 t))), some (.int (iI (A 43 (12 * (x % 360 / 30) + h) + A 54 t))), some (.int (iI (A 44 (12 * (x % 360 / 30) + h) + A 55 t))), some (.int (iI (100 * A 42 0))), some (.int (iI (100 * A 42 1))), some (.int (iI (mH A t x y))), some (.int (iI X)), some (.int (iI Y)), some (.int (iI j)), v] [] τ := by
  intro n
  induction n using Nat.strongRecOn with
  | ind n ih =>
    intro τ j X Y v hn hN hD hj0 hj1 hX hY hU
    have hw := hI.wide
    have hh := hI.high
    have hce := hI.cells
    have hth := hI.things
    have hsz := hC.f.1
    have hTI := hI.thing t ht0 ht1
    have hmr := mH_range hTI x y
    obtain ⟨⟨he1, he2⟩, ⟨he3, he4⟩, hTe, hkg, ⟨hTc1, hTc2⟩, hTo, hTs, ⟨hl1, hl2, hl3, hl4⟩, hTf, hTm⟩ := hTI
    have hsu := hI.sun (12 * (x % 360 / 30) + h) (by omega) (by omega)
    have r1 := rem_b (a := A 50 t) (g := A 42 0) (by omega)
    have r2 : 0 ≤ A 50 t / A 42 0 ∧ A 50 t / A 42 0 < A 42 1 := ⟨Int.ediv_nonneg hTc1 (by omega), Int.ediv_lt_of_lt_mul (by omega) (by rw [Int.mul_comm]; omega)⟩
    have hp2 := p2_b ht0 (by omega)
    have hm1 := mul_b (j := j - 1) (u := (A 43 (12 * (x % 360 / 30) + h) + A 54 t)) (J := 61) (U := 1000) (by omega) (by omega) (by omega) (by omega)
    have hm2 := mul_b (j := j - 1) (u := (A 44 (12 * (x % 360 / 30) + h) + A 55 t)) (J := 61) (U := 1000) (by omega) (by omega) (by omega) (by omega)
    have eX : X + (A 43 (12 * (x % 360 / 30) + h) + A 54 t) = 100 * (A 50 t % A 42 0) + 50 + j * (A 43 (12 * (x % 360 / 30) + h) + A 54 t) := by
      have : j * (A 43 (12 * (x % 360 / 30) + h) + A 54 t) = (j - 1) * (A 43 (12 * (x % 360 / 30) + h) + A 54 t) + (A 43 (12 * (x % 360 / 30) + h) + A 54 t) := by rw [Int.sub_mul]; omega
      omega
    have eY : Y + (A 44 (12 * (x % 360 / 30) + h) + A 55 t) = 100 * (A 50 t / A 42 0) + 50 + j * (A 44 (12 * (x % 360 / 30) + h) + A 55 t) := by
      have : j * (A 44 (12 * (x % 360 / 30) + h) + A 55 t) = (j - 1) * (A 44 (12 * (x % 360 / 30) + h) + A 55 t) + (A 44 (12 * (x % 360 / 30) + h) + A 55 t) := by rw [Int.sub_mul]; omega
      omega
    have hps := fun w => cPt_s (A := A) (t := t) (x := x) (h := h) (y := y) (w := w) hj0
    refine aw_iload rfl rfl rfl ?_
    refine aw_iload rfl rfl rfl ?_
    refine aw_icmp (p' := 171) rfl ⟨by omega, by omega⟩ ⟨by omega, by omega⟩ rfl rfl (fun c1 => ?_) (fun c1 => ?_)
    · dsimp only [zc] at c1
      refine aw_retv rfl ?_
      refine ⟨rfl, hN, (hD.su (T := [32]) rfl), fun w w0 w1 => ?_⟩
      rw [hU w w0 w1]
      congr 1
      rw [zit_congr (sh_iff ht0 ht1 hnc)]
      have ej : j = mH A t x y + 1 ∨ (j = 1 ∧ mH A t x y < 1) := by omega
      rcases ej with ej | ⟨ej, ek⟩
      · rw [ej]
      · rw [ej]; exact zit_congr ⟨fun ⟨_, i, a, b, _⟩ => by omega, fun ⟨_, i, a, b, _⟩ => by omega⟩
    · dsimp only [zc] at c1
      refine aw_iload rfl rfl rfl ?_
      refine aw_iload_n rfl rfl rfl ?_
      refine aw_iadd rfl rfl ?_
      refine aw_istore rfl (Nat.le_of_ble_eq_true rfl) rfl rfl ?_
      change aw _ _ _ _ 79 [some (.ref 29), some (.int (iI _)), some (.int (iI _)), some (.int (iI _)), some (.int (iI _)), some (.int (iI _)), some (.int (iI _)), some (.int (iI _)), some (.int (iI _)), some (.int (iI _)), some (.int (iI _)), _] _ _
      refine aw_iload rfl rfl rfl ?_
      refine aw_iload rfl rfl rfl ?_
      refine aw_iadd rfl rfl ?_
      refine aw_istore rfl (Nat.le_of_ble_eq_true rfl) rfl rfl ?_
      change aw _ _ _ _ 86 [some (.ref 29), some (.int (iI _)), some (.int (iI _)), some (.int (iI _)), some (.int (iI _)), some (.int (iI _)), some (.int (iI _)), some (.int (iI _)), some (.int (iI _)), some (.int (iI _)), some (.int (iI _)), _] _ _
      refine aw_iload rfl rfl rfl ?_
      refine aw_if (p' := 110) rfl ⟨by omega, by omega⟩ rfl rfl (fun c2 => ?_) (fun c2 => ?_)
      · dsimp only [zc] at c2
        refine aw_retv rfl ?_
        refine ⟨rfl, hN, (hD.su (T := [32]) rfl), fun w w0 w1 => ?_⟩
        rw [hU w w0 w1, zit_congr ((sh_iff ht0 ht1 hnc).trans (cPt_stop hI (by omega) (by omega) w0 hj0 (by omega) (by omega)))]
      · dsimp only [zc] at c2
        refine aw_iload rfl rfl rfl ?_
        refine aw_iload rfl rfl rfl ?_
        refine aw_icmp (p' := 110) rfl ⟨by omega, by omega⟩ ⟨by omega, by omega⟩ rfl rfl (fun c3 => ?_) (fun c3 => ?_)
        · dsimp only [zc] at c3
          refine aw_retv rfl ?_
          refine ⟨rfl, hN, (hD.su (T := [32]) rfl), fun w w0 w1 => ?_⟩
          rw [hU w w0 w1, zit_congr ((sh_iff ht0 ht1 hnc).trans (cPt_stop hI (by omega) (by omega) w0 hj0 (by omega) (by omega)))]
        · dsimp only [zc] at c3
          refine aw_iload rfl rfl rfl ?_
          refine aw_if (p' := 110) rfl ⟨by omega, by omega⟩ rfl rfl (fun c4 => ?_) (fun c4 => ?_)
          · dsimp only [zc] at c4
            refine aw_retv rfl ?_
            refine ⟨rfl, hN, (hD.su (T := [32]) rfl), fun w w0 w1 => ?_⟩
            rw [hU w w0 w1, zit_congr ((sh_iff ht0 ht1 hnc).trans (cPt_stop hI (by omega) (by omega) w0 hj0 (by omega) (by omega)))]
          · dsimp only [zc] at c4
            refine aw_iload rfl rfl rfl ?_
            refine aw_iload rfl rfl rfl ?_
            refine aw_icmp (p' := 111) rfl ⟨by omega, by omega⟩ ⟨by omega, by omega⟩ rfl rfl (fun c5 => ?_) (fun c5 => ?_)
            · dsimp only [zc] at c5
              have hgb := grid_b (w := A 42 0) (h := A 42 1) (x := (X + (A 43 (12 * (x % 360 / 30) + h) + A 54 t)) / 100) (y := (Y + (A 44 (12 * (x % 360 / 30) + h) + A 55 t)) / 100) (by omega) (by omega) (by omega) (by omega)
              have hpt := mPoint_in (A := A) (lx := A 54 t) (ly := A 55 t) eX eY (by omega) (by omega) (by omega) (by omega)
              have hbz := bI_zero (¬ mOpen A ((Y + (A 44 (12 * (x % 360 / 30) + h) + A 55 t)) / 100 * A 42 0 + (X + (A 43 (12 * (x % 360 / 30) + h) + A 54 t)) / 100) x y)
              have hbr := bI_r (¬ mOpen A ((Y + (A 44 (12 * (x % 360 / 30) + h) + A 55 t)) / 100 * A 42 0 + (X + (A 43 (12 * (x % 360 / 30) + h) + A 54 t)) / 100) x y)
              refine aw_iload rfl rfl rfl ?_
              refine aw_bipush rfl rfl rfl ?_
              refine aw_idiv rfl (by omega) (by omega) (by omega) (by omega) rfl ?_
              refine aw_aload_n rfl rfl rfl ?_
              refine aw_getr (b := 28) rfl rfl (hN.f.k 29 rfl) (hN.f.r 29 0 28 rfl) rfl ?_
              refine aw_gk (v := A 42 0) (0) rfl rfl (hN.f.k 28 rfl) rfl hN.ground.1 rfl (fun _ _ => ?_)
              refine aw_imul rfl rfl ?_
              refine aw_iload rfl rfl rfl ?_
              refine aw_bipush rfl rfl rfl ?_
              refine aw_idiv rfl (by omega) (by omega) (by omega) (by omega) rfl ?_
              refine aw_iadd rfl rfl ?_
              refine aw_istore rfl (Nat.le_of_ble_eq_true rfl) rfl rfl ?_
              change aw _ _ _ _ 132 [some (.ref 29), some (.int (iI _)), some (.int (iI _)), some (.int (iI _)), some (.int (iI _)), some (.int (iI _)), some (.int (iI _)), some (.int (iI _)), some (.int (iI _)), some (.int (iI _)), some (.int (iI _)), some (.int (iI _))] _ _
              refine aw_iload rfl rfl rfl ?_
              refine aw_aload_n rfl rfl rfl ?_
              refine aw_getr (b := 31) rfl rfl (hN.f.k 29 rfl) (hN.f.r 29 4 31 rfl) rfl ?_
              refine aw_alen (N := sz) rfl (hN.f.s 31 rfl) (by decide) rfl ?_
              refine aw_icmp (p' := 165) rfl ⟨by omega, by omega⟩ ⟨by omega, by omega⟩ rfl rfl (fun c6 => ?_) (fun c6 => ?_)
              · dsimp only [zc] at c6
                omega
              · dsimp only [zc] at c6
                refine aw_aload_n rfl rfl rfl ?_
                refine aw_getr (b := 31) rfl rfl (hN.f.k 29 rfl) (hN.f.r 29 4 31 rfl) rfl ?_
                refine aw_iload rfl rfl rfl ?_
                refine aw_bs (N := sz) rfl (hN.f.s 31 rfl) (by decide) (by omega) (by omega) (by omega) rfl (fun _ _ => ?_)
                rw [hD.z 31 rfl, hS.2.2 ((Y + (A 44 (12 * (x % 360 / 30) + h) + A 55 t)) / 100 * A 42 0 + (X + (A 43 (12 * (x % 360 / 30) + h) + A 54 t)) / 100) (by omega) (by omega)]
                refine aw_if (p' := 165) rfl ⟨by omega, by omega⟩ rfl rfl (fun c7 => ?_) (fun c7 => ?_)
                · dsimp only [zc] at c7
                  have hno : ¬ mOpen A ((Y + (A 44 (12 * (x % 360 / 30) + h) + A 55 t)) / 100 * A 42 0 + (X + (A 43 (12 * (x % 360 / 30) + h) + A 54 t)) / 100) x y := fun q => by have := hbz.mpr (fun e => e q); omega
                  refine aw_iinc rfl rfl rfl rfl ?_
                  change aw _ _ _ _ 168 [some (.ref 29), some (.int (iI _)), some (.int (iI _)), some (.int (iI _)), some (.int (iI _)), some (.int (iI _)), some (.int (iI _)), some (.int (iI _)), some (.int (iI _)), some (.int (iI _)), some (.int (iI _)), some (.int (iI _))] _ _
                  refine aw_goto (p' := 66) rfl rfl ?_
                  refine ih _ (by omega) _ _ _ _ _ rfl hN (hD.su (T := [32]) rfl) (by omega) (by omega) (by rw [eX, show j + 1 - 1 = j by omega]) (by rw [eY, show j + 1 - 1 = j by omega]) (fun w w0 w1 => ?_)
                  rw [hU w w0 w1, zit_congr (p := cPt A t x h y w (j + 1)) ((hps w).trans ⟨fun q => q.elim id (fun q => ?_), Or.inl⟩)]
                  exfalso
                  have e := q.2.symm.trans hpt
                  rw [e] at q
                  exact hno q.1
                · dsimp only [zc] at c7
                  have hop : mOpen A ((Y + (A 44 (12 * (x % 360 / 30) + h) + A 55 t)) / 100 * A 42 0 + (X + (A 43 (12 * (x % 360 / 30) + h) + A 54 t)) / 100) x y := Classical.not_not.mp (hbz.mp (by omega))
                  have hU0 := hU ((Y + (A 44 (12 * (x % 360 / 30) + h) + A 55 t)) / 100 * A 42 0 + (X + (A 43 (12 * (x % 360 / 30) + h) + A 54 t)) / 100) (by omega) (by omega)
                  have hl0 := hlo ((Y + (A 44 (12 * (x % 360 / 30) + h) + A 55 t)) / 100 * A 42 0 + (X + (A 43 (12 * (x % 360 / 30) + h) + A 54 t)) / 100) (by omega) (by omega)
                  have hor : zx τ 32 ((Y + (A 44 (12 * (x % 360 / 30) + h) + A 55 t)) / 100 * A 42 0 + (X + (A 43 (12 * (x % 360 / 30) + h) + A 54 t)) / 100) = zx σ 32 ((Y + (A 44 (12 * (x % 360 / 30) + h) + A 55 t)) / 100 * A 42 0 + (X + (A 43 (12 * (x % 360 / 30) + h) + A 54 t)) / 100) ∨ zx τ 32 ((Y + (A 44 (12 * (x % 360 / 30) + h) + A 55 t)) / 100 * A 42 0 + (X + (A 43 (12 * (x % 360 / 30) + h) + A 54 t)) / 100) = zx σ 32 ((Y + (A 44 (12 * (x % 360 / 30) + h) + A 55 t)) / 100 * A 42 0 + (X + (A 43 (12 * (x % 360 / 30) + h) + A 54 t)) / 100) + 2 ^ t.toNat := by
                    rw [hU0]
                    rcases zit_or (cPt A t x h y ((Y + (A 44 (12 * (x % 360 / 30) + h) + A 55 t)) / 100 * A 42 0 + (X + (A 43 (12 * (x % 360 / 30) + h) + A 54 t)) / 100) j) (2 ^ t.toNat) 0 with ⟨-, q⟩ | ⟨-, q⟩ <;> rw [q] <;> omega
                  refine aw_aload_n rfl rfl rfl ?_
                  refine aw_getr (b := 32) rfl rfl (hN.f.k 29 rfl) (hN.f.r 29 5 32 rfl) rfl ?_
                  refine aw_iload rfl rfl rfl ?_
                  refine aw_dup2 rfl rfl rfl rfl ?_
                  refine aw_as (N := sz) rfl (hN.f.s 32 rfl) (by omega) (by omega) (by omega) rfl (fun _ _ => ?_)
                  refine aw_iconst rfl rfl ?_
                  refine aw_iload_n rfl rfl rfl ?_
                  refine aw_ishl1 rfl (by omega) (by omega) rfl ?_
                  refine aw_iorb rfl hl0.1 hl0.2 hor rfl ?_
                  refine aw_cs (N := sz) hN hI rfl (hN.f.s 32 rfl) (by omega) rfl (by omega) (by omega) ⟨by omega, by omega⟩ rfl (fun τ8 hM8 hD8 hU8 => ?_)
                  skip
                  refine aw_iinc rfl rfl rfl rfl ?_
                  change aw _ _ _ _ 168 [some (.ref 29), some (.int (iI _)), some (.int (iI _)), some (.int (iI _)), some (.int (iI _)), some (.int (iI _)), some (.int (iI _)), some (.int (iI _)), some (.int (iI _)), some (.int (iI _)), some (.int (iI _)), some (.int (iI _))] _ _
                  refine aw_goto (p' := 66) rfl rfl ?_
                  refine ih _ (by omega) _ _ _ _ _ rfl hM8 ((hD.su (T := [32]) rfl).tr (hD8.su (T := [32]) rfl)) (by omega) (by omega) (by rw [eX, show j + 1 - 1 = j by omega]) (by rw [eY, show j + 1 - 1 = j by omega]) (fun w w0 w1 => ?_)
                  rw [hU8 w]
                  split
                  · rename_i e
                    rw [e, zit_t ((hps _).mpr (Or.inr ⟨hop, hpt⟩))]
                  · rename_i e
                    rw [hU w w0 w1, zit_congr (p := cPt A t x h y w (j + 1)) ((hps w).trans ⟨fun q => q.elim id (fun q => absurd (q.2.symm.trans hpt) e), Or.inl⟩)]
            · dsimp only [zc] at c5
              refine aw_retv rfl ?_
              refine ⟨rfl, hN, (hD.su (T := [32]) rfl), fun w w0 w1 => ?_⟩
              rw [hU w w0 w1, zit_congr ((sh_iff ht0 ht1 hnc).trans (cPt_stop hI (by omega) (by omega) w0 hj0 (by omega) (by omega)))]
set_option maxRecDepth 10000 in
set_option maxHeartbeats 2000000 in
theorem c_cast {d : Nat} {sz : Nat} {κ : Nat × (Nat → Int32) × Option Nat} {A : Nat → Int → Int} {g : Nat → Nat} {σ : az_S} (hC : CR sz κ A g σ) (hI : MI sz A) {x h : Int} (hx0 : 0 ≤ x) (hx1 : x ≤ 3599) (hh0 : 0 ≤ h) (hh1 : h ≤ 11) {y : Int} (hy0 : 0 ≤ y) (hy1 : y ≤ 3599) {t : Int} (ht0 : 0 ≤ t) (ht1 : t < A 42 12) (hS : cSL A x y σ) (hnc : ¬ mCloud A x h) (hlo : ∀ w : Int, 0 ≤ w → w < A 42 2 → 0 ≤ zx σ 32 w ∧ zx σ 32 w < 2 ^ t.toNat) : cal (d + 2) 39 [.ref 29, .int (iI t), .int (iI (A 50 t)), .int (iI (A 43 (12 * (x % 360 / 30) + h) + A 54 t)), .int (iI (A 44 (12 * (x % 360 / 30) + h) + A 55 t))] σ (fun r τ => r = none ∧ CR sz κ A g τ ∧ Mod σ τ [32] ∧ ∀ w : Int, 0 ≤ w → w < A 42 2 → zx τ 32 w = zx σ 32 w + zit (mSh A x h y t w) (2 ^ t.toNat) 0) := by
  have hw := hI.wide
  have hh := hI.high
  have hce := hI.cells
  have hth := hI.things
  have hsz := hC.f.1
  have hTI := hI.thing t ht0 ht1
  have hmr := mH_range hTI x y
  obtain ⟨⟨he1, he2⟩, ⟨he3, he4⟩, hTe, hkg, ⟨hTc1, hTc2⟩, hTo, hTs, ⟨hl1, hl2, hl3, hl4⟩, hTf, hTm⟩ := hTI
  have hsu := hI.sun (12 * (x % 360 / 30) + h) (by omega) (by omega)
  have r1 := rem_b (a := A 50 t) (g := A 42 0) (by omega)
  have r2 : 0 ≤ A 50 t / A 42 0 ∧ A 50 t / A 42 0 < A 42 1 := ⟨Int.ediv_nonneg hTc1 (by omega), Int.ediv_lt_of_lt_mul (by omega) (by rw [Int.mul_comm]; omega)⟩
  have hp2 := p2_b ht0 (by omega)
  refine cal_of (M := (yX5_castShadow, cX5_castShadow, 12, none)) (cd := k_X5_castShadow) (L := [some (.ref 29), some (.int (iI t)), some (.int (iI (A 50 t))), some (.int (iI (A 43 (12 * (x % 360 / 30) + h) + A 54 t))), some (.int (iI (A 44 (12 * (x % 360 / 30) + h) + A 55 t))), none, none, none, none, none, none, none]) rfl (Nat.le_of_ble_eq_true rfl) rfl rfl ?_
  refine aw_bipush rfl rfl rfl ?_
  refine aw_aload_n rfl rfl rfl ?_
  refine aw_getr (b := 28) rfl rfl (hC.f.k 29 rfl) (hC.f.r 29 0 28 rfl) rfl ?_
  refine aw_gk (v := A 42 0) (0) rfl rfl (hC.f.k 28 rfl) rfl hC.ground.1 rfl (fun _ _ => ?_)
  refine aw_imul rfl rfl ?_
  refine aw_istore rfl (Nat.le_of_ble_eq_true rfl) rfl rfl ?_
  change aw _ _ _ _ 12 [some (.ref 29), some (.int (iI _)), some (.int (iI _)), some (.int (iI _)), some (.int (iI _)), some (.int (iI _)), none, none, none, none, none, none] _ _
  refine aw_bipush rfl rfl rfl ?_
  refine aw_aload_n rfl rfl rfl ?_
  refine aw_getr (b := 28) rfl rfl (hC.f.k 29 rfl) (hC.f.r 29 0 28 rfl) rfl ?_
  refine aw_gk (v := A 42 1) (1) rfl rfl (hC.f.k 28 rfl) rfl hC.ground.2.1 rfl (fun _ _ => ?_)
  refine aw_imul rfl rfl ?_
  refine aw_istore rfl (Nat.le_of_ble_eq_true rfl) rfl rfl ?_
  change aw _ _ _ _ 24 [some (.ref 29), some (.int (iI _)), some (.int (iI _)), some (.int (iI _)), some (.int (iI _)), some (.int (iI _)), some (.int (iI _)), none, none, none, none, none] _ _
  refine aw_aload_n rfl rfl rfl ?_
  refine aw_iload_n rfl rfl rfl ?_
  refine aw_fnc (c_sHeight hC hI hx0 hx1 hy0 hy1 ht0 ht1 hS) rfl rfl rfl (Nat.le_of_ble_eq_true rfl) (Or.inr ⟨_, rfl, (hC.f.k 29 rfl)⟩) rfl ?_
  refine aw_istore rfl (Nat.le_of_ble_eq_true rfl) rfl rfl ?_
  change aw _ _ _ _ 31 [some (.ref 29), some (.int (iI _)), some (.int (iI _)), some (.int (iI _)), some (.int (iI _)), some (.int (iI _)), some (.int (iI _)), some (.int (iI _)), none, none, none, none] _ _
  refine aw_bipush rfl rfl rfl ?_
  refine aw_aload_n rfl rfl rfl ?_
  refine aw_getr (b := 28) rfl rfl (hC.f.k 29 rfl) (hC.f.r 29 0 28 rfl) rfl ?_
  refine aw_iload_n rfl rfl rfl ?_
  refine aw_fnc (c_col hC hI (by omega) (by omega)) rfl rfl rfl (Nat.le_of_ble_eq_true rfl) (Or.inr ⟨_, rfl, (hC.f.k 28 rfl)⟩) rfl ?_
  refine aw_imul rfl rfl ?_
  refine aw_bipush rfl rfl rfl ?_
  refine aw_iadd rfl rfl ?_
  refine aw_istore rfl (Nat.le_of_ble_eq_true rfl) rfl rfl ?_
  change aw _ _ _ _ 47 [some (.ref 29), some (.int (iI _)), some (.int (iI _)), some (.int (iI _)), some (.int (iI _)), some (.int (iI _)), some (.int (iI _)), some (.int (iI _)), some (.int (iI _)), none, none, none] _ _
  refine aw_bipush rfl rfl rfl ?_
  refine aw_aload_n rfl rfl rfl ?_
  refine aw_getr (b := 28) rfl rfl (hC.f.k 29 rfl) (hC.f.r 29 0 28 rfl) rfl ?_
  refine aw_iload_n rfl rfl rfl ?_
  refine aw_fnc (c_row hC hI (by omega) (by omega)) rfl rfl rfl (Nat.le_of_ble_eq_true rfl) (Or.inr ⟨_, rfl, (hC.f.k 28 rfl)⟩) rfl ?_
  refine aw_imul rfl rfl ?_
  refine aw_bipush rfl rfl rfl ?_
  refine aw_iadd rfl rfl ?_
  refine aw_istore rfl (Nat.le_of_ble_eq_true rfl) rfl rfl ?_
  change aw _ _ _ _ 63 [some (.ref 29), some (.int (iI _)), some (.int (iI _)), some (.int (iI _)), some (.int (iI _)), some (.int (iI _)), some (.int (iI _)), some (.int (iI _)), some (.int (iI _)), some (.int (iI _)), none, none] _ _
  refine aw_iconst rfl rfl ?_
  refine aw_istore rfl (Nat.le_of_ble_eq_true rfl) rfl rfl ?_
  change aw _ _ _ _ 66 [some (.ref 29), some (.int (iI _)), some (.int (iI _)), some (.int (iI _)), some (.int (iI _)), some (.int (iI _)), some (.int (iI _)), some (.int (iI _)), some (.int (iI _)), some (.int (iI _)), some (.int (iI _)), none] _ _
  exact c_cast_l66 hC hI hx0 hx1 hh0 hh1 hy0 hy1 ht0 ht1 hS hnc hlo _ _ 1 _ _ _ rfl hC Mod.rf (by omega) (by omega) (by omega) (by omega) (fun w _ _ => by rw [zit_f (by rintro ⟨-, i, a, b, -⟩; omega)]; omega)
set_option maxRecDepth 10000 in
set_option maxHeartbeats 2000000 in
theorem c_turnTo_l53 {d : Nat} {sz : Nat} {κ : Nat × (Nat → Int32) × Option Nat} {A : Nat → Int → Int} {g : Nat → Nat} {σ : az_S} (hC : CR sz κ A g σ) (hI : MI sz A) {x h : Int} (hx0 : 0 ≤ x) (hx1 : x ≤ 3599) (hh0 : 0 ≤ h) (hh1 : h ≤ 11) {y : Int} (hy0 : 0 ≤ y) (hy1 : y ≤ 3599) (hS : cSL A x y σ) (hnc : ¬ mCloud A x h) : ∀ (n : Nat) (τ : az_S) (t : Int) (v : Option Value), (A 42 12 - t).toNat = n → CR sz κ A g τ → Mod σ τ [32] → 0 ≤ t → t ≤ A 42 12 → (∀ c : Int, 0 ≤ c → c < A 42 2 → zx τ 32 c = nbI (cBit A x h y c) t.toNat) → aw (d + 3) k_X5_turnTo none (fun r τ => r = none ∧ CR sz κ A g τ ∧ Mod σ τ [32] ∧ cST A x h y τ) 53 [some (.ref 29), some (.int (iI h)), some (.int (iI (A 43 (12 * (x % 360 / 30) + h)))), some (.int (iI (A 44 (12 * (x % 360 / 30) + h)))), some (.int (iI t)), v] [] τ := by
  intro n
  induction n using Nat.strongRecOn with
  | ind n ih =>
    intro τ t v hn hN hD ht0 ht1 hU
    have hth := hI.things
    have hce := hI.cells
    have hsz := hC.f.1
    have hsu := hI.sun (12 * (x % 360 / 30) + h) (by omega) (by omega)
    have hTI := fun q => hI.thing t ht0 q
    have hns := fun c => nbI_s (cBit A x h y c) ht0
    refine aw_iload rfl rfl rfl ?_
    refine aw_aload_n rfl rfl rfl ?_
    refine aw_getr (b := 6) rfl rfl (hN.f.k 29 rfl) (hN.f.r 29 2 6 rfl) rfl ?_
    refine aw_fnc (c_size (hN.f.k 6 rfl) hN.lT.1) rfl rfl rfl (Nat.le_of_ble_eq_true rfl) (Or.inr ⟨_, rfl, (hN.f.k 6 rfl)⟩) rfl ?_
    refine aw_icmp (p' := 120) rfl ⟨by omega, by omega⟩ ⟨by omega, by omega⟩ rfl rfl (fun c1 => ?_) (fun c1 => ?_)
    · dsimp only [zc] at c1
      refine aw_retv rfl ?_
      refine ⟨rfl, hN, (hD.su (T := [32]) rfl), fun c h1 h2 => ?_⟩
      rw [hU c h1 h2, show t = A 42 12 by omega]
      rfl
    · dsimp only [zc] at c1
      refine aw_iload rfl rfl rfl ?_
      refine aw_aload_n rfl rfl rfl ?_
      refine aw_getr (b := 30) rfl rfl (hN.f.k 29 rfl) (hN.f.r 29 3 30 rfl) rfl ?_
      refine aw_alen (N := 24) rfl (hN.f.s 30 rfl) (by decide) rfl ?_
      refine aw_icmp (p' := 120) rfl ⟨by omega, by omega⟩ ⟨by omega, by omega⟩ rfl rfl (fun c2 => ?_) (fun c2 => ?_)
      · dsimp only [zc] at c2
        refine aw_retv rfl ?_
        refine ⟨rfl, hN, (hD.su (T := [32]) rfl), fun c h1 h2 => ?_⟩
        rw [hU c h1 h2, show t = A 42 12 by omega]
        rfl
      · dsimp only [zc] at c2
        obtain ⟨⟨he1, he2⟩, ⟨he3, he4⟩, hTe, hkg, hTc, hTo, hTs, hTl, hTf, hTm⟩ := hTI (by omega)
        refine aw_aload_n rfl rfl rfl ?_
        refine aw_getr (b := 6) rfl rfl (hN.f.k 29 rfl) (hN.f.r 29 2 6 rfl) rfl ?_
        refine aw_iload rfl rfl rfl ?_
        refine aw_fnc (c_get (hN.f.k 6 rfl) hN.lT (by omega) (by omega) (by omega)) rfl rfl rfl (Nat.le_of_ble_eq_true rfl) (Or.inr ⟨_, rfl, (hN.f.k 6 rfl)⟩) rfl ?_
        refine aw_cast rfl rfl (hN.kT (by omega) (by omega)) rfl ?_
        refine aw_astore rfl (Nat.le_of_ble_eq_true rfl) rfl rfl ?_
        change aw _ _ _ _ 89 [some (.ref 29), some (.int (iI _)), some (.int (iI _)), some (.int (iI _)), some (.int (iI _)), some (.ref (gT g t))] _ _
        refine aw_aload_n rfl rfl rfl ?_
        refine aw_iload rfl rfl rfl ?_
        refine aw_aload rfl rfl rfl ?_
        refine aw_gk (v := (A 50 t)) (1) rfl rfl (hN.kT (by omega) (by omega)) rfl (hN.T1 (by omega) (by omega)) rfl (fun _ _ => ?_)
        refine aw_iload_n rfl rfl rfl ?_
        refine aw_aload rfl rfl rfl ?_
        refine aw_gk (v := (A 54 t)) (5) rfl rfl (hN.kT (by omega) (by omega)) rfl (hN.T5 (by omega) (by omega)) rfl (fun _ _ => ?_)
        refine aw_iadd rfl rfl ?_
        refine aw_iload_n rfl rfl rfl ?_
        refine aw_aload rfl rfl rfl ?_
        refine aw_gk (v := (A 55 t)) (6) rfl rfl (hN.kT (by omega) (by omega)) rfl (hN.T6 (by omega) (by omega)) rfl (fun _ _ => ?_)
        refine aw_iadd rfl rfl ?_
        refine aw_calc (c_cast hN hI hx0 hx1 hh0 hh1 hy0 hy1 ht0 (by omega) (hS.mod hD rfl rfl rfl) hnc (fun w w0 w1 => by rw [hU w w0 w1]; exact nbI_r _ _)) rfl rfl rfl (Nat.le_of_ble_eq_true rfl) (Or.inr ⟨_, rfl, (hN.f.k 29 rfl)⟩) rfl ?_
        rintro _ τ3 ⟨rfl, hM3, hD3, hU3⟩
        change aw _ _ _ _ 114 [some (.ref 29), some (.int (iI _)), some (.int (iI _)), some (.int (iI _)), some (.int (iI _)), some (.ref (gT g t))] [] _
        refine aw_iinc rfl rfl rfl rfl ?_
        change aw _ _ _ _ 117 [some (.ref 29), some (.int (iI _)), some (.int (iI _)), some (.int (iI _)), some (.int (iI _)), some (.ref (gT g t))] _ _
        refine aw_goto (p' := 53) rfl rfl ?_
        refine ih _ (by omega) _ _ _ rfl hM3 ((hD.su (T := [32]) rfl).tr (hD3.su (T := [32]) rfl)) (by omega) (by omega) (fun c h1 h2 => ?_)
        rw [hU3 c h1 h2, hU c h1 h2, hns c]
        congr 1
        exact zit_congr (by rw [cBit, dB_t, show ((t.toNat : Nat) : Int) = t by omega])
set_option maxRecDepth 10000 in
set_option maxHeartbeats 2000000 in
theorem c_turnTo {d : Nat} {sz : Nat} {κ : Nat × (Nat → Int32) × Option Nat} {A : Nat → Int → Int} {g : Nat → Nat} {σ : az_S} (hC : CR sz κ A g σ) (hI : MI sz A) {x h : Int} (hx0 : 0 ≤ x) (hx1 : x ≤ 3599) (hh0 : 0 ≤ h) (hh1 : h ≤ 11) {y : Int} (hy0 : 0 ≤ y) (hy1 : y ≤ 3599) (hS : cSL A x y σ) : cal (d + 4) 38 [.ref 29, .int (iI h)] σ (fun r τ => r = none ∧ CR sz κ A g τ ∧ Mod σ τ [32] ∧ cST A x h y τ) := by
  have hth := hI.things
  have hce := hI.cells
  have hsz := hC.f.1
  have hsu := hI.sun (12 * (x % 360 / 30) + h) (by omega) (by omega)
  refine cal_of (M := (yX5_turnTo, cX5_turnTo, 6, none)) (cd := k_X5_turnTo) (L := [some (.ref 29), some (.int (iI h)), none, none, none, none]) rfl (Nat.le_of_ble_eq_true rfl) rfl rfl ?_
  refine aw_aload_n rfl rfl rfl ?_
  refine aw_getr (b := 32) rfl rfl (hC.f.k 29 rfl) (hC.f.r 29 5 32 rfl) rfl ?_
  refine aw_iconst rfl rfl ?_
  refine aw_calc (j_fill (N := sz) (hC.f.s 32 rfl) (by omega) ⟨by omega, by omega⟩) rfl rfl rfl (Nat.le_of_ble_eq_true rfl) (Or.inl rfl) rfl ?_
  rintro _ τ4 ⟨rfl, hD4, hU4⟩
  change aw _ _ _ _ 8 [some (.ref 29), some (.int (iI _)), none, none, none, none] [] _
  have hM4 := hC.mod hI hD4 rfl
  refine aw_aload_n rfl rfl rfl ?_
  refine aw_getr (b := 1) rfl rfl (hM4.f.k 29 rfl) (hM4.f.r 29 1 1 rfl) rfl ?_
  refine aw_aload_n rfl rfl rfl ?_
  refine aw_gk (v := x) (6) rfl rfl (hM4.f.k 29 rfl) rfl ((hS.mod hD4 rfl rfl rfl).1) rfl (fun _ _ => ?_)
  refine aw_iload_n rfl rfl rfl ?_
  refine aw_fnc (c_isClouded hM4 hI (by omega) (by omega) (by omega) (by omega)) rfl rfl rfl (Nat.le_of_ble_eq_true rfl) (Or.inr ⟨_, rfl, (hM4.f.k 1 rfl)⟩) rfl ?_
  refine aw_ifeqb (p' := 24) rfl rfl rfl (fun c5 => ?_) (fun c5 => ?_)
  · refine aw_aload_n rfl rfl rfl ?_
    refine aw_getr (b := 1) rfl rfl (hM4.f.k 29 rfl) (hM4.f.r 29 1 1 rfl) rfl ?_
    refine aw_aload_n rfl rfl rfl ?_
    refine aw_gk (v := x) (6) rfl rfl (hM4.f.k 29 rfl) rfl ((hS.mod hD4 rfl rfl rfl).1) rfl (fun _ _ => ?_)
    refine aw_iload_n rfl rfl rfl ?_
    refine aw_fnc (c_sunX hM4 hI (by omega) (by omega) (by omega) (by omega)) rfl rfl rfl (Nat.le_of_ble_eq_true rfl) (Or.inr ⟨_, rfl, (hM4.f.k 1 rfl)⟩) rfl ?_
    refine aw_istore_n rfl (Nat.le_of_ble_eq_true rfl) rfl rfl ?_
    change aw _ _ _ _ 37 [some (.ref 29), some (.int (iI _)), some (.int (iI _)), none, none, none] _ _
    refine aw_aload_n rfl rfl rfl ?_
    refine aw_getr (b := 1) rfl rfl (hM4.f.k 29 rfl) (hM4.f.r 29 1 1 rfl) rfl ?_
    refine aw_aload_n rfl rfl rfl ?_
    refine aw_gk (v := x) (6) rfl rfl (hM4.f.k 29 rfl) rfl ((hS.mod hD4 rfl rfl rfl).1) rfl (fun _ _ => ?_)
    refine aw_iload_n rfl rfl rfl ?_
    refine aw_fnc (c_sunY hM4 hI (by omega) (by omega) (by omega) (by omega)) rfl rfl rfl (Nat.le_of_ble_eq_true rfl) (Or.inr ⟨_, rfl, (hM4.f.k 1 rfl)⟩) rfl ?_
    refine aw_istore_n rfl (Nat.le_of_ble_eq_true rfl) rfl rfl ?_
    change aw _ _ _ _ 50 [some (.ref 29), some (.int (iI _)), some (.int (iI _)), some (.int (iI _)), none, none] _ _
    refine aw_iconst rfl rfl ?_
    refine aw_istore rfl (Nat.le_of_ble_eq_true rfl) rfl rfl ?_
    change aw _ _ _ _ 53 [some (.ref 29), some (.int (iI _)), some (.int (iI _)), some (.int (iI _)), some (.int (iI _)), none] _ _
    exact c_turnTo_l53 hC hI hx0 hx1 hh0 hh1 hy0 hy1 hS (by assumption) _ _ 0 _ rfl hM4 (hD4.su (T := [32]) rfl) (by omega) (by omega) (fun c h1 h2 => by rw [hU4, if_pos ⟨h1, by omega⟩]; rfl)
  · refine aw_retv rfl ?_
    refine ⟨rfl, hM4, (hD4.su (T := [32]) rfl), fun c h1 h2 => ?_⟩
    rw [hU4, if_pos ⟨h1, by omega⟩]
    unfold cAll nbI
    have e : nb (cBit A x h y c) (A 42 12).toNat = 0 := tb_ext (fun t => by rw [nb_tb, Nat.zero_testBit, show cBit A x h y c t = false from dB_f.mpr (fun q => q.2.1.1 (by assumption))]; simp)
    rw [e]
    rfl
theorem cAll_b {sz : Nat} {A : Nat → Int → Int} (hI : MI sz A) (x h y c : Int) : 0 ≤ cAll A x h y c ∧ cAll A x h y c < 16777216 := by
  have hth := hI.things
  have h1 := nbI_r (cBit A x h y c) (A 42 12).toNat
  have h2 := p2_24 (n := (A 42 12).toNat) (by omega)
  unfold cAll
  omega
noncomputable def cBey (A : Nat → Int → Int) (x h y c k : Int) : Int := ((bey (cBit A x h y c) (A 42 12).toNat k.toNat : Nat) : Int)
theorem cBey_b {sz : Nat} {A : Nat → Int → Int} (hI : MI sz A) (x h y c k : Int) : 0 ≤ cBey A x h y c k ∧ cBey A x h y c k < 16777216 := by
  have hth := hI.things
  have h1 := nbI_r (fun t => cBit A x h y c t && decide (k.toNat ≤ rk (cBit A x h y c) t)) (A 42 12).toNat
  have h2 := p2_24 (n := (A 42 12).toNat) (by omega)
  unfold cBey bey
  unfold nbI at h1
  omega
theorem cBey_s {A : Nat → Int → Int} {x h y c k : Int} (hk : 0 ≤ k) (h0 : cBey A x h y c k ≠ 0) : zand (cBey A x h y c k) (cBey A x h y c k - 1) = cBey A x h y c (k + 1) := by
  unfold cBey at h0 ⊢
  rw [show (k + 1).toNat = k.toNat + 1 by omega, ← bey_clr (by omega)]
  unfold zand
  rw [Int.toNat_natCast, show (((bey (cBit A x h y c) (A 42 12).toNat k.toNat : Nat) : Int) - 1).toNat = bey (cBit A x h y c) (A 42 12).toNat k.toNat - 1 by omega]
theorem bey_zz {f : Nat → Bool} {n m : Nat} (h : bey f n m = 0) : ∀ k, m ≤ k → bey f n k = 0 := by
  intro k hk
  induction k with
  | zero => obtain rfl : m = 0 := by omega
            exact h
  | succ k ih =>
    by_cases e : m = k + 1
    · rw [← e]; exact h
    · exact bey_z (ih (by omega))
theorem cBey_12 {A : Nat → Int → Int} {x h y c k : Int} (hk : k = 12 ∨ (0 ≤ k ∧ k ≤ 12 ∧ cBey A x h y c k = 0)) : cBey A x h y c 12 = cBey A x h y c k := by
  rcases hk with rfl | ⟨h0, h1, h2⟩
  · rfl
  · rw [h2]
    unfold cBey at h2 ⊢
    rw [bey_zz (m := k.toNat) (by omega) (12 : Int).toNat (by omega)]
    rfl
theorem cFirst {A : Nat → Int → Int} (x h y c : Int) : zdif (cAll A x h y c) (cBey A x h y c 12) = mSet A x h y c := by
  unfold zdif cAll cBey nbI
  rw [Int.toNat_natCast, Int.toNat_natCast, show (12 : Int).toNat = 12 by rfl, first12]
  exact (mSet_nb A x h y c _).symm
set_option maxRecDepth 10000 in
set_option maxHeartbeats 2000000 in
theorem c_shaders_l24 {d : Nat} {sz : Nat} {κ : Nat × (Nat → Int32) × Option Nat} {A : Nat → Int → Int} {g : Nat → Nat} {σ : az_S} (hC : CR sz κ A g σ) (hI : MI sz A) {x h : Int} (hx0 : 0 ≤ x) (hx1 : x ≤ 3599) (hh0 : 0 ≤ h) (hh1 : h ≤ 11) {y : Int} (hy0 : 0 ≤ y) (hy1 : y ≤ 3599) (hT : cST A x h y σ) {c : Int} (hc0 : 0 ≤ c) (hc1 : c < A 42 2) : ∀ (n : Nat) (b k : Int), (12 - k).toNat = n → 0 ≤ k → k ≤ 12 → b = cBey A x h y c k → aw (d) k_X5_shadersOf (some .int) (fun r τ => r = some (.int (iI (mSet A x h y c))) ∧ τ = σ) 24 [some (.ref 29), some (.int (iI c)), some (.int (iI b)), some (.int (iI k))] [] σ := by
  intro n
  induction n using Nat.strongRecOn with
  | ind n ih =>
    intro b k hn hk0 hk1 hb
    have hce := hI.cells
    have hab := cAll_b hI x h y c
    have hbb := cBey_b hI x h y c k
    rw [← hb] at hbb
    have hst := cBey_s (A := A) (x := x) (h := h) (y := y) (c := c) hk0
    rw [← hb] at hst
    refine aw_iload_n rfl rfl rfl ?_
    refine aw_bipush rfl rfl rfl ?_
    refine aw_icmp (p' := 46) rfl ⟨by omega, by omega⟩ ⟨by omega, by omega⟩ rfl rfl (fun c1 => ?_) (fun c1 => ?_)
    · dsimp only [zc] at c1
      refine aw_aload_n rfl rfl rfl ?_
      refine aw_getr (b := 32) rfl rfl (hC.f.k 29 rfl) (hC.f.r 29 5 32 rfl) rfl ?_
      refine aw_iload_n rfl rfl rfl ?_
      refine aw_as (N := sz) rfl (hC.f.s 32 rfl) (by omega) (by omega) (by omega) rfl (fun _ _ => ?_)
      rw [hT c hc0 hc1]
      refine aw_iload_n rfl rfl rfl ?_
      refine aw_iconst rfl rfl ?_
      refine aw_inot rfl rfl ?_
      refine aw_idif rfl (by omega) (by omega) rfl ?_
      refine aw_reti rfl ?_
      refine ⟨?_, rfl⟩
      rw [← cFirst, cBey_12 (k := k) (by rw [← hb]; omega), ← hb]
    · dsimp only [zc] at c1
      refine aw_iload_n rfl rfl rfl ?_
      refine aw_if (p' := 46) rfl ⟨by omega, by omega⟩ rfl rfl (fun c2 => ?_) (fun c2 => ?_)
      · dsimp only [zc] at c2
        refine aw_aload_n rfl rfl rfl ?_
        refine aw_getr (b := 32) rfl rfl (hC.f.k 29 rfl) (hC.f.r 29 5 32 rfl) rfl ?_
        refine aw_iload_n rfl rfl rfl ?_
        refine aw_as (N := sz) rfl (hC.f.s 32 rfl) (by omega) (by omega) (by omega) rfl (fun _ _ => ?_)
        rw [hT c hc0 hc1]
        refine aw_iload_n rfl rfl rfl ?_
        refine aw_iconst rfl rfl ?_
        refine aw_inot rfl rfl ?_
        refine aw_idif rfl (by omega) (by omega) rfl ?_
        refine aw_reti rfl ?_
        refine ⟨?_, rfl⟩
        rw [← cFirst, cBey_12 (k := k) (by rw [← hb]; omega), ← hb]
      · dsimp only [zc] at c2
        refine aw_iload_n rfl rfl rfl ?_
        refine aw_iload_n rfl rfl rfl ?_
        refine aw_iconst rfl rfl ?_
        refine aw_isub rfl rfl ?_
        refine aw_iand rfl (by omega) (by omega) rfl ?_
        refine aw_istore_n rfl (Nat.le_of_ble_eq_true rfl) rfl rfl ?_
        change aw _ _ _ _ 40 [some (.ref 29), some (.int (iI _)), some (.int (iI _)), some (.int (iI _))] _ _
        refine aw_iinc rfl rfl rfl rfl ?_
        change aw _ _ _ _ 43 [some (.ref 29), some (.int (iI _)), some (.int (iI _)), some (.int (iI _))] _ _
        refine aw_goto (p' := 24) rfl rfl ?_
        refine ih _ (by omega) _ _ rfl (by omega) (by omega) ?_
        exact hst (by omega)
set_option maxRecDepth 10000 in
set_option maxHeartbeats 2000000 in
theorem c_shaders {d : Nat} {sz : Nat} {κ : Nat × (Nat → Int32) × Option Nat} {A : Nat → Int → Int} {g : Nat → Nat} {σ : az_S} (hC : CR sz κ A g σ) (hI : MI sz A) {x h : Int} (hx0 : 0 ≤ x) (hx1 : x ≤ 3599) (hh0 : 0 ≤ h) (hh1 : h ≤ 11) {y : Int} (hy0 : 0 ≤ y) (hy1 : y ≤ 3599) (hT : cST A x h y σ) {c : Int} (hc0 : 0 ≤ c) (hc1 : c < A 42 2) : fn (d + 1) 42 [.ref 29, .int (iI c)] σ (.int (iI (mSet A x h y c))) := by
  have hce := hI.cells
  have hab := cAll_b hI x h y c
  refine fn_of (M := (yX5_shadersOf, cX5_shadersOf, 4, (some .int))) (cd := k_X5_shadersOf) (L := [some (.ref 29), some (.int (iI c)), none, none]) rfl (Nat.le_of_ble_eq_true rfl) rfl rfl ?_
  refine aw_iload_n rfl rfl rfl ?_
  refine aw_if (p' := 13) rfl ⟨by omega, by omega⟩ rfl rfl (fun c3 => ?_) (fun c3 => ?_)
  · dsimp only [zc] at c3
    refine aw_iconst rfl rfl ?_
    refine aw_reti rfl ?_
    omega
  · dsimp only [zc] at c3
    refine aw_iload_n rfl rfl rfl ?_
    refine aw_aload_n rfl rfl rfl ?_
    refine aw_getr (b := 32) rfl rfl (hC.f.k 29 rfl) (hC.f.r 29 5 32 rfl) rfl ?_
    refine aw_alen (N := sz) rfl (hC.f.s 32 rfl) (by decide) rfl ?_
    refine aw_icmp (p' := 15) rfl ⟨by omega, by omega⟩ ⟨by omega, by omega⟩ rfl rfl (fun c4 => ?_) (fun c4 => ?_)
    · dsimp only [zc] at c4
      refine aw_aload_n rfl rfl rfl ?_
      refine aw_getr (b := 32) rfl rfl (hC.f.k 29 rfl) (hC.f.r 29 5 32 rfl) rfl ?_
      refine aw_iload_n rfl rfl rfl ?_
      refine aw_as (N := sz) rfl (hC.f.s 32 rfl) (by omega) (by omega) (by omega) rfl (fun _ _ => ?_)
      rw [hT c hc0 hc1]
      refine aw_istore_n rfl (Nat.le_of_ble_eq_true rfl) rfl rfl ?_
      change aw _ _ _ _ 22 [some (.ref 29), some (.int (iI _)), some (.int (iI _)), none] _ _
      refine aw_iconst rfl rfl ?_
      refine aw_istore_n rfl (Nat.le_of_ble_eq_true rfl) rfl rfl ?_
      change aw _ _ _ _ 24 [some (.ref 29), some (.int (iI _)), some (.int (iI _)), some (.int (iI _))] _ _
      exact c_shaders_l24 hC hI hx0 hx1 hh0 hh1 hy0 hy1 hT hc0 hc1 _ _ 0 rfl (by omega) (by omega) (by unfold cBey cAll nbI; rw [show (0 : Int).toNat = 0 by rfl, bey_0])
    · dsimp only [zc] at c4
      refine aw_iconst rfl rfl ?_
      refine aw_reti rfl ?_
      omega
