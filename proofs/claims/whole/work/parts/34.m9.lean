def zdist (a b : Int) : Int := if b < a then a - b else b - a
noncomputable def mNearN (A : Nat → Int → Int) (t h c hs : Int) : Nat → Int
  | 0 => -1
  | n + 1 => zit (mPoint A (A 50 t) (A 54 t) (A 55 t) (A 42 3) h ((n : Int) + 1) = c ∧ (mNearN A t h c hs n < 0 ∨ zdist ((n : Int) + 1) hs < zdist (mNearN A t h c hs n) hs)) ((n : Int) + 1) (mNearN A t h c hs n)
theorem mNearN_s {A : Nat → Int → Int} {t h c hs j : Int} (h0 : 1 ≤ j) : mNearN A t h c hs (j + 1 - 1).toNat = zit (mPoint A (A 50 t) (A 54 t) (A 55 t) (A 42 3) h j = c ∧ (mNearN A t h c hs (j - 1).toNat < 0 ∨ zdist j hs < zdist (mNearN A t h c hs (j - 1).toNat) hs)) j (mNearN A t h c hs (j - 1).toNat) := by
  obtain ⟨n, hn⟩ := Int.eq_ofNat_of_zero_le (show 0 ≤ j - 1 by omega)
  have e : (j + 1 - 1).toNat = n + 1 := by omega
  have e2 : (j - 1).toNat = n := by omega
  have e3 : j = (n : Int) + 1 := by omega
  rw [e, e2, e3]
  rfl
theorem mNearN_r (A : Nat → Int → Int) (t h c hs : Int) (n : Nat) : -1 ≤ mNearN A t h c hs n ∧ mNearN A t h c hs n ≤ n ∧ mNearN A t h c hs n ≠ 0 := by
  induction n with
  | zero => unfold mNearN; omega
  | succ n ih =>
    unfold mNearN
    rcases zit_or (mPoint A (A 50 t) (A 54 t) (A 55 t) (A 42 3) h ((n : Int) + 1) = c ∧ (mNearN A t h c hs n < 0 ∨ zdist ((n : Int) + 1) hs < zdist (mNearN A t h c hs n) hs)) ((n : Int) + 1) (mNearN A t h c hs n) with ⟨-, q⟩ | ⟨-, q⟩ <;> rw [q] <;> omega
noncomputable def mNear (A : Nat → Int → Int) (t h c : Int) : Int := mNearN A t h c (mH A t (A 42 3) (A 42 3)) 60
theorem mNear_r (A : Nat → Int → Int) (t h c : Int) : -1 ≤ mNear A t h c ∧ mNear A t h c ≤ 60 := ⟨(mNearN_r A t h c _ 60).1, (mNearN_r A t h c _ 60).2.1⟩
def mBase (A : Nat → Int → Int) (t : Int) : Int := if A 62 t < 0 then A 52 t else A 62 t + 1
def mFrom (A : Nat → Int → Int) (t : Int) : Int := if mBase A t < A 57 (41 * t + mB A t (A 42 3) (A 42 3)) then A 57 (41 * t + mB A t (A 42 3) (A 42 3)) else mBase A t
def mGrown (A : Nat → Int → Int) (t : Int) : Int := if A 49 t = 1 then (A 42 3 - mFrom A t) / A 53 t else 0
def mMendH (A : Nat → Int → Int) (t n : Int) : Int := if mGrown A t < n then n - mGrown A t else 0
noncomputable def mMeasOk (A : Nat → Int → Int) (t h c : Int) : Prop := ((0 ≤ t ∧ t ≤ A 42 12 - 1) ∧ (0 ≤ h ∧ h ≤ 11) ∧ (0 ≤ c ∧ c ≤ A 42 2 - 1) ∧ ¬ mCloud A (A 42 3) h ∧ A 62 t ≠ A 42 3 ∧ 0 ≤ mH A t (A 42 3) (A 42 3))
noncomputable def mMeasOk2 (A : Nat → Int → Int) (t h c : Int) : Prop := mMeasOk A t h c ∧ 0 ≤ mNear A t h c ∧ ¬ (mNear A t h c ≠ mH A t (A 42 3) (A 42 3) ∧ A 56 t = 40)
noncomputable def mMeasB (A : Nat → Int → Int) (t h c : Int) : Nat → Int → Int := tit (mNear A t h c ≠ mH A t (A 42 3) (A 42 3)) (mEnter A t (mFrom A t) (mMendH A t (mNear A t h c))) A
noncomputable def mMeasTab (A : Nat → Int → Int) (t h c : Int) : Nat → Int → Int := up (mMeasB A t h c) 62 t (A 42 3)
noncomputable def m_measure_op (A : Nat → Int → Int) (t h c : Int) : Nat → Int → Int := tit (mMeasOk2 A t h c) (mMeasTab A t h c) A
noncomputable def mMeas (A : Nat → Int → Int) (t h c : Int) : Int := zit (mMeasOk2 A t h c) (mH (mMeasTab A t h c) t (A 42 3) (A 42 3)) (-1)
theorem mFrom_r {sz : Nat} {A : Nat → Int → Int} (hI : MI sz A) {t h c : Int} (hok : mMeasOk A t h c) : 0 ≤ mFrom A t ∧ mFrom A t ≤ A 42 3 ∧ 0 ≤ mBase A t ∧ mBase A t ≤ A 42 3 ∧ 0 ≤ A 57 (41 * t + mB A t (A 42 3) (A 42 3)) ∧ A 57 (41 * t + mB A t (A 42 3) (A 42 3)) ≤ A 42 3 ∧ 0 ≤ mB A t (A 42 3) (A 42 3) ∧ mB A t (A 42 3) (A 42 3) < A 56 t ∧ ¬ mGone A t (A 42 3) (A 42 3) := by
  obtain ⟨o1, o2, o3, o4, o5, o6⟩ := hok
  have hT := hI.thing t o1.1 (by omega)
  have hcl := hI.clock
  have hr := mH_range hT (A 42 3) (A 42 3)
  have hng : ¬ mGone A t (A 42 3) (A 42 3) := fun q => by have := hr.2.2.mpr q; omega
  obtain ⟨b1, b2, b3, b4, b5, b6⟩ := mB_facts hT hng
  obtain ⟨-, -, -, -, -, -, k7, -, -, k10⟩ := hT
  have hb : 0 ≤ mBase A t ∧ mBase A t ≤ A 42 3 := by unfold mBase; split <;> omega
  refine ⟨?_, ?_, hb.1, hb.2, b4, b3, b1, b2, hng⟩
  · unfold mFrom; split <;> omega
  · unfold mFrom; split <;> omega
theorem mMend_r {sz : Nat} {A : Nat → Int → Int} (hI : MI sz A) {t h c : Int} (hok : mMeasOk A t h c) : 0 ≤ mGrown A t ∧ mGrown A t ≤ 3599 ∧ 0 ≤ mMendH A t (mNear A t h c) ∧ mMendH A t (mNear A t h c) ≤ 60 := by
  have hf := mFrom_r hI hok
  obtain ⟨o1, o2, o3, o4, o5, o6⟩ := hok
  have hcl := hI.clock
  have hn := mNear_r A t h c
  obtain ⟨-, -, -, k4, -⟩ := hI.thing t o1.1 (by omega)
  have hg : 0 ≤ mGrown A t ∧ mGrown A t ≤ 3599 := by
    unfold mGrown
    split
    · have := div_b (a := A 42 3 - mFrom A t) (g := A 53 t) (by omega) (by omega)
      omega
    · omega
  refine ⟨hg.1, hg.2, ?_, ?_⟩ <;> (unfold mMendH; split <;> omega)
theorem MI_measB {sz : Nat} {A : Nat → Int → Int} (hI : MI sz A) {t h c : Int} (hok : mMeasOk A t h c) (he : A 56 t ≤ 40) : MI sz (mMeasB A t h c) := by
  unfold mMeasB
  have hf := mFrom_r hI hok
  have hm := mMend_r hI hok
  have hcl := hI.clock
  obtain ⟨o1, -⟩ := hok
  by_cases q : mNear A t h c ≠ mH A t (A 42 3) (A 42 3)
  · rw [tit_t q]; exact MI_enter hI o1.1 (by omega) he hf.1 (by omega) hm.2.2.1 hm.2.2.2
  · rw [tit_f q]; exact hI
set_option maxRecDepth 10000 in
set_option maxHeartbeats 2000000 in
theorem m_measure_l308 {d : Nat} {sz : Nat} {A : Nat → Int → Int} {σ : az_S} (hM : MV sz A σ) (hI : MI sz A) {t h c : Int} (ht : inI t) (hh : inI h) (hc : inI c) (hE : ∀ t : Int, 0 ≤ t → t < A 42 12 → A 56 t ≤ 40) : ∀ (τ : az_S) (u v w : Option Value) (hok : mMeasOk A t h c) (h0 : 0 ≤ mNear A t h c) (hee : ¬ (mNear A t h c ≠ mH A t (A 42 3) (A 42 3) ∧ A 56 t = 40)) (hN : MV sz (mMeasB A t h c) τ) (hD : Mod σ τ [56, 57, 58, 59, 62]),  aw (d + 2) k_X12_measure (some .int) (fun r τ => r = some (.int (iI (mMeas A t h c))) ∧ MV sz (m_measure_op A t h c) τ ∧ Mod σ τ [56, 57, 58, 59, 62]) 308 [some (.ref 42), some (.int (iI t)), some (.int (iI h)), some (.int (iI c)), some (.int (iI (mH A t (A 42 3) (A 42 3)))), some (.int (iI (mNear A t h c))), u, v, w] [] τ := by
  intro τ u v w hok h0 hee hN hD
  obtain ⟨ht1, ht2⟩ := ht
  obtain ⟨hh1, hh2⟩ := hh
  obtain ⟨hc1, hc2⟩ := hc
  have hth := hI.things
  have hcl := hI.clock
  have hT := fun q1 q2 => hI.thing t q1 q2
  have hce := hI.cells
  have hok2 := hok
  obtain ⟨o1, o2, o3, o4, o5, o6⟩ := hok2
  have hfr := mFrom_r hI hok
  have hmd := mMend_r hI hok
  obtain ⟨he, -, -, hkg, hce2, -, hsi, hll, hfd, hme⟩ := hT (by omega) (by omega)
  have hrH := mH_range (hT (by omega) (by omega)) (A 42 3) (A 42 3)
  have h40 := hE t (by omega) (by omega)
  have hnr := mNear_r A t h c
  have hJ := MI_measB hI hok h40
  have hB : ∀ a, a ≠ 56 → a ≠ 57 → a ≠ 58 → a ≠ 59 → mMeasB A t h c a = A a := by
    intro a q1 q2 q3 q4
    unfold mMeasB tit
    split
    · funext w; simp [mEnter, up, q1, q2, q3, q4]
    · rfl
  have hC3 : up (mMeasB A t h c) 62 t (A 42 3) 42 3 = A 42 3 := by show mMeasB A t h c 42 3 = _; rw [hB 42 (by decide) (by decide) (by decide) (by decide)]
  have hC4 : mMeasB A t h c 42 3 = A 42 3 := by rw [hB 42 (by decide) (by decide) (by decide) (by decide)]
  have hC : mMeasTab A t h c 42 12 = A 42 12 := by show mMeasB A t h c 42 12 = _; rw [hB 42 (by decide) (by decide) (by decide) (by decide)]
  have hK : MI sz (mMeasTab A t h c) := by
    have := MI_meas (t := t) hJ (by omega) (by rw [hB 42 (by decide) (by decide) (by decide) (by decide)]; omega)
    rw [hB 42 (by decide) (by decide) (by decide) (by decide)] at this
    exact this
  refine aw_aload_n rfl rfl rfl ?_
  refine aw_getr (b := 62) rfl rfl (hN.f.k 42 rfl) (hN.f.r 42 26 62 rfl) rfl ?_
  refine aw_iload_n rfl rfl rfl ?_
  refine aw_aload_n rfl rfl rfl ?_
  refine aw_gp (3) hN rfl rfl (hN.f.k 42 rfl) rfl rfl (fun _ _ => ?_)
  rw [hC4]
  refine aw_sp (N := 24) hN rfl (hN.f.s 62 rfl) (by omega) rfl (by omega) (by omega) ⟨by omega, by omega⟩ rfl (fun τ1 hM1 hD1 => ?_)
  refine aw_aload_n rfl rfl rfl ?_
  refine aw_iload_n rfl rfl rfl ?_
  refine aw_aload_n rfl rfl rfl ?_
  refine aw_gpv (v := A 42 3) (3) hM1 rfl rfl (hM1.f.k 42 rfl) rfl (by first | (simp [up, mEnter, mStands, mStands0]; done) | assumption) rfl (fun _ _ => ?_)
  refine aw_aload_n rfl rfl rfl ?_
  refine aw_gpv (v := A 42 3) (3) hM1 rfl rfl (hM1.f.k 42 rfl) rfl (by first | (simp [up, mEnter, mStands, mStands0]; done) | assumption) rfl (fun _ _ => ?_)
  refine aw_fnc (m_heightOf (x := A 42 3) (y := A 42 3) hM1 hK (by omega) (by show t < mMeasTab A t h c 42 12; rw [hC]; omega) (by omega) (by omega) (by omega) (by omega)) rfl rfl rfl (Nat.le_of_ble_eq_true rfl) (Or.inr ⟨_, rfl, (hM1.f.k 42 rfl)⟩) rfl ?_
  refine aw_reti rfl ?_
  refine ⟨?_, ?_, ((hD.su (T := [56, 57, 58, 59, 62]) rfl).tr (hD1.su (T := [56, 57, 58, 59, 62]) rfl))⟩
  · unfold mMeas; rw [zit_t ⟨hok, h0, hee⟩]; rfl
  · unfold m_measure_op; rw [tit_t ⟨hok, h0, hee⟩]; exact hM1
set_option maxRecDepth 10000 in
set_option maxHeartbeats 2000000 in
theorem m_measure_l285 {d : Nat} {sz : Nat} {A : Nat → Int → Int} {σ : az_S} (hM : MV sz A σ) (hI : MI sz A) {t h c : Int} (ht : inI t) (hh : inI h) (hc : inI c) (hE : ∀ t : Int, 0 ≤ t → t < A 42 12 → A 56 t ≤ 40) : ∀ (v : Option Value) (hok : mMeasOk A t h c) (hne : mNear A t h c ≠ mH A t (A 42 3) (A 42 3)) (h0 : 0 ≤ mNear A t h c) (hee : A 56 t ≠ 40),  aw (d + 2) k_X12_measure (some .int) (fun r τ => r = some (.int (iI (mMeas A t h c))) ∧ MV sz (m_measure_op A t h c) τ ∧ Mod σ τ [56, 57, 58, 59, 62]) 285 [some (.ref 42), some (.int (iI t)), some (.int (iI h)), some (.int (iI c)), some (.int (iI (mH A t (A 42 3) (A 42 3)))), some (.int (iI (mNear A t h c))), some (.int (iI (mFrom A t))), v, some (.int (iI (mGrown A t)))] [] σ := by
  intro v hok hne h0 hee
  obtain ⟨ht1, ht2⟩ := ht
  obtain ⟨hh1, hh2⟩ := hh
  obtain ⟨hc1, hc2⟩ := hc
  have hth := hI.things
  have hcl := hI.clock
  have hT := fun q1 q2 => hI.thing t q1 q2
  have hce := hI.cells
  have hok2 := hok
  obtain ⟨o1, o2, o3, o4, o5, o6⟩ := hok2
  have hfr := mFrom_r hI hok
  have hmd := mMend_r hI hok
  obtain ⟨he, -, -, hkg, hce2, -, hsi, hll, hfd, hme⟩ := hT (by omega) (by omega)
  have hrH := mH_range (hT (by omega) (by omega)) (A 42 3) (A 42 3)
  have h40 := hE t (by omega) (by omega)
  have hnr := mNear_r A t h c
  refine aw_aload_n rfl rfl rfl ?_
  refine aw_iload_n rfl rfl rfl ?_
  refine aw_iload rfl rfl rfl ?_
  refine aw_iload rfl rfl rfl ?_
  refine aw_iload rfl rfl rfl ?_
  refine aw_icmp (p' := 304) rfl ⟨by omega, by omega⟩ ⟨by omega, by omega⟩ rfl rfl (fun c2 => ?_) (fun c2 => ?_)
  · dsimp only [zc] at c2
    refine aw_iconst rfl rfl ?_
    refine aw_calc (m_enters hM (by omega) (by omega) (by omega) (by omega) ⟨by omega, by omega⟩ ⟨by omega, by omega⟩) rfl rfl rfl (Nat.le_of_ble_eq_true rfl) (Or.inr ⟨_, rfl, (hM.f.k 42 rfl)⟩) rfl ?_
    rintro _ τ3 ⟨rfl, hM3, hD3⟩
    change aw _ _ _ _ 308 [some (.ref 42), some (.int (iI _)), some (.int (iI _)), some (.int (iI _)), some (.int (iI _)), some (.int (iI _)), some (.int (iI _)), _, some (.int (iI _))] [] _
    exact m_measure_l308 hM hI ⟨ht1, ht2⟩ ⟨hh1, hh2⟩ ⟨hc1, hc2⟩ hE _ _ _ _ hok (by omega) (by omega) (by unfold mMeasB; rw [tit_t hne]; (have ee : mMendH A t (mNear A t h c) = _ := (by unfold mMendH; first | exact if_pos (by omega) | exact if_neg (by omega))); rw [ee]; exact hM3) (hD3.su (T := [56, 57, 58, 59, 62]) rfl)
  · dsimp only [zc] at c2
    refine aw_iload rfl rfl rfl ?_
    refine aw_iload rfl rfl rfl ?_
    refine aw_isub rfl rfl ?_
    refine aw_goto (p' := 305) rfl rfl ?_
    refine aw_calc (m_enters hM (by omega) (by omega) (by omega) (by omega) ⟨by omega, by omega⟩ ⟨by omega, by omega⟩) rfl rfl rfl (Nat.le_of_ble_eq_true rfl) (Or.inr ⟨_, rfl, (hM.f.k 42 rfl)⟩) rfl ?_
    rintro _ τ4 ⟨rfl, hM4, hD4⟩
    change aw _ _ _ _ 308 [some (.ref 42), some (.int (iI _)), some (.int (iI _)), some (.int (iI _)), some (.int (iI _)), some (.int (iI _)), some (.int (iI _)), _, some (.int (iI _))] [] _
    exact m_measure_l308 hM hI ⟨ht1, ht2⟩ ⟨hh1, hh2⟩ ⟨hc1, hc2⟩ hE _ _ _ _ hok (by omega) (by omega) (by unfold mMeasB; rw [tit_t hne]; (have ee : mMendH A t (mNear A t h c) = _ := (by unfold mMendH; first | exact if_pos (by omega) | exact if_neg (by omega))); rw [ee]; exact hM4) (hD4.su (T := [56, 57, 58, 59, 62]) rfl)
set_option maxRecDepth 10000 in
set_option maxHeartbeats 2000000 in
theorem m_measure_l255 {d : Nat} {sz : Nat} {A : Nat → Int → Int} {σ : az_S} (hM : MV sz A σ) (hI : MI sz A) {t h c : Int} (ht : inI t) (hh : inI h) (hc : inI c) (hE : ∀ t : Int, 0 ≤ t → t < A 42 12 → A 56 t ≤ 40) : ∀ (v : Option Value) (hok : mMeasOk A t h c) (hne : mNear A t h c ≠ mH A t (A 42 3) (A 42 3)) (h0 : 0 ≤ mNear A t h c) (hee : A 56 t ≠ 40),  aw (d + 2) k_X12_measure (some .int) (fun r τ => r = some (.int (iI (mMeas A t h c))) ∧ MV sz (m_measure_op A t h c) τ ∧ Mod σ τ [56, 57, 58, 59, 62]) 255 [some (.ref 42), some (.int (iI t)), some (.int (iI h)), some (.int (iI c)), some (.int (iI (mH A t (A 42 3) (A 42 3)))), some (.int (iI (mNear A t h c))), some (.int (iI (mFrom A t))), v, none] [] σ := by
  intro v hok hne h0 hee
  obtain ⟨ht1, ht2⟩ := ht
  obtain ⟨hh1, hh2⟩ := hh
  obtain ⟨hc1, hc2⟩ := hc
  have hth := hI.things
  have hcl := hI.clock
  have hT := fun q1 q2 => hI.thing t q1 q2
  have hce := hI.cells
  have hok2 := hok
  obtain ⟨o1, o2, o3, o4, o5, o6⟩ := hok2
  have hfr := mFrom_r hI hok
  have hmd := mMend_r hI hok
  obtain ⟨he, -, -, hkg, hce2, -, hsi, hll, hfd, hme⟩ := hT (by omega) (by omega)
  have hrH := mH_range (hT (by omega) (by omega)) (A 42 3) (A 42 3)
  have h40 := hE t (by omega) (by omega)
  have hnr := mNear_r A t h c
  refine aw_aload_n rfl rfl rfl ?_
  refine aw_getr (b := 49) rfl rfl (hM.f.k 42 rfl) (hM.f.r 42 13 49 rfl) rfl ?_
  refine aw_iload_n rfl rfl rfl ?_
  refine aw_ap (N := 24) hM rfl (hM.f.s 49 rfl) (by omega) rfl (by omega) (by omega) rfl (fun _ _ => ?_)
  refine aw_iconst rfl rfl ?_
  refine aw_icmp (p' := 282) rfl ⟨by omega, by omega⟩ ⟨by omega, by omega⟩ rfl rfl (fun c5 => ?_) (fun c5 => ?_)
  · dsimp only [zc] at c5
    refine aw_iconst rfl rfl ?_
    refine aw_istore rfl (Nat.le_of_ble_eq_true rfl) rfl rfl ?_
    change aw _ _ _ _ 285 [some (.ref 42), some (.int (iI _)), some (.int (iI _)), some (.int (iI _)), some (.int (iI _)), some (.int (iI _)), some (.int (iI _)), _, some (.int (iI _))] _ _
    (have ee : mGrown A t = _ := (by unfold mGrown; first | exact if_pos (by omega) | exact if_neg (by omega)))
    rw [← ee]
    exact m_measure_l285 hM hI ⟨ht1, ht2⟩ ⟨hh1, hh2⟩ ⟨hc1, hc2⟩ hE _ hok hne h0 hee
  · dsimp only [zc] at c5
    refine aw_aload_n rfl rfl rfl ?_
    refine aw_gp (3) hM rfl rfl (hM.f.k 42 rfl) rfl rfl (fun _ _ => ?_)
    refine aw_iload rfl rfl rfl ?_
    refine aw_isub rfl rfl ?_
    refine aw_aload_n rfl rfl rfl ?_
    refine aw_getr (b := 53) rfl rfl (hM.f.k 42 rfl) (hM.f.r 42 17 53 rfl) rfl ?_
    refine aw_iload_n rfl rfl rfl ?_
    refine aw_ap (N := 24) hM rfl (hM.f.s 53 rfl) (by omega) rfl (by omega) (by omega) rfl (fun _ _ => ?_)
    have hdv := div_b (a := A 42 3 - mFrom A t) (g := A 53 t) (by omega) (by omega)
    refine aw_idiv rfl (by omega) (by omega) (by omega) (by omega) rfl ?_
    refine aw_goto (p' := 283) rfl rfl ?_
    refine aw_istore rfl (Nat.le_of_ble_eq_true rfl) rfl rfl ?_
    change aw _ _ _ _ 285 [some (.ref 42), some (.int (iI _)), some (.int (iI _)), some (.int (iI _)), some (.int (iI _)), some (.int (iI _)), some (.int (iI _)), _, some (.int (iI _))] _ _
    (have ee : mGrown A t = _ := (by unfold mGrown; first | exact if_pos (by omega) | exact if_neg (by omega)))
    rw [← ee]
    exact m_measure_l285 hM hI ⟨ht1, ht2⟩ ⟨hh1, hh2⟩ ⟨hc1, hc2⟩ hE _ hok hne h0 hee
set_option maxRecDepth 10000 in
set_option maxHeartbeats 2000000 in
theorem m_measure_l219 {d : Nat} {sz : Nat} {A : Nat → Int → Int} {σ : az_S} (hM : MV sz A σ) (hI : MI sz A) {t h c : Int} (ht : inI t) (hh : inI h) (hc : inI c) (hE : ∀ t : Int, 0 ≤ t → t < A 42 12 → A 56 t ≤ 40) : ∀ (hok : mMeasOk A t h c) (hne : mNear A t h c ≠ mH A t (A 42 3) (A 42 3)) (h0 : 0 ≤ mNear A t h c) (hee : A 56 t ≠ 40),  aw (d + 2) k_X12_measure (some .int) (fun r τ => r = some (.int (iI (mMeas A t h c))) ∧ MV sz (m_measure_op A t h c) τ ∧ Mod σ τ [56, 57, 58, 59, 62]) 219 [some (.ref 42), some (.int (iI t)), some (.int (iI h)), some (.int (iI c)), some (.int (iI (mH A t (A 42 3) (A 42 3)))), some (.int (iI (mNear A t h c))), some (.int (iI (mBase A t))), none, none] [] σ := by
  intro hok hne h0 hee
  obtain ⟨ht1, ht2⟩ := ht
  obtain ⟨hh1, hh2⟩ := hh
  obtain ⟨hc1, hc2⟩ := hc
  have hth := hI.things
  have hcl := hI.clock
  have hT := fun q1 q2 => hI.thing t q1 q2
  have hce := hI.cells
  have hok2 := hok
  obtain ⟨o1, o2, o3, o4, o5, o6⟩ := hok2
  have hfr := mFrom_r hI hok
  have hmd := mMend_r hI hok
  obtain ⟨he, -, -, hkg, hce2, -, hsi, hll, hfd, hme⟩ := hT (by omega) (by omega)
  have hrH := mH_range (hT (by omega) (by omega)) (A 42 3) (A 42 3)
  have h40 := hE t (by omega) (by omega)
  have hnr := mNear_r A t h c
  refine aw_aload_n rfl rfl rfl ?_
  refine aw_getr (b := 57) rfl rfl (hM.f.k 42 rfl) (hM.f.r 42 21 57 rfl) rfl ?_
  refine aw_aload_n rfl rfl rfl ?_
  refine aw_iload_n rfl rfl rfl ?_
  refine aw_aload_n rfl rfl rfl ?_
  refine aw_gp (3) hM rfl rfl (hM.f.k 42 rfl) rfl rfl (fun _ _ => ?_)
  refine aw_aload_n rfl rfl rfl ?_
  refine aw_gp (3) hM rfl rfl (hM.f.k 42 rfl) rfl rfl (fun _ _ => ?_)
  refine aw_fnc (m_entryFor hM hI (by omega) (by omega) ⟨by omega, by omega⟩ ⟨by omega, by omega⟩) rfl rfl rfl (Nat.le_of_ble_eq_true rfl) (Or.inr ⟨_, rfl, (hM.f.k 42 rfl)⟩) rfl ?_
  rw [absB_pos (by omega)]
  refine aw_ap (N := 984) hM rfl (hM.f.s 57 rfl) (by omega) rfl (by omega) (by omega) rfl (fun _ _ => ?_)
  refine aw_istore rfl (Nat.le_of_ble_eq_true rfl) rfl rfl ?_
  change aw _ _ _ _ 239 [some (.ref 42), some (.int (iI _)), some (.int (iI _)), some (.int (iI _)), some (.int (iI _)), some (.int (iI _)), some (.int (iI _)), some (.int (iI _)), none] _ _
  refine aw_iload rfl rfl rfl ?_
  refine aw_iload rfl rfl rfl ?_
  refine aw_icmp (p' := 251) rfl ⟨by omega, by omega⟩ ⟨by omega, by omega⟩ rfl rfl (fun c6 => ?_) (fun c6 => ?_)
  · dsimp only [zc] at c6
    refine aw_iload rfl rfl rfl ?_
    refine aw_istore rfl (Nat.le_of_ble_eq_true rfl) rfl rfl ?_
    change aw _ _ _ _ 255 [some (.ref 42), some (.int (iI _)), some (.int (iI _)), some (.int (iI _)), some (.int (iI _)), some (.int (iI _)), some (.int (iI _)), some (.int (iI _)), none] _ _
    (have ee : mFrom A t = _ := (by unfold mFrom; first | exact if_pos (by omega) | exact if_neg (by omega)))
    rw [← ee]
    exact m_measure_l255 hM hI ⟨ht1, ht2⟩ ⟨hh1, hh2⟩ ⟨hc1, hc2⟩ hE _ hok hne h0 hee
  · dsimp only [zc] at c6
    refine aw_iload rfl rfl rfl ?_
    refine aw_goto (p' := 253) rfl rfl ?_
    refine aw_istore rfl (Nat.le_of_ble_eq_true rfl) rfl rfl ?_
    change aw _ _ _ _ 255 [some (.ref 42), some (.int (iI _)), some (.int (iI _)), some (.int (iI _)), some (.int (iI _)), some (.int (iI _)), some (.int (iI _)), some (.int (iI _)), none] _ _
    (have ee : mFrom A t = _ := (by unfold mFrom; first | exact if_pos (by omega) | exact if_neg (by omega)))
    rw [← ee]
    exact m_measure_l255 hM hI ⟨ht1, ht2⟩ ⟨hh1, hh2⟩ ⟨hc1, hc2⟩ hE _ hok hne h0 hee
set_option maxRecDepth 10000 in
set_option maxHeartbeats 2000000 in
theorem m_measure_l159 {d : Nat} {sz : Nat} {A : Nat → Int → Int} {σ : az_S} (hM : MV sz A σ) (hI : MI sz A) {t h c : Int} (ht : inI t) (hh : inI h) (hc : inI c) (hE : ∀ t : Int, 0 ≤ t → t < A 42 12 → A 56 t ≤ 40) : ∀ (v : Option Value), mMeasOk A t h c → aw (d + 2) k_X12_measure (some .int) (fun r τ => r = some (.int (iI (mMeas A t h c))) ∧ MV sz (m_measure_op A t h c) τ ∧ Mod σ τ [56, 57, 58, 59, 62]) 159 [some (.ref 42), some (.int (iI t)), some (.int (iI h)), some (.int (iI c)), some (.int (iI (mH A t (A 42 3) (A 42 3)))), some (.int (iI (mNear A t h c))), v, none, none] [] σ := by
  intro v hok
  obtain ⟨ht1, ht2⟩ := ht
  obtain ⟨hh1, hh2⟩ := hh
  obtain ⟨hc1, hc2⟩ := hc
  have hth := hI.things
  have hcl := hI.clock
  have hT := fun q1 q2 => hI.thing t q1 q2
  have hce := hI.cells
  have hok2 := hok
  obtain ⟨o1, o2, o3, o4, o5, o6⟩ := hok2
  have hfr := mFrom_r hI hok
  have hmd := mMend_r hI hok
  obtain ⟨he, -, -, hkg, hce2, -, hsi, hll, hfd, hme⟩ := hT (by omega) (by omega)
  have hrH := mH_range (hT (by omega) (by omega)) (A 42 3) (A 42 3)
  have h40 := hE t (by omega) (by omega)
  have hnr := mNear_r A t h c
  refine aw_iload rfl rfl rfl ?_
  refine aw_if (p' := 182) rfl ⟨by omega, by omega⟩ rfl rfl (fun c7 => ?_) (fun c7 => ?_)
  · dsimp only [zc] at c7
    refine aw_iconst rfl rfl ?_
    refine aw_reti rfl ?_
    refine ⟨?_, ?_, Mod.rf⟩
    · unfold mMeas; rw [zit_f (by rintro ⟨⟨q1, q2, q3, q4, q5, q6⟩, q7, q8⟩; first | omega | exact q4 (by assumption))]
    · unfold m_measure_op; rw [tit_f (by rintro ⟨⟨q1, q2, q3, q4, q5, q6⟩, q7, q8⟩; first | omega | exact q4 (by assumption))]; exact hM
  · dsimp only [zc] at c7
    refine aw_iload rfl rfl rfl ?_
    refine aw_iload rfl rfl rfl ?_
    refine aw_icmp (p' := 184) rfl ⟨by omega, by omega⟩ ⟨by omega, by omega⟩ rfl rfl (fun c8 => ?_) (fun c8 => ?_)
    · dsimp only [zc] at c8
      refine aw_iload rfl rfl rfl ?_
      refine aw_iload rfl rfl rfl ?_
      refine aw_icmp (p' := 308) rfl ⟨by omega, by omega⟩ ⟨by omega, by omega⟩ rfl rfl (fun c9 => ?_) (fun c9 => ?_)
      · dsimp only [zc] at c9
        exact m_measure_l308 hM hI ⟨ht1, ht2⟩ ⟨hh1, hh2⟩ ⟨hc1, hc2⟩ hE _ _ _ _ hok (by omega) (by omega) (by unfold mMeasB; rw [tit_f (by omega)]; exact hM) Mod.rf
      · dsimp only [zc] at c9
        refine aw_aload_n rfl rfl rfl ?_
        refine aw_getr (b := 62) rfl rfl (hM.f.k 42 rfl) (hM.f.r 42 26 62 rfl) rfl ?_
        refine aw_iload_n rfl rfl rfl ?_
        refine aw_ap (N := 24) hM rfl (hM.f.s 62 rfl) (by omega) rfl (by omega) (by omega) rfl (fun _ _ => ?_)
        refine aw_if (p' := 209) rfl ⟨by omega, by omega⟩ rfl rfl (fun c10 => ?_) (fun c10 => ?_)
        · dsimp only [zc] at c10
          refine aw_aload_n rfl rfl rfl ?_
          refine aw_getr (b := 62) rfl rfl (hM.f.k 42 rfl) (hM.f.r 42 26 62 rfl) rfl ?_
          refine aw_iload_n rfl rfl rfl ?_
          refine aw_ap (N := 24) hM rfl (hM.f.s 62 rfl) (by omega) rfl (by omega) (by omega) rfl (fun _ _ => ?_)
          refine aw_iconst rfl rfl ?_
          refine aw_iadd rfl rfl ?_
          refine aw_istore rfl (Nat.le_of_ble_eq_true rfl) rfl rfl ?_
          change aw _ _ _ _ 219 [some (.ref 42), some (.int (iI _)), some (.int (iI _)), some (.int (iI _)), some (.int (iI _)), some (.int (iI _)), some (.int (iI _)), none, none] _ _
          first | (exfalso; omega) | ((have ee : mBase A t = _ := (by unfold mBase; first | exact if_pos (by omega) | exact if_neg (by omega))); rw [← ee]; exact m_measure_l219 hM hI ⟨ht1, ht2⟩ ⟨hh1, hh2⟩ ⟨hc1, hc2⟩ hE hok (by omega) (by omega) (by omega))
        · dsimp only [zc] at c10
          refine aw_aload_n rfl rfl rfl ?_
          refine aw_getr (b := 52) rfl rfl (hM.f.k 42 rfl) (hM.f.r 42 16 52 rfl) rfl ?_
          refine aw_iload_n rfl rfl rfl ?_
          refine aw_ap (N := 24) hM rfl (hM.f.s 52 rfl) (by omega) rfl (by omega) (by omega) rfl (fun _ _ => ?_)
          refine aw_goto (p' := 217) rfl rfl ?_
          refine aw_istore rfl (Nat.le_of_ble_eq_true rfl) rfl rfl ?_
          change aw _ _ _ _ 219 [some (.ref 42), some (.int (iI _)), some (.int (iI _)), some (.int (iI _)), some (.int (iI _)), some (.int (iI _)), some (.int (iI _)), none, none] _ _
          first | (exfalso; omega) | ((have ee : mBase A t = _ := (by unfold mBase; first | exact if_pos (by omega) | exact if_neg (by omega))); rw [← ee]; exact m_measure_l219 hM hI ⟨ht1, ht2⟩ ⟨hh1, hh2⟩ ⟨hc1, hc2⟩ hE hok (by omega) (by omega) (by omega))
    · dsimp only [zc] at c8
      refine aw_aload_n rfl rfl rfl ?_
      refine aw_getr (b := 56) rfl rfl (hM.f.k 42 rfl) (hM.f.r 42 20 56 rfl) rfl ?_
      refine aw_iload_n rfl rfl rfl ?_
      refine aw_ap (N := 24) hM rfl (hM.f.s 56 rfl) (by omega) rfl (by omega) (by omega) rfl (fun _ _ => ?_)
      refine aw_bipush rfl rfl rfl ?_
      refine aw_icmp (p' := 184) rfl ⟨by omega, by omega⟩ ⟨by omega, by omega⟩ rfl rfl (fun c11 => ?_) (fun c11 => ?_)
      · dsimp only [zc] at c11
        refine aw_iload rfl rfl rfl ?_
        refine aw_iload rfl rfl rfl ?_
        refine aw_icmp (p' := 308) rfl ⟨by omega, by omega⟩ ⟨by omega, by omega⟩ rfl rfl (fun c12 => ?_) (fun c12 => ?_)
        · dsimp only [zc] at c12
          exact m_measure_l308 hM hI ⟨ht1, ht2⟩ ⟨hh1, hh2⟩ ⟨hc1, hc2⟩ hE _ _ _ _ hok (by omega) (by omega) (by unfold mMeasB; rw [tit_f (by omega)]; exact hM) Mod.rf
        · dsimp only [zc] at c12
          refine aw_aload_n rfl rfl rfl ?_
          refine aw_getr (b := 62) rfl rfl (hM.f.k 42 rfl) (hM.f.r 42 26 62 rfl) rfl ?_
          refine aw_iload_n rfl rfl rfl ?_
          refine aw_ap (N := 24) hM rfl (hM.f.s 62 rfl) (by omega) rfl (by omega) (by omega) rfl (fun _ _ => ?_)
          refine aw_if (p' := 209) rfl ⟨by omega, by omega⟩ rfl rfl (fun c13 => ?_) (fun c13 => ?_)
          · dsimp only [zc] at c13
            refine aw_aload_n rfl rfl rfl ?_
            refine aw_getr (b := 62) rfl rfl (hM.f.k 42 rfl) (hM.f.r 42 26 62 rfl) rfl ?_
            refine aw_iload_n rfl rfl rfl ?_
            refine aw_ap (N := 24) hM rfl (hM.f.s 62 rfl) (by omega) rfl (by omega) (by omega) rfl (fun _ _ => ?_)
            refine aw_iconst rfl rfl ?_
            refine aw_iadd rfl rfl ?_
            refine aw_istore rfl (Nat.le_of_ble_eq_true rfl) rfl rfl ?_
            change aw _ _ _ _ 219 [some (.ref 42), some (.int (iI _)), some (.int (iI _)), some (.int (iI _)), some (.int (iI _)), some (.int (iI _)), some (.int (iI _)), none, none] _ _
            first | (exfalso; omega) | ((have ee : mBase A t = _ := (by unfold mBase; first | exact if_pos (by omega) | exact if_neg (by omega))); rw [← ee]; exact m_measure_l219 hM hI ⟨ht1, ht2⟩ ⟨hh1, hh2⟩ ⟨hc1, hc2⟩ hE hok (by omega) (by omega) (by omega))
          · dsimp only [zc] at c13
            refine aw_aload_n rfl rfl rfl ?_
            refine aw_getr (b := 52) rfl rfl (hM.f.k 42 rfl) (hM.f.r 42 16 52 rfl) rfl ?_
            refine aw_iload_n rfl rfl rfl ?_
            refine aw_ap (N := 24) hM rfl (hM.f.s 52 rfl) (by omega) rfl (by omega) (by omega) rfl (fun _ _ => ?_)
            refine aw_goto (p' := 217) rfl rfl ?_
            refine aw_istore rfl (Nat.le_of_ble_eq_true rfl) rfl rfl ?_
            change aw _ _ _ _ 219 [some (.ref 42), some (.int (iI _)), some (.int (iI _)), some (.int (iI _)), some (.int (iI _)), some (.int (iI _)), some (.int (iI _)), none, none] _ _
            first | (exfalso; omega) | ((have ee : mBase A t = _ := (by unfold mBase; first | exact if_pos (by omega) | exact if_neg (by omega))); rw [← ee]; exact m_measure_l219 hM hI ⟨ht1, ht2⟩ ⟨hh1, hh2⟩ ⟨hc1, hc2⟩ hE hok (by omega) (by omega) (by omega))
      · dsimp only [zc] at c11
        refine aw_iconst rfl rfl ?_
        refine aw_reti rfl ?_
        refine ⟨?_, ?_, Mod.rf⟩
        · unfold mMeas; rw [zit_f (by rintro ⟨⟨q1, q2, q3, q4, q5, q6⟩, q7, q8⟩; first | omega | exact q4 (by assumption))]
        · unfold m_measure_op; rw [tit_f (by rintro ⟨⟨q1, q2, q3, q4, q5, q6⟩, q7, q8⟩; first | omega | exact q4 (by assumption))]; exact hM
set_option maxRecDepth 10000 in
set_option maxHeartbeats 2000000 in
theorem m_measure_l87 {d : Nat} {sz : Nat} {A : Nat → Int → Int} {σ : az_S} (hM : MV sz A σ) (hI : MI sz A) {t h c : Int} (ht : inI t) (hh : inI h) (hc : inI c) (hE : ∀ t : Int, 0 ≤ t → t < A 42 12 → A 56 t ≤ 40) : ∀ (n : Nat) (j nr : Int), (61 - j).toNat = n → mMeasOk A t h c → 1 ≤ j → j ≤ 61 → nr = mNearN A t h c (mH A t (A 42 3) (A 42 3)) (j - 1).toNat → aw (d + 2) k_X12_measure (some .int) (fun r τ => r = some (.int (iI (mMeas A t h c))) ∧ MV sz (m_measure_op A t h c) τ ∧ Mod σ τ [56, 57, 58, 59, 62]) 87 [some (.ref 42), some (.int (iI t)), some (.int (iI h)), some (.int (iI c)), some (.int (iI (mH A t (A 42 3) (A 42 3)))), some (.int (iI nr)), some (.int (iI j)), none, none] [] σ := by
  intro n
  induction n using Nat.strongRecOn with
  | ind n ih =>
    intro j nr hn hok hj0 hj1 hnr0
    obtain ⟨ht1, ht2⟩ := ht
    obtain ⟨hh1, hh2⟩ := hh
    obtain ⟨hc1, hc2⟩ := hc
    have hth := hI.things
    have hcl := hI.clock
    have hT := fun q1 q2 => hI.thing t q1 q2
    have hce := hI.cells
    have hok2 := hok
    obtain ⟨o1, o2, o3, o4, o5, o6⟩ := hok2
    have hfr := mFrom_r hI hok
    have hmd := mMend_r hI hok
    obtain ⟨he, -, -, hkg, hce2, -, hsi, hll, hfd, hme⟩ := hT (by omega) (by omega)
    have hrH := mH_range (hT (by omega) (by omega)) (A 42 3) (A 42 3)
    have h40 := hE t (by omega) (by omega)
    have hnr := mNear_r A t h c
    have hs := mNearN_s (A := A) (t := t) (h := h) (c := c) (hs := mH A t (A 42 3) (A 42 3)) hj0
    have hr2 := mNearN_r A t h c (mH A t (A 42 3) (A 42 3)) (j - 1).toNat
    rw [← hnr0] at hs hr2
    have hpr := mPoint_r hI (A 50 t) (A 54 t) (A 55 t) (A 42 3) h j
    refine aw_iload rfl rfl rfl ?_
    refine aw_bipush rfl rfl rfl ?_
    refine aw_icmp (p' := 159) rfl ⟨by omega, by omega⟩ ⟨by omega, by omega⟩ rfl rfl (fun c14 => ?_) (fun c14 => ?_)
    · dsimp only [zc] at c14
      (have ee : nr = mNear A t h c := by rw [hnr0, show j = 61 by omega]; rfl)
      rw [ee]
      exact m_measure_l159 hM hI ⟨ht1, ht2⟩ ⟨hh1, hh2⟩ ⟨hc1, hc2⟩ hE _ hok
    · dsimp only [zc] at c14
      refine aw_aload_n rfl rfl rfl ?_
      refine aw_aload_n rfl rfl rfl ?_
      refine aw_getr (b := 50) rfl rfl (hM.f.k 42 rfl) (hM.f.r 42 14 50 rfl) rfl ?_
      refine aw_iload_n rfl rfl rfl ?_
      refine aw_ap (N := 24) hM rfl (hM.f.s 50 rfl) (by omega) rfl (by omega) (by omega) rfl (fun _ _ => ?_)
      refine aw_aload_n rfl rfl rfl ?_
      refine aw_getr (b := 54) rfl rfl (hM.f.k 42 rfl) (hM.f.r 42 18 54 rfl) rfl ?_
      refine aw_iload_n rfl rfl rfl ?_
      refine aw_ap (N := 24) hM rfl (hM.f.s 54 rfl) (by omega) rfl (by omega) (by omega) rfl (fun _ _ => ?_)
      refine aw_aload_n rfl rfl rfl ?_
      refine aw_getr (b := 55) rfl rfl (hM.f.k 42 rfl) (hM.f.r 42 19 55 rfl) rfl ?_
      refine aw_iload_n rfl rfl rfl ?_
      refine aw_ap (N := 24) hM rfl (hM.f.s 55 rfl) (by omega) rfl (by omega) (by omega) rfl (fun _ _ => ?_)
      refine aw_aload_n rfl rfl rfl ?_
      refine aw_gp (3) hM rfl rfl (hM.f.k 42 rfl) rfl rfl (fun _ _ => ?_)
      refine aw_iload_n rfl rfl rfl ?_
      refine aw_iload rfl rfl rfl ?_
      refine aw_fnc (m_pointOf hM hI (by omega) (by omega) (by omega) (by omega) (by omega) (by omega) (by omega) (by omega) (by omega) (by omega) (by omega) (by omega)) rfl rfl rfl (Nat.le_of_ble_eq_true rfl) (Or.inr ⟨_, rfl, (hM.f.k 42 rfl)⟩) rfl ?_
      refine aw_iload_n rfl rfl rfl ?_
      refine aw_icmp (p' := 153) rfl ⟨by omega, by omega⟩ ⟨by omega, by omega⟩ rfl rfl (fun c15 => ?_) (fun c15 => ?_)
      · dsimp only [zc] at c15
        refine aw_iinc rfl rfl rfl rfl ?_
        change aw _ _ _ _ 156 [some (.ref 42), some (.int (iI _)), some (.int (iI _)), some (.int (iI _)), some (.int (iI _)), some (.int (iI _)), some (.int (iI _)), none, none] _ _
        refine aw_goto (p' := 87) rfl rfl ?_
        refine ih _ (by omega) _ _ rfl hok (by omega) (by omega) ?_
        rw [hs]
        unfold zdist
        first | rw [zit_t ⟨by omega, by omega⟩] | rw [zit_f (by omega)]
      · dsimp only [zc] at c15
        refine aw_iload rfl rfl rfl ?_
        refine aw_if (p' := 149) rfl ⟨by omega, by omega⟩ rfl rfl (fun c16 => ?_) (fun c16 => ?_)
        · dsimp only [zc] at c16
          refine aw_iload rfl rfl rfl ?_
          refine aw_istore rfl (Nat.le_of_ble_eq_true rfl) rfl rfl ?_
          change aw _ _ _ _ 153 [some (.ref 42), some (.int (iI _)), some (.int (iI _)), some (.int (iI _)), some (.int (iI _)), some (.int (iI _)), some (.int (iI _)), none, none] _ _
          refine aw_iinc rfl rfl rfl rfl ?_
          change aw _ _ _ _ 156 [some (.ref 42), some (.int (iI _)), some (.int (iI _)), some (.int (iI _)), some (.int (iI _)), some (.int (iI _)), some (.int (iI _)), none, none] _ _
          refine aw_goto (p' := 87) rfl rfl ?_
          refine ih _ (by omega) _ _ rfl hok (by omega) (by omega) ?_
          rw [hs]
          unfold zdist
          first | rw [zit_t ⟨by omega, by omega⟩] | rw [zit_f (by omega)]
        · dsimp only [zc] at c16
          refine aw_iload rfl rfl rfl ?_
          refine aw_iload rfl rfl rfl ?_
          refine aw_fnc (m_far (by omega) (by omega) (by omega) (by omega)) rfl rfl rfl (Nat.le_of_ble_eq_true rfl) (Or.inl rfl) rfl ?_
          refine aw_iload rfl rfl rfl ?_
          refine aw_iload rfl rfl rfl ?_
          refine aw_fnc (m_far (by omega) (by omega) (by omega) (by omega)) rfl rfl rfl (Nat.le_of_ble_eq_true rfl) (Or.inl rfl) rfl ?_
          refine aw_icmp (p' := 153) rfl ⟨by omega, by omega⟩ ⟨by omega, by omega⟩ rfl rfl (fun c17 => ?_) (fun c17 => ?_)
          · dsimp only [zc] at c17
            refine aw_iinc rfl rfl rfl rfl ?_
            change aw _ _ _ _ 156 [some (.ref 42), some (.int (iI _)), some (.int (iI _)), some (.int (iI _)), some (.int (iI _)), some (.int (iI _)), some (.int (iI _)), none, none] _ _
            refine aw_goto (p' := 87) rfl rfl ?_
            refine ih _ (by omega) _ _ rfl hok (by omega) (by omega) ?_
            rw [hs]
            unfold zdist
            first | rw [zit_t ⟨by omega, by omega⟩] | rw [zit_f (by omega)]
          · dsimp only [zc] at c17
            refine aw_iload rfl rfl rfl ?_
            refine aw_istore rfl (Nat.le_of_ble_eq_true rfl) rfl rfl ?_
            change aw _ _ _ _ 153 [some (.ref 42), some (.int (iI _)), some (.int (iI _)), some (.int (iI _)), some (.int (iI _)), some (.int (iI _)), some (.int (iI _)), none, none] _ _
            refine aw_iinc rfl rfl rfl rfl ?_
            change aw _ _ _ _ 156 [some (.ref 42), some (.int (iI _)), some (.int (iI _)), some (.int (iI _)), some (.int (iI _)), some (.int (iI _)), some (.int (iI _)), none, none] _ _
            refine aw_goto (p' := 87) rfl rfl ?_
            refine ih _ (by omega) _ _ rfl hok (by omega) (by omega) ?_
            rw [hs]
            unfold zdist
            first | rw [zit_t ⟨by omega, by omega⟩] | rw [zit_f (by omega)]
set_option maxRecDepth 10000 in
set_option maxHeartbeats 2000000 in
theorem m_measure {d : Nat} {sz : Nat} {A : Nat → Int → Int} {σ : az_S} (hM : MV sz A σ) (hI : MI sz A) {t h c : Int} (ht : inI t) (hh : inI h) (hc : inI c) (hE : ∀ t : Int, 0 ≤ t → t < A 42 12 → A 56 t ≤ 40) : cal (d + 3) 201 [.ref 42, .int (iI t), .int (iI h), .int (iI c)] σ (fun r τ => r = some (.int (iI (mMeas A t h c))) ∧ MV sz (m_measure_op A t h c) τ ∧ Mod σ τ [56, 57, 58, 59, 62]) := by
  obtain ⟨ht1, ht2⟩ := ht
  obtain ⟨hh1, hh2⟩ := hh
  obtain ⟨hc1, hc2⟩ := hc
  have hth := hI.things
  have hcl := hI.clock
  have hT := fun q1 q2 => hI.thing t q1 q2
  have hce := hI.cells
  refine cal_of (M := (yX12_measure, cX12_measure, 9, (some .int))) (cd := k_X12_measure) (L := [some (.ref 42), some (.int (iI t)), some (.int (iI h)), some (.int (iI c)), none, none, none, none, none]) rfl (Nat.le_of_ble_eq_true rfl) rfl rfl ?_
  refine aw_aload_n rfl rfl rfl ?_
  refine aw_iload_n rfl rfl rfl ?_
  refine aw_fnc (m_isThing hM hI ⟨by omega, by omega⟩) rfl rfl rfl (Nat.le_of_ble_eq_true rfl) (Or.inr ⟨_, rfl, (hM.f.k 42 rfl)⟩) rfl ?_
  refine aw_ifeqb (p' := 64) rfl rfl rfl (fun c18 => ?_) (fun c18 => ?_)
  · refine aw_iconst rfl rfl ?_
    refine aw_reti rfl ?_
    refine ⟨?_, ?_, Mod.rf⟩
    · unfold mMeas; rw [zit_f (by rintro ⟨⟨q1, q2, q3, q4, q5, q6⟩, q7, q8⟩; first | omega | exact q4 (by assumption))]
    · unfold m_measure_op; rw [tit_f (by rintro ⟨⟨q1, q2, q3, q4, q5, q6⟩, q7, q8⟩; first | omega | exact q4 (by assumption))]; exact hM
  · have hT2 := hT (by omega) (by omega)
    obtain ⟨he, -, -, hkg, hce2, -, hsi, hll, hfd, hme⟩ := hT2
    refine aw_iload_n rfl rfl rfl ?_
    refine aw_fnc (m_isHour ⟨by omega, by omega⟩) rfl rfl rfl (Nat.le_of_ble_eq_true rfl) (Or.inl rfl) rfl ?_
    refine aw_ifeqb (p' := 64) rfl rfl rfl (fun c19 => ?_) (fun c19 => ?_)
    · refine aw_iconst rfl rfl ?_
      refine aw_reti rfl ?_
      refine ⟨?_, ?_, Mod.rf⟩
      · unfold mMeas; rw [zit_f (by rintro ⟨⟨q1, q2, q3, q4, q5, q6⟩, q7, q8⟩; first | omega | exact q4 (by assumption))]
      · unfold m_measure_op; rw [tit_f (by rintro ⟨⟨q1, q2, q3, q4, q5, q6⟩, q7, q8⟩; first | omega | exact q4 (by assumption))]; exact hM
    · refine aw_aload_n rfl rfl rfl ?_
      refine aw_iload_n rfl rfl rfl ?_
      refine aw_fnc (m_isCell hM hI ⟨by omega, by omega⟩) rfl rfl rfl (Nat.le_of_ble_eq_true rfl) (Or.inr ⟨_, rfl, (hM.f.k 42 rfl)⟩) rfl ?_
      refine aw_ifeqb (p' := 64) rfl rfl rfl (fun c20 => ?_) (fun c20 => ?_)
      · refine aw_iconst rfl rfl ?_
        refine aw_reti rfl ?_
        refine ⟨?_, ?_, Mod.rf⟩
        · unfold mMeas; rw [zit_f (by rintro ⟨⟨q1, q2, q3, q4, q5, q6⟩, q7, q8⟩; first | omega | exact q4 (by assumption))]
        · unfold m_measure_op; rw [tit_f (by rintro ⟨⟨q1, q2, q3, q4, q5, q6⟩, q7, q8⟩; first | omega | exact q4 (by assumption))]; exact hM
      · refine aw_aload_n rfl rfl rfl ?_
        refine aw_aload_n rfl rfl rfl ?_
        refine aw_gp (3) hM rfl rfl (hM.f.k 42 rfl) rfl rfl (fun _ _ => ?_)
        refine aw_iload_n rfl rfl rfl ?_
        refine aw_fnc (m_isCloud hM hI ⟨by omega, by omega⟩ ⟨by omega, by omega⟩) rfl rfl rfl (Nat.le_of_ble_eq_true rfl) (Or.inr ⟨_, rfl, (hM.f.k 42 rfl)⟩) rfl ?_
        refine aw_ifneb (p' := 64) rfl rfl rfl (fun c21 => ?_) (fun c21 => ?_)
        · refine aw_iconst rfl rfl ?_
          refine aw_reti rfl ?_
          refine ⟨?_, ?_, Mod.rf⟩
          · unfold mMeas; rw [zit_f (by rintro ⟨⟨q1, q2, q3, q4, q5, q6⟩, q7, q8⟩; first | omega | exact q4 (by assumption))]
          · unfold m_measure_op; rw [tit_f (by rintro ⟨⟨q1, q2, q3, q4, q5, q6⟩, q7, q8⟩; first | omega | exact q4 (by assumption))]; exact hM
        · refine aw_aload_n rfl rfl rfl ?_
          refine aw_getr (b := 62) rfl rfl (hM.f.k 42 rfl) (hM.f.r 42 26 62 rfl) rfl ?_
          refine aw_iload_n rfl rfl rfl ?_
          refine aw_ap (N := 24) hM rfl (hM.f.s 62 rfl) (by omega) rfl (by omega) (by omega) rfl (fun _ _ => ?_)
          refine aw_aload_n rfl rfl rfl ?_
          refine aw_gp (3) hM rfl rfl (hM.f.k 42 rfl) rfl rfl (fun _ _ => ?_)
          refine aw_icmp (p' := 64) rfl ⟨by omega, by omega⟩ ⟨by omega, by omega⟩ rfl rfl (fun c22 => ?_) (fun c22 => ?_)
          · dsimp only [zc] at c22
            refine aw_iconst rfl rfl ?_
            refine aw_reti rfl ?_
            refine ⟨?_, ?_, Mod.rf⟩
            · unfold mMeas; rw [zit_f (by rintro ⟨⟨q1, q2, q3, q4, q5, q6⟩, q7, q8⟩; first | omega | exact q4 (by assumption))]
            · unfold m_measure_op; rw [tit_f (by rintro ⟨⟨q1, q2, q3, q4, q5, q6⟩, q7, q8⟩; first | omega | exact q4 (by assumption))]; exact hM
          · dsimp only [zc] at c22
            refine aw_aload_n rfl rfl rfl ?_
            refine aw_iload_n rfl rfl rfl ?_
            refine aw_aload_n rfl rfl rfl ?_
            refine aw_gp (3) hM rfl rfl (hM.f.k 42 rfl) rfl rfl (fun _ _ => ?_)
            refine aw_aload_n rfl rfl rfl ?_
            refine aw_gp (3) hM rfl rfl (hM.f.k 42 rfl) rfl rfl (fun _ _ => ?_)
            refine aw_fnc (m_heightOf hM hI (by omega) (by omega) (by omega) (by omega) (by omega) (by omega)) rfl rfl rfl (Nat.le_of_ble_eq_true rfl) (Or.inr ⟨_, rfl, (hM.f.k 42 rfl)⟩) rfl ?_
            have hrH23 := mH_range (hI.thing t (by omega) (by omega)) (A 42 3) (A 42 3)
            refine aw_if (p' := 66) rfl ⟨by omega, by omega⟩ rfl rfl (fun c24 => ?_) (fun c24 => ?_)
            · dsimp only [zc] at c24
              refine aw_aload_n rfl rfl rfl ?_
              refine aw_iload_n rfl rfl rfl ?_
              refine aw_aload_n rfl rfl rfl ?_
              refine aw_gp (3) hM rfl rfl (hM.f.k 42 rfl) rfl rfl (fun _ _ => ?_)
              refine aw_aload_n rfl rfl rfl ?_
              refine aw_gp (3) hM rfl rfl (hM.f.k 42 rfl) rfl rfl (fun _ _ => ?_)
              refine aw_fnc (m_heightOf hM hI (by omega) (by omega) (by omega) (by omega) (by omega) (by omega)) rfl rfl rfl (Nat.le_of_ble_eq_true rfl) (Or.inr ⟨_, rfl, (hM.f.k 42 rfl)⟩) rfl ?_
              have hrH25 := mH_range (hI.thing t (by omega) (by omega)) (A 42 3) (A 42 3)
              refine aw_istore rfl (Nat.le_of_ble_eq_true rfl) rfl rfl ?_
              change aw _ _ _ _ 81 [some (.ref 42), some (.int (iI _)), some (.int (iI _)), some (.int (iI _)), some (.int (iI _)), none, none, none, none] _ _
              refine aw_iconst rfl rfl ?_
              refine aw_istore rfl (Nat.le_of_ble_eq_true rfl) rfl rfl ?_
              change aw _ _ _ _ 84 [some (.ref 42), some (.int (iI _)), some (.int (iI _)), some (.int (iI _)), some (.int (iI _)), some (.int (iI _)), none, none, none] _ _
              refine aw_iconst rfl rfl ?_
              refine aw_istore rfl (Nat.le_of_ble_eq_true rfl) rfl rfl ?_
              change aw _ _ _ _ 87 [some (.ref 42), some (.int (iI _)), some (.int (iI _)), some (.int (iI _)), some (.int (iI _)), some (.int (iI _)), some (.int (iI _)), none, none] _ _
              exact m_measure_l87 hM hI ⟨ht1, ht2⟩ ⟨hh1, hh2⟩ ⟨hc1, hc2⟩ hE _ 1 (-1) rfl ⟨by omega, by omega, by omega, by assumption, by omega, by omega⟩ (by omega) (by omega) rfl
            · dsimp only [zc] at c24
              refine aw_iconst rfl rfl ?_
              refine aw_reti rfl ?_
              refine ⟨?_, ?_, Mod.rf⟩
              · unfold mMeas; rw [zit_f (by rintro ⟨⟨q1, q2, q3, q4, q5, q6⟩, q7, q8⟩; first | omega | exact q4 (by assumption))]
              · unfold m_measure_op; rw [tit_f (by rintro ⟨⟨q1, q2, q3, q4, q5, q6⟩, q7, q8⟩; first | omega | exact q4 (by assumption))]; exact hM
