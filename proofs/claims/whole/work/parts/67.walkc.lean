theorem c_hour {d : Nat} {sz : Nat} {κ : Nat × (Nat → Int32) × Option Nat} {A : Nat → Int → Int} {g : Nat → Nat} {σ : az_S} (hC : CR sz κ A g σ) (hI : MI sz A) {R : tRules} (hR : PW R) (hT : cTar σ (g 700) R) {x h : Int} (hx0 : 0 ≤ x) (hx1 : x ≤ 3599) (hh0 : 0 ≤ h) (hh1 : h ≤ 11) (hS : cSL A x (A 42 3) σ) (hU0 : cST A x h (A 42 3) σ) {f f' : Int → Int × Int} {rc : Int → Prop} {nx : Int → Int} {u m lb : Int} (hu0 : 0 ≤ u) (hu1 : u < A 42 2) (hm0 : 0 ≤ m) (hm1 : m ≤ 11) (hlb : lb = 0 ∨ lb = 1) (hAf : cAf A f rc (37 - g 701) (39 - g 701) (A 42 2) σ) (hfb : ∀ e : Int, 0 ≤ e → e < A 42 2 → (0 ≤ (f e).1 ∧ (f e).1 ≤ 1000) ∧ (0 ≤ (f e).2 ∧ (f e).2 ≤ 1000000000000)) (hf1 : ∀ e : Int, 0 ≤ e → e < A 42 2 → (f e).1 ≤ 20 ∨ (f e).1 = 1000) (hnx : ∀ c : Int, 0 ≤ c → c < A 42 2 → (gSteps A u c ≤ m) → (lb = 1 → nx c = c) ∧ (lb = 0 → nx c = wNx A f c)) (hrk : lb = 0 → ∀ c : Int, 0 ≤ c → c < A 42 2 → (gSteps A u c ≤ m) → ∀ k : Int, 0 ≤ k → k < 5 → 0 ≤ mBeside A c k → rc (mBeside A c k)) (hst : ∀ c : Int, 0 ≤ c → c < A 42 2 → (gSteps A u c ≤ m) → (((mOpen A c x (A 42 3) ∧ ¬ mTaken A c x h) ∧ ((0 ≤ (nx c) ∧ (nx c) < A 42 2) ∧ rc (nx c) ∧ (f (nx c)).1 < 1000)) → f' c = (wSun A x h c + (f (nx c)).1, wCost A R x h c + (f (nx c)).2)) ∧ (¬ ((mOpen A c x (A 42 3) ∧ ¬ mTaken A c x h) ∧ ((0 ≤ (nx c) ∧ (nx c) < A 42 2) ∧ rc (nx c) ∧ (f (nx c)).1 < 1000)) → (f' c).1 = 1000)) (hs0 : ∀ e : Int, 0 ≤ e → e < A 42 2 → zx σ (36 + g 701) e = -1) : cal (d + 6) 152 [.ref 0, .int (iI h), .int (iI u), .int (iI m), .int (iI lb)] σ (fun r τ => r = none ∧ CR sz κ A g τ ∧ Mod σ τ [14, 21, 27, 35, 36, 37, 38, 39] ∧ cAf A f' (fun c => (gSteps A u c ≤ m)) (36 + g 701) (38 + g 701) (A 42 2) τ ∧ (∀ c : Int, 0 ≤ c → c < A 42 2 → (gSteps A u c ≤ m) → (f' c).1 < 1000 → zx τ 35 (h * A 42 2 + c) = nx c) ∧ (∀ w : Int, (w < h * A 42 2 ∨ h * A 42 2 + A 42 2 ≤ w) → zx τ 35 w = zx σ 35 w)) := by
  rcases hC.route.1 with ev | ev
  · have a1 : cAf A f rc 37 39 (A 42 2) σ := by rw [ev] at hAf; exact hAf
    have a2 : ∀ e : Int, 0 ≤ e → e < A 42 2 → zx σ 36 e = -1 := by rw [ev] at hs0; exact hs0
    refine (c_hour0 hC hI ev hR hT hx0 hx1 hh0 hh1 hS hU0 hu0 hu1 hm0 hm1 hlb a1 hfb hf1 hnx hrk hst a2).imp (fun r τ q => ?_)
    rw [ev]
    exact ⟨q.1, q.2.1, q.2.2.1.su rfl, q.2.2.2⟩
  · have a1 : cAf A f rc 36 38 (A 42 2) σ := by rw [ev] at hAf; exact hAf
    have a2 : ∀ e : Int, 0 ≤ e → e < A 42 2 → zx σ 37 e = -1 := by rw [ev] at hs0; exact hs0
    refine (c_hour1 hC hI ev hR hT hx0 hx1 hh0 hh1 hS hU0 hu0 hu1 hm0 hm1 hlb a1 hfb hf1 hnx hrk hst a2).imp (fun r τ q => ?_)
    rw [ev]
    exact ⟨q.1, q.2.1, q.2.2.1.su rfl, q.2.2.2⟩
theorem c_start {d : Nat} {sz : Nat} {κ : Nat × (Nat → Int32) × Option Nat} {A : Nat → Int → Int} {g : Nat → Nat} {σ : az_S} (hC : CR sz κ A g σ) (hI : MI sz A) {t : Int} (ht0 : 0 ≤ t) (ht1 : t < A 42 2) : cal (d + 2) 27 [.ref 33, .int (iI t)] σ (fun r τ => r = none ∧ CR sz κ A g τ ∧ Mod σ τ [36, 37, 38, 39] ∧ cAf A (f0 t) (fun _ => True) (36 + g 701) (38 + g 701) (A 42 2) τ) := by
  rcases hC.route.1 with ev | ev
  · refine (c_start0 hC hI ev ht0 ht1).imp (fun r τ q => ?_)
    rw [ev]
    exact ⟨q.1, q.2.1, q.2.2.1.su rfl, q.2.2.2⟩
  · refine (c_start1 hC hI ev ht0 ht1).imp (fun r τ q => ?_)
    rw [ev]
    exact ⟨q.1, q.2.1, q.2.2.1.su rfl, q.2.2.2⟩
theorem c_back {d : Nat} {sz : Nat} {κ : Nat × (Nat → Int32) × Option Nat} {A : Nat → Int → Int} {g : Nat → Nat} {σ : az_S} (hC : CR sz κ A g σ) (hI : MI sz A) : cal (d + 2) 28 [.ref 33] σ (fun r τ => r = none ∧ CR sz κ A (gsw g (1 - g 701)) τ ∧ Mi σ τ [36, 37] ∧ (∀ (f : Int → Int × Int) (rc : Int → Prop), cAf A f rc (36 + g 701) (38 + g 701) (A 42 2) σ → cAf A f rc (37 - gsw g (1 - g 701) 701) (39 - gsw g (1 - g 701) 701) (A 42 2) τ) ∧ ∀ e : Int, 0 ≤ e → e < A 42 2 → zx τ (36 + gsw g (1 - g 701) 701) e = -1) := by
  rcases hC.route.1 with ev | ev
  · refine (c_back0 hC hI ev).imp (fun r τ q => ?_)
    rw [ev]
    refine ⟨q.1, q.2.1, q.2.2.1.su rfl, fun f rc h => ?_, ?_⟩
    · rw [gsw_s]; exact cAf.mi h q.2.2.1 rfl rfl
    · rw [gsw_s]; exact q.2.2.2
  · refine (c_back1 hC hI ev).imp (fun r τ q => ?_)
    rw [ev]
    refine ⟨q.1, q.2.1, q.2.2.1.su rfl, fun f rc h => ?_, ?_⟩
    · rw [gsw_s]; exact cAf.mi h q.2.2.1 rfl rfl
    · rw [gsw_s]; exact q.2.2.2
set_option maxRecDepth 10000 in
set_option maxHeartbeats 2000000 in
theorem c_nofol0 {d : Nat} {sz : Nat} {κ : Nat × (Nat → Int32) × Option Nat} {A : Nat → Int → Int} {g : Nat → Nat} {σ : az_S} (hC : CR sz κ A g σ) (hI : MI sz A) (hv : g 701 = 0) {u F E : Int} (hu0 : 0 ≤ u) (hu1 : u < A 42 2) (hF : inI F) (hE : inI E) (hsu : zx σ 36 u = -1) : fn (d + 1) 33 [.ref 33, .int (iI u), .int (iI F), .int (iI E)] σ (.int (iI (-1))) := by
  have hce := hI.cells
  have hsz := hC.f.1
  refine fn_of (M := (yX4_follow, cX4_follow, 7, (some .int))) (cd := k_X4_follow) (L := [some (.ref 33), some (.int (iI u)), some (.int (iI F)), some (.int (iI E)), none, none, none]) rfl (Nat.le_of_ble_eq_true rfl) rfl rfl ?_
  refine aw_iload_n rfl rfl rfl ?_
  refine aw_if (p' := 23) rfl ⟨by omega, by omega⟩ rfl rfl (fun c1 => ?_) (fun c1 => ?_)
  · dsimp only [zc] at c1
    omega
  · dsimp only [zc] at c1
    refine aw_iload_n rfl rfl rfl ?_
    refine aw_aload_n rfl rfl rfl ?_
    refine aw_getr (b := 36) rfl rfl (hC.f.k 33 rfl) (by have q := hC.route.2.1; rw [hv] at q; exact q) rfl ?_
    refine aw_alen (N := sz) rfl (hC.f.s 36 rfl) (by decide) rfl ?_
    refine aw_icmp (p' := 23) rfl ⟨by omega, by omega⟩ ⟨by omega, by omega⟩ rfl rfl (fun c2 => ?_) (fun c2 => ?_)
    · dsimp only [zc] at c2
      omega
    · dsimp only [zc] at c2
      refine aw_aload_n rfl rfl rfl ?_
      refine aw_getr (b := 36) rfl rfl (hC.f.k 33 rfl) (by have q := hC.route.2.1; rw [hv] at q; exact q) rfl ?_
      refine aw_iload_n rfl rfl rfl ?_
      refine aw_as (N := sz) rfl (hC.f.s 36 rfl) (by omega) (by omega) (by omega) rfl (fun _ _ => ?_)
      rw [hsu]
      refine aw_iconst rfl rfl ?_
      refine aw_icmp (p' := 25) rfl ⟨by omega, by omega⟩ ⟨by omega, by omega⟩ rfl rfl (fun c3 => ?_) (fun c3 => ?_)
      · dsimp only [zc] at c3
        omega
      · dsimp only [zc] at c3
        refine aw_iconst rfl rfl ?_
        refine aw_reti rfl ?_
        exact ⟨rfl, rfl⟩
set_option maxRecDepth 10000 in
set_option maxHeartbeats 2000000 in
theorem c_nofol1 {d : Nat} {sz : Nat} {κ : Nat × (Nat → Int32) × Option Nat} {A : Nat → Int → Int} {g : Nat → Nat} {σ : az_S} (hC : CR sz κ A g σ) (hI : MI sz A) (hv : g 701 = 1) {u F E : Int} (hu0 : 0 ≤ u) (hu1 : u < A 42 2) (hF : inI F) (hE : inI E) (hsu : zx σ 37 u = -1) : fn (d + 1) 33 [.ref 33, .int (iI u), .int (iI F), .int (iI E)] σ (.int (iI (-1))) := by
  have hce := hI.cells
  have hsz := hC.f.1
  refine fn_of (M := (yX4_follow, cX4_follow, 7, (some .int))) (cd := k_X4_follow) (L := [some (.ref 33), some (.int (iI u)), some (.int (iI F)), some (.int (iI E)), none, none, none]) rfl (Nat.le_of_ble_eq_true rfl) rfl rfl ?_
  refine aw_iload_n rfl rfl rfl ?_
  refine aw_if (p' := 23) rfl ⟨by omega, by omega⟩ rfl rfl (fun c1 => ?_) (fun c1 => ?_)
  · dsimp only [zc] at c1
    omega
  · dsimp only [zc] at c1
    refine aw_iload_n rfl rfl rfl ?_
    refine aw_aload_n rfl rfl rfl ?_
    refine aw_getr (b := 37) rfl rfl (hC.f.k 33 rfl) (by have q := hC.route.2.1; rw [hv] at q; exact q) rfl ?_
    refine aw_alen (N := sz) rfl (hC.f.s 37 rfl) (by decide) rfl ?_
    refine aw_icmp (p' := 23) rfl ⟨by omega, by omega⟩ ⟨by omega, by omega⟩ rfl rfl (fun c2 => ?_) (fun c2 => ?_)
    · dsimp only [zc] at c2
      omega
    · dsimp only [zc] at c2
      refine aw_aload_n rfl rfl rfl ?_
      refine aw_getr (b := 37) rfl rfl (hC.f.k 33 rfl) (by have q := hC.route.2.1; rw [hv] at q; exact q) rfl ?_
      refine aw_iload_n rfl rfl rfl ?_
      refine aw_as (N := sz) rfl (hC.f.s 37 rfl) (by omega) (by omega) (by omega) rfl (fun _ _ => ?_)
      rw [hsu]
      refine aw_iconst rfl rfl ?_
      refine aw_icmp (p' := 25) rfl ⟨by omega, by omega⟩ ⟨by omega, by omega⟩ rfl rfl (fun c3 => ?_) (fun c3 => ?_)
      · dsimp only [zc] at c3
        omega
      · dsimp only [zc] at c3
        refine aw_iconst rfl rfl ?_
        refine aw_reti rfl ?_
        exact ⟨rfl, rfl⟩
theorem wPath_st {sz : Nat} {A : Nat → Int → Int} (hI : MI sz A) {R : tRules} {x F u E t : Int} (hok : wOk A R x F u E t) : ∀ i : Nat, (i : Int) ≤ E - F → gSteps A u (wPath A R x E t F u i) ≤ i := by
  intro i
  have hk := hok.1
  induction i with
  | zero => intro _; have := (gSteps_b hI (u := u) (c := u) (by omega) (by omega) (by omega) (by omega)).2.2.mpr rfl; show gSteps A u u ≤ _; omega
  | succ i ih =>
    intro hi
    have h1 := ih (by omega)
    have h2 := (wPath_r hI hok i (by omega)).1
    have h3 := (wPath_r hI hok (i + 1) hi).1
    have e : wPath A R x E t F u (i + 1) = nxN A (wD A R x E t (E - (F + i + 1)).toNat) (wPath A R x E t F u i) 5 := rfl
    obtain ⟨k, k0, k1, k2⟩ := nxN_is (A := A) (f := wD A R x E t (E - (F + i + 1)).toNat) (c := wPath A R x E t F u i) 5 (by rw [← e]; exact h3.1)
    have h4 := steps_1 hI (u := u) h2.1 h2.2 k0 (by omega) (by rw [← k2, ← e]; exact h3.1)
    rw [e, k2]
    omega
/-- the class's walk to its end -/
theorem c_fol {d : Nat} {sz : Nat} {κ : Nat × (Nat → Int32) × Option Nat} {A : Nat → Int → Int} {g : Nat → Nat} {σ : az_S} (hC : CR sz κ A g σ) (hI : MI sz A) {R : tRules} {x F u E t : Int} (hcw : ((0 ≤ x ∧ x ≤ 3599) ∧ (0 ≤ F ∧ F ≤ 11) ∧ (F ≤ E ∧ E ≤ 11) ∧ (0 ≤ u ∧ u ≤ A 42 2 - 1) ∧ (0 ≤ t ∧ t ≤ A 42 2 - 1))) (hb : (((0 ≤ (wD A R x E t (E - F).toNat u).1 ∧ (wD A R x E t (E - F).toNat u).1 ≤ 20) ∨ (wD A R x E t (E - F).toNat u).1 = 1000) ∧ (0 ≤ (wD A R x E t (E - F).toNat u).2 ∧ (wD A R x E t (E - F).toNat u).2 ≤ 1000000000000))) (hAf : cAf A (wD A R x E t (E - F).toNat) (fun c => gSteps A u c ≤ 0) (36 + g 701) (38 + g 701) (A 42 2) σ) (hnx : ∀ k : Int, F ≤ k → k < E → ∀ c : Int, 0 ≤ c → c < A 42 2 → gSteps A u c ≤ k - F → (wD A R x E t (E - k).toNat c).1 < 1000 → zx σ 35 (k * A 42 2 + c) = wNx A (wD A R x E t (E - (k + 1)).toNat) c) : cal (d + 1) 33 [.ref 33, .int (iI u), .int (iI F), .int (iI E)] σ (fun r τ => r = some (.int (iI (mWalk A R x F u E t))) ∧ CR sz κ (m_walk_op A R x F u E t) g τ ∧ Mod σ τ [33, 34]) := by
  have hg0 := (gSteps_b hI (u := u) (c := u) (by omega) (by omega) (by omega) (by omega)).2.2.mpr rfl
  have ha := hAf u (by omega) (by omega)
  by_cases hf : (wD A R x E t (E - F).toNat u).1 < 1000
  · have hok : wOk A R x F u E t := ⟨hcw, hf⟩
    have ha1 := ha.1 ⟨by omega, hf⟩
    have hn2 : ∀ i : Nat, (i : Int) < E - F → zx σ 35 ((F + i) * A 42 2 + wPath A R x E t F u i) = wPath A R x E t F u (i + 1) := by
      intro i hi
      have h1 := wPath_r hI hok i (by omega)
      have h2 := wPath_st hI hok i (by omega)
      exact hnx (F + i) (by omega) (by omega) _ h1.1.1 h1.1.2 (by omega) h1.2
    have fin : ∀ (r : Option Value) (τ : az_S), r = some (.int (iI (wD A R x E t (E - F).toNat u).1)) ∧ CR sz κ (wTab A R x F u E t (E - F + 1).toNat) g τ ∧ Mod σ τ [33, 34] → r = some (.int (iI (mWalk A R x F u E t))) ∧ CR sz κ (m_walk_op A R x F u E t) g τ ∧ Mod σ τ [33, 34] := by
      rintro r τ ⟨q1, q2, q3⟩
      refine ⟨?_, ?_, q3⟩
      · unfold mWalk; rw [zit_t hok]; exact q1
      · unfold m_walk_op; rw [tit_t hok]; exact q2
    rcases hC.route.1 with ev | ev
    · rw [ev] at ha1
      exact (c_follow0 hC hI ev (by omega) (by omega) (by omega) (by omega) (by omega) hok ha1.1 ha1.2 (by omega) hn2).imp fin
    · rw [ev] at ha1
      exact (c_follow1 hC hI ev (by omega) (by omega) (by omega) (by omega) (by omega) hok ha1.1 ha1.2 (by omega) hn2).imp fin
  · have hno : ¬ wOk A R x F u E t := fun q => hf q.2
    have ha2 := ha.2 (fun q => hf q.2)
    have fin : fn (d + 1) 33 [.ref 33, .int (iI u), .int (iI F), .int (iI E)] σ (.int (iI (-1))) → cal (d + 1) 33 [.ref 33, .int (iI u), .int (iI F), .int (iI E)] σ (fun r τ => r = some (.int (iI (mWalk A R x F u E t))) ∧ CR sz κ (m_walk_op A R x F u E t) g τ ∧ Mod σ τ [33, 34]) := by
      intro q
      refine ⟨_, σ, q, ?_, ?_, Mod.rf⟩
      · unfold mWalk; rw [zit_f hno]
      · unfold m_walk_op; rw [tit_f hno]; exact hC
    rcases hC.route.1 with ev | ev
    · rw [ev] at ha2
      exact fin (c_nofol0 hC hI ev (by omega) (by omega) ⟨by omega, by omega⟩ ⟨by omega, by omega⟩ ha2)
    · rw [ev] at ha2
      exact fin (c_nofol1 hC hI ev (by omega) (by omega) ⟨by omega, by omega⟩ ⟨by omega, by omega⟩ ha2)
noncomputable def fH (A : Nat → Int → Int) (R : tRules) (x E t k : Int) : Int → Int × Int := if k = E + 1 then f0 t else wD A R x E t (E - k).toNat
theorem fH_e {A : Nat → Int → Int} {R : tRules} {x E t k : Int} (h : k = E + 1) : fH A R x E t k = f0 t := if_pos h
theorem fH_n {A : Nat → Int → Int} {R : tRules} {x E t k : Int} (h : k ≠ E + 1) : fH A R x E t k = wD A R x E t (E - k).toNat := if_neg h
def rH (A : Nat → Int → Int) (u F E k c : Int) : Prop := k = E + 1 ∨ gSteps A u c ≤ k - F
theorem fH_b {sz : Nat} {A : Nat → Int → Int} (hI : MI sz A) {R : tRules} (hR : PW R) {x E t k : Int} (hx0 : 0 ≤ x) (hx1 : x ≤ 3599) (hE : E ≤ 11) (hk0 : 0 ≤ k) (hk : k ≤ E + 1) : ∀ e : Int, 0 ≤ e → e < A 42 2 → ((0 ≤ (fH A R x E t k e).1 ∧ (fH A R x E t k e).1 ≤ 1000) ∧ (0 ≤ (fH A R x E t k e).2 ∧ (fH A R x E t k e).2 ≤ 1000000000000)) ∧ ((fH A R x E t k e).1 ≤ 20 ∨ (fH A R x E t k e).1 = 1000) := by
  intro e e0 e1
  by_cases q : k = E + 1
  · rw [fH_e q]
    unfold f0
    split <;> simp
  · rw [fH_n q]
    have := wD_b hI hR (t := t) hx0 hx1 hE (E - k).toNat (by omega) e e0 e1
    omega
theorem hour_st {sz : Nat} {A : Nat → Int → Int} (hI : MI sz A) {R : tRules} {x F u E t h : Int} (hF : F ≤ h) (hE : h ≤ E) {c : Int} (hc0 : 0 ≤ c) (hc1 : c < A 42 2) (hr : gSteps A u c ≤ h - F) : ((((mOpen A c x (A 42 3) ∧ ¬ mTaken A c x h)) ∧ ((0 ≤ (if h = E then c else wNx A (wD A R x E t (E - (h + 1)).toNat) c) ∧ (if h = E then c else wNx A (wD A R x E t (E - (h + 1)).toNat) c) < A 42 2) ∧ rH A u F E (h + 1) (if h = E then c else wNx A (wD A R x E t (E - (h + 1)).toNat) c) ∧ (fH A R x E t (h + 1) (if h = E then c else wNx A (wD A R x E t (E - (h + 1)).toNat) c)).1 < 1000)) → wD A R x E t (E - h).toNat c = (wSun A x h c + (fH A R x E t (h + 1) (if h = E then c else wNx A (wD A R x E t (E - (h + 1)).toNat) c)).1, wCost A R x h c + (fH A R x E t (h + 1) (if h = E then c else wNx A (wD A R x E t (E - (h + 1)).toNat) c)).2)) ∧ (¬ (((mOpen A c x (A 42 3) ∧ ¬ mTaken A c x h)) ∧ ((0 ≤ (if h = E then c else wNx A (wD A R x E t (E - (h + 1)).toNat) c) ∧ (if h = E then c else wNx A (wD A R x E t (E - (h + 1)).toNat) c) < A 42 2) ∧ rH A u F E (h + 1) (if h = E then c else wNx A (wD A R x E t (E - (h + 1)).toNat) c) ∧ (fH A R x E t (h + 1) (if h = E then c else wNx A (wD A R x E t (E - (h + 1)).toNat) c)).1 < 1000)) → (wD A R x E t (E - h).toNat c).1 = 1000) := by
  by_cases e : h = E
  · subst e
    rw [if_pos rfl, fH_e rfl, show (h - h).toNat = 0 by omega, wD_0]
    by_cases ec : c = t
    · rw [f0_t ec]
      constructor
      · rintro ⟨q, -⟩
        rw [pit_t ⟨q.1, q.2, Or.inr ec⟩, Int.add_zero, Int.add_zero]
      · intro q
        rw [pit_f (fun r => q ⟨⟨r.1, r.2.1⟩, ⟨hc0, hc1⟩, Or.inl rfl, by decide⟩)]
    · rw [f0_f ec]
      constructor
      · rintro ⟨-, -, -, q⟩
        exact absurd q (by decide)
      · intro q
        rw [pit_f (fun r => by have := r.2.2; omega)]
  · rw [if_neg e, fH_n (by omega), wD_s (h := h) (c := c) (by omega)]
    constructor
    · rintro ⟨q, q2, -, -⟩
      rw [pit_t ⟨⟨q.1, q.2, Or.inl (by omega)⟩, q2.1⟩]
    · intro q
      rw [pit_f]
      rintro ⟨⟨r1, r2, r3⟩, r4⟩
      have hn := nxN_r hI (f := wD A R x E t (E - (h + 1)).toNat) hc0 hc1 5
      obtain ⟨k, k0, k1, k2⟩ := nxN_is (A := A) (f := wD A R x E t (E - (h + 1)).toNat) (c := c) 5 r4
      have hs := steps_1 hI (u := u) hc0 hc1 k0 (by omega) (by rw [← k2]; exact r4)
      rw [← k2] at hs
      exact q ⟨⟨r1, r2⟩, ⟨r4, hn.1.2⟩, Or.inr (show gSteps A u (nxN A (wD A R x E t (E - (h + 1)).toNat) c 5) ≤ h + 1 - F by omega), hn.2 r4⟩
theorem cAf.cg {A : Nat → Int → Int} {f f' : Int → Int × Int} {rc rc' : Int → Prop} {su co : Nat} {n : Int} {τ : az_S} (h : cAf A f rc su co n τ) (hf : f' = f) (hr : ∀ e, rc' e ↔ rc e) : cAf A f' rc' su co n τ := by
  subst hf
  intro e e0 e1
  have q := h e e0 e1
  rw [hr e]
  exact q
