theorem wD_u {A : Nat → Int → Int} {R : tRules} {x E t h c : Int} (hh : h ≤ E) (c0 : 0 ≤ c) : ((wMay A x E t h c ∧ 0 ≤ (if h = E then c else wNx A (wD A R x E t (E - (h + 1)).toNat) c)) → wD A R x E t (E - h).toNat c = (wSun A x h c + (if h = E then 0 else ((wD A R x E t (E - (h + 1)).toNat) (if h = E then c else wNx A (wD A R x E t (E - (h + 1)).toNat) c)).1), wCost A R x h c + (if h = E then 0 else ((wD A R x E t (E - (h + 1)).toNat) (if h = E then c else wNx A (wD A R x E t (E - (h + 1)).toNat) c)).2))) ∧ (¬ (wMay A x E t h c ∧ 0 ≤ (if h = E then c else wNx A (wD A R x E t (E - (h + 1)).toNat) c)) → wD A R x E t (E - h).toNat c = (1000, 0)) := by
  by_cases e : h = E
  · subst e
    rw [show (h - h).toNat = 0 by omega, wD_0, if_pos rfl, if_pos rfl, if_pos rfl, Int.add_zero, Int.add_zero]
    exact ⟨fun q => pit_t q.1, fun q => pit_f (fun r => q ⟨r, c0⟩)⟩
  · rw [wD_s (by omega), if_neg e, if_neg e, if_neg e]
    exact ⟨fun q => pit_t q, fun q => pit_f q⟩
theorem wRw.mod {A : Nat → Int → Int} {f : Int → Int × Int} {k n : Int} {σ τ : az_S} {S : List Nat} (h : wRw A f k n σ) (hd : Mod σ τ S) (h1 : S.contains 99 = false) (h2 : S.contains 100 = false) : wRw A f k n τ := by
  unfold wRw
  rw [hd.z 99 h1, hd.q 100 h2]
  exact h
def wFil (B : Nat → Int → Int) (p : Nat → Int) : Nat → Nat → Int → Int
  | 0 => B
  | n + 1 => up (wFil B p n) 101 n (p n)
theorem wFil_o (B : Nat → Int → Int) (p : Nat → Int) (n : Nat) {a : Nat} (h : a ≠ 101) : wFil B p n a = B a := by
  induction n with
  | zero => rfl
  | succ n ih => rw [show wFil B p (n + 1) = up (wFil B p n) 101 n (p n) from rfl, up_fn h, ih]
theorem wFil_v (B : Nat → Int → Int) (p : Nat → Int) : ∀ (n : Nat) (z : Int), 0 ≤ z → z < n → wFil B p n 101 z = p z.toNat := by
  intro n
  induction n with
  | zero => intro z h1 h2; omega
  | succ n ih =>
    intro z h1 h2
    show up (wFil B p n) 101 n (p n) 101 z = _
    unfold up
    by_cases e : z = n
    · rw [if_pos ⟨rfl, e⟩, e]; rfl
    · rw [if_neg (fun q => e q.2)]
      exact ih z h1 (by omega)
theorem MI.cg {sz : Nat} {A A' : Nat → Int → Int} (H : MI sz A) (e : ∀ a z, a ≠ 101 → a ≠ 77 → a ≠ 78 → (a ≠ 42 ∨ (z ≠ 85 ∧ z ≠ 86 ∧ z ≠ 48 ∧ z ≠ 49 ∧ z ≠ 54 ∧ z ≠ 55)) → A' a z = A a z) (hw : 0 ≤ A' 42 85 ∧ A' 42 85 ≤ 12) : MI sz A' := by
  have ef : ∀ a, a ≠ 101 → a ≠ 77 → a ≠ 78 → a ≠ 42 → A' a = A a := fun a h1 h2 h3 h4 => funext fun z => e a z h1 h2 h3 (Or.inl h4)
  have e2 : ∀ z : Int, (z ≠ 85 ∧ z ≠ 86 ∧ z ≠ 48 ∧ z ≠ 49 ∧ z ≠ 54 ∧ z ≠ 55) → A' 42 z = A 42 z := fun z q => e 42 z (by decide) (by decide) (by decide) (Or.inr q)
  obtain ⟨h1, h2, h3, h4, h5, h6, h7, h8, h9, h10, h11, h12, h13, h14, h15, h16, h17, h18⟩ := H
  unfold MI
  simp only [e2 0 (by decide), e2 1 (by decide), e2 2 (by decide), e2 3 (by decide), e2 6 (by decide), e2 9 (by decide), e2 12 (by decide), e2 27 (by decide), e2 40 (by decide), e2 66 (by decide), TI, GI, SI, ef 43 (by decide) (by decide) (by decide) (by decide), ef 44 (by decide) (by decide) (by decide) (by decide), ef 45 (by decide) (by decide) (by decide) (by decide), ef 46 (by decide) (by decide) (by decide) (by decide), ef 47 (by decide) (by decide) (by decide) (by decide), ef 48 (by decide) (by decide) (by decide) (by decide), ef 49 (by decide) (by decide) (by decide) (by decide), ef 50 (by decide) (by decide) (by decide) (by decide), ef 51 (by decide) (by decide) (by decide) (by decide), ef 52 (by decide) (by decide) (by decide) (by decide), ef 53 (by decide) (by decide) (by decide) (by decide), ef 54 (by decide) (by decide) (by decide) (by decide), ef 55 (by decide) (by decide) (by decide) (by decide), ef 56 (by decide) (by decide) (by decide) (by decide), ef 57 (by decide) (by decide) (by decide) (by decide), ef 58 (by decide) (by decide) (by decide) (by decide), ef 59 (by decide) (by decide) (by decide) (by decide), ef 60 (by decide) (by decide) (by decide) (by decide), ef 61 (by decide) (by decide) (by decide) (by decide), ef 62 (by decide) (by decide) (by decide) (by decide), ef 63 (by decide) (by decide) (by decide) (by decide), ef 64 (by decide) (by decide) (by decide) (by decide), ef 65 (by decide) (by decide) (by decide) (by decide), ef 66 (by decide) (by decide) (by decide) (by decide), ef 67 (by decide) (by decide) (by decide) (by decide), ef 68 (by decide) (by decide) (by decide) (by decide), ef 69 (by decide) (by decide) (by decide) (by decide), ef 70 (by decide) (by decide) (by decide) (by decide), ef 71 (by decide) (by decide) (by decide) (by decide), ef 72 (by decide) (by decide) (by decide) (by decide), ef 73 (by decide) (by decide) (by decide) (by decide), ef 74 (by decide) (by decide) (by decide) (by decide), ef 84 (by decide) (by decide) (by decide) (by decide), ef 85 (by decide) (by decide) (by decide) (by decide), ef 86 (by decide) (by decide) (by decide) (by decide), ef 87 (by decide) (by decide) (by decide) (by decide)]
  exact ⟨h1, h2, h3, h4, h5, h6, h7, h8, h9, h10, h11, h12, h13, h14, h15, h16, h17, hw⟩
theorem nx_cg {A A' : Nat → Int → Int} (h0 : A' 42 0 = A 42 0) (h1 : A' 42 1 = A 42 1) (f : Int → Int × Int) (c : Int) : wNx A' f c = wNx A f c := by
  have e : ∀ k : Int, mBeside A' c k = mBeside A c k := fun k => by unfold mBeside; rw [h0, h1]
  have : ∀ n, nxN A' f c n = nxN A f c n := by
    intro n
    induction n with
    | zero => rfl
    | succ n ih => unfold nxN; rw [ih, e]
  exact this 5
def wOk (A : Nat → Int → Int) (R : tRules) (x F u E t : Int) : Prop := ((0 ≤ x ∧ x ≤ 3599) ∧ (0 ≤ F ∧ F ≤ 11) ∧ (F ≤ E ∧ E ≤ 11) ∧ (0 ≤ u ∧ u ≤ A 42 2 - 1) ∧ (0 ≤ t ∧ t ≤ A 42 2 - 1)) ∧ (wD A R x E t (E - F).toNat u).1 < 1000
noncomputable def wTab0 (A : Nat → Int → Int) (R : tRules) (x F u E t : Int) : Nat → Int → Int := up (up A 42 85 (E - F + 1)) 42 86 (wD A R x E t (E - F).toNat u).2
noncomputable def wTab (A : Nat → Int → Int) (R : tRules) (x F u E t : Int) (n : Nat) : Nat → Int → Int := wFil (wTab0 A R x F u E t) (wPath A R x E t F u) n
noncomputable def m_walk_op (A : Nat → Int → Int) (R : tRules) (x F u E t : Int) : Nat → Int → Int := tit (wOk A R x F u E t) (wTab A R x F u E t (E - F + 1).toNat) A
noncomputable def mWalk (A : Nat → Int → Int) (R : tRules) (x F u E t : Int) : Int := zit (wOk A R x F u E t) (wD A R x E t (E - F).toNat u).1 (-1)
theorem wTab_o {A : Nat → Int → Int} {R : tRules} {x F u E t : Int} (n : Nat) {a : Nat} {z : Int} (h1 : a ≠ 101) (h2 : a ≠ 42 ∨ (z ≠ 85 ∧ z ≠ 86)) : wTab A R x F u E t n a z = A a z := by
  unfold wTab
  rw [wFil_o _ _ _ h1]
  unfold wTab0
  rw [up_q (by omega), up_q (by omega)]
theorem wTab_85 {A : Nat → Int → Int} {R : tRules} {x F u E t : Int} (n : Nat) : wTab A R x F u E t n 42 85 = E - F + 1 := by
  unfold wTab
  rw [wFil_o _ _ _ (by decide)]
  simp [wTab0, up]
theorem wPath_r {sz : Nat} {A : Nat → Int → Int} (hI : MI sz A) {R : tRules} {x F u E t : Int} (hok : wOk A R x F u E t) : ∀ i : Nat, (i : Int) ≤ E - F → (0 ≤ wPath A R x E t F u i ∧ wPath A R x E t F u i < A 42 2) ∧ (wD A R x E t (E - (F + i)).toNat (wPath A R x E t F u i)).1 < 1000 := by
  intro i
  obtain ⟨⟨h1, h2, h3, h4, h5⟩, h6⟩ := hok
  induction i with
  | zero =>
    intro _
    show (0 ≤ u ∧ u < A 42 2) ∧ (wD A R x E t (E - (F + ((0 : Nat) : Int))).toNat u).1 < 1000
    rw [show F + ((0 : Nat) : Int) = F by omega]
    exact ⟨by omega, h6⟩
  | succ i ih =>
    intro hi
    obtain ⟨i1, i2⟩ := ih (by omega)
    have hs := wD_s (A := A) (R := R) (x := x) (E := E) (t := t) (h := F + i) (c := wPath A R x E t F u i) (by omega)
    by_cases q : wMay A x E t (F + i) (wPath A R x E t F u i) ∧ 0 ≤ wNx A (wD A R x E t (E - (F + i + 1)).toNat) (wPath A R x E t F u i)
    · have hr := nxN_r hI (f := wD A R x E t (E - (F + i + 1)).toNat) i1.1 i1.2 5
      have e : wPath A R x E t F u (i + 1) = wNx A (wD A R x E t (E - (F + i + 1)).toNat) (wPath A R x E t F u i) := rfl
      rw [e, show F + ((i + 1 : Nat) : Int) = F + i + 1 by omega]
      exact ⟨⟨q.2, hr.1.2⟩, hr.2 q.2⟩
    · rw [hs, pit_f q] at i2
      exact absurd i2 (by decide)
set_option maxRecDepth 10000 in
set_option maxHeartbeats 2000000 in
theorem m_walk_l396 {d : Nat} {sz : Nat} {A : Nat → Int → Int} {σ : az_S} (hM : MV sz A σ) (hI : MI sz A) {R : tRules} (hR : PW R) (hA : mTar A R) {x F u E t : Int} (hok2 : wOk A R x F u E t) : ∀ (n : Nat) (τ : az_S) (h c : Int) (w9 w10 w11 : Option Value), (E + 1 - h).toNat = n → MV sz (wTab A R x F u E t (h - F).toNat) τ → Mod σ τ [42, 82, 83, 88, 89, 90, 91, 92, 93, 96, 97, 98, 99, 100, 101] → F ≤ h → h ≤ E + 1 → (h ≤ E → c = (wPath A R x E t F u) (h - F).toNat) → (∀ k : Int, F ≤ k → k ≤ E → wRw A (wD A R x E t (E - k).toNat) k (A 42 2) τ) → aw (d + 5) k_X12_walk (some .int) (fun r τ => r = some (.int (iI (mWalk A R x F u E t))) ∧ MV sz (m_walk_op A R x F u E t) τ ∧ Mod σ τ [42, 82, 83, 88, 89, 90, 91, 92, 93, 96, 97, 98, 99, 100, 101]) 396 [some (.ref 42), some (.int (iI x)), some (.int (iI F)), some (.int (iI u)), some (.int (iI E)), some (.int (iI t)), some (.int (iI (192 * F + u))), some (.int (iI c)), some (.int (iI h)), w9, w10, w11] [] τ := by
  intro n
  induction n using Nat.strongRecOn with
  | ind n ih =>
    intro τ h c w9 w10 w11 hn hN hD hh0 hh1 hc hrk
    have hok := hok2.1
    obtain ⟨hR1, hR2, hR3⟩ := hR
    obtain ⟨⟨hx0, hx1⟩, ⟨hF0, hF1⟩, ⟨hFE, hE1⟩, ⟨hu0, hu1⟩, ⟨ht0, ht1⟩⟩ := hok
    have hcl := hI.clock
    have hce := hI.cells
    have hIT : MI sz (wTab A R x F u E t (h - F).toNat) := hI.cg (fun a z q1 q2 q3 q4 => wTab_o _ q1 (by omega)) (by rw [wTab_85]; omega)
    have w0 : wTab A R x F u E t (h - F).toNat 42 0 = A 42 0 := wTab_o _ (by decide) (by decide)
    have w1 : wTab A R x F u E t (h - F).toNat 42 1 = A 42 1 := wTab_o _ (by decide) (by decide)
    have w2 : wTab A R x F u E t (h - F).toNat 42 2 = A 42 2 := wTab_o _ (by decide) (by decide)
    have hpr := fun q => wPath_r hI hok2 (h - F).toNat q
    have hcr : h ≤ E → 0 ≤ c ∧ c < A 42 2 := fun q => by rw [hc q]; exact (hpr (by omega)).1
    have hwb := fun k (q : F ≤ k) (r : k ≤ E) => wD_b hI ⟨hR1, hR2, hR3⟩ (t := t) hx0 hx1 hE1 (E - k).toNat (by omega)
    have hus : (h + 1 - F).toNat = (h - F).toNat + 1 := by omega
    refine aw_iload rfl rfl rfl ?_
    refine aw_iload rfl rfl rfl ?_
    refine aw_icmp (p' := 442) rfl ⟨by omega, by omega⟩ ⟨by omega, by omega⟩ rfl rfl (fun c1 => ?_) (fun c1 => ?_)
    · dsimp only [zc] at c1
      refine aw_aload_n rfl rfl rfl ?_
      refine aw_getr (b := 99) rfl rfl (hN.f.k 42 rfl) (hN.f.r 42 83 99 rfl) rfl ?_
      refine aw_iload rfl rfl rfl ?_
      refine aw_as (N := 2304) rfl (hN.f.s 99 rfl) (by omega) (by omega) (by omega) rfl (fun _ _ => ?_)
      rw [(hrk F (by omega) (by omega) u (by omega) (by omega)).1]
      refine aw_reti rfl ?_
      refine ⟨?_, ?_, (hD.su (T := [42, 82, 83, 88, 89, 90, 91, 92, 93, 96, 97, 98, 99, 100, 101]) rfl)⟩
      · unfold mWalk; rw [zit_t hok2]
      · unfold m_walk_op; rw [tit_t hok2, ← show h - F = E - F + 1 by omega]; exact hN
    · dsimp only [zc] at c1
      have hcr := hcr (by omega)
      refine aw_aload_n rfl rfl rfl ?_
      refine aw_getr (b := 101) rfl rfl (hN.f.k 42 rfl) (hN.f.r 42 87 101 rfl) rfl ?_
      refine aw_iload rfl rfl rfl ?_
      refine aw_iload_n rfl rfl rfl ?_
      refine aw_isub rfl rfl ?_
      refine aw_iload rfl rfl rfl ?_
      refine aw_sp (N := 12) hN rfl (hN.f.s 101 rfl) (by omega) rfl (by omega) (by omega) ⟨by omega, by omega⟩ rfl (fun τ2 hM2 hD2 => ?_)
      refine aw_iload rfl rfl rfl ?_
      refine aw_iload rfl rfl rfl ?_
      refine aw_icmp (p' := 432) rfl ⟨by omega, by omega⟩ ⟨by omega, by omega⟩ rfl rfl (fun c3 => ?_) (fun c3 => ?_)
      · dsimp only [zc] at c3
        refine aw_iload rfl rfl rfl ?_
        refine aw_istore rfl (Nat.le_of_ble_eq_true rfl) rfl rfl ?_
        change aw _ _ _ _ 436 [some (.ref 42), some (.int (iI _)), some (.int (iI _)), some (.int (iI _)), some (.int (iI _)), some (.int (iI _)), some (.int (iI _)), some (.int (iI _)), some (.int (iI _)), _, _, _] _ _
        refine aw_iinc rfl rfl rfl rfl ?_
        change aw _ _ _ _ 439 [some (.ref 42), some (.int (iI _)), some (.int (iI _)), some (.int (iI _)), some (.int (iI _)), some (.int (iI _)), some (.int (iI _)), some (.int (iI _)), some (.int (iI _)), _, _, _] _ _
        refine aw_goto (p' := 396) rfl rfl ?_
        refine ih _ (by omega) _ _ _ _ _ _ rfl ?_ ((hD.su (T := [42, 82, 83, 88, 89, 90, 91, 92, 93, 96, 97, 98, 99, 100, 101]) rfl).tr (hD2.su (T := [42, 82, 83, 88, 89, 90, 91, 92, 93, 96, 97, 98, 99, 100, 101]) rfl)) (by omega) (by omega) (fun q => ?_) (fun k q1 q2 => (hrk k q1 q2).mod hD2 rfl rfl)
        · rw [hus]
          have e := hM2
          rw [show h - F = (((h - F).toNat : Nat) : Int) by omega, hc (by omega)] at e
          exact e
        · rw [hus]
          show _ = wNx A (wD A R x E t (E - (F + (((h - F).toNat : Nat) : Int) + 1)).toNat) ((wPath A R x E t F u) (h - F).toNat)
          rw [← hc (by omega), show F + (((h - F).toNat : Nat) : Int) + 1 = h + 1 by omega]
          try first | rfl | omega
      · dsimp only [zc] at c3
        have w0x : up (wTab A R x F u E t (h - F).toNat) 101 (h - F) c 42 0 = A 42 0 := by rw [up_ne (by decide)]; exact w0
        have w1x : up (wTab A R x F u E t (h - F).toNat) 101 (h - F) c 42 1 = A 42 1 := by rw [up_ne (by decide)]; exact w1
        have w2x : up (wTab A R x F u E t (h - F).toNat) 101 (h - F) c 42 2 = A 42 2 := by rw [up_ne (by decide)]; exact w2
        have hI9 : MI sz (up (wTab A R x F u E t (h - F).toNat) 101 (h - F) c) := hIT.cg (fun a z q1 _ _ _ => up_ne q1) (by rw [up_ne (by decide), wTab_85]; omega)
        refine aw_aload_n rfl rfl rfl ?_
        refine aw_iload rfl rfl rfl ?_
        refine aw_iload rfl rfl rfl ?_
        refine aw_fnc (m_nextOf (f := wD A R x E t (E - (h + 1)).toNat) hM2 hI9 (by omega) (by rw [w2x]; omega) (by omega) (by omega) (by rw [w2x]; exact (hrk (h + 1) (by omega) (by omega)).mod hD2 rfl rfl) (fun e e0 e1 => by have := wD_b hI ⟨hR1, hR2, hR3⟩ (t := t) hx0 hx1 hE1 (E - (h + 1)).toNat (by omega) e e0 (by rw [w2x] at e1; exact e1); omega)) rfl rfl rfl (Nat.le_of_ble_eq_true rfl) (Or.inr ⟨_, rfl, (hM2.f.k 42 rfl)⟩) rfl ?_
        rw [nx_cg (A := A) w0x w1x]
        have hnr := (nxN_r hI (f := wD A R x E t (E - (h + 1)).toNat) hcr.1 hcr.2 5).1
        refine aw_goto (p' := 434) rfl rfl ?_
        refine aw_istore rfl (Nat.le_of_ble_eq_true rfl) rfl rfl ?_
        change aw _ _ _ _ 436 [some (.ref 42), some (.int (iI _)), some (.int (iI _)), some (.int (iI _)), some (.int (iI _)), some (.int (iI _)), some (.int (iI _)), some (.int (iI _)), some (.int (iI _)), _, _, _] _ _
        refine aw_iinc rfl rfl rfl rfl ?_
        change aw _ _ _ _ 439 [some (.ref 42), some (.int (iI _)), some (.int (iI _)), some (.int (iI _)), some (.int (iI _)), some (.int (iI _)), some (.int (iI _)), some (.int (iI _)), some (.int (iI _)), _, _, _] _ _
        refine aw_goto (p' := 396) rfl rfl ?_
        refine ih _ (by omega) _ _ _ _ _ _ rfl ?_ ((hD.su (T := [42, 82, 83, 88, 89, 90, 91, 92, 93, 96, 97, 98, 99, 100, 101]) rfl).tr (hD2.su (T := [42, 82, 83, 88, 89, 90, 91, 92, 93, 96, 97, 98, 99, 100, 101]) rfl)) (by omega) (by omega) (fun q => ?_) (fun k q1 q2 => (hrk k q1 q2).mod hD2 rfl rfl)
        · rw [hus]
          have e := hM2
          rw [show h - F = (((h - F).toNat : Nat) : Int) by omega, hc (by omega)] at e
          exact e
        · rw [hus]
          show _ = wNx A (wD A R x E t (E - (F + (((h - F).toNat : Nat) : Int) + 1)).toNat) ((wPath A R x E t F u) (h - F).toNat)
          rw [← hc (by omega), show F + (((h - F).toNat : Nat) : Int) + 1 = h + 1 by omega]
          try first | rfl | omega
set_option maxRecDepth 10000 in
set_option maxHeartbeats 2000000 in
theorem m_walk_l332 {d : Nat} {sz : Nat} {A : Nat → Int → Int} {σ : az_S} (hM : MV sz A σ) (hI : MI sz A) {R : tRules} (hR : PW R) (hA : mTar A R) {x F u E t : Int} (hok : ((0 ≤ x ∧ x ≤ 3599) ∧ (0 ≤ F ∧ F ≤ 11) ∧ (F ≤ E ∧ E ≤ 11) ∧ (0 ≤ u ∧ u ≤ A 42 2 - 1) ∧ (0 ≤ t ∧ t ≤ A 42 2 - 1))) {h : Int} (hF : F ≤ h) (hE : h ≤ E) {c : Int} (hc0 : 0 ≤ c) (hc1 : c < A 42 2) (hK2 : ∀ (τ : az_S) (v1 v2 v3 v4 : Option Value), MV sz A τ → Mod σ τ [82, 83, 88, 89, 90, 91, 92, 93, 96, 97, 98, 99, 100] → LK A x h (A 42 3) τ → HK A x h (A 42 3) (A 42 12) τ → (∀ k : Int, h < k → k ≤ E → wRw A (wD A R x E t (E - k).toNat) k (A 42 2) τ) → wRw A (wD A R x E t (E - h).toNat) h (c + 1) τ → aw (d + 5) k_X12_walk (some .int) (fun r τ => r = some (.int (iI (mWalk A R x F u E t))) ∧ MV sz (m_walk_op A R x F u E t) τ ∧ Mod σ τ [42, 82, 83, 88, 89, 90, 91, 92, 93, 96, 97, 98, 99, 100, 101]) 82 [some (.ref 42), some (.int (iI x)), some (.int (iI F)), some (.int (iI u)), some (.int (iI E)), some (.int (iI t)), some (.int (iI h)), some (.int (iI (c + 1))), v1, v2, v3, v4] [] τ) : ∀ (τ : az_S) (n b v : Int) (w11 : Option Value), MV sz A τ → Mod σ τ [82, 83, 88, 89, 90, 91, 92, 93, 96, 97, 98, 99, 100] → LK A x h (A 42 3) τ → HK A x h (A 42 3) (A 42 12) τ → (∀ k : Int, h < k → k ≤ E → wRw A (wD A R x E t (E - k).toNat) k (A 42 2) τ) → wRw A (wD A R x E t (E - h).toNat) h c τ → zx τ 99 (192 * h + c) = (wD A R x E t (E - h).toNat c).1 → v = (wD A R x E t (E - h).toNat c).2 → aw (d + 5) k_X12_walk (some .int) (fun r τ => r = some (.int (iI (mWalk A R x F u E t))) ∧ MV sz (m_walk_op A R x F u E t) τ ∧ Mod σ τ [42, 82, 83, 88, 89, 90, 91, 92, 93, 96, 97, 98, 99, 100, 101]) 332 [some (.ref 42), some (.int (iI x)), some (.int (iI F)), some (.int (iI u)), some (.int (iI E)), some (.int (iI t)), some (.int (iI h)), some (.int (iI c)), some (.int (iI (192 * h + c))), some (.int (iI n)), some (.int (iI b)), w11] [.long (lI v), .int (iI (192 * h + c)), .ref 100] τ := by
  intro τ n b v w11 hN hD hL hH hrk hrc h99 hv
  obtain ⟨hR1, hR2, hR3⟩ := hR
  obtain ⟨⟨hx0, hx1⟩, ⟨hF0, hF1⟩, ⟨hFE, hE1⟩, ⟨hu0, hu1⟩, ⟨ht0, ht1⟩⟩ := hok
  have hcl := hI.clock
  have hce := hI.cells
  have hwu := wD_u (A := A) (R := R) (x := x) (E := E) (t := t) (h := h) (c := c) hE hc0
  have hlb := wD_b hI ⟨hR1, hR2, hR3⟩ (t := t) hx0 hx1 hE1 (E - h).toNat (by omega) c hc0 hc1
  rw [← hv] at hlb
  refine aw_sl (N := 2304) hN rfl (hN.f.s 100 rfl) (by omega) rfl (by omega) (by omega) (by omega) (by omega) rfl (fun τ4 hM4 hD4 hU4 => ?_)
  skip
  refine aw_iinc rfl rfl rfl rfl ?_
  change aw _ _ _ _ 336 [some (.ref 42), some (.int (iI _)), some (.int (iI _)), some (.int (iI _)), some (.int (iI _)), some (.int (iI _)), some (.int (iI _)), some (.int (iI _)), some (.int (iI _)), some (.int (iI _)), some (.int (iI _)), _] _ _
  refine aw_goto (p' := 82) rfl rfl ?_
  refine hK2 _ _ _ _ _ hM4 ((hD.su (T := [82, 83, 88, 89, 90, 91, 92, 93, 96, 97, 98, 99, 100]) rfl).tr (hD4.su (T := [82, 83, 88, 89, 90, 91, 92, 93, 96, 97, 98, 99, 100]) rfl)) (hL.mod hD4 rfl rfl rfl rfl) (hH.mod hD4 rfl) (fun k q1 q2 e e0 e1 => ?_) (fun e e0 e1 => ?_)
  · rw [hU4, if_neg (by omega), hD4.z 99 rfl]; exact hrk k q1 q2 e e0 e1
  · rw [hU4, hD4.z 99 rfl]
    by_cases ee : e = c
    · rw [ee, if_pos rfl]; exact ⟨h99, hv⟩
    · rw [if_neg (by omega)]; exact hrc e e0 (by omega)
set_option maxRecDepth 10000 in
set_option maxHeartbeats 2000000 in
theorem m_walk_l290 {d : Nat} {sz : Nat} {A : Nat → Int → Int} {σ : az_S} (hM : MV sz A σ) (hI : MI sz A) {R : tRules} (hR : PW R) (hA : mTar A R) {x F u E t : Int} (hok : ((0 ≤ x ∧ x ≤ 3599) ∧ (0 ≤ F ∧ F ≤ 11) ∧ (F ≤ E ∧ E ≤ 11) ∧ (0 ≤ u ∧ u ≤ A 42 2 - 1) ∧ (0 ≤ t ∧ t ≤ A 42 2 - 1))) {h : Int} (hF : F ≤ h) (hE : h ≤ E) {c : Int} (hc0 : 0 ≤ c) (hc1 : c < A 42 2) (hK2 : ∀ (τ : az_S) (v1 v2 v3 v4 : Option Value), MV sz A τ → Mod σ τ [82, 83, 88, 89, 90, 91, 92, 93, 96, 97, 98, 99, 100] → LK A x h (A 42 3) τ → HK A x h (A 42 3) (A 42 12) τ → (∀ k : Int, h < k → k ≤ E → wRw A (wD A R x E t (E - k).toNat) k (A 42 2) τ) → wRw A (wD A R x E t (E - h).toNat) h (c + 1) τ → aw (d + 5) k_X12_walk (some .int) (fun r τ => r = some (.int (iI (mWalk A R x F u E t))) ∧ MV sz (m_walk_op A R x F u E t) τ ∧ Mod σ τ [42, 82, 83, 88, 89, 90, 91, 92, 93, 96, 97, 98, 99, 100, 101]) 82 [some (.ref 42), some (.int (iI x)), some (.int (iI F)), some (.int (iI u)), some (.int (iI E)), some (.int (iI t)), some (.int (iI h)), some (.int (iI (c + 1))), v1, v2, v3, v4] [] τ) : ∀ (τ : az_S) (n b l : Int), MV sz A τ → Mod σ τ [82, 83, 88, 89, 90, 91, 92, 93, 96, 97, 98, 99, 100] → LK A x h (A 42 3) τ → HK A x h (A 42 3) (A 42 12) τ → (∀ k : Int, h < k → k ≤ E → wRw A (wD A R x E t (E - k).toNat) k (A 42 2) τ) → wRw A (wD A R x E t (E - h).toNat) h c τ → (zx τ 96 (192 * h + c) = bI (wMay A x E t h c) ∧ zx τ 97 (192 * h + c) = wSun A x h c ∧ zq τ 98 (192 * h + c) = wCost A R x h c) → n = (if h = E then c else wNx A (wD A R x E t (E - (h + 1)).toNat) c) → b = bI (wMay A x E t h c ∧ 0 ≤ n) → l = (wD A R x E t (E - h).toNat c).1 → aw (d + 5) k_X12_walk (some .int) (fun r τ => r = some (.int (iI (mWalk A R x F u E t))) ∧ MV sz (m_walk_op A R x F u E t) τ ∧ Mod σ τ [42, 82, 83, 88, 89, 90, 91, 92, 93, 96, 97, 98, 99, 100, 101]) 290 [some (.ref 42), some (.int (iI x)), some (.int (iI F)), some (.int (iI u)), some (.int (iI E)), some (.int (iI t)), some (.int (iI h)), some (.int (iI c)), some (.int (iI (192 * h + c))), some (.int (iI n)), some (.int (iI b)), some (.int (iI (192 * (h + 1) + n)))] [.int (iI l), .int (iI (192 * h + c)), .ref 99] τ := by
  intro τ n b l hN hD hL hH hrk hrc hvs hnd hb hl
  obtain ⟨hR1, hR2, hR3⟩ := hR
  obtain ⟨⟨hx0, hx1⟩, ⟨hF0, hF1⟩, ⟨hFE, hE1⟩, ⟨hu0, hu1⟩, ⟨ht0, ht1⟩⟩ := hok
  have hcl := hI.clock
  have hce := hI.cells
  have hwu := wD_u (A := A) (R := R) (x := x) (E := E) (t := t) (h := h) (c := c) hE hc0
  have hnn : -1 ≤ n ∧ n < A 42 2 := by
    rw [hnd]
    have := (nxN_r hI (f := wD A R x E t (E - (h + 1)).toNat) hc0 hc1 5).1
    unfold wNx
    split <;> omega
  have hbr := bI_or (wMay A x E t h c ∧ 0 ≤ n)
  rw [← hb] at hbr
  have hlb := wD_b hI ⟨hR1, hR2, hR3⟩ (t := t) hx0 hx1 hE1 (E - h).toNat (by omega) c hc0 hc1
  rw [← hl] at hlb
  have hcb := mChg_b hI ⟨hR1, hR2, hR3⟩ (x := x) (h := h) (y := A 42 3) (c := c) (s := -1) (p := -1) hx0 hx1 (by omega) (by omega) (by omega) (by omega)
  have hfn := fun q : h < E => fun r : 0 ≤ n => (hrk (h + 1) (by omega) (by omega)) n r (by omega)
  have hwb := fun q : h < E => fun r : 0 ≤ n => wD_b hI ⟨hR1, hR2, hR3⟩ (t := t) hx0 hx1 hE1 (E - (h + 1)).toNat (by omega) n r (by omega)
  refine aw_ss (N := 2304) hN rfl (hN.f.s 99 rfl) (by omega) rfl (by omega) (by omega) ⟨by omega, by omega⟩ rfl (fun τ5 hM5 hD5 hU5 => ?_)
  refine aw_aload_n rfl rfl rfl ?_
  refine aw_getr (b := 100) rfl rfl (hM5.f.k 42 rfl) (hM5.f.r 42 84 100 rfl) rfl ?_
  refine aw_iload rfl rfl rfl ?_
  refine aw_iload rfl rfl rfl ?_
  refine aw_if (p' := 306) rfl ⟨by omega, by omega⟩ rfl rfl (fun c6 => ?_) (fun c6 => ?_)
  · dsimp only [zc] at c6
    refine aw_aload_n rfl rfl rfl ?_
    refine aw_getr (b := 98) rfl rfl (hM5.f.k 42 rfl) (hM5.f.r 42 82 98 rfl) rfl ?_
    refine aw_iload rfl rfl rfl ?_
    refine aw_lz (N := 2304) rfl (hM5.f.s 98 rfl) (by omega) (by omega) (by omega) rfl (fun _ _ => ?_)
    rw [hD5.q 98 rfl, hvs.2.2]
    refine aw_iload rfl rfl rfl ?_
    refine aw_iload rfl rfl rfl ?_
    refine aw_icmp (p' := 324) rfl ⟨by omega, by omega⟩ ⟨by omega, by omega⟩ rfl rfl (fun c7 => ?_) (fun c7 => ?_)
    · dsimp only [zc] at c7
      skip
      refine aw_aload_n rfl rfl rfl ?_
      refine aw_getr (b := 100) rfl rfl (hM5.f.k 42 rfl) (hM5.f.r 42 84 100 rfl) rfl ?_
      refine aw_iload rfl rfl rfl ?_
      refine aw_lz (N := 2304) rfl (hM5.f.s 100 rfl) (by omega) (by omega) (by omega) rfl (fun _ _ => ?_)
      rw [hD5.q 100 rfl, (hfn (by omega) (by omega)).2]
      have hwb2 := hwb (by omega) (by omega)
      refine aw_ladd rfl rfl ?_
      refine m_walk_l332 hM hI ⟨hR1, hR2, hR3⟩ hA ⟨⟨hx0, hx1⟩, ⟨hF0, hF1⟩, ⟨hFE, hE1⟩, ⟨hu0, hu1⟩, ⟨ht0, ht1⟩⟩ hF hE hc0 hc1 hK2 _ _ _ _ _ hM5 ((hD.su (T := [82, 83, 88, 89, 90, 91, 92, 93, 96, 97, 98, 99, 100]) rfl).tr (hD5.su (T := [82, 83, 88, 89, 90, 91, 92, 93, 96, 97, 98, 99, 100]) rfl)) (hL.mod hD5 rfl rfl rfl rfl) (hH.mod hD5 rfl) (fun k q1 q2 e e0 e1 => ?_) (fun e e0 e1 => ?_) (by rw [hU5, if_pos rfl, hl]) ?_
      · rw [hU5, if_neg (by omega), hD5.q 100 rfl]; exact hrk k q1 q2 e e0 e1
      · rw [hU5, if_neg (by omega), hD5.q 100 rfl]; exact hrc e e0 e1
      · rw [← hnd] at hwu
        rcases hbr with ⟨q, q1⟩ | ⟨q, q1⟩
        · rw [hwu.1 q]
          show _ = wCost A R x h c + _
          first | (rw [if_pos (by omega)]; done) | (rw [if_neg (by omega)]; done) | (exfalso; omega)
        · rw [hwu.2 q]
          first | done | (exfalso; omega)
    · dsimp only [zc] at c7
      skip
      refine aw_lconst 0 rfl rfl rfl ?_
      refine aw_goto (p' := 331) rfl rfl ?_
      skip
      refine aw_ladd rfl rfl ?_
      refine m_walk_l332 hM hI ⟨hR1, hR2, hR3⟩ hA ⟨⟨hx0, hx1⟩, ⟨hF0, hF1⟩, ⟨hFE, hE1⟩, ⟨hu0, hu1⟩, ⟨ht0, ht1⟩⟩ hF hE hc0 hc1 hK2 _ _ _ _ _ hM5 ((hD.su (T := [82, 83, 88, 89, 90, 91, 92, 93, 96, 97, 98, 99, 100]) rfl).tr (hD5.su (T := [82, 83, 88, 89, 90, 91, 92, 93, 96, 97, 98, 99, 100]) rfl)) (hL.mod hD5 rfl rfl rfl rfl) (hH.mod hD5 rfl) (fun k q1 q2 e e0 e1 => ?_) (fun e e0 e1 => ?_) (by rw [hU5, if_pos rfl, hl]) ?_
      · rw [hU5, if_neg (by omega), hD5.q 100 rfl]; exact hrk k q1 q2 e e0 e1
      · rw [hU5, if_neg (by omega), hD5.q 100 rfl]; exact hrc e e0 e1
      · rw [← hnd] at hwu
        rcases hbr with ⟨q, q1⟩ | ⟨q, q1⟩
        · rw [hwu.1 q]
          show _ = wCost A R x h c + _
          first | (rw [if_pos (by omega)]; done) | (rw [if_neg (by omega)]; done) | (exfalso; omega)
        · rw [hwu.2 q]
          first | done | (exfalso; omega)
  · dsimp only [zc] at c6
    refine aw_lconst 0 rfl rfl rfl ?_
    refine aw_goto (p' := 332) rfl rfl ?_
    refine m_walk_l332 hM hI ⟨hR1, hR2, hR3⟩ hA ⟨⟨hx0, hx1⟩, ⟨hF0, hF1⟩, ⟨hFE, hE1⟩, ⟨hu0, hu1⟩, ⟨ht0, ht1⟩⟩ hF hE hc0 hc1 hK2 _ _ _ _ _ hM5 ((hD.su (T := [82, 83, 88, 89, 90, 91, 92, 93, 96, 97, 98, 99, 100]) rfl).tr (hD5.su (T := [82, 83, 88, 89, 90, 91, 92, 93, 96, 97, 98, 99, 100]) rfl)) (hL.mod hD5 rfl rfl rfl rfl) (hH.mod hD5 rfl) (fun k q1 q2 e e0 e1 => ?_) (fun e e0 e1 => ?_) (by rw [hU5, if_pos rfl, hl]) ?_
    · rw [hU5, if_neg (by omega), hD5.q 100 rfl]; exact hrk k q1 q2 e e0 e1
    · rw [hU5, if_neg (by omega), hD5.q 100 rfl]; exact hrc e e0 e1
    · rw [← hnd] at hwu
      rcases hbr with ⟨q, q1⟩ | ⟨q, q1⟩
      · rw [hwu.1 q]
        show _ = wCost A R x h c + _
        first | (rw [if_pos (by omega)]; done) | (rw [if_neg (by omega)]; done) | (exfalso; omega)
      · rw [hwu.2 q]
        first | done | (exfalso; omega)
set_option maxRecDepth 10000 in
set_option maxHeartbeats 2000000 in
theorem m_walk_l232 {d : Nat} {sz : Nat} {A : Nat → Int → Int} {σ : az_S} (hM : MV sz A σ) (hI : MI sz A) {R : tRules} (hR : PW R) (hA : mTar A R) {x F u E t : Int} (hok : ((0 ≤ x ∧ x ≤ 3599) ∧ (0 ≤ F ∧ F ≤ 11) ∧ (F ≤ E ∧ E ≤ 11) ∧ (0 ≤ u ∧ u ≤ A 42 2 - 1) ∧ (0 ≤ t ∧ t ≤ A 42 2 - 1))) {h : Int} (hF : F ≤ h) (hE : h ≤ E) {c : Int} (hc0 : 0 ≤ c) (hc1 : c < A 42 2) (hK2 : ∀ (τ : az_S) (v1 v2 v3 v4 : Option Value), MV sz A τ → Mod σ τ [82, 83, 88, 89, 90, 91, 92, 93, 96, 97, 98, 99, 100] → LK A x h (A 42 3) τ → HK A x h (A 42 3) (A 42 12) τ → (∀ k : Int, h < k → k ≤ E → wRw A (wD A R x E t (E - k).toNat) k (A 42 2) τ) → wRw A (wD A R x E t (E - h).toNat) h (c + 1) τ → aw (d + 5) k_X12_walk (some .int) (fun r τ => r = some (.int (iI (mWalk A R x F u E t))) ∧ MV sz (m_walk_op A R x F u E t) τ ∧ Mod σ τ [42, 82, 83, 88, 89, 90, 91, 92, 93, 96, 97, 98, 99, 100, 101]) 82 [some (.ref 42), some (.int (iI x)), some (.int (iI F)), some (.int (iI u)), some (.int (iI E)), some (.int (iI t)), some (.int (iI h)), some (.int (iI (c + 1))), v1, v2, v3, v4] [] τ) : ∀ (τ : az_S) (n b : Int) (w10 w11 : Option Value), MV sz A τ → Mod σ τ [82, 83, 88, 89, 90, 91, 92, 93, 96, 97, 98, 99, 100] → LK A x h (A 42 3) τ → HK A x h (A 42 3) (A 42 12) τ → (∀ k : Int, h < k → k ≤ E → wRw A (wD A R x E t (E - k).toNat) k (A 42 2) τ) → wRw A (wD A R x E t (E - h).toNat) h c τ → (zx τ 96 (192 * h + c) = bI (wMay A x E t h c) ∧ zx τ 97 (192 * h + c) = wSun A x h c ∧ zq τ 98 (192 * h + c) = wCost A R x h c) → n = (if h = E then c else wNx A (wD A R x E t (E - (h + 1)).toNat) c) → b = bI (wMay A x E t h c ∧ 0 ≤ n) → aw (d + 5) k_X12_walk (some .int) (fun r τ => r = some (.int (iI (mWalk A R x F u E t))) ∧ MV sz (m_walk_op A R x F u E t) τ ∧ Mod σ τ [42, 82, 83, 88, 89, 90, 91, 92, 93, 96, 97, 98, 99, 100, 101]) 232 [some (.ref 42), some (.int (iI x)), some (.int (iI F)), some (.int (iI u)), some (.int (iI E)), some (.int (iI t)), some (.int (iI h)), some (.int (iI c)), some (.int (iI (192 * h + c))), some (.int (iI n)), w10, w11] [.int (iI b)] τ := by
  intro τ n b w10 w11 hN hD hL hH hrk hrc hvs hnd hb
  obtain ⟨hR1, hR2, hR3⟩ := hR
  obtain ⟨⟨hx0, hx1⟩, ⟨hF0, hF1⟩, ⟨hFE, hE1⟩, ⟨hu0, hu1⟩, ⟨ht0, ht1⟩⟩ := hok
  have hcl := hI.clock
  have hce := hI.cells
  have hwu := wD_u (A := A) (R := R) (x := x) (E := E) (t := t) (h := h) (c := c) hE hc0
  have hnn : -1 ≤ n ∧ n < A 42 2 := by
    rw [hnd]
    have := (nxN_r hI (f := wD A R x E t (E - (h + 1)).toNat) hc0 hc1 5).1
    unfold wNx
    split <;> omega
  have hbr := bI_or (wMay A x E t h c ∧ 0 ≤ n)
  rw [← hb] at hbr
  have hsn : 0 ≤ wSun A x h c ∧ wSun A x h c ≤ 1 := by unfold wSun; split <;> omega
  have hfn := fun q : h < E => fun r : 0 ≤ n => (hrk (h + 1) (by omega) (by omega)) n r (by omega)
  have hwb := fun q : h < E => fun r : 0 ≤ n => wD_b hI ⟨hR1, hR2, hR3⟩ (t := t) hx0 hx1 hE1 (E - (h + 1)).toNat (by omega) n r (by omega)
  refine aw_istore rfl (Nat.le_of_ble_eq_true rfl) rfl rfl ?_
  change aw _ _ _ _ 234 [some (.ref 42), some (.int (iI _)), some (.int (iI _)), some (.int (iI _)), some (.int (iI _)), some (.int (iI _)), some (.int (iI _)), some (.int (iI _)), some (.int (iI _)), some (.int (iI _)), some (.int (iI _)), _] _ _
  refine aw_sipush rfl rfl rfl ?_
  refine aw_iload rfl rfl rfl ?_
  refine aw_iconst rfl rfl ?_
  refine aw_iadd rfl rfl ?_
  refine aw_imul rfl rfl ?_
  refine aw_iload rfl rfl rfl ?_
  refine aw_iadd rfl rfl ?_
  refine aw_istore rfl (Nat.le_of_ble_eq_true rfl) rfl rfl ?_
  change aw _ _ _ _ 247 [some (.ref 42), some (.int (iI _)), some (.int (iI _)), some (.int (iI _)), some (.int (iI _)), some (.int (iI _)), some (.int (iI _)), some (.int (iI _)), some (.int (iI _)), some (.int (iI _)), some (.int (iI _)), some (.int (iI _))] _ _
  refine aw_aload_n rfl rfl rfl ?_
  refine aw_getr (b := 99) rfl rfl (hN.f.k 42 rfl) (hN.f.r 42 83 99 rfl) rfl ?_
  refine aw_iload rfl rfl rfl ?_
  refine aw_iload rfl rfl rfl ?_
  refine aw_if (p' := 264) rfl ⟨by omega, by omega⟩ rfl rfl (fun c8 => ?_) (fun c8 => ?_)
  · dsimp only [zc] at c8
    refine aw_aload_n rfl rfl rfl ?_
    refine aw_getr (b := 97) rfl rfl (hN.f.k 42 rfl) (hN.f.r 42 81 97 rfl) rfl ?_
    refine aw_iload rfl rfl rfl ?_
    refine aw_as (N := 2304) rfl (hN.f.s 97 rfl) (by omega) (by omega) (by omega) rfl (fun _ _ => ?_)
    rw [hvs.2.1]
    refine aw_iload rfl rfl rfl ?_
    refine aw_iload rfl rfl rfl ?_
    refine aw_icmp (p' := 282) rfl ⟨by omega, by omega⟩ ⟨by omega, by omega⟩ rfl rfl (fun c9 => ?_) (fun c9 => ?_)
    · dsimp only [zc] at c9
      skip
      refine aw_aload_n rfl rfl rfl ?_
      refine aw_getr (b := 99) rfl rfl (hN.f.k 42 rfl) (hN.f.r 42 83 99 rfl) rfl ?_
      refine aw_iload rfl rfl rfl ?_
      refine aw_as (N := 2304) rfl (hN.f.s 99 rfl) (by omega) (by omega) (by omega) rfl (fun _ _ => ?_)
      rw [(hfn (by omega) (by omega)).1]
      have hwb2 := hwb (by omega) (by omega)
      refine aw_iadd rfl rfl ?_
      refine m_walk_l290 hM hI ⟨hR1, hR2, hR3⟩ hA ⟨⟨hx0, hx1⟩, ⟨hF0, hF1⟩, ⟨hFE, hE1⟩, ⟨hu0, hu1⟩, ⟨ht0, ht1⟩⟩ hF hE hc0 hc1 hK2 _ _ _ _ hN hD hL hH hrk hrc hvs hnd hb ?_
      rw [← hnd] at hwu
      rcases hbr with ⟨q, q1⟩ | ⟨q, q1⟩
      · rw [hwu.1 q]
        first | (rw [if_pos (by omega)]; done) | (rw [if_neg (by omega)]; done) | (exfalso; omega)
      · rw [hwu.2 q]
        first | done | (exfalso; omega)
    · dsimp only [zc] at c9
      skip
      refine aw_iconst rfl rfl ?_
      refine aw_goto (p' := 289) rfl rfl ?_
      skip
      refine aw_iadd rfl rfl ?_
      refine m_walk_l290 hM hI ⟨hR1, hR2, hR3⟩ hA ⟨⟨hx0, hx1⟩, ⟨hF0, hF1⟩, ⟨hFE, hE1⟩, ⟨hu0, hu1⟩, ⟨ht0, ht1⟩⟩ hF hE hc0 hc1 hK2 _ _ _ _ hN hD hL hH hrk hrc hvs hnd hb ?_
      rw [← hnd] at hwu
      rcases hbr with ⟨q, q1⟩ | ⟨q, q1⟩
      · rw [hwu.1 q]
        first | (rw [if_pos (by omega)]; done) | (rw [if_neg (by omega)]; done) | (exfalso; omega)
      · rw [hwu.2 q]
        first | done | (exfalso; omega)
  · dsimp only [zc] at c8
    refine aw_sipush rfl rfl rfl ?_
    refine aw_goto (p' := 290) rfl rfl ?_
    refine m_walk_l290 hM hI ⟨hR1, hR2, hR3⟩ hA ⟨⟨hx0, hx1⟩, ⟨hF0, hF1⟩, ⟨hFE, hE1⟩, ⟨hu0, hu1⟩, ⟨ht0, ht1⟩⟩ hF hE hc0 hc1 hK2 _ _ _ _ hN hD hL hH hrk hrc hvs hnd hb ?_
    rw [← hnd] at hwu
    rcases hbr with ⟨q, q1⟩ | ⟨q, q1⟩
    · rw [hwu.1 q]
      first | (rw [if_pos (by omega)]; done) | (rw [if_neg (by omega)]; done) | (exfalso; omega)
    · rw [hwu.2 q]
      first | done | (exfalso; omega)
set_option maxRecDepth 10000 in
set_option maxHeartbeats 2000000 in
theorem m_walk_l210 {d : Nat} {sz : Nat} {A : Nat → Int → Int} {σ : az_S} (hM : MV sz A σ) (hI : MI sz A) {R : tRules} (hR : PW R) (hA : mTar A R) {x F u E t : Int} (hok : ((0 ≤ x ∧ x ≤ 3599) ∧ (0 ≤ F ∧ F ≤ 11) ∧ (F ≤ E ∧ E ≤ 11) ∧ (0 ≤ u ∧ u ≤ A 42 2 - 1) ∧ (0 ≤ t ∧ t ≤ A 42 2 - 1))) {h : Int} (hF : F ≤ h) (hE : h ≤ E) {c : Int} (hc0 : 0 ≤ c) (hc1 : c < A 42 2) (hK2 : ∀ (τ : az_S) (v1 v2 v3 v4 : Option Value), MV sz A τ → Mod σ τ [82, 83, 88, 89, 90, 91, 92, 93, 96, 97, 98, 99, 100] → LK A x h (A 42 3) τ → HK A x h (A 42 3) (A 42 12) τ → (∀ k : Int, h < k → k ≤ E → wRw A (wD A R x E t (E - k).toNat) k (A 42 2) τ) → wRw A (wD A R x E t (E - h).toNat) h (c + 1) τ → aw (d + 5) k_X12_walk (some .int) (fun r τ => r = some (.int (iI (mWalk A R x F u E t))) ∧ MV sz (m_walk_op A R x F u E t) τ ∧ Mod σ τ [42, 82, 83, 88, 89, 90, 91, 92, 93, 96, 97, 98, 99, 100, 101]) 82 [some (.ref 42), some (.int (iI x)), some (.int (iI F)), some (.int (iI u)), some (.int (iI E)), some (.int (iI t)), some (.int (iI h)), some (.int (iI (c + 1))), v1, v2, v3, v4] [] τ) : ∀ (τ : az_S) (n : Int) (w9 w10 w11 : Option Value), MV sz A τ → Mod σ τ [82, 83, 88, 89, 90, 91, 92, 93, 96, 97, 98, 99, 100] → LK A x h (A 42 3) τ → HK A x h (A 42 3) (A 42 12) τ → (∀ k : Int, h < k → k ≤ E → wRw A (wD A R x E t (E - k).toNat) k (A 42 2) τ) → wRw A (wD A R x E t (E - h).toNat) h c τ → (zx τ 96 (192 * h + c) = bI (wMay A x E t h c) ∧ zx τ 97 (192 * h + c) = wSun A x h c ∧ zq τ 98 (192 * h + c) = wCost A R x h c) → n = (if h = E then c else wNx A (wD A R x E t (E - (h + 1)).toNat) c) → aw (d + 5) k_X12_walk (some .int) (fun r τ => r = some (.int (iI (mWalk A R x F u E t))) ∧ MV sz (m_walk_op A R x F u E t) τ ∧ Mod σ τ [42, 82, 83, 88, 89, 90, 91, 92, 93, 96, 97, 98, 99, 100, 101]) 210 [some (.ref 42), some (.int (iI x)), some (.int (iI F)), some (.int (iI u)), some (.int (iI E)), some (.int (iI t)), some (.int (iI h)), some (.int (iI c)), some (.int (iI (192 * h + c))), w9, w10, w11] [.int (iI n)] τ := by
  intro τ n w9 w10 w11 hN hD hL hH hrk hrc hvs hnd
  obtain ⟨hR1, hR2, hR3⟩ := hR
  obtain ⟨⟨hx0, hx1⟩, ⟨hF0, hF1⟩, ⟨hFE, hE1⟩, ⟨hu0, hu1⟩, ⟨ht0, ht1⟩⟩ := hok
  have hcl := hI.clock
  have hce := hI.cells
  have hwu := wD_u (A := A) (R := R) (x := x) (E := E) (t := t) (h := h) (c := c) hE hc0
  have hnn : -1 ≤ n ∧ n < A 42 2 := by
    rw [hnd]
    have := (nxN_r hI (f := wD A R x E t (E - (h + 1)).toNat) hc0 hc1 5).1
    unfold wNx
    split <;> omega
  have hmr := bI_r (wMay A x E t h c)
  refine aw_istore rfl (Nat.le_of_ble_eq_true rfl) rfl rfl ?_
  change aw _ _ _ _ 212 [some (.ref 42), some (.int (iI _)), some (.int (iI _)), some (.int (iI _)), some (.int (iI _)), some (.int (iI _)), some (.int (iI _)), some (.int (iI _)), some (.int (iI _)), some (.int (iI _)), _, _] _ _
  refine aw_aload_n rfl rfl rfl ?_
  refine aw_getr (b := 96) rfl rfl (hN.f.k 42 rfl) (hN.f.r 42 80 96 rfl) rfl ?_
  refine aw_iload rfl rfl rfl ?_
  refine aw_bs (N := 2304) rfl (hN.f.s 96 rfl) (by decide) (by omega) (by omega) (by omega) rfl (fun _ _ => ?_)
  rw [hvs.1]
  refine aw_if (p' := 231) rfl ⟨by omega, by omega⟩ rfl rfl (fun c10 => ?_) (fun c10 => ?_)
  · dsimp only [zc] at c10
    refine aw_iconst rfl rfl ?_
    exact m_walk_l232 hM hI ⟨hR1, hR2, hR3⟩ hA ⟨⟨hx0, hx1⟩, ⟨hF0, hF1⟩, ⟨hFE, hE1⟩, ⟨hu0, hu1⟩, ⟨ht0, ht1⟩⟩ hF hE hc0 hc1 hK2 _ _ _ _ _ hN hD hL hH hrk hrc hvs hnd (by first | (rw [bI_t ⟨Classical.not_not.mp (fun q => by have := (bI_zero (wMay A x E t h c)).mpr q; omega), by omega⟩]; done) | (rw [bI_f (by rintro ⟨q1, q2⟩; first | omega | exact (bI_zero (wMay A x E t h c)).mp (by omega) q1)]))
  · dsimp only [zc] at c10
    refine aw_iload rfl rfl rfl ?_
    refine aw_if (p' := 231) rfl ⟨by omega, by omega⟩ rfl rfl (fun c11 => ?_) (fun c11 => ?_)
    · dsimp only [zc] at c11
      refine aw_iconst rfl rfl ?_
      exact m_walk_l232 hM hI ⟨hR1, hR2, hR3⟩ hA ⟨⟨hx0, hx1⟩, ⟨hF0, hF1⟩, ⟨hFE, hE1⟩, ⟨hu0, hu1⟩, ⟨ht0, ht1⟩⟩ hF hE hc0 hc1 hK2 _ _ _ _ _ hN hD hL hH hrk hrc hvs hnd (by first | (rw [bI_t ⟨Classical.not_not.mp (fun q => by have := (bI_zero (wMay A x E t h c)).mpr q; omega), by omega⟩]; done) | (rw [bI_f (by rintro ⟨q1, q2⟩; first | omega | exact (bI_zero (wMay A x E t h c)).mp (by omega) q1)]))
    · dsimp only [zc] at c11
      refine aw_iconst rfl rfl ?_
      refine aw_goto (p' := 232) rfl rfl ?_
      exact m_walk_l232 hM hI ⟨hR1, hR2, hR3⟩ hA ⟨⟨hx0, hx1⟩, ⟨hF0, hF1⟩, ⟨hFE, hE1⟩, ⟨hu0, hu1⟩, ⟨ht0, ht1⟩⟩ hF hE hc0 hc1 hK2 _ _ _ _ _ hN hD hL hH hrk hrc hvs hnd (by first | (rw [bI_t ⟨Classical.not_not.mp (fun q => by have := (bI_zero (wMay A x E t h c)).mpr q; omega), by omega⟩]; done) | (rw [bI_f (by rintro ⟨q1, q2⟩; first | omega | exact (bI_zero (wMay A x E t h c)).mp (by omega) q1)]))
set_option maxRecDepth 10000 in
set_option maxHeartbeats 2000000 in
theorem m_walk_l149 {d : Nat} {sz : Nat} {A : Nat → Int → Int} {σ : az_S} (hM : MV sz A σ) (hI : MI sz A) {R : tRules} (hR : PW R) (hA : mTar A R) {x F u E t : Int} (hok : ((0 ≤ x ∧ x ≤ 3599) ∧ (0 ≤ F ∧ F ≤ 11) ∧ (F ≤ E ∧ E ≤ 11) ∧ (0 ≤ u ∧ u ≤ A 42 2 - 1) ∧ (0 ≤ t ∧ t ≤ A 42 2 - 1))) {h : Int} (hF : F ≤ h) (hE : h ≤ E) {c : Int} (hc0 : 0 ≤ c) (hc1 : c < A 42 2) (hK2 : ∀ (τ : az_S) (v1 v2 v3 v4 : Option Value), MV sz A τ → Mod σ τ [82, 83, 88, 89, 90, 91, 92, 93, 96, 97, 98, 99, 100] → LK A x h (A 42 3) τ → HK A x h (A 42 3) (A 42 12) τ → (∀ k : Int, h < k → k ≤ E → wRw A (wD A R x E t (E - k).toNat) k (A 42 2) τ) → wRw A (wD A R x E t (E - h).toNat) h (c + 1) τ → aw (d + 5) k_X12_walk (some .int) (fun r τ => r = some (.int (iI (mWalk A R x F u E t))) ∧ MV sz (m_walk_op A R x F u E t) τ ∧ Mod σ τ [42, 82, 83, 88, 89, 90, 91, 92, 93, 96, 97, 98, 99, 100, 101]) 82 [some (.ref 42), some (.int (iI x)), some (.int (iI F)), some (.int (iI u)), some (.int (iI E)), some (.int (iI t)), some (.int (iI h)), some (.int (iI (c + 1))), v1, v2, v3, v4] [] τ) : ∀ (τ : az_S) (v : Int) (w9 w10 w11 : Option Value), MV sz A τ → Mod σ τ [82, 83, 88, 89, 90, 91, 92, 93, 96, 97, 98, 99, 100] → LK A x h (A 42 3) τ → HK A x h (A 42 3) (A 42 12) τ → (∀ k : Int, h < k → k ≤ E → wRw A (wD A R x E t (E - k).toNat) k (A 42 2) τ) → wRw A (wD A R x E t (E - h).toNat) h c τ → v = bI (wMay A x E t h c) → aw (d + 5) k_X12_walk (some .int) (fun r τ => r = some (.int (iI (mWalk A R x F u E t))) ∧ MV sz (m_walk_op A R x F u E t) τ ∧ Mod σ τ [42, 82, 83, 88, 89, 90, 91, 92, 93, 96, 97, 98, 99, 100, 101]) 149 [some (.ref 42), some (.int (iI x)), some (.int (iI F)), some (.int (iI u)), some (.int (iI E)), some (.int (iI t)), some (.int (iI h)), some (.int (iI c)), some (.int (iI (192 * h + c))), w9, w10, w11] [.int (iI v), .int (iI (192 * h + c)), .ref 96] τ := by
  intro τ v w9 w10 w11 hN hD hL hH hrk hrc hv
  obtain ⟨hR1, hR2, hR3⟩ := hR
  obtain ⟨⟨hx0, hx1⟩, ⟨hF0, hF1⟩, ⟨hFE, hE1⟩, ⟨hu0, hu1⟩, ⟨ht0, ht1⟩⟩ := hok
  have hcl := hI.clock
  have hce := hI.cells
  have hwu := wD_u (A := A) (R := R) (x := x) (E := E) (t := t) (h := h) (c := c) hE hc0
  have hvr := bI_r (wMay A x E t h c)
  refine aw_sb (N := 2304) hN rfl (hN.f.s 96 rfl) (by omega) rfl (by omega) (by omega) (by first | omega | exact bI_01 _) rfl (fun τ12 hM12 hD12 hU12 => ?_)
  refine aw_aload_n rfl rfl rfl ?_
  refine aw_getr (b := 97) rfl rfl (hM12.f.k 42 rfl) (hM12.f.r 42 81 97 rfl) rfl ?_
  refine aw_iload rfl rfl rfl ?_
  refine aw_aload_n rfl rfl rfl ?_
  refine aw_getr (b := 90) rfl rfl (hM12.f.k 42 rfl) (hM12.f.r 42 73 90 rfl) rfl ?_
  refine aw_iload rfl rfl rfl ?_
  refine aw_as (N := 192) rfl (hM12.f.s 90 rfl) (by omega) (by omega) (by omega) rfl (fun _ _ => ?_)
  rw [(hL.mod hD12 rfl rfl rfl rfl).many hc0 hc1]
  have hmr := mMany_r A x h (A 42 3) c
  refine aw_if (p' := 170) rfl ⟨by omega, by omega⟩ rfl rfl (fun c13 => ?_) (fun c13 => ?_)
  · dsimp only [zc] at c13
    refine aw_iconst rfl rfl ?_
    refine aw_ss (N := 2304) hM12 rfl (hM12.f.s 97 rfl) (by omega) rfl (by omega) (by omega) ⟨by omega, by omega⟩ rfl (fun τ14 hM14 hD14 hU14 => ?_)
    refine aw_aload_n rfl rfl rfl ?_
    refine aw_getr (b := 98) rfl rfl (hM14.f.k 42 rfl) (hM14.f.r 42 82 98 rfl) rfl ?_
    refine aw_iload rfl rfl rfl ?_
    refine aw_aload_n rfl rfl rfl ?_
    refine aw_iload rfl rfl rfl ?_
    refine aw_iload_n rfl rfl rfl ?_
    refine aw_iload rfl rfl rfl ?_
    refine aw_iconst rfl rfl ?_
    refine aw_iconst rfl rfl ?_
    refine aw_calc (m_charge (y := A 42 3) hM14 hI ⟨hR1, hR2, hR3⟩ hA hx0 hx1 (by omega) (by omega) hcl.1 hcl.2 ((hL.mod hD12 rfl rfl rfl rfl).mod hD14 rfl rfl rfl rfl) ((hH.mod hD12 rfl).mod hD14 rfl) hc0 hc1 (by omega) (by omega) ⟨by omega, by omega⟩) rfl rfl rfl (Nat.le_of_ble_eq_true rfl) (Or.inr ⟨_, rfl, (hM14.f.k 42 rfl)⟩) rfl ?_
    rintro _ τ15 ⟨rfl, hM15, hD15⟩
    change aw _ _ _ _ 189 [some (.ref 42), some (.int (iI _)), some (.int (iI _)), some (.int (iI _)), some (.int (iI _)), some (.int (iI _)), some (.int (iI _)), some (.int (iI _)), some (.int (iI _)), _, _, _] [.long (lI _), .int (iI _), .ref 98] _
    have hcb := mChg_b hI ⟨hR1, hR2, hR3⟩ (x := x) (h := h) (y := A 42 3) (c := c) (s := -1) (p := -1) hx0 hx1 (by omega) (by omega) (by omega) (by omega)
    refine aw_sl (N := 2304) hM15 rfl (hM15.f.s 98 rfl) (by omega) rfl (by omega) (by omega) (by omega) (by omega) rfl (fun τ16 hM16 hD16 hU16 => ?_)
    refine aw_iload rfl rfl rfl ?_
    refine aw_iload rfl rfl rfl ?_
    refine aw_icmp (p' := 202) rfl ⟨by omega, by omega⟩ ⟨by omega, by omega⟩ rfl rfl (fun c17 => ?_) (fun c17 => ?_)
    · dsimp only [zc] at c17
      refine aw_aload_n rfl rfl rfl ?_
      refine aw_iload rfl rfl rfl ?_
      refine aw_iload rfl rfl rfl ?_
      refine aw_fnc (m_nextOf (f := wD A R x E t (E - (h + 1)).toNat) hM16 hI hc0 hc1 (by omega) (by omega) (((hrk (h + 1) (by omega) (by omega)).mod hD12 rfl rfl).mod hD14 rfl rfl |>.mod hD15 rfl rfl |>.mod hD16 rfl rfl) (fun e e0 e1 => by have := wD_b hI ⟨hR1, hR2, hR3⟩ (t := t) hx0 hx1 hE1 (E - (h + 1)).toNat (by omega) e e0 (by omega); omega)) rfl rfl rfl (Nat.le_of_ble_eq_true rfl) (Or.inr ⟨_, rfl, (hM16.f.k 42 rfl)⟩) rfl ?_
      have hnr := (nxN_r hI (f := (wD A R x E t (E - (h + 1)).toNat)) hc0 hc1 5).1
      refine m_walk_l210 hM hI ⟨hR1, hR2, hR3⟩ hA ⟨⟨hx0, hx1⟩, ⟨hF0, hF1⟩, ⟨hFE, hE1⟩, ⟨hu0, hu1⟩, ⟨ht0, ht1⟩⟩ hF hE hc0 hc1 hK2 _ _ _ _ _ hM16 (((((hD.su (T := [82, 83, 88, 89, 90, 91, 92, 93, 96, 97, 98, 99, 100]) rfl).tr (hD12.su (T := [82, 83, 88, 89, 90, 91, 92, 93, 96, 97, 98, 99, 100]) rfl)).tr (hD14.su (T := [82, 83, 88, 89, 90, 91, 92, 93, 96, 97, 98, 99, 100]) rfl)).tr (hD15.su (T := [82, 83, 88, 89, 90, 91, 92, 93, 96, 97, 98, 99, 100]) rfl)).tr (hD16.su (T := [82, 83, 88, 89, 90, 91, 92, 93, 96, 97, 98, 99, 100]) rfl)) ((((hL.mod hD12 rfl rfl rfl rfl).mod hD14 rfl rfl rfl rfl).mod hD15 rfl rfl rfl rfl).mod hD16 rfl rfl rfl rfl) ((((hH.mod hD12 rfl).mod hD14 rfl).mod hD15 rfl).mod hD16 rfl) (fun k q1 q2 => (((((hrk k q1 q2).mod hD12 rfl rfl).mod hD14 rfl rfl).mod hD15 rfl rfl).mod hD16 rfl rfl)) ((((hrc.mod hD12 rfl rfl).mod hD14 rfl rfl).mod hD15 rfl rfl).mod hD16 rfl rfl) ⟨?_, ?_, ?_⟩ ?_
      · rw [hD16.z 96 rfl, hD15.z 96 rfl, hD14.z 96 rfl, hU12, if_pos rfl, hv]
      · rw [hD16.z 97 rfl, hD15.z 97 rfl, hU14, if_pos rfl]; unfold wSun; first | rw [if_pos (by omega)] | rw [if_neg (by omega)]
      · rw [hU16, if_pos rfl]; rfl
      · first | (rw [if_pos (by omega)]; done) | (rw [if_neg (by omega)])
    · dsimp only [zc] at c17
      refine aw_iload rfl rfl rfl ?_
      refine aw_goto (p' := 210) rfl rfl ?_
      refine m_walk_l210 hM hI ⟨hR1, hR2, hR3⟩ hA ⟨⟨hx0, hx1⟩, ⟨hF0, hF1⟩, ⟨hFE, hE1⟩, ⟨hu0, hu1⟩, ⟨ht0, ht1⟩⟩ hF hE hc0 hc1 hK2 _ _ _ _ _ hM16 (((((hD.su (T := [82, 83, 88, 89, 90, 91, 92, 93, 96, 97, 98, 99, 100]) rfl).tr (hD12.su (T := [82, 83, 88, 89, 90, 91, 92, 93, 96, 97, 98, 99, 100]) rfl)).tr (hD14.su (T := [82, 83, 88, 89, 90, 91, 92, 93, 96, 97, 98, 99, 100]) rfl)).tr (hD15.su (T := [82, 83, 88, 89, 90, 91, 92, 93, 96, 97, 98, 99, 100]) rfl)).tr (hD16.su (T := [82, 83, 88, 89, 90, 91, 92, 93, 96, 97, 98, 99, 100]) rfl)) ((((hL.mod hD12 rfl rfl rfl rfl).mod hD14 rfl rfl rfl rfl).mod hD15 rfl rfl rfl rfl).mod hD16 rfl rfl rfl rfl) ((((hH.mod hD12 rfl).mod hD14 rfl).mod hD15 rfl).mod hD16 rfl) (fun k q1 q2 => (((((hrk k q1 q2).mod hD12 rfl rfl).mod hD14 rfl rfl).mod hD15 rfl rfl).mod hD16 rfl rfl)) ((((hrc.mod hD12 rfl rfl).mod hD14 rfl rfl).mod hD15 rfl rfl).mod hD16 rfl rfl) ⟨?_, ?_, ?_⟩ ?_
      · rw [hD16.z 96 rfl, hD15.z 96 rfl, hD14.z 96 rfl, hU12, if_pos rfl, hv]
      · rw [hD16.z 97 rfl, hD15.z 97 rfl, hU14, if_pos rfl]; unfold wSun; first | rw [if_pos (by omega)] | rw [if_neg (by omega)]
      · rw [hU16, if_pos rfl]; rfl
      · first | (rw [if_pos (by omega)]; done) | (rw [if_neg (by omega)])
  · dsimp only [zc] at c13
    refine aw_iconst rfl rfl ?_
    refine aw_goto (p' := 171) rfl rfl ?_
    refine aw_ss (N := 2304) hM12 rfl (hM12.f.s 97 rfl) (by omega) rfl (by omega) (by omega) ⟨by omega, by omega⟩ rfl (fun τ18 hM18 hD18 hU18 => ?_)
    refine aw_aload_n rfl rfl rfl ?_
    refine aw_getr (b := 98) rfl rfl (hM18.f.k 42 rfl) (hM18.f.r 42 82 98 rfl) rfl ?_
    refine aw_iload rfl rfl rfl ?_
    refine aw_aload_n rfl rfl rfl ?_
    refine aw_iload rfl rfl rfl ?_
    refine aw_iload_n rfl rfl rfl ?_
    refine aw_iload rfl rfl rfl ?_
    refine aw_iconst rfl rfl ?_
    refine aw_iconst rfl rfl ?_
    refine aw_calc (m_charge (y := A 42 3) hM18 hI ⟨hR1, hR2, hR3⟩ hA hx0 hx1 (by omega) (by omega) hcl.1 hcl.2 ((hL.mod hD12 rfl rfl rfl rfl).mod hD18 rfl rfl rfl rfl) ((hH.mod hD12 rfl).mod hD18 rfl) hc0 hc1 (by omega) (by omega) ⟨by omega, by omega⟩) rfl rfl rfl (Nat.le_of_ble_eq_true rfl) (Or.inr ⟨_, rfl, (hM18.f.k 42 rfl)⟩) rfl ?_
    rintro _ τ19 ⟨rfl, hM19, hD19⟩
    change aw _ _ _ _ 189 [some (.ref 42), some (.int (iI _)), some (.int (iI _)), some (.int (iI _)), some (.int (iI _)), some (.int (iI _)), some (.int (iI _)), some (.int (iI _)), some (.int (iI _)), _, _, _] [.long (lI _), .int (iI _), .ref 98] _
    have hcb := mChg_b hI ⟨hR1, hR2, hR3⟩ (x := x) (h := h) (y := A 42 3) (c := c) (s := -1) (p := -1) hx0 hx1 (by omega) (by omega) (by omega) (by omega)
    refine aw_sl (N := 2304) hM19 rfl (hM19.f.s 98 rfl) (by omega) rfl (by omega) (by omega) (by omega) (by omega) rfl (fun τ20 hM20 hD20 hU20 => ?_)
    refine aw_iload rfl rfl rfl ?_
    refine aw_iload rfl rfl rfl ?_
    refine aw_icmp (p' := 202) rfl ⟨by omega, by omega⟩ ⟨by omega, by omega⟩ rfl rfl (fun c21 => ?_) (fun c21 => ?_)
    · dsimp only [zc] at c21
      refine aw_aload_n rfl rfl rfl ?_
      refine aw_iload rfl rfl rfl ?_
      refine aw_iload rfl rfl rfl ?_
      refine aw_fnc (m_nextOf (f := wD A R x E t (E - (h + 1)).toNat) hM20 hI hc0 hc1 (by omega) (by omega) (((hrk (h + 1) (by omega) (by omega)).mod hD12 rfl rfl).mod hD18 rfl rfl |>.mod hD19 rfl rfl |>.mod hD20 rfl rfl) (fun e e0 e1 => by have := wD_b hI ⟨hR1, hR2, hR3⟩ (t := t) hx0 hx1 hE1 (E - (h + 1)).toNat (by omega) e e0 (by omega); omega)) rfl rfl rfl (Nat.le_of_ble_eq_true rfl) (Or.inr ⟨_, rfl, (hM20.f.k 42 rfl)⟩) rfl ?_
      have hnr := (nxN_r hI (f := (wD A R x E t (E - (h + 1)).toNat)) hc0 hc1 5).1
      refine m_walk_l210 hM hI ⟨hR1, hR2, hR3⟩ hA ⟨⟨hx0, hx1⟩, ⟨hF0, hF1⟩, ⟨hFE, hE1⟩, ⟨hu0, hu1⟩, ⟨ht0, ht1⟩⟩ hF hE hc0 hc1 hK2 _ _ _ _ _ hM20 (((((hD.su (T := [82, 83, 88, 89, 90, 91, 92, 93, 96, 97, 98, 99, 100]) rfl).tr (hD12.su (T := [82, 83, 88, 89, 90, 91, 92, 93, 96, 97, 98, 99, 100]) rfl)).tr (hD18.su (T := [82, 83, 88, 89, 90, 91, 92, 93, 96, 97, 98, 99, 100]) rfl)).tr (hD19.su (T := [82, 83, 88, 89, 90, 91, 92, 93, 96, 97, 98, 99, 100]) rfl)).tr (hD20.su (T := [82, 83, 88, 89, 90, 91, 92, 93, 96, 97, 98, 99, 100]) rfl)) ((((hL.mod hD12 rfl rfl rfl rfl).mod hD18 rfl rfl rfl rfl).mod hD19 rfl rfl rfl rfl).mod hD20 rfl rfl rfl rfl) ((((hH.mod hD12 rfl).mod hD18 rfl).mod hD19 rfl).mod hD20 rfl) (fun k q1 q2 => (((((hrk k q1 q2).mod hD12 rfl rfl).mod hD18 rfl rfl).mod hD19 rfl rfl).mod hD20 rfl rfl)) ((((hrc.mod hD12 rfl rfl).mod hD18 rfl rfl).mod hD19 rfl rfl).mod hD20 rfl rfl) ⟨?_, ?_, ?_⟩ ?_
      · rw [hD20.z 96 rfl, hD19.z 96 rfl, hD18.z 96 rfl, hU12, if_pos rfl, hv]
      · rw [hD20.z 97 rfl, hD19.z 97 rfl, hU18, if_pos rfl]; unfold wSun; first | rw [if_pos (by omega)] | rw [if_neg (by omega)]
      · rw [hU20, if_pos rfl]; rfl
      · first | (rw [if_pos (by omega)]; done) | (rw [if_neg (by omega)])
    · dsimp only [zc] at c21
      refine aw_iload rfl rfl rfl ?_
      refine aw_goto (p' := 210) rfl rfl ?_
      refine m_walk_l210 hM hI ⟨hR1, hR2, hR3⟩ hA ⟨⟨hx0, hx1⟩, ⟨hF0, hF1⟩, ⟨hFE, hE1⟩, ⟨hu0, hu1⟩, ⟨ht0, ht1⟩⟩ hF hE hc0 hc1 hK2 _ _ _ _ _ hM20 (((((hD.su (T := [82, 83, 88, 89, 90, 91, 92, 93, 96, 97, 98, 99, 100]) rfl).tr (hD12.su (T := [82, 83, 88, 89, 90, 91, 92, 93, 96, 97, 98, 99, 100]) rfl)).tr (hD18.su (T := [82, 83, 88, 89, 90, 91, 92, 93, 96, 97, 98, 99, 100]) rfl)).tr (hD19.su (T := [82, 83, 88, 89, 90, 91, 92, 93, 96, 97, 98, 99, 100]) rfl)).tr (hD20.su (T := [82, 83, 88, 89, 90, 91, 92, 93, 96, 97, 98, 99, 100]) rfl)) ((((hL.mod hD12 rfl rfl rfl rfl).mod hD18 rfl rfl rfl rfl).mod hD19 rfl rfl rfl rfl).mod hD20 rfl rfl rfl rfl) ((((hH.mod hD12 rfl).mod hD18 rfl).mod hD19 rfl).mod hD20 rfl) (fun k q1 q2 => (((((hrk k q1 q2).mod hD12 rfl rfl).mod hD18 rfl rfl).mod hD19 rfl rfl).mod hD20 rfl rfl)) ((((hrc.mod hD12 rfl rfl).mod hD18 rfl rfl).mod hD19 rfl rfl).mod hD20 rfl rfl) ⟨?_, ?_, ?_⟩ ?_
      · rw [hD20.z 96 rfl, hD19.z 96 rfl, hD18.z 96 rfl, hU12, if_pos rfl, hv]
      · rw [hD20.z 97 rfl, hD19.z 97 rfl, hU18, if_pos rfl]; unfold wSun; first | rw [if_pos (by omega)] | rw [if_neg (by omega)]
      · rw [hU20, if_pos rfl]; rfl
      · first | (rw [if_pos (by omega)]; done) | (rw [if_neg (by omega)])
set_option maxRecDepth 10000 in
set_option maxHeartbeats 2000000 in
theorem m_walk_l82 {d : Nat} {sz : Nat} {A : Nat → Int → Int} {σ : az_S} (hM : MV sz A σ) (hI : MI sz A) {R : tRules} (hR : PW R) (hA : mTar A R) {x F u E t : Int} (hok : ((0 ≤ x ∧ x ≤ 3599) ∧ (0 ≤ F ∧ F ≤ 11) ∧ (F ≤ E ∧ E ≤ 11) ∧ (0 ≤ u ∧ u ≤ A 42 2 - 1) ∧ (0 ≤ t ∧ t ≤ A 42 2 - 1))) {h : Int} (hF : F ≤ h) (hE : h ≤ E) (hK : ∀ (τ : az_S) (v1 v2 v3 v4 v5 : Option Value), MV sz A τ → Mod σ τ [82, 83, 88, 89, 90, 91, 92, 93, 96, 97, 98, 99, 100] → (∀ k : Int, h - 1 < k → k ≤ E → wRw A (wD A R x E t (E - k).toNat) k (A 42 2) τ) → aw (d + 5) k_X12_walk (some .int) (fun r τ => r = some (.int (iI (mWalk A R x F u E t))) ∧ MV sz (m_walk_op A R x F u E t) τ ∧ Mod σ τ [42, 82, 83, 88, 89, 90, 91, 92, 93, 96, 97, 98, 99, 100, 101]) 51 [some (.ref 42), some (.int (iI x)), some (.int (iI F)), some (.int (iI u)), some (.int (iI E)), some (.int (iI t)), some (.int (iI (h + -1))), v1, v2, v3, v4, v5] [] τ) : ∀ (n : Nat) (τ : az_S) (c : Int) (w8 w9 w10 w11 : Option Value), (A 42 2 - c).toNat = n → MV sz A τ → Mod σ τ [82, 83, 88, 89, 90, 91, 92, 93, 96, 97, 98, 99, 100] → LK A x h (A 42 3) τ → HK A x h (A 42 3) (A 42 12) τ → (∀ k : Int, h < k → k ≤ E → wRw A (wD A R x E t (E - k).toNat) k (A 42 2) τ) → wRw A (wD A R x E t (E - h).toNat) h c τ → 0 ≤ c → c ≤ A 42 2 → aw (d + 5) k_X12_walk (some .int) (fun r τ => r = some (.int (iI (mWalk A R x F u E t))) ∧ MV sz (m_walk_op A R x F u E t) τ ∧ Mod σ τ [42, 82, 83, 88, 89, 90, 91, 92, 93, 96, 97, 98, 99, 100, 101]) 82 [some (.ref 42), some (.int (iI x)), some (.int (iI F)), some (.int (iI u)), some (.int (iI E)), some (.int (iI t)), some (.int (iI h)), some (.int (iI c)), w8, w9, w10, w11] [] τ := by
  intro n
  induction n using Nat.strongRecOn with
  | ind n ih =>
    intro τ c w8 w9 w10 w11 hn hN hD hL hH hrk hrc hc0 hc1
    obtain ⟨hR1, hR2, hR3⟩ := hR
    obtain ⟨⟨hx0, hx1⟩, ⟨hF0, hF1⟩, ⟨hFE, hE1⟩, ⟨hu0, hu1⟩, ⟨ht0, ht1⟩⟩ := hok
    have hcl := hI.clock
    have hce := hI.cells
    refine aw_iload rfl rfl rfl ?_
    refine aw_aload_n rfl rfl rfl ?_
    refine aw_gp (2) hN rfl rfl (hN.f.k 42 rfl) rfl rfl (fun _ _ => ?_)
    refine aw_icmp (p' := 339) rfl ⟨by omega, by omega⟩ ⟨by omega, by omega⟩ rfl rfl (fun c22 => ?_) (fun c22 => ?_)
    · dsimp only [zc] at c22
      refine aw_iinc rfl rfl rfl rfl ?_
      change aw _ _ _ _ 342 [some (.ref 42), some (.int (iI _)), some (.int (iI _)), some (.int (iI _)), some (.int (iI _)), some (.int (iI _)), some (.int (iI _)), some (.int (iI _)), _, _, _, _] _ _
      refine aw_goto (p' := 51) rfl rfl ?_
      refine hK _ _ _ _ _ _ hN (hD.su (T := [82, 83, 88, 89, 90, 91, 92, 93, 96, 97, 98, 99, 100]) rfl) (fun k q1 q2 => ?_)
      by_cases ek : k = h
      · rw [ek]
        intro e e0 e1
        exact hrc e e0 (by omega)
      · exact hrk k (by omega) q2
    · dsimp only [zc] at c22
      refine aw_sipush rfl rfl rfl ?_
      refine aw_iload rfl rfl rfl ?_
      refine aw_imul rfl rfl ?_
      refine aw_iload rfl rfl rfl ?_
      refine aw_iadd rfl rfl ?_
      refine aw_istore rfl (Nat.le_of_ble_eq_true rfl) rfl rfl ?_
      change aw _ _ _ _ 102 [some (.ref 42), some (.int (iI _)), some (.int (iI _)), some (.int (iI _)), some (.int (iI _)), some (.int (iI _)), some (.int (iI _)), some (.int (iI _)), some (.int (iI _)), _, _, _] _ _
      refine aw_aload_n rfl rfl rfl ?_
      refine aw_getr (b := 96) rfl rfl (hN.f.k 42 rfl) (hN.f.r 42 80 96 rfl) rfl ?_
      refine aw_iload rfl rfl rfl ?_
      refine aw_aload_n rfl rfl rfl ?_
      refine aw_getr (b := 91) rfl rfl (hN.f.k 42 rfl) (hN.f.r 42 74 91 rfl) rfl ?_
      refine aw_iload rfl rfl rfl ?_
      refine aw_bs (N := 192) rfl (hN.f.s 91 rfl) (by decide) (by omega) (by omega) (by omega) rfl (fun _ _ => ?_)
      rw [hL.opn hc0 (by omega)]
      have hob := bI_r (mOpen A c x (A 42 3))
      refine aw_if (p' := 148) rfl ⟨by omega, by omega⟩ rfl rfl (fun c23 => ?_) (fun c23 => ?_)
      · dsimp only [zc] at c23
        refine aw_iconst rfl rfl ?_
        exact m_walk_l149 hM hI ⟨hR1, hR2, hR3⟩ hA ⟨⟨hx0, hx1⟩, ⟨hF0, hF1⟩, ⟨hFE, hE1⟩, ⟨hu0, hu1⟩, ⟨ht0, ht1⟩⟩ hF hE hc0 (by omega) (fun τ v1 v2 v3 v4 k1 k2 k3 k4 k5 k6 => ih _ (by omega) _ _ _ _ _ _ rfl k1 k2 k3 k4 k5 k6 (by omega) (by omega)) _ _ _ _ _ hN hD hL hH hrk hrc (by first | (rw [bI_t ⟨Classical.not_not.mp (fun q => by have := (bI_zero (mOpen A c x (A 42 3))).mpr q; omega), by assumption, by omega⟩]; done) | (rw [bI_f (by rintro ⟨q1, q2, q3⟩; first | omega | exact q2 (by assumption) | exact (bI_zero (mOpen A c x (A 42 3))).mp (by omega) q1)]))
      · dsimp only [zc] at c23
        refine aw_aload_n rfl rfl rfl ?_
        refine aw_iload rfl rfl rfl ?_
        refine aw_iload_n rfl rfl rfl ?_
        refine aw_iload rfl rfl rfl ?_
        refine aw_fnc (m_isTaken hN hI ⟨by omega, by omega⟩ hx0 hx1 (by omega) (by omega)) rfl rfl rfl (Nat.le_of_ble_eq_true rfl) (Or.inr ⟨_, rfl, (hN.f.k 42 rfl)⟩) rfl ?_
        refine aw_ifneb (p' := 148) rfl rfl rfl (fun c24 => ?_) (fun c24 => ?_)
        · refine aw_iconst rfl rfl ?_
          exact m_walk_l149 hM hI ⟨hR1, hR2, hR3⟩ hA ⟨⟨hx0, hx1⟩, ⟨hF0, hF1⟩, ⟨hFE, hE1⟩, ⟨hu0, hu1⟩, ⟨ht0, ht1⟩⟩ hF hE hc0 (by omega) (fun τ v1 v2 v3 v4 k1 k2 k3 k4 k5 k6 => ih _ (by omega) _ _ _ _ _ _ rfl k1 k2 k3 k4 k5 k6 (by omega) (by omega)) _ _ _ _ _ hN hD hL hH hrk hrc (by first | (rw [bI_t ⟨Classical.not_not.mp (fun q => by have := (bI_zero (mOpen A c x (A 42 3))).mpr q; omega), by assumption, by omega⟩]; done) | (rw [bI_f (by rintro ⟨q1, q2, q3⟩; first | omega | exact q2 (by assumption) | exact (bI_zero (mOpen A c x (A 42 3))).mp (by omega) q1)]))
        · refine aw_iload rfl rfl rfl ?_
          refine aw_iload rfl rfl rfl ?_
          refine aw_icmp (p' := 144) rfl ⟨by omega, by omega⟩ ⟨by omega, by omega⟩ rfl rfl (fun c25 => ?_) (fun c25 => ?_)
          · dsimp only [zc] at c25
            refine aw_iconst rfl rfl ?_
            refine aw_goto (p' := 149) rfl rfl ?_
            exact m_walk_l149 hM hI ⟨hR1, hR2, hR3⟩ hA ⟨⟨hx0, hx1⟩, ⟨hF0, hF1⟩, ⟨hFE, hE1⟩, ⟨hu0, hu1⟩, ⟨ht0, ht1⟩⟩ hF hE hc0 (by omega) (fun τ v1 v2 v3 v4 k1 k2 k3 k4 k5 k6 => ih _ (by omega) _ _ _ _ _ _ rfl k1 k2 k3 k4 k5 k6 (by omega) (by omega)) _ _ _ _ _ hN hD hL hH hrk hrc (by first | (rw [bI_t ⟨Classical.not_not.mp (fun q => by have := (bI_zero (mOpen A c x (A 42 3))).mpr q; omega), by assumption, by omega⟩]; done) | (rw [bI_f (by rintro ⟨q1, q2, q3⟩; first | omega | exact q2 (by assumption) | exact (bI_zero (mOpen A c x (A 42 3))).mp (by omega) q1)]))
          · dsimp only [zc] at c25
            refine aw_iload rfl rfl rfl ?_
            refine aw_iload rfl rfl rfl ?_
            refine aw_icmp (p' := 148) rfl ⟨by omega, by omega⟩ ⟨by omega, by omega⟩ rfl rfl (fun c26 => ?_) (fun c26 => ?_)
            · dsimp only [zc] at c26
              refine aw_iconst rfl rfl ?_
              exact m_walk_l149 hM hI ⟨hR1, hR2, hR3⟩ hA ⟨⟨hx0, hx1⟩, ⟨hF0, hF1⟩, ⟨hFE, hE1⟩, ⟨hu0, hu1⟩, ⟨ht0, ht1⟩⟩ hF hE hc0 (by omega) (fun τ v1 v2 v3 v4 k1 k2 k3 k4 k5 k6 => ih _ (by omega) _ _ _ _ _ _ rfl k1 k2 k3 k4 k5 k6 (by omega) (by omega)) _ _ _ _ _ hN hD hL hH hrk hrc (by first | (rw [bI_t ⟨Classical.not_not.mp (fun q => by have := (bI_zero (mOpen A c x (A 42 3))).mpr q; omega), by assumption, by omega⟩]; done) | (rw [bI_f (by rintro ⟨q1, q2, q3⟩; first | omega | exact q2 (by assumption) | exact (bI_zero (mOpen A c x (A 42 3))).mp (by omega) q1)]))
            · dsimp only [zc] at c26
              refine aw_iconst rfl rfl ?_
              refine aw_goto (p' := 149) rfl rfl ?_
              exact m_walk_l149 hM hI ⟨hR1, hR2, hR3⟩ hA ⟨⟨hx0, hx1⟩, ⟨hF0, hF1⟩, ⟨hFE, hE1⟩, ⟨hu0, hu1⟩, ⟨ht0, ht1⟩⟩ hF hE hc0 (by omega) (fun τ v1 v2 v3 v4 k1 k2 k3 k4 k5 k6 => ih _ (by omega) _ _ _ _ _ _ rfl k1 k2 k3 k4 k5 k6 (by omega) (by omega)) _ _ _ _ _ hN hD hL hH hrk hrc (by first | (rw [bI_t ⟨Classical.not_not.mp (fun q => by have := (bI_zero (mOpen A c x (A 42 3))).mpr q; omega), by assumption, by omega⟩]; done) | (rw [bI_f (by rintro ⟨q1, q2, q3⟩; first | omega | exact q2 (by assumption) | exact (bI_zero (mOpen A c x (A 42 3))).mp (by omega) q1)]))
set_option maxRecDepth 10000 in
set_option maxHeartbeats 2000000 in
theorem m_walk_l51 {d : Nat} {sz : Nat} {A : Nat → Int → Int} {σ : az_S} (hM : MV sz A σ) (hI : MI sz A) {R : tRules} (hR : PW R) (hA : mTar A R) {x F u E t : Int} (hok : ((0 ≤ x ∧ x ≤ 3599) ∧ (0 ≤ F ∧ F ≤ 11) ∧ (F ≤ E ∧ E ≤ 11) ∧ (0 ≤ u ∧ u ≤ A 42 2 - 1) ∧ (0 ≤ t ∧ t ≤ A 42 2 - 1))) : ∀ (n : Nat) (τ : az_S) (h : Int) (w7 w8 w9 w10 w11 : Option Value), (h + 1 - F).toNat = n → MV sz A τ → Mod σ τ [82, 83, 88, 89, 90, 91, 92, 93, 96, 97, 98, 99, 100] → F - 1 ≤ h → h ≤ E → (∀ k : Int, h < k → k ≤ E → wRw A (wD A R x E t (E - k).toNat) k (A 42 2) τ) → aw (d + 5) k_X12_walk (some .int) (fun r τ => r = some (.int (iI (mWalk A R x F u E t))) ∧ MV sz (m_walk_op A R x F u E t) τ ∧ Mod σ τ [42, 82, 83, 88, 89, 90, 91, 92, 93, 96, 97, 98, 99, 100, 101]) 51 [some (.ref 42), some (.int (iI x)), some (.int (iI F)), some (.int (iI u)), some (.int (iI E)), some (.int (iI t)), some (.int (iI h)), w7, w8, w9, w10, w11] [] τ := by
  intro n
  induction n using Nat.strongRecOn with
  | ind n ih =>
    intro τ h w7 w8 w9 w10 w11 hn hN hD hh0 hh1 hrk
    obtain ⟨hR1, hR2, hR3⟩ := hR
    obtain ⟨⟨hx0, hx1⟩, ⟨hF0, hF1⟩, ⟨hFE, hE1⟩, ⟨hu0, hu1⟩, ⟨ht0, ht1⟩⟩ := hok
    have hcl := hI.clock
    have hce := hI.cells
    refine aw_iload rfl rfl rfl ?_
    refine aw_iload_n rfl rfl rfl ?_
    refine aw_icmp (p' := 345) rfl ⟨by omega, by omega⟩ ⟨by omega, by omega⟩ rfl rfl (fun c27 => ?_) (fun c27 => ?_)
    · dsimp only [zc] at c27
      refine aw_sipush rfl rfl rfl ?_
      refine aw_iload_n rfl rfl rfl ?_
      refine aw_imul rfl rfl ?_
      refine aw_iload_n rfl rfl rfl ?_
      refine aw_iadd rfl rfl ?_
      refine aw_istore rfl (Nat.le_of_ble_eq_true rfl) rfl rfl ?_
      change aw _ _ _ _ 354 [some (.ref 42), some (.int (iI _)), some (.int (iI _)), some (.int (iI _)), some (.int (iI _)), some (.int (iI _)), some (.int (iI _)), _, _, _, _, _] _ _
      refine aw_aload_n rfl rfl rfl ?_
      refine aw_getr (b := 99) rfl rfl (hN.f.k 42 rfl) (hN.f.r 42 83 99 rfl) rfl ?_
      refine aw_iload rfl rfl rfl ?_
      refine aw_as (N := 2304) rfl (hN.f.s 99 rfl) (by omega) (by omega) (by omega) rfl (fun _ _ => ?_)
      rw [(hrk F (by omega) (by omega) u (by omega) (by omega)).1]
      have hwF := wD_b hI ⟨hR1, hR2, hR3⟩ (t := t) hx0 hx1 hE1 (E - F).toNat (by omega) u (by omega) (by omega)
      refine aw_sipush rfl rfl rfl ?_
      refine aw_icmp (p' := 369) rfl ⟨by omega, by omega⟩ ⟨by omega, by omega⟩ rfl rfl (fun c28 => ?_) (fun c28 => ?_)
      · dsimp only [zc] at c28
        refine aw_aload_n rfl rfl rfl ?_
        refine aw_iload rfl rfl rfl ?_
        refine aw_iload_n rfl rfl rfl ?_
        refine aw_isub rfl rfl ?_
        refine aw_iconst rfl rfl ?_
        refine aw_iadd rfl rfl ?_
        refine aw_fp (85) hN rfl rfl (hN.f.k 42 rfl) rfl (fun _ => rfl) rfl ⟨by omega, by omega⟩ rfl (fun τ29 hM29 hD29 => ?_)
        refine aw_aload_n rfl rfl rfl ?_
        refine aw_aload_n rfl rfl rfl ?_
        refine aw_getr (b := 100) rfl rfl (hM29.f.k 42 rfl) (hM29.f.r 42 84 100 rfl) rfl ?_
        refine aw_iload rfl rfl rfl ?_
        refine aw_lz (N := 2304) rfl (hM29.f.s 100 rfl) (by omega) (by omega) (by omega) rfl (fun _ _ => ?_)
        rw [hD29.q 100 rfl, (hrk F (by omega) (by omega) u (by omega) (by omega)).2]
        refine aw_fl hM29 rfl rfl (hM29.f.k 42 rfl) (by omega) (by omega) rfl (fun τ30 hM30 hD30 => ?_)
        refine aw_iload_n rfl rfl rfl ?_
        refine aw_istore rfl (Nat.le_of_ble_eq_true rfl) rfl rfl ?_
        change aw _ _ _ _ 393 [some (.ref 42), some (.int (iI _)), some (.int (iI _)), some (.int (iI _)), some (.int (iI _)), some (.int (iI _)), some (.int (iI _)), some (.int (iI _)), _, _, _, _] _ _
        refine aw_iload_n rfl rfl rfl ?_
        refine aw_istore rfl (Nat.le_of_ble_eq_true rfl) rfl rfl ?_
        change aw _ _ _ _ 396 [some (.ref 42), some (.int (iI _)), some (.int (iI _)), some (.int (iI _)), some (.int (iI _)), some (.int (iI _)), some (.int (iI _)), some (.int (iI _)), some (.int (iI _)), _, _, _] _ _
        have hok2 : wOk A R x F u E t := ⟨by omega, by assumption⟩
        refine m_walk_l396 hM hI ⟨hR1, hR2, hR3⟩ hA hok2 _ _ _ _ _ _ _ rfl ?_ (((hD.su (T := [42, 82, 83, 88, 89, 90, 91, 92, 93, 96, 97, 98, 99, 100, 101]) rfl).tr (hD29.su (T := [42, 82, 83, 88, 89, 90, 91, 92, 93, 96, 97, 98, 99, 100, 101]) rfl)).tr (hD30.su (T := [42, 82, 83, 88, 89, 90, 91, 92, 93, 96, 97, 98, 99, 100, 101]) rfl)) (by omega) (by omega) (fun _ => by rw [Int.sub_self]; rfl) (fun k q1 q2 => ((hrk k (by omega) q2).mod hD29 rfl rfl).mod hD30 rfl rfl)
        rw [Int.sub_self]
        exact hM30
      · dsimp only [zc] at c28
        refine aw_iconst rfl rfl ?_
        refine aw_reti rfl ?_
        have hno : ¬ wOk A R x F u E t := fun q => by have := q.2; omega
        refine ⟨?_, ?_, (hD.su (T := [42, 82, 83, 88, 89, 90, 91, 92, 93, 96, 97, 98, 99, 100, 101]) rfl)⟩
        · unfold mWalk; rw [zit_f hno]
        · unfold m_walk_op; rw [tit_f hno]; exact hN
    · dsimp only [zc] at c27
      refine aw_aload_n rfl rfl rfl ?_
      refine aw_iload_n rfl rfl rfl ?_
      refine aw_iload rfl rfl rfl ?_
      refine aw_aload_n rfl rfl rfl ?_
      refine aw_gp (3) hN rfl rfl (hN.f.k 42 rfl) rfl rfl (fun _ _ => ?_)
      refine aw_calc (m_looks hN hI (by omega) (by omega) (by omega) (by omega) (by omega) (by omega)) rfl rfl rfl (Nat.le_of_ble_eq_true rfl) (Or.inr ⟨_, rfl, (hN.f.k 42 rfl)⟩) rfl ?_
      rintro _ τ31 ⟨rfl, hM31, hD31, hU31⟩
      change aw _ _ _ _ 68 [some (.ref 42), some (.int (iI _)), some (.int (iI _)), some (.int (iI _)), some (.int (iI _)), some (.int (iI _)), some (.int (iI _)), _, _, _, _, _] [] _
      refine aw_aload_n rfl rfl rfl ?_
      refine aw_iload_n rfl rfl rfl ?_
      refine aw_iload rfl rfl rfl ?_
      refine aw_aload_n rfl rfl rfl ?_
      refine aw_gp (3) hM31 rfl rfl (hM31.f.k 42 rfl) rfl rfl (fun _ _ => ?_)
      refine aw_calc (m_holds hM31 hI (by omega) (by omega) (by omega) (by omega) (by omega) (by omega)) rfl rfl rfl (Nat.le_of_ble_eq_true rfl) (Or.inr ⟨_, rfl, (hM31.f.k 42 rfl)⟩) rfl ?_
      rintro _ τ32 ⟨rfl, hM32, hD32, hU32⟩
      change aw _ _ _ _ 79 [some (.ref 42), some (.int (iI _)), some (.int (iI _)), some (.int (iI _)), some (.int (iI _)), some (.int (iI _)), some (.int (iI _)), _, _, _, _, _] [] _
      refine aw_iconst rfl rfl ?_
      refine aw_istore rfl (Nat.le_of_ble_eq_true rfl) rfl rfl ?_
      change aw _ _ _ _ 82 [some (.ref 42), some (.int (iI _)), some (.int (iI _)), some (.int (iI _)), some (.int (iI _)), some (.int (iI _)), some (.int (iI _)), some (.int (iI _)), _, _, _, _] _ _
      exact m_walk_l82 hM hI ⟨hR1, hR2, hR3⟩ hA ⟨⟨hx0, hx1⟩, ⟨hF0, hF1⟩, ⟨hFE, hE1⟩, ⟨hu0, hu1⟩, ⟨ht0, ht1⟩⟩ (by omega) (by omega) (fun τ v1 v2 v3 v4 v5 k1 k2 k3 => ih _ (by omega) _ _ _ _ _ _ _ rfl k1 k2 (by omega) (by omega) (by rw [show h + -1 = h - 1 by omega]; exact k3)) _ _ 0 _ _ _ _ rfl hM32 (((hD.su (T := [82, 83, 88, 89, 90, 91, 92, 93, 96, 97, 98, 99, 100]) rfl).tr (hD31.su (T := [82, 83, 88, 89, 90, 91, 92, 93, 96, 97, 98, 99, 100]) rfl)).tr (hD32.su (T := [82, 83, 88, 89, 90, 91, 92, 93, 96, 97, 98, 99, 100]) rfl)) (hU31.mod hD32 rfl rfl rfl rfl) hU32 (fun k q1 q2 => ((hrk k q1 q2).mod hD31 rfl rfl).mod hD32 rfl rfl) (fun e _ _ => by omega) (by omega) (by omega)
set_option maxRecDepth 10000 in
set_option maxHeartbeats 2000000 in
theorem m_walk {d : Nat} {sz : Nat} {A : Nat → Int → Int} {σ : az_S} (hM : MV sz A σ) (hI : MI sz A) {R : tRules} (hR : PW R) (hA : mTar A R) {x F u E t : Int} (hx : inI x) (hF : inI F) (hu : inI u) (hE : inI E) (ht : inI t) : cal (d + 6) 245 [.ref 42, .int (iI x), .int (iI F), .int (iI u), .int (iI E), .int (iI t)] σ (fun r τ => r = some (.int (iI (mWalk A R x F u E t))) ∧ MV sz (m_walk_op A R x F u E t) τ ∧ Mod σ τ [42, 82, 83, 88, 89, 90, 91, 92, 93, 96, 97, 98, 99, 100, 101]) := by
  obtain ⟨hR1, hR2, hR3⟩ := hR
  obtain ⟨hx1, hx2⟩ := hx
  obtain ⟨hF1, hF2⟩ := hF
  obtain ⟨hu1, hu2⟩ := hu
  obtain ⟨hE1, hE2⟩ := hE
  obtain ⟨ht1, ht2⟩ := ht
  have hce := hI.cells
  have hcl := hI.clock
  refine cal_of (M := (yX12_walk, cX12_walk, 12, (some .int))) (cd := k_X12_walk) (L := [some (.ref 42), some (.int (iI x)), some (.int (iI F)), some (.int (iI u)), some (.int (iI E)), some (.int (iI t)), none, none, none, none, none, none]) rfl (Nat.le_of_ble_eq_true rfl) rfl rfl ?_
  refine aw_iload_n rfl rfl rfl ?_
  refine aw_fnc (m_isDay ⟨by omega, by omega⟩) rfl rfl rfl (Nat.le_of_ble_eq_true rfl) (Or.inl rfl) rfl ?_
  refine aw_ifeqb (p' := 45) rfl rfl rfl (fun c33 => ?_) (fun c33 => ?_)
  · refine aw_iconst rfl rfl ?_
    refine aw_reti rfl ?_
    have hno : ¬ wOk A R x F u E t := fun q => by have := q.1; omega
    refine ⟨?_, ?_, Mod.rf⟩
    · unfold mWalk; rw [zit_f hno]
    · unfold m_walk_op; rw [tit_f hno]; exact hM
  · refine aw_iload_n rfl rfl rfl ?_
    refine aw_fnc (m_isHour ⟨by omega, by omega⟩) rfl rfl rfl (Nat.le_of_ble_eq_true rfl) (Or.inl rfl) rfl ?_
    refine aw_ifeqb (p' := 45) rfl rfl rfl (fun c34 => ?_) (fun c34 => ?_)
    · refine aw_iconst rfl rfl ?_
      refine aw_reti rfl ?_
      have hno : ¬ wOk A R x F u E t := fun q => by have := q.1; omega
      refine ⟨?_, ?_, Mod.rf⟩
      · unfold mWalk; rw [zit_f hno]
      · unfold m_walk_op; rw [tit_f hno]; exact hM
    · refine aw_iload rfl rfl rfl ?_
      refine aw_i2l rfl ⟨by omega, by omega⟩ rfl ?_
      refine aw_iload_n rfl rfl rfl ?_
      refine aw_i2l rfl ⟨by omega, by omega⟩ rfl ?_
      refine aw_ldc2 (11) rfl rfl rfl ?_
      refine aw_fnc (m_in ⟨by omega, by omega⟩ ⟨by omega, by omega⟩ ⟨by omega, by omega⟩) rfl rfl rfl (Nat.le_of_ble_eq_true rfl) (Or.inl rfl) rfl ?_
      refine aw_ifeqb (p' := 45) rfl rfl rfl (fun c35 => ?_) (fun c35 => ?_)
      · refine aw_iconst rfl rfl ?_
        refine aw_reti rfl ?_
        have hno : ¬ wOk A R x F u E t := fun q => by have := q.1; omega
        refine ⟨?_, ?_, Mod.rf⟩
        · unfold mWalk; rw [zit_f hno]
        · unfold m_walk_op; rw [tit_f hno]; exact hM
      · refine aw_aload_n rfl rfl rfl ?_
        refine aw_iload_n rfl rfl rfl ?_
        refine aw_fnc (m_isCell hM hI ⟨by omega, by omega⟩) rfl rfl rfl (Nat.le_of_ble_eq_true rfl) (Or.inr ⟨_, rfl, (hM.f.k 42 rfl)⟩) rfl ?_
        refine aw_ifeqb (p' := 45) rfl rfl rfl (fun c36 => ?_) (fun c36 => ?_)
        · refine aw_iconst rfl rfl ?_
          refine aw_reti rfl ?_
          have hno : ¬ wOk A R x F u E t := fun q => by have := q.1; omega
          refine ⟨?_, ?_, Mod.rf⟩
          · unfold mWalk; rw [zit_f hno]
          · unfold m_walk_op; rw [tit_f hno]; exact hM
        · refine aw_aload_n rfl rfl rfl ?_
          refine aw_iload rfl rfl rfl ?_
          refine aw_fnc (m_isCell hM hI ⟨by omega, by omega⟩) rfl rfl rfl (Nat.le_of_ble_eq_true rfl) (Or.inr ⟨_, rfl, (hM.f.k 42 rfl)⟩) rfl ?_
          refine aw_ifneb (p' := 47) rfl rfl rfl (fun c37 => ?_) (fun c37 => ?_)
          · refine aw_iload rfl rfl rfl ?_
            refine aw_istore rfl (Nat.le_of_ble_eq_true rfl) rfl rfl ?_
            change aw _ _ _ _ 51 [some (.ref 42), some (.int (iI _)), some (.int (iI _)), some (.int (iI _)), some (.int (iI _)), some (.int (iI _)), some (.int (iI _)), none, none, none, none, none] _ _
            exact m_walk_l51 hM hI ⟨hR1, hR2, hR3⟩ hA (by omega) _ _ _ _ _ _ _ _ rfl hM Mod.rf (by omega) (by omega) (fun k q1 q2 => by omega)
          · refine aw_iconst rfl rfl ?_
            refine aw_reti rfl ?_
            have hno : ¬ wOk A R x F u E t := fun q => by have := q.1; omega
            refine ⟨?_, ?_, Mod.rf⟩
            · unfold mWalk; rw [zit_f hno]
            · unfold m_walk_op; rw [tit_f hno]; exact hM
