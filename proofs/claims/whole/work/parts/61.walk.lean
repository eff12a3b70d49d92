/-! WALKS -/
noncomputable def pit (p : Prop) (a b : Int × Int) : Int × Int := @ite (Int × Int) p (Classical.propDecidable p) a b
theorem pit_t {p : Prop} {a b : Int × Int} (h : p) : pit p a b = a := if_pos h
theorem pit_f {p : Prop} {a b : Int × Int} (h : ¬ p) : pit p a b = b := if_neg h
def wMay (A : Nat → Int → Int) (x E t h c : Int) : Prop := mOpen A c x (A 42 3) ∧ ¬ mTaken A c x h ∧ (h < E ∨ c = t)
noncomputable def wSun (A : Nat → Int → Int) (x h c : Int) : Int := if mMany A x h (A 42 3) c = 0 then 1 else 0
noncomputable def wCost (A : Nat → Int → Int) (R : tRules) (x h c : Int) : Int := mChg A R x h (A 42 3) c (-1) (-1)
def wBet (f : Int → Int × Int) (n b : Int) : Prop := (f n).1 < (f b).1 ∨ ((f n).1 = (f b).1 ∧ (f n).2 < (f b).2)
noncomputable def nxN (A : Nat → Int → Int) (f : Int → Int × Int) (c : Int) : Nat → Int
  | 0 => -1
  | k + 1 => zit ((0 ≤ mBeside A c k ∧ (f (mBeside A c k)).1 < 1000) ∧ (nxN A f c k < 0 ∨ wBet f (mBeside A c k) (nxN A f c k))) (mBeside A c k) (nxN A f c k)
noncomputable def wNx (A : Nat → Int → Int) (f : Int → Int × Int) (c : Int) : Int := nxN A f c 5
noncomputable def wD (A : Nat → Int → Int) (R : tRules) (x E t : Int) : Nat → Int → Int × Int
  | 0, c => pit (wMay A x E t E c) (wSun A x E c, wCost A R x E c) (1000, 0)
  | j + 1, c => pit (wMay A x E t (E - (j + 1)) c ∧ 0 ≤ wNx A (wD A R x E t j) c) (wSun A x (E - (j + 1)) c + (wD A R x E t j (wNx A (wD A R x E t j) c)).1, wCost A R x (E - (j + 1)) c + (wD A R x E t j (wNx A (wD A R x E t j) c)).2) (1000, 0)
theorem nxN_s {A : Nat → Int → Int} {f : Int → Int × Int} {c k : Int} (h : 0 ≤ k) : nxN A f c (k + 1).toNat = zit ((0 ≤ mBeside A c k ∧ (f (mBeside A c k)).1 < 1000) ∧ (nxN A f c k.toNat < 0 ∨ wBet f (mBeside A c k) (nxN A f c k.toNat))) (mBeside A c k) (nxN A f c k.toNat) := by
  obtain ⟨n, rfl⟩ := Int.eq_ofNat_of_zero_le h
  rw [show ((n : Int) + 1).toNat = n + 1 by omega, Int.toNat_natCast]
  rfl
theorem mBeside_r {sz : Nat} {A : Nat → Int → Int} (hI : MI sz A) {c k : Int} (hc0 : 0 ≤ c) (hc1 : c < A 42 2) : -1 ≤ mBeside A c k ∧ mBeside A c k < A 42 2 := by
  have hw := hI.wide
  have hh := hI.high
  have hce := hI.cells
  have d := cell_dm hI hc0 hc1
  have e := Int.emod_add_mul_ediv c (A 42 0)
  rw [gAt_in d.1 d.2.1] at d
  unfold mBeside
  by_cases k0 : k = 0
  · rw [if_pos k0]
    split
    · rename_i q
      have : A 42 0 * 1 ≤ A 42 0 * (c / A 42 0) := Int.mul_le_mul_of_nonneg_left (by omega) (by omega)
      omega
    · omega
  · rw [if_neg k0]
    split
    · split <;> omega
    · split
      · omega
      · split
        · split
          · rename_i q
            have := grid_b (w := A 42 0) (h := A 42 1) (x := c % A 42 0 + 1) (y := c / A 42 0) (by omega) (by omega) (by omega) (by omega)
            omega
          · omega
        · split
          · rename_i q
            have := grid_b (w := A 42 0) (h := A 42 1) (x := c % A 42 0) (y := c / A 42 0 + 1) (by omega) (by omega) (by omega) (by omega)
            rw [Int.add_mul] at this
            omega
          · omega
theorem nxN_r {sz : Nat} {A : Nat → Int → Int} (hI : MI sz A) {f : Int → Int × Int} {c : Int} (hc0 : 0 ≤ c) (hc1 : c < A 42 2) : ∀ n : Nat, (-1 ≤ nxN A f c n ∧ nxN A f c n < A 42 2) ∧ (0 ≤ nxN A f c n → (f (nxN A f c n)).1 < 1000) := by
  intro n
  have hce := hI.cells
  induction n with
  | zero => exact ⟨⟨by show (-1 : Int) ≤ -1; decide, by show (-1 : Int) < A 42 2; omega⟩, fun h => absurd h (by show ¬ (0 : Int) ≤ -1; decide)⟩
  | succ n ih =>
    have hb := mBeside_r hI (k := n) hc0 hc1
    have e : nxN A f c (n + 1) = zit ((0 ≤ mBeside A c n ∧ (f (mBeside A c n)).1 < 1000) ∧ (nxN A f c n < 0 ∨ wBet f (mBeside A c n) (nxN A f c n))) (mBeside A c n) (nxN A f c n) := rfl
    rw [e]
    rcases zit_or ((0 ≤ mBeside A c n ∧ (f (mBeside A c n)).1 < 1000) ∧ (nxN A f c n < 0 ∨ wBet f (mBeside A c n) (nxN A f c n))) (mBeside A c n) (nxN A f c n) with ⟨q, e1⟩ | ⟨q, e1⟩
    · rw [e1]; exact ⟨hb, fun _ => q.1.2⟩
    · rw [e1]; exact ih
theorem mChg_b {sz : Nat} {A : Nat → Int → Int} (hI : MI sz A) {R : tRules} (hR : PW R) {x h y c s p : Int} (hx0 : 0 ≤ x) (hx1 : x ≤ 3599) (hh0 : 0 ≤ h) (hh1 : h ≤ 11) (hs0 : -1 ≤ s) (hs1 : s ≤ 10) : 0 ≤ mChg A R x h y c s p ∧ mChg A R x h y c s p ≤ 24000000000 := by
  have hth := hI.things
  have h1 := sumN_b (f := mChF A R x h y c s p) (M := 1000000000) (A 42 12).toNat (fun i i0 i1 => by
    have hk := nm_ok hI (y := y) (c := c) hx0 hx1 hh0 hh1 hs0 hs1 i0 (by omega)
    have hb := gvR_b hk R hR.2.2
    show 0 ≤ zit _ _ _ ∧ zit _ _ _ ≤ _
    rcases zit_or (mIn A x h y c i ∧ (p = -1 ∨ mWho A i x h y = p)) (mCh1 A R x h y c s i) 0 with ⟨-, e⟩ | ⟨-, e⟩
    · rw [e]
      unfold mCh1 mx0
      split <;> omega
    · rw [e]; omega)
  unfold mChg
  omega
theorem wD_b {sz : Nat} {A : Nat → Int → Int} (hI : MI sz A) {R : tRules} (hR : PW R) {x E t : Int} (hx0 : 0 ≤ x) (hx1 : x ≤ 3599) (hE : E ≤ 11) : ∀ (j : Nat), (j : Int) ≤ E → ∀ c : Int, 0 ≤ c → c < A 42 2 → (((0 ≤ (wD A R x E t j c).1 ∧ (wD A R x E t j c).1 ≤ j + 1) ∨ (wD A R x E t j c).1 = 1000) ∧ (0 ≤ (wD A R x E t j c).2 ∧ (wD A R x E t j c).2 ≤ (j + 1) * 24000000000)) := by
  intro j
  have hs : ∀ h c : Int, 0 ≤ wSun A x h c ∧ wSun A x h c ≤ 1 := fun h c => by unfold wSun; split <;> omega
  induction j with
  | zero =>
    intro hj c c0 c1
    have hc := mChg_b hI hR (x := x) (h := E) (y := A 42 3) (c := c) (s := -1) (p := -1) hx0 hx1 (by omega) hE (by omega) (by omega)
    have h1 := hs E c
    by_cases q : wMay A x E t E c
    · rw [show wD A R x E t 0 c = (wSun A x E c, wCost A R x E c) from pit_t q]
      unfold wCost
      simp only
      omega
    · rw [show wD A R x E t 0 c = (1000, 0) from pit_f q]
      simp
  | succ j ih =>
    intro hj c c0 c1
    have hc := mChg_b hI hR (x := x) (h := E - (j + 1)) (y := A 42 3) (c := c) (s := -1) (p := -1) hx0 hx1 (by omega) (by omega) (by omega) (by omega)
    have h1 := hs (E - (j + 1)) c
    have hn := nxN_r hI (f := wD A R x E t j) c0 c1 5
    by_cases q : wMay A x E t (E - (j + 1)) c ∧ 0 ≤ wNx A (wD A R x E t j) c
    · have ih2 := ih (by omega) (wNx A (wD A R x E t j) c) q.2 hn.1.2
      have hl : (wD A R x E t j (wNx A (wD A R x E t j) c)).1 < 1000 := hn.2 q.2
      rw [show wD A R x E t (j + 1) c = _ from pit_t q]
      unfold wCost
      simp only
      omega
    · rw [show wD A R x E t (j + 1) c = (1000, 0) from pit_f q]
      simp
      omega
theorem wD_0 (A : Nat → Int → Int) (R : tRules) (x E t c : Int) : wD A R x E t 0 c = pit (wMay A x E t E c) (wSun A x E c, wCost A R x E c) (1000, 0) := rfl
theorem wD_s {A : Nat → Int → Int} {R : tRules} {x E t h c : Int} (hh : h < E) : wD A R x E t (E - h).toNat c = pit (wMay A x E t h c ∧ 0 ≤ wNx A (wD A R x E t (E - (h + 1)).toNat) c) (wSun A x h c + (wD A R x E t (E - (h + 1)).toNat (wNx A (wD A R x E t (E - (h + 1)).toNat) c)).1, wCost A R x h c + (wD A R x E t (E - (h + 1)).toNat (wNx A (wD A R x E t (E - (h + 1)).toNat) c)).2) (1000, 0) := by
  obtain ⟨j, hj⟩ : ∃ j : Nat, (E - h).toNat = j + 1 := ⟨(E - h).toNat - 1, by omega⟩
  rw [hj, show (E - (h + 1)).toNat = j by omega]
  show pit (wMay A x E t (E - (j + 1)) c ∧ _) (wSun A x (E - (j + 1)) c + _, wCost A R x (E - (j + 1)) c + _) _ = _
  rw [show E - ((j : Int) + 1) = h by omega]
def wRw (A : Nat → Int → Int) (f : Int → Int × Int) (k n : Int) (τ : az_S) : Prop := ∀ e : Int, 0 ≤ e → e < n → zx τ 99 (192 * k + e) = (f e).1 ∧ zq τ 100 (192 * k + e) = (f e).2
noncomputable def wPath (A : Nat → Int → Int) (R : tRules) (x E t : Int) (F u : Int) : Nat → Int
  | 0 => u
  | i + 1 => wNx A (wD A R x E t (E - (F + i + 1)).toNat) (wPath A R x E t F u i)
section AwWalk
variable {d : Nat} {cd : List az_I} {rt : Option FieldType} {P : Option Value → az_S → Prop} {pc p' : Nat} {L : az_V} {st : List Value} {σ : az_S} {sz : Nat} {A : Nat → Int → Int}
theorem V_pl {σ : az_S} {x : Int} (h1 : -9223372036854775808 ≤ x) (h2 : x < 9223372036854775808) : V (az_pl σ 42 86 (lI x)) = up (V σ) 42 86 x := by
  funext b w
  unfold up
  have e : ∀ c z, zx (az_pl σ 42 86 (lI x)) c z = zx σ c z := fun _ _ => rfl
  by_cases h : b = 42 ∧ w = 86
  · rw [if_pos h, h.1, h.2]
    show zq (az_pl σ 42 86 (lI x)) 42 86 = x
    have := zq_pl (σ := σ) (a := 42) (z := 86) (x := x) (by decide) h1 h2 42 86
    rw [if_pos ⟨rfl, rfl⟩] at this
    exact this
  · rw [if_neg h]
    unfold V
    cases hp : pA b with
    | true => exact e b w
    | false =>
      cases h42 : Nat.beq b 42 with
      | false => rfl
      | true =>
        have eb : b = 42 := Nat.eq_of_beq_eq_true h42
        subst eb
        simp only [e]
        by_cases hw : w < 0
        · rw [if_pos hw, if_pos hw]
        · rw [if_neg hw, if_neg hw]
          cases h86 : Nat.beq w.toNat 86 with
          | false => rfl
          | true =>
            have := Nat.eq_of_beq_eq_true h86
            exact absurd ⟨rfl, by omega⟩ h
theorem aw_fl {i : Nat} {x : Int} (hM : MV sz A σ) (hf : az_fetch cd pc = some (3, .putfield i, [13, 86])) (hk : az_ft 13 86 = 1) (hs : (az_sh σ 42).1 = 13) (hx1 : -9223372036854775808 ≤ x) (hx2 : x < 9223372036854775808) (hp : pc + 3 = p') (h : ∀ τ, MV sz (up A 42 86 x) τ → Mod σ τ [42] → aw d cd rt P p' L st τ) : aw d cd rt P pc L (.long (lI x) :: .ref 42 :: st) σ := by
  have hd : Mod σ (az_pl σ 42 86 (lI x)) [42] := Mod_pl (by simp)
  refine aw_putl hf hk hs hp (h _ ⟨hd.fx hM.1, ?_⟩ hd)
  rw [V_pl hx1 hx2, hM.2]
end AwWalk
set_option maxRecDepth 10000 in
set_option maxHeartbeats 2000000 in
theorem m_nextOf_l5 {d : Nat} {sz : Nat} {A : Nat → Int → Int} {σ : az_S} (hM : MV sz A σ) (hI : MI sz A) {f : Int → Int × Int} {c h : Int} (hc0 : 0 ≤ c) (hc1 : c < A 42 2) (hh0 : 0 ≤ h) (hh1 : h ≤ 10) (hrw : wRw A f (h + 1) (A 42 2) σ) (hfb : ∀ e : Int, 0 ≤ e → e < A 42 2 → (0 ≤ (f e).1 ∧ (f e).1 ≤ 1000) ∧ (0 ≤ (f e).2 ∧ (f e).2 ≤ 1000000000000)) : ∀ (n : Nat) (k b : Int) (w1 w2 w3 : Option Value), (5 - k).toNat = n → 0 ≤ k → k ≤ 5 → b = nxN A f c k.toNat → aw (d + 1) k_X12_nextOf (some .int) (fun r τ => r = some (.int (iI (wNx A f c))) ∧ τ = σ) 5 [some (.ref 42), some (.int (iI c)), some (.int (iI h)), some (.int (iI b)), some (.int (iI k)), w1, w2, w3] [] σ := by
  intro n
  induction n using Nat.strongRecOn with
  | ind n ih =>
    intro k b w1 w2 w3 hn hk0 hk1 hb
    have hce := hI.cells
    have hq := nxN_s (A := A) (f := f) (c := c) hk0
    have hr := nxN_r hI (f := f) hc0 hc1 k.toNat
    rw [← hb] at hq hr
    have hbs := mBeside_r hI (k := k) hc0 hc1
    have hv1 := fun q => hrw (mBeside A c k) q hbs.2
    have hv2 := fun q => hrw b q hr.1.2
    have hf1 := fun q => hfb (mBeside A c k) q hbs.2
    have hf2 := fun q => hfb b q hr.1.2
    refine aw_iload rfl rfl rfl ?_
    refine aw_iconst rfl rfl ?_
    refine aw_icmp (p' := 133) rfl ⟨by omega, by omega⟩ ⟨by omega, by omega⟩ rfl rfl (fun c1 => ?_) (fun c1 => ?_)
    · dsimp only [zc] at c1
      refine aw_iload_n rfl rfl rfl ?_
      refine aw_reti rfl ?_
      refine ⟨?_, rfl⟩
      rw [hb, show k = 5 by omega]
      rfl
    · dsimp only [zc] at c1
      refine aw_aload_n rfl rfl rfl ?_
      refine aw_iload_n rfl rfl rfl ?_
      refine aw_iload rfl rfl rfl ?_
      refine aw_fnc (m_beside hM hI (by omega) (by omega) (by omega) (by omega)) rfl rfl rfl (Nat.le_of_ble_eq_true rfl) (Or.inr ⟨_, rfl, (hM.f.k 42 rfl)⟩) rfl ?_
      refine aw_istore rfl (Nat.le_of_ble_eq_true rfl) rfl rfl ?_
      change aw _ _ _ _ 20 [some (.ref 42), some (.int (iI _)), some (.int (iI _)), some (.int (iI _)), some (.int (iI _)), some (.int (iI _)), _, _] _ _
      refine aw_sipush rfl rfl rfl ?_
      refine aw_iload_n rfl rfl rfl ?_
      refine aw_iconst rfl rfl ?_
      refine aw_iadd rfl rfl ?_
      refine aw_imul rfl rfl ?_
      refine aw_iload rfl rfl rfl ?_
      refine aw_iadd rfl rfl ?_
      refine aw_istore rfl (Nat.le_of_ble_eq_true rfl) rfl rfl ?_
      change aw _ _ _ _ 32 [some (.ref 42), some (.int (iI _)), some (.int (iI _)), some (.int (iI _)), some (.int (iI _)), some (.int (iI _)), some (.int (iI _)), _] _ _
      refine aw_iload rfl rfl rfl ?_
      refine aw_if (p' := 127) rfl ⟨by omega, by omega⟩ rfl rfl (fun c2 => ?_) (fun c2 => ?_)
      · dsimp only [zc] at c2
        refine aw_iinc rfl rfl rfl rfl ?_
        change aw _ _ _ _ 130 [some (.ref 42), some (.int (iI _)), some (.int (iI _)), some (.int (iI _)), some (.int (iI _)), some (.int (iI _)), some (.int (iI _)), _] _ _
        refine aw_goto (p' := 5) rfl rfl ?_
        refine ih _ (by omega) _ _ _ _ _ rfl (by omega) (by omega) ?_
        rw [hq]
        first | (rw [zit_t ⟨⟨by omega, by omega⟩, by first | (left; omega) | (right; unfold wBet; omega)⟩]; done) | (rw [zit_f (by unfold wBet; omega)])
      · dsimp only [zc] at c2
        have hv1 := hv1 (by omega)
        have hf1 := hf1 (by omega)
        refine aw_aload_n rfl rfl rfl ?_
        refine aw_getr (b := 99) rfl rfl (hM.f.k 42 rfl) (hM.f.r 42 83 99 rfl) rfl ?_
        refine aw_iload rfl rfl rfl ?_
        refine aw_as (N := 2304) rfl (hM.f.s 99 rfl) (by omega) (by omega) (by omega) rfl (fun _ _ => ?_)
        rw [hv1.1]
        refine aw_sipush rfl rfl rfl ?_
        refine aw_icmp (p' := 53) rfl ⟨by omega, by omega⟩ ⟨by omega, by omega⟩ rfl rfl (fun c3 => ?_) (fun c3 => ?_)
        · dsimp only [zc] at c3
          refine aw_sipush rfl rfl rfl ?_
          refine aw_iload_n rfl rfl rfl ?_
          refine aw_iconst rfl rfl ?_
          refine aw_iadd rfl rfl ?_
          refine aw_imul rfl rfl ?_
          refine aw_iload_n rfl rfl rfl ?_
          refine aw_iadd rfl rfl ?_
          refine aw_istore rfl (Nat.le_of_ble_eq_true rfl) rfl rfl ?_
          change aw _ _ _ _ 64 [some (.ref 42), some (.int (iI _)), some (.int (iI _)), some (.int (iI _)), some (.int (iI _)), some (.int (iI _)), some (.int (iI _)), some (.int (iI _))] _ _
          refine aw_iload_n rfl rfl rfl ?_
          refine aw_if (p' := 120) rfl ⟨by omega, by omega⟩ rfl rfl (fun c4 => ?_) (fun c4 => ?_)
          · dsimp only [zc] at c4
            refine aw_iload rfl rfl rfl ?_
            refine aw_goto (p' := 126) rfl rfl ?_
            refine aw_istore_n rfl (Nat.le_of_ble_eq_true rfl) rfl rfl ?_
            change aw _ _ _ _ 127 [some (.ref 42), some (.int (iI _)), some (.int (iI _)), some (.int (iI _)), some (.int (iI _)), some (.int (iI _)), some (.int (iI _)), some (.int (iI _))] _ _
            refine aw_iinc rfl rfl rfl rfl ?_
            change aw _ _ _ _ 130 [some (.ref 42), some (.int (iI _)), some (.int (iI _)), some (.int (iI _)), some (.int (iI _)), some (.int (iI _)), some (.int (iI _)), some (.int (iI _))] _ _
            refine aw_goto (p' := 5) rfl rfl ?_
            refine ih _ (by omega) _ _ _ _ _ rfl (by omega) (by omega) ?_
            rw [hq]
            first | (rw [zit_t ⟨⟨by omega, by omega⟩, by first | (left; omega) | (right; unfold wBet; omega)⟩]; done) | (rw [zit_f (by unfold wBet; omega)])
          · dsimp only [zc] at c4
            have hv2 := hv2 (by omega)
            have hf2 := hf2 (by omega)
            refine aw_aload_n rfl rfl rfl ?_
            refine aw_getr (b := 99) rfl rfl (hM.f.k 42 rfl) (hM.f.r 42 83 99 rfl) rfl ?_
            refine aw_iload rfl rfl rfl ?_
            refine aw_as (N := 2304) rfl (hM.f.s 99 rfl) (by omega) (by omega) (by omega) rfl (fun _ _ => ?_)
            rw [hv1.1]
            refine aw_aload_n rfl rfl rfl ?_
            refine aw_getr (b := 99) rfl rfl (hM.f.k 42 rfl) (hM.f.r 42 83 99 rfl) rfl ?_
            refine aw_iload rfl rfl rfl ?_
            refine aw_as (N := 2304) rfl (hM.f.s 99 rfl) (by omega) (by omega) (by omega) rfl (fun _ _ => ?_)
            rw [hv2.1]
            refine aw_icmp (p' := 120) rfl ⟨by omega, by omega⟩ ⟨by omega, by omega⟩ rfl rfl (fun c5 => ?_) (fun c5 => ?_)
            · dsimp only [zc] at c5
              refine aw_iload rfl rfl rfl ?_
              refine aw_goto (p' := 126) rfl rfl ?_
              refine aw_istore_n rfl (Nat.le_of_ble_eq_true rfl) rfl rfl ?_
              change aw _ _ _ _ 127 [some (.ref 42), some (.int (iI _)), some (.int (iI _)), some (.int (iI _)), some (.int (iI _)), some (.int (iI _)), some (.int (iI _)), some (.int (iI _))] _ _
              refine aw_iinc rfl rfl rfl rfl ?_
              change aw _ _ _ _ 130 [some (.ref 42), some (.int (iI _)), some (.int (iI _)), some (.int (iI _)), some (.int (iI _)), some (.int (iI _)), some (.int (iI _)), some (.int (iI _))] _ _
              refine aw_goto (p' := 5) rfl rfl ?_
              refine ih _ (by omega) _ _ _ _ _ rfl (by omega) (by omega) ?_
              rw [hq]
              first | (rw [zit_t ⟨⟨by omega, by omega⟩, by first | (left; omega) | (right; unfold wBet; omega)⟩]; done) | (rw [zit_f (by unfold wBet; omega)])
            · dsimp only [zc] at c5
              refine aw_aload_n rfl rfl rfl ?_
              refine aw_getr (b := 99) rfl rfl (hM.f.k 42 rfl) (hM.f.r 42 83 99 rfl) rfl ?_
              refine aw_iload rfl rfl rfl ?_
              refine aw_as (N := 2304) rfl (hM.f.s 99 rfl) (by omega) (by omega) (by omega) rfl (fun _ _ => ?_)
              rw [hv1.1]
              refine aw_aload_n rfl rfl rfl ?_
              refine aw_getr (b := 99) rfl rfl (hM.f.k 42 rfl) (hM.f.r 42 83 99 rfl) rfl ?_
              refine aw_iload rfl rfl rfl ?_
              refine aw_as (N := 2304) rfl (hM.f.s 99 rfl) (by omega) (by omega) (by omega) rfl (fun _ _ => ?_)
              rw [hv2.1]
              refine aw_icmp (p' := 125) rfl ⟨by omega, by omega⟩ ⟨by omega, by omega⟩ rfl rfl (fun c6 => ?_) (fun c6 => ?_)
              · dsimp only [zc] at c6
                refine aw_iload_n rfl rfl rfl ?_
                refine aw_istore_n rfl (Nat.le_of_ble_eq_true rfl) rfl rfl ?_
                change aw _ _ _ _ 127 [some (.ref 42), some (.int (iI _)), some (.int (iI _)), some (.int (iI _)), some (.int (iI _)), some (.int (iI _)), some (.int (iI _)), some (.int (iI _))] _ _
                refine aw_iinc rfl rfl rfl rfl ?_
                change aw _ _ _ _ 130 [some (.ref 42), some (.int (iI _)), some (.int (iI _)), some (.int (iI _)), some (.int (iI _)), some (.int (iI _)), some (.int (iI _)), some (.int (iI _))] _ _
                refine aw_goto (p' := 5) rfl rfl ?_
                refine ih _ (by omega) _ _ _ _ _ rfl (by omega) (by omega) ?_
                rw [hq]
                first | (rw [zit_t ⟨⟨by omega, by omega⟩, by first | (left; omega) | (right; unfold wBet; omega)⟩]; done) | (rw [zit_f (by unfold wBet; omega)])
              · dsimp only [zc] at c6
                refine aw_aload_n rfl rfl rfl ?_
                refine aw_getr (b := 100) rfl rfl (hM.f.k 42 rfl) (hM.f.r 42 84 100 rfl) rfl ?_
                refine aw_iload rfl rfl rfl ?_
                refine aw_lz (N := 2304) rfl (hM.f.s 100 rfl) (by omega) (by omega) (by omega) rfl (fun _ _ => ?_)
                rw [hv1.2]
                refine aw_aload_n rfl rfl rfl ?_
                refine aw_getr (b := 100) rfl rfl (hM.f.k 42 rfl) (hM.f.r 42 84 100 rfl) rfl ?_
                refine aw_iload rfl rfl rfl ?_
                refine aw_lz (N := 2304) rfl (hM.f.s 100 rfl) (by omega) (by omega) (by omega) rfl (fun _ _ => ?_)
                rw [hv2.2]
                refine aw_lcif (p' := 125) rfl rfl (by omega) (by omega) (by omega) (by omega) rfl rfl (fun c7 => ?_) (fun c7 => ?_)
                · dsimp only [zc] at c7
                  refine aw_iload_n rfl rfl rfl ?_
                  refine aw_istore_n rfl (Nat.le_of_ble_eq_true rfl) rfl rfl ?_
                  change aw _ _ _ _ 127 [some (.ref 42), some (.int (iI _)), some (.int (iI _)), some (.int (iI _)), some (.int (iI _)), some (.int (iI _)), some (.int (iI _)), some (.int (iI _))] _ _
                  refine aw_iinc rfl rfl rfl rfl ?_
                  change aw _ _ _ _ 130 [some (.ref 42), some (.int (iI _)), some (.int (iI _)), some (.int (iI _)), some (.int (iI _)), some (.int (iI _)), some (.int (iI _)), some (.int (iI _))] _ _
                  refine aw_goto (p' := 5) rfl rfl ?_
                  refine ih _ (by omega) _ _ _ _ _ rfl (by omega) (by omega) ?_
                  rw [hq]
                  first | (rw [zit_t ⟨⟨by omega, by omega⟩, by first | (left; omega) | (right; unfold wBet; omega)⟩]; done) | (rw [zit_f (by unfold wBet; omega)])
                · dsimp only [zc] at c7
                  refine aw_iload rfl rfl rfl ?_
                  refine aw_goto (p' := 126) rfl rfl ?_
                  refine aw_istore_n rfl (Nat.le_of_ble_eq_true rfl) rfl rfl ?_
                  change aw _ _ _ _ 127 [some (.ref 42), some (.int (iI _)), some (.int (iI _)), some (.int (iI _)), some (.int (iI _)), some (.int (iI _)), some (.int (iI _)), some (.int (iI _))] _ _
                  refine aw_iinc rfl rfl rfl rfl ?_
                  change aw _ _ _ _ 130 [some (.ref 42), some (.int (iI _)), some (.int (iI _)), some (.int (iI _)), some (.int (iI _)), some (.int (iI _)), some (.int (iI _)), some (.int (iI _))] _ _
                  refine aw_goto (p' := 5) rfl rfl ?_
                  refine ih _ (by omega) _ _ _ _ _ rfl (by omega) (by omega) ?_
                  rw [hq]
                  first | (rw [zit_t ⟨⟨by omega, by omega⟩, by first | (left; omega) | (right; unfold wBet; omega)⟩]; done) | (rw [zit_f (by unfold wBet; omega)])
        · dsimp only [zc] at c3
          refine aw_goto (p' := 127) rfl rfl ?_
          refine aw_iinc rfl rfl rfl rfl ?_
          change aw _ _ _ _ 130 [some (.ref 42), some (.int (iI _)), some (.int (iI _)), some (.int (iI _)), some (.int (iI _)), some (.int (iI _)), some (.int (iI _)), _] _ _
          refine aw_goto (p' := 5) rfl rfl ?_
          refine ih _ (by omega) _ _ _ _ _ rfl (by omega) (by omega) ?_
          rw [hq]
          first | (rw [zit_t ⟨⟨by omega, by omega⟩, by first | (left; omega) | (right; unfold wBet; omega)⟩]; done) | (rw [zit_f (by unfold wBet; omega)])
set_option maxRecDepth 10000 in
set_option maxHeartbeats 2000000 in
theorem m_nextOf {d : Nat} {sz : Nat} {A : Nat → Int → Int} {σ : az_S} (hM : MV sz A σ) (hI : MI sz A) {f : Int → Int × Int} {c h : Int} (hc0 : 0 ≤ c) (hc1 : c < A 42 2) (hh0 : 0 ≤ h) (hh1 : h ≤ 10) (hrw : wRw A f (h + 1) (A 42 2) σ) (hfb : ∀ e : Int, 0 ≤ e → e < A 42 2 → (0 ≤ (f e).1 ∧ (f e).1 ≤ 1000) ∧ (0 ≤ (f e).2 ∧ (f e).2 ≤ 1000000000000)) : fn (d + 2) 244 [.ref 42, .int (iI c), .int (iI h)] σ (.int (iI (wNx A f c))) := by
  have hce := hI.cells
  refine fn_of (M := (yX12_nextOf, cX12_nextOf, 8, (some .int))) (cd := k_X12_nextOf) (L := [some (.ref 42), some (.int (iI c)), some (.int (iI h)), none, none, none, none, none]) rfl (Nat.le_of_ble_eq_true rfl) rfl rfl ?_
  refine aw_iconst rfl rfl ?_
  refine aw_istore_n rfl (Nat.le_of_ble_eq_true rfl) rfl rfl ?_
  change aw _ _ _ _ 2 [some (.ref 42), some (.int (iI _)), some (.int (iI _)), some (.int (iI _)), none, none, none, none] _ _
  refine aw_iconst rfl rfl ?_
  refine aw_istore rfl (Nat.le_of_ble_eq_true rfl) rfl rfl ?_
  change aw _ _ _ _ 5 [some (.ref 42), some (.int (iI _)), some (.int (iI _)), some (.int (iI _)), some (.int (iI _)), none, none, none] _ _
  exact m_nextOf_l5 hM hI hc0 hc1 hh0 hh1 hrw hfb _ 0 (-1) _ _ _ rfl (by omega) (by omega) rfl
