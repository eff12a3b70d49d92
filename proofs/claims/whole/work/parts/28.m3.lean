/-! LOOKS: who shades what -/
def mSh (A : Nat → Int → Int) (x h y t c : Int) : Prop := 0 < mH A t x y ∧ mDark A (A 50 t) (A 54 t) (A 55 t) (mH A t x y) x h c ∧ mOpen A c x y
noncomputable def mManyN (A : Nat → Int → Int) (x h y c : Int) : Nat → Int
  | 0 => 0
  | n + 1 => @ite Int (mSh A x h y n c ∧ mManyN A x h y c n < 12) (Classical.propDecidable _) (mManyN A x h y c n + 1) (mManyN A x h y c n)
noncomputable def mSetN (A : Nat → Int → Int) (x h y c : Int) : Nat → Int
  | 0 => 0
  | n + 1 => @ite Int (mSh A x h y n c ∧ mManyN A x h y c n < 12) (Classical.propDecidable _) (mSetN A x h y c n + 2 ^ n) (mSetN A x h y c n)
noncomputable abbrev mMany (A : Nat → Int → Int) (x h y c : Int) : Int := mManyN A x h y c (A 42 12).toNat
noncomputable abbrev mSet (A : Nat → Int → Int) (x h y c : Int) : Int := mSetN A x h y c (A 42 12).toNat
theorem mManyN_r (A : Nat → Int → Int) (x h y c : Int) (n : Nat) : 0 ≤ mManyN A x h y c n ∧ mManyN A x h y c n ≤ 12 ∧ mManyN A x h y c n ≤ n := by
  induction n with
  | zero => unfold mManyN; omega
  | succ n ih => unfold mManyN; split <;> omega
theorem mSetN_r (A : Nat → Int → Int) (x h y c : Int) (n : Nat) : 0 ≤ mSetN A x h y c n ∧ mSetN A x h y c n < 2 ^ n := by
  induction n with
  | zero => unfold mSetN; decide
  | succ n ih =>
    unfold mSetN
    rw [Int.pow_succ]
    split <;> omega
theorem mSM_s {A : Nat → Int → Int} {x h y c t : Int} (ht : 0 ≤ t) : ((mSh A x h y t c ∧ mManyN A x h y c t.toNat < 12) → mManyN A x h y c (t + 1).toNat = mManyN A x h y c t.toNat + 1 ∧ mSetN A x h y c (t + 1).toNat = mSetN A x h y c t.toNat + 2 ^ t.toNat) ∧ (¬ (mSh A x h y t c ∧ mManyN A x h y c t.toNat < 12) → mManyN A x h y c (t + 1).toNat = mManyN A x h y c t.toNat ∧ mSetN A x h y c (t + 1).toNat = mSetN A x h y c t.toNat) := by
  obtain ⟨n, rfl⟩ := Int.eq_ofNat_of_zero_le ht
  have e : ((n : Int) + 1).toNat = n + 1 := by omega
  rw [e]
  simp only [Int.toNat_natCast]
  refine ⟨fun q => ⟨?_, ?_⟩, fun q => ⟨?_, ?_⟩⟩
  · conv => lhs; unfold mManyN
    exact if_pos q
  · conv => lhs; unfold mSetN
    exact if_pos q
  · conv => lhs; unfold mManyN
    exact if_neg q
  · conv => lhs; unfold mSetN
    exact if_neg q
def LKa (A : Nat → Int → Int) (x y n : Int) (τ : az_S) : Prop := ∀ u : Int, 0 ≤ u → u < n → zx τ 92 u = mH A u x y
def LKb (A : Nat → Int → Int) (x h y t : Int) (τ : az_S) : Prop := ∀ w : Int, 0 ≤ w → w < A 42 2 → zx τ 89 w = mSetN A x h y w t.toNat ∧ zx τ 90 w = mManyN A x h y w t.toNat ∧ zx τ 91 w = bI (mOpen A w x y)
/-- what looks leaves behind -/
def LK (A : Nat → Int → Int) (x h y : Int) (τ : az_S) : Prop := LKa A x y (A 42 12) τ ∧ LKb A x h y (A 42 12) τ
theorem LKa.mod {A : Nat → Int → Int} {x y n : Int} {σ τ : az_S} {S : List Nat} (h : LKa A x y n σ) (hd : Mod σ τ S) (h1 : S.contains 92 = false) : LKa A x y n τ := fun u a b => by rw [hd.z 92 h1]; exact h u a b
theorem LKb.mod {A : Nat → Int → Int} {x h y t : Int} {σ τ : az_S} {S : List Nat} (k : LKb A x h y t σ) (hd : Mod σ τ S) (h1 : S.contains 89 = false) (h2 : S.contains 90 = false) (h3 : S.contains 91 = false) : LKb A x h y t τ := fun w a b => by rw [hd.z 89 h1, hd.z 90 h2, hd.z 91 h3]; exact k w a b
theorem LK.mod {A : Nat → Int → Int} {x h y : Int} {σ τ : az_S} {S : List Nat} (k : LK A x h y σ) (hd : Mod σ τ S) (h1 : S.contains 89 = false) (h2 : S.contains 90 = false) (h3 : S.contains 91 = false) (h4 : S.contains 92 = false) : LK A x h y τ := ⟨k.1.mod hd h4, k.2.mod hd h1 h2 h3⟩
set_option maxRecDepth 10000 in
set_option maxHeartbeats 2000000 in
theorem m_looks_l157 {d : Nat} {sz : Nat} {A : Nat → Int → Int} {σ : az_S} (hM : MV sz A σ) (hI : MI sz A) {x h y : Int} (hx0 : 0 ≤ x) (hx1 : x ≤ 3599) (hh0 : 0 ≤ h) (hh1 : h ≤ 11) (hy0 : 0 ≤ y) (hy1 : y ≤ 3599) {t : Int} (ht0 : 0 ≤ t) (ht1 : t < A 42 12) (hp : 0 < mH A t x y) (hK : ∀ (τ : az_S) (v : Option Value), MV sz A τ → Mod σ τ [88, 89, 90, 91, 92] → LKa A x y (A 42 12) τ → LKb A x h y (t + 1) τ → aw (d + 3) k_X12_looks none (fun r τ => r = none ∧ MV sz A τ ∧ Mod σ τ [88, 89, 90, 91, 92] ∧ LK A x h y τ) 101 [some (.ref 42), some (.int (iI x)), some (.int (iI h)), some (.int (iI y)), some (.int (iI (t + 1))), v] [] τ) : ∀ (n : Nat) (τ : az_S) (c : Int), (A 42 2 - c).toNat = n → MV sz A τ → Mod σ τ [88, 89, 90, 91, 92] → 0 ≤ c → c ≤ A 42 2 → LKa A x y (A 42 12) τ → (∀ w, 0 ≤ w → w < A 42 2 → zx τ 88 w = bI (mDark A (A 50 t) (A 54 t) (A 55 t) (mH A t x y) x h w) ∧ zx τ 91 w = bI (mOpen A w x y)) → (∀ w, 0 ≤ w → w < c → zx τ 89 w = mSetN A x h y w (t + 1).toNat ∧ zx τ 90 w = mManyN A x h y w (t + 1).toNat) → (∀ w, c ≤ w → w < A 42 2 → zx τ 89 w = mSetN A x h y w t.toNat ∧ zx τ 90 w = mManyN A x h y w t.toNat) → aw (d + 3) k_X12_looks none (fun r τ => r = none ∧ MV sz A τ ∧ Mod σ τ [88, 89, 90, 91, 92] ∧ LK A x h y τ) 157 [some (.ref 42), some (.int (iI x)), some (.int (iI h)), some (.int (iI y)), some (.int (iI t)), some (.int (iI c))] [] τ := by
  intro n
  induction n using Nat.strongRecOn with
  | ind n ih =>
    intro τ c hn hN hD hc0 hc1 hA hX hB hC
    have hce := hI.cells
    have hth := hI.things
    have hp2 := p2_b (t := t) ht0 (by omega)
    have hs := mSM_s (A := A) (x := x) (h := h) (y := y) (c := c) ht0
    have e1 := bI_zero (mDark A (A 50 t) (A 54 t) (A 55 t) (mH A t x y) x h c)
    have e2 := bI_zero (mOpen A c x y)
    have rS := mSetN_r A x h y c t.toNat
    have rM := mManyN_r A x h y c t.toNat
    have dd : c < A 42 2 → (zx τ 88 c = bI (mDark A (A 50 t) (A 54 t) (A 55 t) (mH A t x y) x h c) ∧ zx τ 91 c = bI (mOpen A c x y)) ∧ zx τ 89 c = mSetN A x h y c t.toNat ∧ zx τ 90 c = mManyN A x h y c t.toNat := fun q => ⟨hX c hc0 q, hC c (by omega) q⟩
    refine aw_iload rfl rfl rfl ?_
    refine aw_aload_n rfl rfl rfl ?_
    refine aw_gp (2) hN rfl rfl (hN.f.k 42 rfl) rfl rfl (fun _ _ => ?_)
    refine aw_icmp (p' := 229) rfl ⟨by omega, by omega⟩ ⟨by omega, by omega⟩ rfl rfl (fun c1 => ?_) (fun c1 => ?_)
    · dsimp only [zc] at c1
      refine aw_iinc rfl rfl rfl rfl ?_
      change aw _ _ _ _ 232 [some (.ref 42), some (.int (iI _)), some (.int (iI _)), some (.int (iI _)), some (.int (iI _)), some (.int (iI _))] _ _
      refine aw_goto (p' := 101) rfl rfl ?_
      exact hK _ _ hN (hD.su (T := [88, 89, 90, 91, 92]) rfl) hA (fun w h1 h2 => ⟨(hB w h1 (by omega)).1, (hB w h1 (by omega)).2, (hX w h1 h2).2⟩)
    · dsimp only [zc] at c1
      have dd := dd (by omega)
      refine aw_aload_n rfl rfl rfl ?_
      refine aw_getr (b := 88) rfl rfl (hN.f.k 42 rfl) (hN.f.r 42 71 88 rfl) rfl ?_
      refine aw_iload rfl rfl rfl ?_
      refine aw_bs (N := 192) rfl (hN.f.s 88 rfl) (by decide) (by omega) (by omega) (by omega) rfl (fun _ _ => ?_)
      refine aw_if (p' := 223) rfl ⟨by omega, by omega⟩ rfl rfl (fun c2 => ?_) (fun c2 => ?_)
      · dsimp only [zc] at c2
        refine aw_iinc rfl rfl rfl rfl ?_
        change aw _ _ _ _ 226 [some (.ref 42), some (.int (iI _)), some (.int (iI _)), some (.int (iI _)), some (.int (iI _)), some (.int (iI _))] _ _
        refine aw_goto (p' := 157) rfl rfl ?_
        have hq := hs.2 (by rintro ⟨⟨-, q1, q2⟩, q3⟩; first | exact (e1.mp (by omega)) q1 | exact (e2.mp (by omega)) q2 | omega)
        refine ih _ (by omega) _ _ rfl hN (hD.su (T := [88, 89, 90, 91, 92]) rfl) (by omega) (by omega) hA hX (fun w h1 h2 => ?_) (fun w h1 h2 => hC w (by omega) h2)
        by_cases e : w = c
        · subst e
          exact ⟨by rw [dd.2.1, hq.2], by rw [dd.2.2, hq.1]⟩
        · exact hB w h1 (by omega)
      · dsimp only [zc] at c2
        refine aw_aload_n rfl rfl rfl ?_
        refine aw_getr (b := 91) rfl rfl (hN.f.k 42 rfl) (hN.f.r 42 74 91 rfl) rfl ?_
        refine aw_iload rfl rfl rfl ?_
        refine aw_bs (N := 192) rfl (hN.f.s 91 rfl) (by decide) (by omega) (by omega) (by omega) rfl (fun _ _ => ?_)
        refine aw_if (p' := 223) rfl ⟨by omega, by omega⟩ rfl rfl (fun c3 => ?_) (fun c3 => ?_)
        · dsimp only [zc] at c3
          refine aw_iinc rfl rfl rfl rfl ?_
          change aw _ _ _ _ 226 [some (.ref 42), some (.int (iI _)), some (.int (iI _)), some (.int (iI _)), some (.int (iI _)), some (.int (iI _))] _ _
          refine aw_goto (p' := 157) rfl rfl ?_
          have hq := hs.2 (by rintro ⟨⟨-, q1, q2⟩, q3⟩; first | exact (e1.mp (by omega)) q1 | exact (e2.mp (by omega)) q2 | omega)
          refine ih _ (by omega) _ _ rfl hN (hD.su (T := [88, 89, 90, 91, 92]) rfl) (by omega) (by omega) hA hX (fun w h1 h2 => ?_) (fun w h1 h2 => hC w (by omega) h2)
          by_cases e : w = c
          · subst e
            exact ⟨by rw [dd.2.1, hq.2], by rw [dd.2.2, hq.1]⟩
          · exact hB w h1 (by omega)
        · dsimp only [zc] at c3
          refine aw_aload_n rfl rfl rfl ?_
          refine aw_getr (b := 90) rfl rfl (hN.f.k 42 rfl) (hN.f.r 42 73 90 rfl) rfl ?_
          refine aw_iload rfl rfl rfl ?_
          refine aw_as (N := 192) rfl (hN.f.s 90 rfl) (by omega) (by omega) (by omega) rfl (fun _ _ => ?_)
          refine aw_bipush rfl rfl rfl ?_
          refine aw_icmp (p' := 223) rfl ⟨by omega, by omega⟩ ⟨by omega, by omega⟩ rfl rfl (fun c4 => ?_) (fun c4 => ?_)
          · dsimp only [zc] at c4
            refine aw_iinc rfl rfl rfl rfl ?_
            change aw _ _ _ _ 226 [some (.ref 42), some (.int (iI _)), some (.int (iI _)), some (.int (iI _)), some (.int (iI _)), some (.int (iI _))] _ _
            refine aw_goto (p' := 157) rfl rfl ?_
            have hq := hs.2 (by rintro ⟨⟨-, q1, q2⟩, q3⟩; first | exact (e1.mp (by omega)) q1 | exact (e2.mp (by omega)) q2 | omega)
            refine ih _ (by omega) _ _ rfl hN (hD.su (T := [88, 89, 90, 91, 92]) rfl) (by omega) (by omega) hA hX (fun w h1 h2 => ?_) (fun w h1 h2 => hC w (by omega) h2)
            by_cases e : w = c
            · subst e
              exact ⟨by rw [dd.2.1, hq.2], by rw [dd.2.2, hq.1]⟩
            · exact hB w h1 (by omega)
          · dsimp only [zc] at c4
            refine aw_aload_n rfl rfl rfl ?_
            refine aw_getr (b := 89) rfl rfl (hN.f.k 42 rfl) (hN.f.r 42 72 89 rfl) rfl ?_
            refine aw_iload rfl rfl rfl ?_
            refine aw_dup2 rfl rfl rfl rfl ?_
            refine aw_as (N := 192) rfl (hN.f.s 89 rfl) (by omega) (by omega) (by omega) rfl (fun _ _ => ?_)
            refine aw_iconst rfl rfl ?_
            refine aw_iload rfl rfl rfl ?_
            refine aw_ishl1 rfl (by omega) (by omega) rfl ?_
            refine aw_iorp rfl (by omega) (by omega) rfl ?_
            refine aw_ss (N := 192) hN rfl (hN.f.s 89 rfl) (by omega) rfl (by omega) (by omega) ⟨by omega, by omega⟩ rfl (fun τ5 hM5 hD5 hU5 => ?_)
            refine aw_aload_n rfl rfl rfl ?_
            refine aw_getr (b := 90) rfl rfl (hM5.f.k 42 rfl) (hM5.f.r 42 73 90 rfl) rfl ?_
            refine aw_iload rfl rfl rfl ?_
            refine aw_dup2 rfl rfl rfl rfl ?_
            refine aw_as (N := 192) rfl (hM5.f.s 90 rfl) (by omega) (by omega) (by omega) rfl (fun _ _ => ?_)
            rw [hD5.z 90 rfl]
            refine aw_iconst rfl rfl ?_
            refine aw_iadd rfl rfl ?_
            refine aw_ss (N := 192) hM5 rfl (hM5.f.s 90 rfl) (by omega) rfl (by omega) (by omega) ⟨by omega, by omega⟩ rfl (fun τ6 hM6 hD6 hU6 => ?_)
            refine aw_iinc rfl rfl rfl rfl ?_
            change aw _ _ _ _ 226 [some (.ref 42), some (.int (iI _)), some (.int (iI _)), some (.int (iI _)), some (.int (iI _)), some (.int (iI _))] _ _
            refine aw_goto (p' := 157) rfl rfl ?_
            have q1 : mDark A (A 50 t) (A 54 t) (A 55 t) (mH A t x y) x h c := Classical.byContradiction (fun q => by have := e1.mpr q; omega)
            have q2 : mOpen A c x y := Classical.byContradiction (fun q => by have := e2.mpr q; omega)
            have hq := hs.1 ⟨⟨hp, q1, q2⟩, by omega⟩
            refine ih _ (by omega) _ _ rfl hM6 (((hD.su (T := [88, 89, 90, 91, 92]) rfl).tr (hD5.su (T := [88, 89, 90, 91, 92]) rfl)).tr (hD6.su (T := [88, 89, 90, 91, 92]) rfl)) (by omega) (by omega) ((hA.mod hD5 rfl).mod hD6 rfl) (fun w h1 h2 => ⟨by rw [hD6.z 88 rfl, hD5.z 88 rfl, (hX w h1 h2).1], by rw [hD6.z 91 rfl, hD5.z 91 rfl, (hX w h1 h2).2]⟩) (fun w h1 h2 => ?_) (fun w h1 h2 => ?_)
            · by_cases e : w = c
              · subst e
                exact ⟨by rw [hD6.z 89 rfl, hU5, if_pos rfl, dd.2.1, hq.2], by rw [hU6, if_pos rfl, dd.2.2, hq.1]⟩
              · exact ⟨by rw [hD6.z 89 rfl, hU5, if_neg e, (hB w h1 (by omega)).1], by rw [hU6, if_neg e, hD5.z 90 rfl, (hB w h1 (by omega)).2]⟩
            · have e : w ≠ c := by omega
              exact ⟨by rw [hD6.z 89 rfl, hU5, if_neg e, (hC w (by omega) h2).1], by rw [hU6, if_neg e, hD5.z 90 rfl, (hC w (by omega) h2).2]⟩
set_option maxRecDepth 10000 in
set_option maxHeartbeats 2000000 in
theorem m_looks_l101 {d : Nat} {sz : Nat} {A : Nat → Int → Int} {σ : az_S} (hM : MV sz A σ) (hI : MI sz A) {x h y : Int} (hx0 : 0 ≤ x) (hx1 : x ≤ 3599) (hh0 : 0 ≤ h) (hh1 : h ≤ 11) (hy0 : 0 ≤ y) (hy1 : y ≤ 3599) : ∀ (n : Nat) (τ : az_S) (t : Int) (v : Option Value), (A 42 12 - t).toNat = n → MV sz A τ → Mod σ τ [88, 89, 90, 91, 92] → 0 ≤ t → t ≤ A 42 12 → LKa A x y (A 42 12) τ → LKb A x h y t τ → aw (d + 3) k_X12_looks none (fun r τ => r = none ∧ MV sz A τ ∧ Mod σ τ [88, 89, 90, 91, 92] ∧ LK A x h y τ) 101 [some (.ref 42), some (.int (iI x)), some (.int (iI h)), some (.int (iI y)), some (.int (iI t)), v] [] τ := by
  intro n
  induction n using Nat.strongRecOn with
  | ind n ih =>
    intro τ t v hn hN hD ht0 ht1 hA hB
    have hce := hI.cells
    have hth := hI.things
    have hT := fun q => hI.thing t ht0 q
    have hr := fun q => mH_range (hT q) x y
    refine aw_iload rfl rfl rfl ?_
    refine aw_aload_n rfl rfl rfl ?_
    refine aw_gp (12) hN rfl rfl (hN.f.k 42 rfl) rfl rfl (fun _ _ => ?_)
    refine aw_icmp (p' := 235) rfl ⟨by omega, by omega⟩ ⟨by omega, by omega⟩ rfl rfl (fun c7 => ?_) (fun c7 => ?_)
    · dsimp only [zc] at c7
      refine aw_retv rfl ?_
      refine ⟨rfl, hN, (hD.su (T := [88, 89, 90, 91, 92]) rfl), hA, ?_⟩
      rw [show t = A 42 12 by omega] at hB
      exact hB
    · dsimp only [zc] at c7
      refine aw_aload_n rfl rfl rfl ?_
      refine aw_getr (b := 92) rfl rfl (hN.f.k 42 rfl) (hN.f.r 42 75 92 rfl) rfl ?_
      refine aw_iload rfl rfl rfl ?_
      refine aw_as (N := 24) rfl (hN.f.s 92 rfl) (by omega) (by omega) (by omega) rfl (fun _ _ => ?_)
      rw [hA t ht0 (by omega)]
      have hr := hr (by omega)
      have hT := hT (by omega)
      obtain ⟨-, -, -, -, hce2, -, -, hll, -⟩ := hT
      refine aw_if (p' := 229) rfl ⟨by omega, by omega⟩ rfl rfl (fun c8 => ?_) (fun c8 => ?_)
      · dsimp only [zc] at c8
        refine aw_iinc rfl rfl rfl rfl ?_
        change aw _ _ _ _ 232 [some (.ref 42), some (.int (iI _)), some (.int (iI _)), some (.int (iI _)), some (.int (iI _)), _] _ _
        refine aw_goto (p' := 101) rfl rfl ?_
        refine ih _ (by omega) _ _ _ rfl hN (hD.su (T := [88, 89, 90, 91, 92]) rfl) (by omega) (by omega) hA (fun w h1 h2 => ?_)
        obtain ⟨a1, a2, a3⟩ := hB w h1 h2
        have hq := (mSM_s (A := A) (x := x) (h := h) (y := y) (c := w) ht0).2 (by rintro ⟨⟨q, -⟩, -⟩; omega)
        exact ⟨by rw [a1, hq.2], by rw [a2, hq.1], a3⟩
      · dsimp only [zc] at c8
        refine aw_aload_n rfl rfl rfl ?_
        refine aw_aload_n rfl rfl rfl ?_
        refine aw_getr (b := 50) rfl rfl (hN.f.k 42 rfl) (hN.f.r 42 14 50 rfl) rfl ?_
        refine aw_iload rfl rfl rfl ?_
        refine aw_ap (N := 24) hN rfl (hN.f.s 50 rfl) (by omega) rfl (by omega) (by omega) rfl (fun _ _ => ?_)
        refine aw_aload_n rfl rfl rfl ?_
        refine aw_getr (b := 54) rfl rfl (hN.f.k 42 rfl) (hN.f.r 42 18 54 rfl) rfl ?_
        refine aw_iload rfl rfl rfl ?_
        refine aw_ap (N := 24) hN rfl (hN.f.s 54 rfl) (by omega) rfl (by omega) (by omega) rfl (fun _ _ => ?_)
        refine aw_aload_n rfl rfl rfl ?_
        refine aw_getr (b := 55) rfl rfl (hN.f.k 42 rfl) (hN.f.r 42 19 55 rfl) rfl ?_
        refine aw_iload rfl rfl rfl ?_
        refine aw_ap (N := 24) hN rfl (hN.f.s 55 rfl) (by omega) rfl (by omega) (by omega) rfl (fun _ _ => ?_)
        refine aw_aload_n rfl rfl rfl ?_
        refine aw_getr (b := 92) rfl rfl (hN.f.k 42 rfl) (hN.f.r 42 75 92 rfl) rfl ?_
        refine aw_iload rfl rfl rfl ?_
        refine aw_as (N := 24) rfl (hN.f.s 92 rfl) (by omega) (by omega) (by omega) rfl (fun _ _ => ?_)
        rw [hA t ht0 (by omega)]
        refine aw_iload_n rfl rfl rfl ?_
        refine aw_iload_n rfl rfl rfl ?_
        refine aw_calc (m_shades hN hI (by omega) (by omega) (by omega) (by omega) (by omega) (by omega) (by omega) (by omega) (by omega) (by omega) (by omega) (by omega)) rfl rfl rfl (Nat.le_of_ble_eq_true rfl) (Or.inr ⟨_, rfl, (hN.f.k 42 rfl)⟩) rfl ?_
        rintro _ τ9 ⟨rfl, hM9, hD9, hU9⟩
        change aw _ _ _ _ 154 [some (.ref 42), some (.int (iI _)), some (.int (iI _)), some (.int (iI _)), some (.int (iI _)), _] [] _
        refine aw_iconst rfl rfl ?_
        refine aw_istore rfl (Nat.le_of_ble_eq_true rfl) rfl rfl ?_
        change aw _ _ _ _ 157 [some (.ref 42), some (.int (iI _)), some (.int (iI _)), some (.int (iI _)), some (.int (iI _)), some (.int (iI _))] _ _
        exact m_looks_l157 hM hI hx0 hx1 hh0 hh1 hy0 hy1 ht0 (by omega) (by omega) (fun τ v k1 k2 k3 k4 => ih _ (by omega) _ _ _ rfl k1 k2 (by omega) (by omega) k3 k4) _ _ 0 rfl hM9 ((hD.su (T := [88, 89, 90, 91, 92]) rfl).tr (hD9.su (T := [88, 89, 90, 91, 92]) rfl)) (by omega) (by omega) (hA.mod hD9 rfl) (fun w h1 h2 => ⟨hU9 w h1 h2, by rw [hD9.z 91 rfl, (hB w h1 h2).2.2]⟩) (fun w _ _ => by omega) (fun w h1 h2 => ⟨by rw [hD9.z 89 rfl, (hB w h1 h2).1], by rw [hD9.z 90 rfl, (hB w h1 h2).2.1]⟩)
set_option maxRecDepth 10000 in
set_option maxHeartbeats 2000000 in
theorem m_looks_l45 {d : Nat} {sz : Nat} {A : Nat → Int → Int} {σ : az_S} (hM : MV sz A σ) (hI : MI sz A) {x h y : Int} (hx0 : 0 ≤ x) (hx1 : x ≤ 3599) (hh0 : 0 ≤ h) (hh1 : h ≤ 11) (hy0 : 0 ≤ y) (hy1 : y ≤ 3599) : ∀ (n : Nat) (τ : az_S) (t : Int), (A 42 12 - t).toNat = n → MV sz A τ → Mod σ τ [88, 89, 90, 91, 92] → 0 ≤ t → t ≤ A 42 12 → LKa A x y t τ → (∀ w, 0 ≤ w → w < A 42 2 → zx τ 89 w = 0 ∧ zx τ 90 w = 0 ∧ zx τ 91 w = bI (mOpenTo A w x y t)) → aw (d + 3) k_X12_looks none (fun r τ => r = none ∧ MV sz A τ ∧ Mod σ τ [88, 89, 90, 91, 92] ∧ LK A x h y τ) 45 [some (.ref 42), some (.int (iI x)), some (.int (iI h)), some (.int (iI y)), some (.int (iI t)), none] [] τ := by
  intro n
  induction n using Nat.strongRecOn with
  | ind n ih =>
    intro τ t hn hN hD ht0 ht1 hA hB
    have hce := hI.cells
    have hth := hI.things
    have hT := fun q => hI.thing t ht0 q
    have hr := fun q => mH_range (hT q) x y
    refine aw_iload rfl rfl rfl ?_
    refine aw_aload_n rfl rfl rfl ?_
    refine aw_gp (12) hN rfl rfl (hN.f.k 42 rfl) rfl rfl (fun _ _ => ?_)
    refine aw_icmp (p' := 98) rfl ⟨by omega, by omega⟩ ⟨by omega, by omega⟩ rfl rfl (fun c10 => ?_) (fun c10 => ?_)
    · dsimp only [zc] at c10
      refine aw_iconst rfl rfl ?_
      refine aw_istore rfl (Nat.le_of_ble_eq_true rfl) rfl rfl ?_
      change aw _ _ _ _ 101 [some (.ref 42), some (.int (iI _)), some (.int (iI _)), some (.int (iI _)), some (.int (iI _)), none] _ _
      exact m_looks_l101 hM hI hx0 hx1 hh0 hh1 hy0 hy1 _ _ 0 _ rfl hN (hD.su (T := [88, 89, 90, 91, 92]) rfl) (by omega) (by omega) (fun u h1 h2 => hA u h1 (by omega)) (fun w h1 h2 => ⟨(hB w h1 h2).1, (hB w h1 h2).2.1, by rw [(hB w h1 h2).2.2, show t = A 42 12 by omega]⟩)
    · dsimp only [zc] at c10
      refine aw_aload_n rfl rfl rfl ?_
      refine aw_getr (b := 92) rfl rfl (hN.f.k 42 rfl) (hN.f.r 42 75 92 rfl) rfl ?_
      refine aw_iload rfl rfl rfl ?_
      refine aw_aload_n rfl rfl rfl ?_
      refine aw_iload rfl rfl rfl ?_
      refine aw_iload_n rfl rfl rfl ?_
      refine aw_iload_n rfl rfl rfl ?_
      refine aw_fnc (m_heightOf hN hI (by omega) (by omega) (by omega) (by omega) (by omega) (by omega)) rfl rfl rfl (Nat.le_of_ble_eq_true rfl) (Or.inr ⟨_, rfl, (hN.f.k 42 rfl)⟩) rfl ?_
      have hrH11 := mH_range (hI.thing t (by omega) (by omega)) x y
      refine aw_ss (N := 24) hN rfl (hN.f.s 92 rfl) (by omega) rfl (by omega) (by omega) ⟨by omega, by omega⟩ rfl (fun τ12 hM12 hD12 hU12 => ?_)
      refine aw_aload_n rfl rfl rfl ?_
      refine aw_getr (b := 92) rfl rfl (hM12.f.k 42 rfl) (hM12.f.r 42 75 92 rfl) rfl ?_
      refine aw_iload rfl rfl rfl ?_
      refine aw_as (N := 24) rfl (hM12.f.s 92 rfl) (by omega) (by omega) (by omega) rfl (fun _ _ => ?_)
      rw [hU12, if_pos rfl]
      have hr := hr (by omega)
      have hT := hT (by omega)
      obtain ⟨-, -, -, -, hce2, -⟩ := hT
      refine aw_if (p' := 92) rfl ⟨by omega, by omega⟩ rfl rfl (fun c13 => ?_) (fun c13 => ?_)
      · dsimp only [zc] at c13
        refine aw_iinc rfl rfl rfl rfl ?_
        change aw _ _ _ _ 95 [some (.ref 42), some (.int (iI _)), some (.int (iI _)), some (.int (iI _)), some (.int (iI _)), none] _ _
        refine aw_goto (p' := 45) rfl rfl ?_
        refine ih _ (by omega) _ _ rfl hM12 ((hD.su (T := [88, 89, 90, 91, 92]) rfl).tr (hD12.su (T := [88, 89, 90, 91, 92]) rfl)) (by omega) (by omega) (fun u h1 h2 => ?_) (fun w h1 h2 => ?_)
        · rw [hU12 u]
          split
          · rename_i e; rw [e]
          · exact hA u h1 (by omega)
        · obtain ⟨a1, a2, a3⟩ := hB w h1 h2
          have hs := mOpenTo_s (A := A) (c := w) (d := x) (k := y) ht0
          refine ⟨by rw [hD12.z 89 rfl, a1], by rw [hD12.z 90 rfl, a2], ?_⟩
          rw [hD12.z 91 rfl, a3]
          exact bI_congr (by rw [hs]; exact ⟨fun q => ⟨q, Or.inr (by omega)⟩, fun q => q.1⟩)
      · dsimp only [zc] at c13
        refine aw_aload_n rfl rfl rfl ?_
        refine aw_getr (b := 91) rfl rfl (hM12.f.k 42 rfl) (hM12.f.r 42 74 91 rfl) rfl ?_
        refine aw_aload_n rfl rfl rfl ?_
        refine aw_getr (b := 50) rfl rfl (hM12.f.k 42 rfl) (hM12.f.r 42 14 50 rfl) rfl ?_
        refine aw_iload rfl rfl rfl ?_
        refine aw_ap (N := 24) hM12 rfl (hM12.f.s 50 rfl) (by omega) rfl (by omega) (by omega) rfl (fun _ _ => ?_)
        refine aw_iconst rfl rfl ?_
        refine aw_sb (N := 192) hM12 rfl (hM12.f.s 91 rfl) (by omega) rfl (by omega) (by omega) (by first | omega | exact bI_01 _) rfl (fun τ14 hM14 hD14 hU14 => ?_)
        refine aw_iinc rfl rfl rfl rfl ?_
        change aw _ _ _ _ 95 [some (.ref 42), some (.int (iI _)), some (.int (iI _)), some (.int (iI _)), some (.int (iI _)), none] _ _
        refine aw_goto (p' := 45) rfl rfl ?_
        refine ih _ (by omega) _ _ rfl hM14 (((hD.su (T := [88, 89, 90, 91, 92]) rfl).tr (hD12.su (T := [88, 89, 90, 91, 92]) rfl)).tr (hD14.su (T := [88, 89, 90, 91, 92]) rfl)) (by omega) (by omega) (fun u h1 h2 => ?_) (fun w h1 h2 => ?_)
        · rw [hD14.z 92 rfl, hU12 u]
          split
          · rename_i e; rw [e]
          · exact hA u h1 (by omega)
        · obtain ⟨a1, a2, a3⟩ := hB w h1 h2
          have hs := mOpenTo_s (A := A) (c := w) (d := x) (k := y) ht0
          refine ⟨by rw [hD14.z 89 rfl, hD12.z 89 rfl, a1], by rw [hD14.z 90 rfl, hD12.z 90 rfl, a2], ?_⟩
          rw [hU14 w, hD12.z 91 rfl]
          split
          · rw [bI_zero', hs]; rintro ⟨-, q⟩; omega
          · rw [a3]; exact bI_congr (by rw [hs]; exact ⟨fun q => ⟨q, Or.inl (by omega)⟩, fun q => q.1⟩)
set_option maxRecDepth 10000 in
set_option maxHeartbeats 2000000 in
theorem m_looks_l3 {d : Nat} {sz : Nat} {A : Nat → Int → Int} {σ : az_S} (hM : MV sz A σ) (hI : MI sz A) {x h y : Int} (hx0 : 0 ≤ x) (hx1 : x ≤ 3599) (hh0 : 0 ≤ h) (hh1 : h ≤ 11) (hy0 : 0 ≤ y) (hy1 : y ≤ 3599) : ∀ (n : Nat) (τ : az_S) (j : Int), (A 42 2 - j).toNat = n → MV sz A τ → Mod σ τ [88, 89, 90, 91, 92] → 0 ≤ j → j ≤ A 42 2 → (∀ w, 0 ≤ w → w < j → zx τ 89 w = 0 ∧ zx τ 90 w = 0 ∧ zx τ 91 w = 1) → aw (d + 3) k_X12_looks none (fun r τ => r = none ∧ MV sz A τ ∧ Mod σ τ [88, 89, 90, 91, 92] ∧ LK A x h y τ) 3 [some (.ref 42), some (.int (iI x)), some (.int (iI h)), some (.int (iI y)), some (.int (iI j)), none] [] τ := by
  intro n
  induction n using Nat.strongRecOn with
  | ind n ih =>
    intro τ j hn hN hD hj0 hj1 hU
    have hce := hI.cells
    have hth := hI.things
    refine aw_iload rfl rfl rfl ?_
    refine aw_aload_n rfl rfl rfl ?_
    refine aw_gp (2) hN rfl rfl (hN.f.k 42 rfl) rfl rfl (fun _ _ => ?_)
    refine aw_icmp (p' := 42) rfl ⟨by omega, by omega⟩ ⟨by omega, by omega⟩ rfl rfl (fun c15 => ?_) (fun c15 => ?_)
    · dsimp only [zc] at c15
      refine aw_iconst rfl rfl ?_
      refine aw_istore rfl (Nat.le_of_ble_eq_true rfl) rfl rfl ?_
      change aw _ _ _ _ 45 [some (.ref 42), some (.int (iI _)), some (.int (iI _)), some (.int (iI _)), some (.int (iI _)), none] _ _
      exact m_looks_l45 hM hI hx0 hx1 hh0 hh1 hy0 hy1 _ _ 0 rfl hN (hD.su (T := [88, 89, 90, 91, 92]) rfl) (by omega) (by omega) (fun u _ _ => by omega) (fun w h1 h2 => ⟨(hU w h1 (by omega)).1, (hU w h1 (by omega)).2.1, by rw [(hU w h1 (by omega)).2.2, bI_one']; intro t q1 q2; omega⟩)
    · dsimp only [zc] at c15
      refine aw_aload_n rfl rfl rfl ?_
      refine aw_getr (b := 89) rfl rfl (hN.f.k 42 rfl) (hN.f.r 42 72 89 rfl) rfl ?_
      refine aw_iload rfl rfl rfl ?_
      refine aw_iconst rfl rfl ?_
      refine aw_ss (N := 192) hN rfl (hN.f.s 89 rfl) (by omega) rfl (by omega) (by omega) ⟨by omega, by omega⟩ rfl (fun τ16 hM16 hD16 hU16 => ?_)
      refine aw_aload_n rfl rfl rfl ?_
      refine aw_getr (b := 90) rfl rfl (hM16.f.k 42 rfl) (hM16.f.r 42 73 90 rfl) rfl ?_
      refine aw_iload rfl rfl rfl ?_
      refine aw_iconst rfl rfl ?_
      refine aw_ss (N := 192) hM16 rfl (hM16.f.s 90 rfl) (by omega) rfl (by omega) (by omega) ⟨by omega, by omega⟩ rfl (fun τ17 hM17 hD17 hU17 => ?_)
      refine aw_aload_n rfl rfl rfl ?_
      refine aw_getr (b := 91) rfl rfl (hM17.f.k 42 rfl) (hM17.f.r 42 74 91 rfl) rfl ?_
      refine aw_iload rfl rfl rfl ?_
      refine aw_iconst rfl rfl ?_
      refine aw_sb (N := 192) hM17 rfl (hM17.f.s 91 rfl) (by omega) rfl (by omega) (by omega) (by first | omega | exact bI_01 _) rfl (fun τ18 hM18 hD18 hU18 => ?_)
      refine aw_iinc rfl rfl rfl rfl ?_
      change aw _ _ _ _ 39 [some (.ref 42), some (.int (iI _)), some (.int (iI _)), some (.int (iI _)), some (.int (iI _)), none] _ _
      refine aw_goto (p' := 3) rfl rfl ?_
      refine ih _ (by omega) _ _ rfl hM18 ((((hD.su (T := [88, 89, 90, 91, 92]) rfl).tr (hD16.su (T := [88, 89, 90, 91, 92]) rfl)).tr (hD17.su (T := [88, 89, 90, 91, 92]) rfl)).tr (hD18.su (T := [88, 89, 90, 91, 92]) rfl)) (by omega) (by omega) (fun w h1 h2 => ?_)
      by_cases e : w = j
      · subst e
        exact ⟨by rw [hD18.z 89 rfl, hD17.z 89 rfl, hU16, if_pos rfl], by rw [hD18.z 90 rfl, hU17, if_pos rfl], by rw [hU18, if_pos rfl]⟩
      · obtain ⟨a1, a2, a3⟩ := hU w h1 (by omega)
        exact ⟨by rw [hD18.z 89 rfl, hD17.z 89 rfl, hU16, if_neg e, a1], by rw [hD18.z 90 rfl, hU17, if_neg e, hD16.z 90 rfl, a2], by rw [hU18, if_neg e, hD17.z 91 rfl, hD16.z 91 rfl, a3]⟩
set_option maxRecDepth 10000 in
set_option maxHeartbeats 2000000 in
theorem m_looks {d : Nat} {sz : Nat} {A : Nat → Int → Int} {σ : az_S} (hM : MV sz A σ) (hI : MI sz A) {x h y : Int} (hx0 : 0 ≤ x) (hx1 : x ≤ 3599) (hh0 : 0 ≤ h) (hh1 : h ≤ 11) (hy0 : 0 ≤ y) (hy1 : y ≤ 3599) : cal (d + 4) 187 [.ref 42, .int (iI x), .int (iI h), .int (iI y)] σ (fun r τ => r = none ∧ MV sz A τ ∧ Mod σ τ [88, 89, 90, 91, 92] ∧ LK A x h y τ) := by
  have hce := hI.cells
  have hth := hI.things
  refine cal_of (M := (yX12_looks, cX12_looks, 6, none)) (cd := k_X12_looks) (L := [some (.ref 42), some (.int (iI x)), some (.int (iI h)), some (.int (iI y)), none, none]) rfl (Nat.le_of_ble_eq_true rfl) rfl rfl ?_
  refine aw_iconst rfl rfl ?_
  refine aw_istore rfl (Nat.le_of_ble_eq_true rfl) rfl rfl ?_
  change aw _ _ _ _ 3 [some (.ref 42), some (.int (iI _)), some (.int (iI _)), some (.int (iI _)), some (.int (iI _)), none] _ _
  exact m_looks_l3 hM hI hx0 hx1 hh0 hh1 hy0 hy1 _ _ 0 rfl hM Mod.rf (by omega) (by omega) (fun w _ _ => by omega)
