def mServ (A : Nat → Int → Int) (c x h tl s : Int) : Prop := 0 ≤ A 87 (12 * s + h) ∧ (A 85 s ≤ x ∧ x ≤ A 86 s) ∧ mOpen A (A 87 (12 * s + h)) x (A 42 3) ∧ mMany A x h (A 42 3) (A 87 (12 * s + h)) = 0 ∧ mDark A c 0 0 tl x h (A 87 (12 * s + h))
noncomputable def mServH (A : Nat → Int → Int) (x tl c h : Int) : Int := zit (mOpen A c x (A 42 3)) (cntN (mServ A c x h tl) (A 42 66).toNat) 0
noncomputable def mSrv (A : Nat → Int → Int) (x tl c : Int) : Int := sumN (mServH A x tl c) 12
def mMayB (A : Nat → Int → Int) (x c : Int) : Prop := mOpen A c x (A 42 3) ∧ ∀ h : Int, 0 ≤ h → h < 12 → ¬ mTaken A c x h
noncomputable def mBestN (A : Nat → Int → Int) (x tl : Int) : Nat → Int
  | 0 => -1
  | n + 1 => zit (mMayB A x n ∧ (mBestN A x tl n < 0 ∨ mSrv A x tl (mBestN A x tl n) < mSrv A x tl n)) n (mBestN A x tl n)
theorem mBestN_s {A : Nat → Int → Int} {x tl c : Int} (h0 : 0 ≤ c) : mBestN A x tl (c + 1).toNat = zit (mMayB A x c ∧ (mBestN A x tl c.toNat < 0 ∨ mSrv A x tl (mBestN A x tl c.toNat) < mSrv A x tl c)) c (mBestN A x tl c.toNat) := by
  obtain ⟨n, rfl⟩ := Int.eq_ofNat_of_zero_le h0
  have e : ((n : Int) + 1).toNat = n + 1 := by omega
  rw [e]
  rfl
theorem mBestN_r (A : Nat → Int → Int) (x tl : Int) (n : Nat) : -1 ≤ mBestN A x tl n ∧ mBestN A x tl n < n := by
  induction n with
  | zero => unfold mBestN; omega
  | succ n ih =>
    unfold mBestN
    rcases zit_or (mMayB A x n ∧ (mBestN A x tl n < 0 ∨ mSrv A x tl (mBestN A x tl n) < mSrv A x tl n)) n (mBestN A x tl n) with ⟨-, q⟩ | ⟨-, q⟩ <;> rw [q] <;> omega
noncomputable def mBest (A : Nat → Int → Int) (x tl : Int) : Int := mBestN A x tl (A 42 2).toNat
noncomputable def mBestS (A : Nat → Int → Int) (x tl : Int) : Int := if mBest A x tl < 0 then -1 else mSrv A x tl (mBest A x tl)
theorem mServH_b {sz : Nat} {A : Nat → Int → Int} (hI : MI sz A) (x tl c h : Int) : 0 ≤ mServH A x tl c h ∧ mServH A x tl c h ≤ 10 := by
  have hst := hI.stalls
  have hb := cntN_b (mServ A c x h tl) (A 42 66).toNat
  unfold mServH
  rcases zit_or (mOpen A c x (A 42 3)) (cntN (mServ A c x h tl) (A 42 66).toNat) 0 with ⟨-, q⟩ | ⟨-, q⟩ <;> rw [q] <;> omega
theorem mSrv_b {sz : Nat} {A : Nat → Int → Int} (hI : MI sz A) (x tl c : Int) : 0 ≤ mSrv A x tl c ∧ mSrv A x tl c ≤ 120 := by
  have := sumN_b (f := mServH A x tl c) (M := 10) 12 (fun i _ _ => mServH_b hI x tl c i)
  unfold mSrv
  omega
set_option maxRecDepth 10000 in
set_option maxHeartbeats 2000000 in
theorem m_servedBy_l17 {d : Nat} {sz : Nat} {A : Nat → Int → Int} {σ : az_S} (hM : MV sz A σ) (hI : MI sz A) {c x h tl : Int} (hc0 : 0 ≤ c) (hc : c < A 42 2) (hx0 : 0 ≤ x) (hx1 : x ≤ 3599) (hh0 : 0 ≤ h) (hh1 : h ≤ 11) (ht0 : 1 ≤ tl) (ht1 : tl ≤ 60) (hL : LK A x h (A 42 3) σ) : ∀ (n : Nat) (τ : az_S) (s n0 : Int) (v : Option Value), (A 42 66 - s).toNat = n → MV sz A τ → Mod σ τ [88] → 0 ≤ s → s ≤ A 42 66 → (∀ w, 0 ≤ w → w < A 42 2 → zx τ 88 w = bI (mDark A c 0 0 tl x h w)) → LK A x h (A 42 3) τ → n0 = cntN (mServ A c x h tl) s.toNat → aw (d + 3) k_X12_servedBy (some .int) (fun r τ => r = some (.int (iI (cntN (mServ A c x h tl) (A 42 66).toNat))) ∧ MV sz A τ ∧ Mod σ τ [88]) 17 [some (.ref 42), some (.int (iI c)), some (.int (iI x)), some (.int (iI h)), some (.int (iI tl)), some (.int (iI n0)), some (.int (iI s)), v] [] τ := by
  intro n
  induction n using Nat.strongRecOn with
  | ind n ih =>
    intro τ s n0 v hn hN hD hs0 hs1 hX hK hn0
    have hce := hI.cells
    have hst := hI.stalls
    have hcl := hI.clock
    have hq := cntN_s (p := (mServ A c x h tl)) hs0
    have hbb := cntN_b (mServ A c x h tl) s.toNat
    have hS := fun q => hI.stall s hs0 q
    have e1 := bI_zero (mOpen A (A 87 (12 * s + h)) x (A 42 3))
    have e2 := bI_zero (mDark A c 0 0 tl x h (A 87 (12 * s + h)))
    refine aw_iload rfl rfl rfl ?_
    refine aw_aload_n rfl rfl rfl ?_
    refine aw_gp (66) hN rfl rfl (hN.f.k 42 rfl) rfl rfl (fun _ _ => ?_)
    refine aw_icmp (p' := 115) rfl ⟨by omega, by omega⟩ ⟨by omega, by omega⟩ rfl rfl (fun c1 => ?_) (fun c1 => ?_)
    · dsimp only [zc] at c1
      refine aw_iload rfl rfl rfl ?_
      refine aw_reti rfl ?_
      refine ⟨?_, hN, (hD.su (T := [88]) rfl)⟩
      rw [hn0, show s = A 42 66 by omega]
    · dsimp only [zc] at c1
      obtain ⟨hS1, hS2⟩ := hS (by omega)
      have hS2 := hS2 h (by omega) (by omega)
      refine aw_aload_n rfl rfl rfl ?_
      refine aw_getr (b := 87) rfl rfl (hN.f.k 42 rfl) (hN.f.r 42 70 87 rfl) rfl ?_
      refine aw_bipush rfl rfl rfl ?_
      refine aw_iload rfl rfl rfl ?_
      refine aw_imul rfl rfl ?_
      refine aw_iload_n rfl rfl rfl ?_
      refine aw_iadd rfl rfl ?_
      refine aw_ap (N := 120) hN rfl (hN.f.s 87 rfl) (by omega) rfl (by omega) (by omega) rfl (fun _ _ => ?_)
      refine aw_istore rfl (Nat.le_of_ble_eq_true rfl) rfl rfl ?_
      change aw _ _ _ _ 40 [some (.ref 42), some (.int (iI _)), some (.int (iI _)), some (.int (iI _)), some (.int (iI _)), some (.int (iI _)), some (.int (iI _)), some (.int (iI _))] _ _
      refine aw_iload rfl rfl rfl ?_
      refine aw_iload rfl rfl rfl ?_
      refine aw_if (p' := 105) rfl ⟨by omega, by omega⟩ rfl rfl (fun c2 => ?_) (fun c2 => ?_)
      · dsimp only [zc] at c2
        refine aw_iconst rfl rfl ?_
        refine aw_iadd rfl rfl ?_
        refine aw_istore rfl (Nat.le_of_ble_eq_true rfl) rfl rfl ?_
        change aw _ _ _ _ 109 [some (.ref 42), some (.int (iI _)), some (.int (iI _)), some (.int (iI _)), some (.int (iI _)), some (.int (iI _)), some (.int (iI _)), some (.int (iI _))] _ _
        refine aw_iinc rfl rfl rfl rfl ?_
        change aw _ _ _ _ 112 [some (.ref 42), some (.int (iI _)), some (.int (iI _)), some (.int (iI _)), some (.int (iI _)), some (.int (iI _)), some (.int (iI _)), some (.int (iI _))] _ _
        refine aw_goto (p' := 17) rfl rfl ?_
        refine ih _ (by omega) _ _ _ _ rfl hN (hD.su (T := [88]) rfl) (by omega) (by omega) hX hK ?_
        rw [hq, ← hn0]
        first | rw [bI_f (by rintro ⟨q1, q2, q3, q4, q5⟩; first | omega | exact (e1.mp (by omega)) q3 | exact (e2.mp (by omega)) q5)] | rw [bI_t ⟨by omega, by omega, Classical.byContradiction (fun q => by have := e1.mpr q; omega), by omega, Classical.byContradiction (fun q => by have := e2.mpr q; omega)⟩]
      · dsimp only [zc] at c2
        refine aw_iload_n rfl rfl rfl ?_
        refine aw_i2l rfl ⟨by omega, by omega⟩ rfl ?_
        refine aw_aload_n rfl rfl rfl ?_
        refine aw_getr (b := 85) rfl rfl (hN.f.k 42 rfl) (hN.f.r 42 68 85 rfl) rfl ?_
        refine aw_iload rfl rfl rfl ?_
        refine aw_ap (N := 10) hN rfl (hN.f.s 85 rfl) (by omega) rfl (by omega) (by omega) rfl (fun _ _ => ?_)
        refine aw_i2l rfl ⟨by omega, by omega⟩ rfl ?_
        refine aw_aload_n rfl rfl rfl ?_
        refine aw_getr (b := 86) rfl rfl (hN.f.k 42 rfl) (hN.f.r 42 69 86 rfl) rfl ?_
        refine aw_iload rfl rfl rfl ?_
        refine aw_ap (N := 10) hN rfl (hN.f.s 86 rfl) (by omega) rfl (by omega) (by omega) rfl (fun _ _ => ?_)
        refine aw_i2l rfl ⟨by omega, by omega⟩ rfl ?_
        refine aw_fnc (m_in ⟨by omega, by omega⟩ ⟨by omega, by omega⟩ ⟨by omega, by omega⟩) rfl rfl rfl (Nat.le_of_ble_eq_true rfl) (Or.inl rfl) rfl ?_
        refine aw_ifeqb (p' := 105) rfl rfl rfl (fun c3 => ?_) (fun c3 => ?_)
        · refine aw_iconst rfl rfl ?_
          refine aw_iadd rfl rfl ?_
          refine aw_istore rfl (Nat.le_of_ble_eq_true rfl) rfl rfl ?_
          change aw _ _ _ _ 109 [some (.ref 42), some (.int (iI _)), some (.int (iI _)), some (.int (iI _)), some (.int (iI _)), some (.int (iI _)), some (.int (iI _)), some (.int (iI _))] _ _
          refine aw_iinc rfl rfl rfl rfl ?_
          change aw _ _ _ _ 112 [some (.ref 42), some (.int (iI _)), some (.int (iI _)), some (.int (iI _)), some (.int (iI _)), some (.int (iI _)), some (.int (iI _)), some (.int (iI _))] _ _
          refine aw_goto (p' := 17) rfl rfl ?_
          refine ih _ (by omega) _ _ _ _ rfl hN (hD.su (T := [88]) rfl) (by omega) (by omega) hX hK ?_
          rw [hq, ← hn0]
          first | rw [bI_f (by rintro ⟨q1, q2, q3, q4, q5⟩; first | omega | exact (e1.mp (by omega)) q3 | exact (e2.mp (by omega)) q5)] | rw [bI_t ⟨by omega, by omega, Classical.byContradiction (fun q => by have := e1.mpr q; omega), by omega, Classical.byContradiction (fun q => by have := e2.mpr q; omega)⟩]
        · refine aw_aload_n rfl rfl rfl ?_
          refine aw_getr (b := 91) rfl rfl (hN.f.k 42 rfl) (hN.f.r 42 74 91 rfl) rfl ?_
          refine aw_iload rfl rfl rfl ?_
          refine aw_bs (N := 192) rfl (hN.f.s 91 rfl) (by decide) (by omega) (by omega) (by omega) rfl (fun _ _ => ?_)
          rw [hK.opn (by omega) (by omega)]
          have r1 := bI_r (mOpen A (A 87 (12 * s + h)) x (A 42 3))
          refine aw_if (p' := 105) rfl ⟨by omega, by omega⟩ rfl rfl (fun c4 => ?_) (fun c4 => ?_)
          · dsimp only [zc] at c4
            refine aw_iconst rfl rfl ?_
            refine aw_iadd rfl rfl ?_
            refine aw_istore rfl (Nat.le_of_ble_eq_true rfl) rfl rfl ?_
            change aw _ _ _ _ 109 [some (.ref 42), some (.int (iI _)), some (.int (iI _)), some (.int (iI _)), some (.int (iI _)), some (.int (iI _)), some (.int (iI _)), some (.int (iI _))] _ _
            refine aw_iinc rfl rfl rfl rfl ?_
            change aw _ _ _ _ 112 [some (.ref 42), some (.int (iI _)), some (.int (iI _)), some (.int (iI _)), some (.int (iI _)), some (.int (iI _)), some (.int (iI _)), some (.int (iI _))] _ _
            refine aw_goto (p' := 17) rfl rfl ?_
            refine ih _ (by omega) _ _ _ _ rfl hN (hD.su (T := [88]) rfl) (by omega) (by omega) hX hK ?_
            rw [hq, ← hn0]
            first | rw [bI_f (by rintro ⟨q1, q2, q3, q4, q5⟩; first | omega | exact (e1.mp (by omega)) q3 | exact (e2.mp (by omega)) q5)] | rw [bI_t ⟨by omega, by omega, Classical.byContradiction (fun q => by have := e1.mpr q; omega), by omega, Classical.byContradiction (fun q => by have := e2.mpr q; omega)⟩]
          · dsimp only [zc] at c4
            refine aw_aload_n rfl rfl rfl ?_
            refine aw_getr (b := 90) rfl rfl (hN.f.k 42 rfl) (hN.f.r 42 73 90 rfl) rfl ?_
            refine aw_iload rfl rfl rfl ?_
            refine aw_as (N := 192) rfl (hN.f.s 90 rfl) (by omega) (by omega) (by omega) rfl (fun _ _ => ?_)
            rw [hK.many (by omega) (by omega)]
            have r3 := mMany_r A x h (A 42 3) (A 87 (12 * s + h))
            refine aw_if (p' := 105) rfl ⟨by omega, by omega⟩ rfl rfl (fun c5 => ?_) (fun c5 => ?_)
            · dsimp only [zc] at c5
              refine aw_iconst rfl rfl ?_
              refine aw_iadd rfl rfl ?_
              refine aw_istore rfl (Nat.le_of_ble_eq_true rfl) rfl rfl ?_
              change aw _ _ _ _ 109 [some (.ref 42), some (.int (iI _)), some (.int (iI _)), some (.int (iI _)), some (.int (iI _)), some (.int (iI _)), some (.int (iI _)), some (.int (iI _))] _ _
              refine aw_iinc rfl rfl rfl rfl ?_
              change aw _ _ _ _ 112 [some (.ref 42), some (.int (iI _)), some (.int (iI _)), some (.int (iI _)), some (.int (iI _)), some (.int (iI _)), some (.int (iI _)), some (.int (iI _))] _ _
              refine aw_goto (p' := 17) rfl rfl ?_
              refine ih _ (by omega) _ _ _ _ rfl hN (hD.su (T := [88]) rfl) (by omega) (by omega) hX hK ?_
              rw [hq, ← hn0]
              first | rw [bI_f (by rintro ⟨q1, q2, q3, q4, q5⟩; first | omega | exact (e1.mp (by omega)) q3 | exact (e2.mp (by omega)) q5)] | rw [bI_t ⟨by omega, by omega, Classical.byContradiction (fun q => by have := e1.mpr q; omega), by omega, Classical.byContradiction (fun q => by have := e2.mpr q; omega)⟩]
            · dsimp only [zc] at c5
              refine aw_aload_n rfl rfl rfl ?_
              refine aw_getr (b := 88) rfl rfl (hN.f.k 42 rfl) (hN.f.r 42 71 88 rfl) rfl ?_
              refine aw_iload rfl rfl rfl ?_
              refine aw_bs (N := 192) rfl (hN.f.s 88 rfl) (by decide) (by omega) (by omega) (by omega) rfl (fun _ _ => ?_)
              rw [hX _ (by omega) (by omega)]
              have r2 := bI_r (mDark A c 0 0 tl x h (A 87 (12 * s + h)))
              refine aw_if (p' := 105) rfl ⟨by omega, by omega⟩ rfl rfl (fun c6 => ?_) (fun c6 => ?_)
              · dsimp only [zc] at c6
                refine aw_iconst rfl rfl ?_
                refine aw_iadd rfl rfl ?_
                refine aw_istore rfl (Nat.le_of_ble_eq_true rfl) rfl rfl ?_
                change aw _ _ _ _ 109 [some (.ref 42), some (.int (iI _)), some (.int (iI _)), some (.int (iI _)), some (.int (iI _)), some (.int (iI _)), some (.int (iI _)), some (.int (iI _))] _ _
                refine aw_iinc rfl rfl rfl rfl ?_
                change aw _ _ _ _ 112 [some (.ref 42), some (.int (iI _)), some (.int (iI _)), some (.int (iI _)), some (.int (iI _)), some (.int (iI _)), some (.int (iI _)), some (.int (iI _))] _ _
                refine aw_goto (p' := 17) rfl rfl ?_
                refine ih _ (by omega) _ _ _ _ rfl hN (hD.su (T := [88]) rfl) (by omega) (by omega) hX hK ?_
                rw [hq, ← hn0]
                first | rw [bI_f (by rintro ⟨q1, q2, q3, q4, q5⟩; first | omega | exact (e1.mp (by omega)) q3 | exact (e2.mp (by omega)) q5)] | rw [bI_t ⟨by omega, by omega, Classical.byContradiction (fun q => by have := e1.mpr q; omega), by omega, Classical.byContradiction (fun q => by have := e2.mpr q; omega)⟩]
              · dsimp only [zc] at c6
                refine aw_iconst rfl rfl ?_
                refine aw_goto (p' := 106) rfl rfl ?_
                refine aw_iadd rfl rfl ?_
                refine aw_istore rfl (Nat.le_of_ble_eq_true rfl) rfl rfl ?_
                change aw _ _ _ _ 109 [some (.ref 42), some (.int (iI _)), some (.int (iI _)), some (.int (iI _)), some (.int (iI _)), some (.int (iI _)), some (.int (iI _)), some (.int (iI _))] _ _
                refine aw_iinc rfl rfl rfl rfl ?_
                change aw _ _ _ _ 112 [some (.ref 42), some (.int (iI _)), some (.int (iI _)), some (.int (iI _)), some (.int (iI _)), some (.int (iI _)), some (.int (iI _)), some (.int (iI _))] _ _
                refine aw_goto (p' := 17) rfl rfl ?_
                refine ih _ (by omega) _ _ _ _ rfl hN (hD.su (T := [88]) rfl) (by omega) (by omega) hX hK ?_
                rw [hq, ← hn0]
                first | rw [bI_f (by rintro ⟨q1, q2, q3, q4, q5⟩; first | omega | exact (e1.mp (by omega)) q3 | exact (e2.mp (by omega)) q5)] | rw [bI_t ⟨by omega, by omega, Classical.byContradiction (fun q => by have := e1.mpr q; omega), by omega, Classical.byContradiction (fun q => by have := e2.mpr q; omega)⟩]
set_option maxRecDepth 10000 in
set_option maxHeartbeats 2000000 in
theorem m_servedBy {d : Nat} {sz : Nat} {A : Nat → Int → Int} {σ : az_S} (hM : MV sz A σ) (hI : MI sz A) {c x h tl : Int} (hc0 : 0 ≤ c) (hc : c < A 42 2) (hx0 : 0 ≤ x) (hx1 : x ≤ 3599) (hh0 : 0 ≤ h) (hh1 : h ≤ 11) (ht0 : 1 ≤ tl) (ht1 : tl ≤ 60) (hL : LK A x h (A 42 3) σ) : cal (d + 4) 247 [.ref 42, .int (iI c), .int (iI x), .int (iI h), .int (iI tl)] σ (fun r τ => r = some (.int (iI (cntN (mServ A c x h tl) (A 42 66).toNat))) ∧ MV sz A τ ∧ Mod σ τ [88]) := by
  have hce := hI.cells
  have hst := hI.stalls
  have hcl := hI.clock
  refine cal_of (M := (yX12_servedBy, cX12_servedBy, 8, (some .int))) (cd := k_X12_servedBy) (L := [some (.ref 42), some (.int (iI c)), some (.int (iI x)), some (.int (iI h)), some (.int (iI tl)), none, none, none]) rfl (Nat.le_of_ble_eq_true rfl) rfl rfl ?_
  refine aw_iconst rfl rfl ?_
  refine aw_istore rfl (Nat.le_of_ble_eq_true rfl) rfl rfl ?_
  change aw _ _ _ _ 3 [some (.ref 42), some (.int (iI _)), some (.int (iI _)), some (.int (iI _)), some (.int (iI _)), some (.int (iI _)), none, none] _ _
  refine aw_aload_n rfl rfl rfl ?_
  refine aw_iload_n rfl rfl rfl ?_
  refine aw_iconst rfl rfl ?_
  refine aw_iconst rfl rfl ?_
  refine aw_iload rfl rfl rfl ?_
  refine aw_iload_n rfl rfl rfl ?_
  refine aw_iload_n rfl rfl rfl ?_
  refine aw_calc (m_shades hM hI (by omega) (by omega) (by omega) (by omega) (by omega) (by omega) (by omega) (by omega) (by omega) (by omega) (by omega) (by omega)) rfl rfl rfl (Nat.le_of_ble_eq_true rfl) (Or.inr ⟨_, rfl, (hM.f.k 42 rfl)⟩) rfl ?_
  rintro _ τ7 ⟨rfl, hM7, hD7, hU7⟩
  change aw _ _ _ _ 14 [some (.ref 42), some (.int (iI _)), some (.int (iI _)), some (.int (iI _)), some (.int (iI _)), some (.int (iI _)), none, none] [] _
  refine aw_iconst rfl rfl ?_
  refine aw_istore rfl (Nat.le_of_ble_eq_true rfl) rfl rfl ?_
  change aw _ _ _ _ 17 [some (.ref 42), some (.int (iI _)), some (.int (iI _)), some (.int (iI _)), some (.int (iI _)), some (.int (iI _)), some (.int (iI _)), none] _ _
  exact m_servedBy_l17 hM hI hc0 hc hx0 hx1 hh0 hh1 ht0 ht1 hL _ _ 0 0 _ rfl hM7 (hD7.su (T := [88]) rfl) (by omega) (by omega) hU7 (hL.mod hD7 rfl rfl rfl rfl) rfl
set_option maxRecDepth 10000 in
set_option maxHeartbeats 2000000 in
theorem m_seeks_l128 {d : Nat} {sz : Nat} {A : Nat → Int → Int} {σ : az_S} (hM : MV sz A σ) (hI : MI sz A) {x tl : Int} (hx0 : 0 ≤ x) (hx1 : x ≤ 3599) (ht0 : 1 ≤ tl) (ht1 : tl ≤ 60) {τ : az_S} {c b : Int} (hN : MV sz A τ) (hD : Mod σ τ [42, 88, 89, 90, 91, 92, 102]) (hc0 : 0 ≤ c) (hc1 : c < A 42 2) (hU : ∀ w, 0 ≤ w → w < A 42 2 → zx τ 102 w = mSrv A x tl w) (hb : b = mBestN A x tl c.toNat) (hK : ∀ (b : Int) (u v : Option Value), b = mBestN A x tl (c + 1).toNat → aw (d + 4) k_X12_seeks (some .int) (fun r τ => r = some (.int (iI (mBest A x tl))) ∧ MV sz A τ ∧ Mod σ τ [42, 88, 89, 90, 91, 92, 102] ∧ zx τ 42 88 = mBestS A x tl) 103 [some (.ref 42), some (.int (iI x)), some (.int (iI tl)), some (.int (iI b)), some (.int (iI (c + 1))), u, v] [] τ) : ∀ (n : Nat) (h m : Int), (12 - h).toNat = n → 0 ≤ h → h ≤ 12 → m = bI (mOpen A c x (A 42 3) ∧ ∀ e : Int, 0 ≤ e → e < h → ¬ mTaken A c x e) → aw (d + 4) k_X12_seeks (some .int) (fun r τ => r = some (.int (iI (mBest A x tl))) ∧ MV sz A τ ∧ Mod σ τ [42, 88, 89, 90, 91, 92, 102] ∧ zx τ 42 88 = mBestS A x tl) 128 [some (.ref 42), some (.int (iI x)), some (.int (iI tl)), some (.int (iI b)), some (.int (iI c)), some (.int (iI m)), some (.int (iI h))] [] τ := by
  intro n
  induction n using Nat.strongRecOn with
  | ind n ih =>
    intro h m hn hh0 hh1 hm
    have hce := hI.cells
    have hst := hI.stalls
    have hcl := hI.clock
    have hbr := mBestN_r A x tl c.toNat
    rw [← hb] at hbr
    have hsb := mSrv_b hI x tl b
    have hsc := mSrv_b hI x tl c
    have hs := mBestN_s (A := A) (x := x) (tl := tl) hc0
    rw [← hb] at hs
    have hmr := bI_r (mOpen A c x (A 42 3) ∧ ∀ e : Int, 0 ≤ e → e < h → ¬ mTaken A c x e)
    have hz := bI_zero (mOpen A c x (A 42 3) ∧ ∀ e : Int, 0 ≤ e → e < h → ¬ mTaken A c x e)
    rw [← hm] at hmr hz
    refine aw_iload rfl rfl rfl ?_
    refine aw_bipush rfl rfl rfl ?_
    refine aw_icmp (p' := 165) rfl ⟨by omega, by omega⟩ ⟨by omega, by omega⟩ rfl rfl (fun c1 => ?_) (fun c1 => ?_)
    · dsimp only [zc] at c1
      refine aw_iload rfl rfl rfl ?_
      refine aw_if (p' := 195) rfl ⟨by omega, by omega⟩ rfl rfl (fun c2 => ?_) (fun c2 => ?_)
      · dsimp only [zc] at c2
        refine aw_iload_n rfl rfl rfl ?_
        refine aw_istore_n rfl (Nat.le_of_ble_eq_true rfl) rfl rfl ?_
        change aw _ _ _ _ 197 [some (.ref 42), some (.int (iI _)), some (.int (iI _)), some (.int (iI _)), some (.int (iI _)), some (.int (iI _)), some (.int (iI _))] _ _
        refine aw_iinc rfl rfl rfl rfl ?_
        change aw _ _ _ _ 200 [some (.ref 42), some (.int (iI _)), some (.int (iI _)), some (.int (iI _)), some (.int (iI _)), some (.int (iI _)), some (.int (iI _))] _ _
        refine aw_goto (p' := 103) rfl rfl ?_
        refine hK _ _ _ ?_
        rw [hs]
        have e12 : h = 12 := by omega
        rw [e12] at hz
        first | rw [zit_f (by rintro ⟨q1, q2⟩; first | omega | exact hz.mp (by omega) q1)] | rw [zit_t ⟨(Classical.byContradiction (fun q => by have := hz.mpr q; omega) : mMayB A x c), by omega⟩]
      · dsimp only [zc] at c2
        refine aw_iload_n rfl rfl rfl ?_
        refine aw_if (p' := 190) rfl ⟨by omega, by omega⟩ rfl rfl (fun c3 => ?_) (fun c3 => ?_)
        · dsimp only [zc] at c3
          refine aw_iload rfl rfl rfl ?_
          refine aw_goto (p' := 196) rfl rfl ?_
          refine aw_istore_n rfl (Nat.le_of_ble_eq_true rfl) rfl rfl ?_
          change aw _ _ _ _ 197 [some (.ref 42), some (.int (iI _)), some (.int (iI _)), some (.int (iI _)), some (.int (iI _)), some (.int (iI _)), some (.int (iI _))] _ _
          refine aw_iinc rfl rfl rfl rfl ?_
          change aw _ _ _ _ 200 [some (.ref 42), some (.int (iI _)), some (.int (iI _)), some (.int (iI _)), some (.int (iI _)), some (.int (iI _)), some (.int (iI _))] _ _
          refine aw_goto (p' := 103) rfl rfl ?_
          refine hK _ _ _ ?_
          rw [hs]
          have e12 : h = 12 := by omega
          rw [e12] at hz
          first | rw [zit_f (by rintro ⟨q1, q2⟩; first | omega | exact hz.mp (by omega) q1)] | rw [zit_t ⟨(Classical.byContradiction (fun q => by have := hz.mpr q; omega) : mMayB A x c), by omega⟩]
        · dsimp only [zc] at c3
          refine aw_aload_n rfl rfl rfl ?_
          refine aw_getr (b := 102) rfl rfl (hN.f.k 42 rfl) (hN.f.r 42 89 102 rfl) rfl ?_
          refine aw_iload rfl rfl rfl ?_
          refine aw_as (N := 192) rfl (hN.f.s 102 rfl) (by omega) (by omega) (by omega) rfl (fun _ _ => ?_)
          rw [hU c hc0 hc1]
          refine aw_aload_n rfl rfl rfl ?_
          refine aw_getr (b := 102) rfl rfl (hN.f.k 42 rfl) (hN.f.r 42 89 102 rfl) rfl ?_
          refine aw_iload_n rfl rfl rfl ?_
          refine aw_as (N := 192) rfl (hN.f.s 102 rfl) (by omega) (by omega) (by omega) rfl (fun _ _ => ?_)
          rw [hU b (by omega) (by omega)]
          refine aw_icmp (p' := 195) rfl ⟨by omega, by omega⟩ ⟨by omega, by omega⟩ rfl rfl (fun c4 => ?_) (fun c4 => ?_)
          · dsimp only [zc] at c4
            refine aw_iload_n rfl rfl rfl ?_
            refine aw_istore_n rfl (Nat.le_of_ble_eq_true rfl) rfl rfl ?_
            change aw _ _ _ _ 197 [some (.ref 42), some (.int (iI _)), some (.int (iI _)), some (.int (iI _)), some (.int (iI _)), some (.int (iI _)), some (.int (iI _))] _ _
            refine aw_iinc rfl rfl rfl rfl ?_
            change aw _ _ _ _ 200 [some (.ref 42), some (.int (iI _)), some (.int (iI _)), some (.int (iI _)), some (.int (iI _)), some (.int (iI _)), some (.int (iI _))] _ _
            refine aw_goto (p' := 103) rfl rfl ?_
            refine hK _ _ _ ?_
            rw [hs]
            have e12 : h = 12 := by omega
            rw [e12] at hz
            first | rw [zit_f (by rintro ⟨q1, q2⟩; first | omega | exact hz.mp (by omega) q1)] | rw [zit_t ⟨(Classical.byContradiction (fun q => by have := hz.mpr q; omega) : mMayB A x c), by omega⟩]
          · dsimp only [zc] at c4
            refine aw_iload rfl rfl rfl ?_
            refine aw_goto (p' := 196) rfl rfl ?_
            refine aw_istore_n rfl (Nat.le_of_ble_eq_true rfl) rfl rfl ?_
            change aw _ _ _ _ 197 [some (.ref 42), some (.int (iI _)), some (.int (iI _)), some (.int (iI _)), some (.int (iI _)), some (.int (iI _)), some (.int (iI _))] _ _
            refine aw_iinc rfl rfl rfl rfl ?_
            change aw _ _ _ _ 200 [some (.ref 42), some (.int (iI _)), some (.int (iI _)), some (.int (iI _)), some (.int (iI _)), some (.int (iI _)), some (.int (iI _))] _ _
            refine aw_goto (p' := 103) rfl rfl ?_
            refine hK _ _ _ ?_
            rw [hs]
            have e12 : h = 12 := by omega
            rw [e12] at hz
            first | rw [zit_f (by rintro ⟨q1, q2⟩; first | omega | exact hz.mp (by omega) q1)] | rw [zit_t ⟨(Classical.byContradiction (fun q => by have := hz.mpr q; omega) : mMayB A x c), by omega⟩]
    · dsimp only [zc] at c1
      refine aw_iload rfl rfl rfl ?_
      refine aw_if (p' := 156) rfl ⟨by omega, by omega⟩ rfl rfl (fun c5 => ?_) (fun c5 => ?_)
      · dsimp only [zc] at c5
        refine aw_iconst rfl rfl ?_
        refine aw_istore rfl (Nat.le_of_ble_eq_true rfl) rfl rfl ?_
        change aw _ _ _ _ 159 [some (.ref 42), some (.int (iI _)), some (.int (iI _)), some (.int (iI _)), some (.int (iI _)), some (.int (iI _)), some (.int (iI _))] _ _
        refine aw_iinc rfl rfl rfl rfl ?_
        change aw _ _ _ _ 162 [some (.ref 42), some (.int (iI _)), some (.int (iI _)), some (.int (iI _)), some (.int (iI _)), some (.int (iI _)), some (.int (iI _))] _ _
        refine aw_goto (p' := 128) rfl rfl ?_
        refine ih _ (by omega) _ _ rfl (by omega) (by omega) ?_
        first | (rw [bI_one']; have hpm : (mOpen A c x (A 42 3) ∧ ∀ e : Int, 0 ≤ e → e < h → ¬ mTaken A c x e) := Classical.byContradiction (fun q => by have := hz.mpr q; omega); refine ⟨hpm.1, fun e q1 q2 => ?_⟩; by_cases ee : e = h; (rw [ee]; assumption); exact hpm.2 e q1 (by omega)) | (rw [bI_zero']; rintro ⟨q1, q2⟩; first | exact absurd (by assumption) (q2 h hh0 (by omega)) | exact hz.mp (by omega) ⟨q1, fun e w1 w2 => q2 e w1 (by omega)⟩)
      · dsimp only [zc] at c5
        refine aw_aload_n rfl rfl rfl ?_
        refine aw_iload rfl rfl rfl ?_
        refine aw_iload_n rfl rfl rfl ?_
        refine aw_iload rfl rfl rfl ?_
        refine aw_fnc (m_isTaken hN hI ⟨by omega, by omega⟩ (by omega) (by omega) (by omega) (by omega)) rfl rfl rfl (Nat.le_of_ble_eq_true rfl) (Or.inr ⟨_, rfl, (hN.f.k 42 rfl)⟩) rfl ?_
        refine aw_ifneb (p' := 156) rfl rfl rfl (fun c6 => ?_) (fun c6 => ?_)
        · refine aw_iconst rfl rfl ?_
          refine aw_istore rfl (Nat.le_of_ble_eq_true rfl) rfl rfl ?_
          change aw _ _ _ _ 159 [some (.ref 42), some (.int (iI _)), some (.int (iI _)), some (.int (iI _)), some (.int (iI _)), some (.int (iI _)), some (.int (iI _))] _ _
          refine aw_iinc rfl rfl rfl rfl ?_
          change aw _ _ _ _ 162 [some (.ref 42), some (.int (iI _)), some (.int (iI _)), some (.int (iI _)), some (.int (iI _)), some (.int (iI _)), some (.int (iI _))] _ _
          refine aw_goto (p' := 128) rfl rfl ?_
          refine ih _ (by omega) _ _ rfl (by omega) (by omega) ?_
          first | (rw [bI_one']; have hpm : (mOpen A c x (A 42 3) ∧ ∀ e : Int, 0 ≤ e → e < h → ¬ mTaken A c x e) := Classical.byContradiction (fun q => by have := hz.mpr q; omega); refine ⟨hpm.1, fun e q1 q2 => ?_⟩; by_cases ee : e = h; (rw [ee]; assumption); exact hpm.2 e q1 (by omega)) | (rw [bI_zero']; rintro ⟨q1, q2⟩; first | exact absurd (by assumption) (q2 h hh0 (by omega)) | exact hz.mp (by omega) ⟨q1, fun e w1 w2 => q2 e w1 (by omega)⟩)
        · refine aw_iconst rfl rfl ?_
          refine aw_goto (p' := 157) rfl rfl ?_
          refine aw_istore rfl (Nat.le_of_ble_eq_true rfl) rfl rfl ?_
          change aw _ _ _ _ 159 [some (.ref 42), some (.int (iI _)), some (.int (iI _)), some (.int (iI _)), some (.int (iI _)), some (.int (iI _)), some (.int (iI _))] _ _
          refine aw_iinc rfl rfl rfl rfl ?_
          change aw _ _ _ _ 162 [some (.ref 42), some (.int (iI _)), some (.int (iI _)), some (.int (iI _)), some (.int (iI _)), some (.int (iI _)), some (.int (iI _))] _ _
          refine aw_goto (p' := 128) rfl rfl ?_
          refine ih _ (by omega) _ _ rfl (by omega) (by omega) ?_
          first | (rw [bI_one']; have hpm : (mOpen A c x (A 42 3) ∧ ∀ e : Int, 0 ≤ e → e < h → ¬ mTaken A c x e) := Classical.byContradiction (fun q => by have := hz.mpr q; omega); refine ⟨hpm.1, fun e q1 q2 => ?_⟩; by_cases ee : e = h; (rw [ee]; assumption); exact hpm.2 e q1 (by omega)) | (rw [bI_zero']; rintro ⟨q1, q2⟩; first | exact absurd (by assumption) (q2 h hh0 (by omega)) | exact hz.mp (by omega) ⟨q1, fun e w1 w2 => q2 e w1 (by omega)⟩)
set_option maxRecDepth 10000 in
set_option maxHeartbeats 2000000 in
theorem m_seeks_l103 {d : Nat} {sz : Nat} {A : Nat → Int → Int} {σ : az_S} (hM : MV sz A σ) (hI : MI sz A) {x tl : Int} (hx0 : 0 ≤ x) (hx1 : x ≤ 3599) (ht0 : 1 ≤ tl) (ht1 : tl ≤ 60) : ∀ (n : Nat) (τ : az_S) (c b : Int) (u v : Option Value), (A 42 2 - c).toNat = n → MV sz A τ → Mod σ τ [42, 88, 89, 90, 91, 92, 102] → 0 ≤ c → c ≤ A 42 2 → (∀ w, 0 ≤ w → w < A 42 2 → zx τ 102 w = mSrv A x tl w) → b = mBestN A x tl c.toNat → aw (d + 4) k_X12_seeks (some .int) (fun r τ => r = some (.int (iI (mBest A x tl))) ∧ MV sz A τ ∧ Mod σ τ [42, 88, 89, 90, 91, 92, 102] ∧ zx τ 42 88 = mBestS A x tl) 103 [some (.ref 42), some (.int (iI x)), some (.int (iI tl)), some (.int (iI b)), some (.int (iI c)), u, v] [] τ := by
  intro n
  induction n using Nat.strongRecOn with
  | ind n ih =>
    intro τ c b u v hn hN hD hc0 hc1 hU hb
    have hce := hI.cells
    have hst := hI.stalls
    have hcl := hI.clock
    have hbr := mBestN_r A x tl c.toNat
    rw [← hb] at hbr
    have hsb := mSrv_b hI x tl b
    refine aw_iload rfl rfl rfl ?_
    refine aw_aload_n rfl rfl rfl ?_
    refine aw_gp (2) hN rfl rfl (hN.f.k 42 rfl) rfl rfl (fun _ _ => ?_)
    refine aw_icmp (p' := 203) rfl ⟨by omega, by omega⟩ ⟨by omega, by omega⟩ rfl rfl (fun c7 => ?_) (fun c7 => ?_)
    · dsimp only [zc] at c7
      refine aw_aload_n rfl rfl rfl ?_
      refine aw_iload_n rfl rfl rfl ?_
      refine aw_if (p' := 212) rfl ⟨by omega, by omega⟩ rfl rfl (fun c8 => ?_) (fun c8 => ?_)
      · dsimp only [zc] at c8
        refine aw_aload_n rfl rfl rfl ?_
        refine aw_getr (b := 102) rfl rfl (hN.f.k 42 rfl) (hN.f.r 42 89 102 rfl) rfl ?_
        refine aw_iload_n rfl rfl rfl ?_
        refine aw_as (N := 192) rfl (hN.f.s 102 rfl) (by omega) (by omega) (by omega) rfl (fun _ _ => ?_)
        refine aw_fw (88) hN rfl rfl (hN.f.k 42 rfl) rfl rfl rfl ⟨by omega, by omega⟩ rfl (fun τ9 hM9 hD9 hU9 => ?_)
        refine aw_iload_n rfl rfl rfl ?_
        refine aw_reti rfl ?_
        refine ⟨?_, hM9, ((hD.su (T := [42, 88, 89, 90, 91, 92, 102]) rfl).tr (hD9.su (T := [42, 88, 89, 90, 91, 92, 102]) rfl)), ?_⟩
        · rw [hb, show c = A 42 2 by omega]; rfl
        · have ee : b = mBest A x tl := by rw [hb, show c = A 42 2 by omega]; rfl
          rw [hU9, if_pos rfl]
          unfold mBestS
          rw [← ee]
          first | rw [if_pos (by omega)] | (rw [if_neg (by omega)]; exact hU b (by omega) (by omega))
      · dsimp only [zc] at c8
        refine aw_iconst rfl rfl ?_
        refine aw_goto (p' := 218) rfl rfl ?_
        refine aw_fw (88) hN rfl rfl (hN.f.k 42 rfl) rfl rfl rfl ⟨by omega, by omega⟩ rfl (fun τ10 hM10 hD10 hU10 => ?_)
        refine aw_iload_n rfl rfl rfl ?_
        refine aw_reti rfl ?_
        refine ⟨?_, hM10, ((hD.su (T := [42, 88, 89, 90, 91, 92, 102]) rfl).tr (hD10.su (T := [42, 88, 89, 90, 91, 92, 102]) rfl)), ?_⟩
        · rw [hb, show c = A 42 2 by omega]; rfl
        · have ee : b = mBest A x tl := by rw [hb, show c = A 42 2 by omega]; rfl
          rw [hU10, if_pos rfl]
          unfold mBestS
          rw [← ee]
          first | rw [if_pos (by omega)] | (rw [if_neg (by omega)]; exact hU b (by omega) (by omega))
    · dsimp only [zc] at c7
      refine aw_aload_n rfl rfl rfl ?_
      refine aw_iload rfl rfl rfl ?_
      refine aw_iload_n rfl rfl rfl ?_
      refine aw_aload_n rfl rfl rfl ?_
      refine aw_gp (3) hN rfl rfl (hN.f.k 42 rfl) rfl rfl (fun _ _ => ?_)
      refine aw_fnc (m_isOpen hN hI ⟨by omega, by omega⟩ (by omega) (by omega) (by omega) (by omega)) rfl rfl rfl (Nat.le_of_ble_eq_true rfl) (Or.inr ⟨_, rfl, (hN.f.k 42 rfl)⟩) rfl ?_
      refine aw_istore rfl (Nat.le_of_ble_eq_true rfl) rfl rfl ?_
      change aw _ _ _ _ 125 [some (.ref 42), some (.int (iI _)), some (.int (iI _)), some (.int (iI _)), some (.int (iI _)), some (.int (iI _)), _] _ _
      refine aw_iconst rfl rfl ?_
      refine aw_istore rfl (Nat.le_of_ble_eq_true rfl) rfl rfl ?_
      change aw _ _ _ _ 128 [some (.ref 42), some (.int (iI _)), some (.int (iI _)), some (.int (iI _)), some (.int (iI _)), some (.int (iI _)), some (.int (iI _))] _ _
      exact m_seeks_l128 hM hI hx0 hx1 ht0 ht1 hN (hD.su (T := [42, 88, 89, 90, 91, 92, 102]) rfl) hc0 (by omega) hU hb (fun b u v k => ih _ (by omega) _ _ _ _ _ rfl hN (hD.su (T := [42, 88, 89, 90, 91, 92, 102]) rfl) (by omega) (by omega) hU k) _ 0 _ rfl (by omega) (by omega) (bI_congr ⟨fun q => ⟨q, fun e q1 q2 => by omega⟩, fun q => q.1⟩)
set_option maxRecDepth 10000 in
set_option maxHeartbeats 2000000 in
theorem m_seeks_l44 {d : Nat} {sz : Nat} {A : Nat → Int → Int} {σ : az_S} (hM : MV sz A σ) (hI : MI sz A) {x tl : Int} (hx0 : 0 ≤ x) (hx1 : x ≤ 3599) (ht0 : 1 ≤ tl) (ht1 : tl ≤ 60) {h : Int} (hh0 : 0 ≤ h) (hh1 : h ≤ 11) (hK : ∀ (τ : az_S) (v : Option Value), MV sz A τ → Mod σ τ [42, 88, 89, 90, 91, 92, 102] → (∀ w, 0 ≤ w → w < A 42 2 → zx τ 102 w = sumN (mServH A x tl w) (h + 1).toNat) → aw (d + 4) k_X12_seeks (some .int) (fun r τ => r = some (.int (iI (mBest A x tl))) ∧ MV sz A τ ∧ Mod σ τ [42, 88, 89, 90, 91, 92, 102] ∧ zx τ 42 88 = mBestS A x tl) 25 [some (.ref 42), some (.int (iI x)), some (.int (iI tl)), some (.int (iI (h + 1))), v, none, none] [] τ) : ∀ (n : Nat) (τ : az_S) (c : Int), (A 42 2 - c).toNat = n → MV sz A τ → Mod σ τ [42, 88, 89, 90, 91, 92, 102] → 0 ≤ c → c ≤ A 42 2 → LK A x h (A 42 3) τ → (∀ w, 0 ≤ w → w < c → zx τ 102 w = sumN (mServH A x tl w) (h + 1).toNat) → (∀ w, c ≤ w → w < A 42 2 → zx τ 102 w = sumN (mServH A x tl w) h.toNat) → aw (d + 4) k_X12_seeks (some .int) (fun r τ => r = some (.int (iI (mBest A x tl))) ∧ MV sz A τ ∧ Mod σ τ [42, 88, 89, 90, 91, 92, 102] ∧ zx τ 42 88 = mBestS A x tl) 44 [some (.ref 42), some (.int (iI x)), some (.int (iI tl)), some (.int (iI h)), some (.int (iI c)), none, none] [] τ := by
  intro n
  induction n using Nat.strongRecOn with
  | ind n ih =>
    intro τ c hn hN hD hc0 hc1 hL hB hC
    have hce := hI.cells
    have hst := hI.stalls
    have hcl := hI.clock
    have hq := sumN_s (f := mServH A x tl c) hh0
    have hsb := sumN_b (f := mServH A x tl c) (M := 10) h.toNat (fun i _ _ => mServH_b hI x tl c i)
    have hhb := mServH_b hI x tl c h
    have e1 := bI_zero (mOpen A c x (A 42 3))
    refine aw_iload rfl rfl rfl ?_
    refine aw_aload_n rfl rfl rfl ?_
    refine aw_gp (2) hN rfl rfl (hN.f.k 42 rfl) rfl rfl (fun _ _ => ?_)
    refine aw_icmp (p' := 92) rfl ⟨by omega, by omega⟩ ⟨by omega, by omega⟩ rfl rfl (fun c11 => ?_) (fun c11 => ?_)
    · dsimp only [zc] at c11
      refine aw_iinc rfl rfl rfl rfl ?_
      change aw _ _ _ _ 95 [some (.ref 42), some (.int (iI _)), some (.int (iI _)), some (.int (iI _)), some (.int (iI _)), none, none] _ _
      refine aw_goto (p' := 25) rfl rfl ?_
      exact hK _ _ hN (hD.su (T := [42, 88, 89, 90, 91, 92, 102]) rfl) (fun w h1 h2 => hB w h1 (by omega))
    · dsimp only [zc] at c11
      refine aw_aload_n rfl rfl rfl ?_
      refine aw_getr (b := 102) rfl rfl (hN.f.k 42 rfl) (hN.f.r 42 89 102 rfl) rfl ?_
      refine aw_iload rfl rfl rfl ?_
      refine aw_dup2 rfl rfl rfl rfl ?_
      refine aw_as (N := 192) rfl (hN.f.s 102 rfl) (by omega) (by omega) (by omega) rfl (fun _ _ => ?_)
      refine aw_aload_n rfl rfl rfl ?_
      refine aw_getr (b := 91) rfl rfl (hN.f.k 42 rfl) (hN.f.r 42 74 91 rfl) rfl ?_
      refine aw_iload rfl rfl rfl ?_
      refine aw_bs (N := 192) rfl (hN.f.s 91 rfl) (by decide) (by omega) (by omega) (by omega) rfl (fun _ _ => ?_)
      rw [hL.opn hc0 (by omega)]
      have r1 := bI_r (mOpen A c x (A 42 3))
      rw [hC c (by omega) (by omega)]
      refine aw_if (p' := 83) rfl ⟨by omega, by omega⟩ rfl rfl (fun c12 => ?_) (fun c12 => ?_)
      · dsimp only [zc] at c12
        refine aw_iconst rfl rfl ?_
        refine aw_iadd rfl rfl ?_
        refine aw_ss (N := 192) hN rfl (hN.f.s 102 rfl) (by omega) rfl (by omega) (by omega) ⟨by omega, by omega⟩ rfl (fun τ13 hM13 hD13 hU13 => ?_)
        refine aw_iinc rfl rfl rfl rfl ?_
        change aw _ _ _ _ 89 [some (.ref 42), some (.int (iI _)), some (.int (iI _)), some (.int (iI _)), some (.int (iI _)), none, none] _ _
        refine aw_goto (p' := 44) rfl rfl ?_
        refine ih _ (by omega) _ _ rfl hM13 ((hD.su (T := [42, 88, 89, 90, 91, 92, 102]) rfl).tr (hD13.su (T := [42, 88, 89, 90, 91, 92, 102]) rfl)) (by omega) (by omega) (hL.mod hD13 rfl rfl rfl rfl) (fun w h1 h2 => ?_) (fun w h1 h2 => ?_)
        · rw [hU13 w]
          split
          · rename_i e; subst e
            rw [hq]
            unfold mServH; rw [zit_f (e1.mp (by omega))]
          · exact hB w h1 (by omega)
        · rw [hU13 w, if_neg (by omega)]; exact hC w (by omega) h2
      · dsimp only [zc] at c12
        refine aw_aload_n rfl rfl rfl ?_
        refine aw_iload rfl rfl rfl ?_
        refine aw_iload_n rfl rfl rfl ?_
        refine aw_iload_n rfl rfl rfl ?_
        refine aw_iload_n rfl rfl rfl ?_
        refine aw_calc (m_servedBy hN hI hc0 (by omega) hx0 hx1 hh0 (by omega) ht0 ht1 hL) rfl rfl rfl (Nat.le_of_ble_eq_true rfl) (Or.inr ⟨_, rfl, (hN.f.k 42 rfl)⟩) rfl ?_
        rintro _ τ14 ⟨rfl, hM14, hD14⟩
        change aw _ _ _ _ 80 [some (.ref 42), some (.int (iI _)), some (.int (iI _)), some (.int (iI _)), some (.int (iI _)), none, none] [.int (iI _), .int (iI _), .int (iI _), .ref 102] _
        have hcb := cntN_b (mServ A c x h tl) (A 42 66).toNat
        refine aw_goto (p' := 84) rfl rfl ?_
        refine aw_iadd rfl rfl ?_
        refine aw_ss (N := 192) hM14 rfl (hM14.f.s 102 rfl) (by omega) rfl (by omega) (by omega) ⟨by omega, by omega⟩ rfl (fun τ15 hM15 hD15 hU15 => ?_)
        refine aw_iinc rfl rfl rfl rfl ?_
        change aw _ _ _ _ 89 [some (.ref 42), some (.int (iI _)), some (.int (iI _)), some (.int (iI _)), some (.int (iI _)), none, none] _ _
        refine aw_goto (p' := 44) rfl rfl ?_
        refine ih _ (by omega) _ _ rfl hM15 (((hD.su (T := [42, 88, 89, 90, 91, 92, 102]) rfl).tr (hD14.su (T := [42, 88, 89, 90, 91, 92, 102]) rfl)).tr (hD15.su (T := [42, 88, 89, 90, 91, 92, 102]) rfl)) (by omega) (by omega) ((hL.mod hD14 rfl rfl rfl rfl).mod hD15 rfl rfl rfl rfl) (fun w h1 h2 => ?_) (fun w h1 h2 => ?_)
        · rw [hU15 w]
          split
          · rename_i e; subst e
            rw [hq]
            unfold mServH; rw [zit_t (Classical.byContradiction (fun q => by have := e1.mpr q; omega))]
          · rw [hD14.z 102 rfl]; exact hB w h1 (by omega)
        · rw [hU15 w, if_neg (by omega), hD14.z 102 rfl]; exact hC w (by omega) h2
set_option maxRecDepth 10000 in
set_option maxHeartbeats 2000000 in
theorem m_seeks_l25 {d : Nat} {sz : Nat} {A : Nat → Int → Int} {σ : az_S} (hM : MV sz A σ) (hI : MI sz A) {x tl : Int} (hx0 : 0 ≤ x) (hx1 : x ≤ 3599) (ht0 : 1 ≤ tl) (ht1 : tl ≤ 60) : ∀ (n : Nat) (τ : az_S) (h : Int) (v : Option Value), (12 - h).toNat = n → MV sz A τ → Mod σ τ [42, 88, 89, 90, 91, 92, 102] → 0 ≤ h → h ≤ 12 → (∀ w, 0 ≤ w → w < A 42 2 → zx τ 102 w = sumN (mServH A x tl w) h.toNat) → aw (d + 4) k_X12_seeks (some .int) (fun r τ => r = some (.int (iI (mBest A x tl))) ∧ MV sz A τ ∧ Mod σ τ [42, 88, 89, 90, 91, 92, 102] ∧ zx τ 42 88 = mBestS A x tl) 25 [some (.ref 42), some (.int (iI x)), some (.int (iI tl)), some (.int (iI h)), v, none, none] [] τ := by
  intro n
  induction n using Nat.strongRecOn with
  | ind n ih =>
    intro τ h v hn hN hD hh0 hh1 hU
    have hce := hI.cells
    have hst := hI.stalls
    have hcl := hI.clock
    refine aw_iload_n rfl rfl rfl ?_
    refine aw_bipush rfl rfl rfl ?_
    refine aw_icmp (p' := 98) rfl ⟨by omega, by omega⟩ ⟨by omega, by omega⟩ rfl rfl (fun c16 => ?_) (fun c16 => ?_)
    · dsimp only [zc] at c16
      refine aw_iconst rfl rfl ?_
      refine aw_istore_n rfl (Nat.le_of_ble_eq_true rfl) rfl rfl ?_
      change aw _ _ _ _ 100 [some (.ref 42), some (.int (iI _)), some (.int (iI _)), some (.int (iI _)), _, none, none] _ _
      refine aw_iconst rfl rfl ?_
      refine aw_istore rfl (Nat.le_of_ble_eq_true rfl) rfl rfl ?_
      change aw _ _ _ _ 103 [some (.ref 42), some (.int (iI _)), some (.int (iI _)), some (.int (iI _)), some (.int (iI _)), none, none] _ _
      exact m_seeks_l103 hM hI hx0 hx1 ht0 ht1 _ _ 0 (-1) _ _ rfl hN (hD.su (T := [42, 88, 89, 90, 91, 92, 102]) rfl) (by omega) (by omega) (fun w h1 h2 => by rw [hU w h1 h2, show h = 12 by omega]; rfl) rfl
    · dsimp only [zc] at c16
      refine aw_aload_n rfl rfl rfl ?_
      refine aw_iload_n rfl rfl rfl ?_
      refine aw_iload_n rfl rfl rfl ?_
      refine aw_aload_n rfl rfl rfl ?_
      refine aw_gp (3) hN rfl rfl (hN.f.k 42 rfl) rfl rfl (fun _ _ => ?_)
      refine aw_calc (m_looks hN hI (by omega) (by omega) (by omega) (by omega) (by omega) (by omega)) rfl rfl rfl (Nat.le_of_ble_eq_true rfl) (Or.inr ⟨_, rfl, (hN.f.k 42 rfl)⟩) rfl ?_
      rintro _ τ17 ⟨rfl, hM17, hD17, hU17⟩
      change aw _ _ _ _ 41 [some (.ref 42), some (.int (iI _)), some (.int (iI _)), some (.int (iI _)), _, none, none] [] _
      refine aw_iconst rfl rfl ?_
      refine aw_istore rfl (Nat.le_of_ble_eq_true rfl) rfl rfl ?_
      change aw _ _ _ _ 44 [some (.ref 42), some (.int (iI _)), some (.int (iI _)), some (.int (iI _)), some (.int (iI _)), none, none] _ _
      exact m_seeks_l44 hM hI hx0 hx1 ht0 ht1 hh0 (by omega) (fun τ v k1 k2 k3 => ih _ (by omega) _ _ _ rfl k1 k2 (by omega) (by omega) k3) _ _ 0 rfl hM17 ((hD.su (T := [42, 88, 89, 90, 91, 92, 102]) rfl).tr (hD17.su (T := [42, 88, 89, 90, 91, 92, 102]) rfl)) (by omega) (by omega) hU17 (fun w _ _ => by omega) (fun w h1 h2 => by rw [hD17.z 102 rfl]; exact hU w h1 h2)
set_option maxRecDepth 10000 in
set_option maxHeartbeats 2000000 in
theorem m_seeks_l2 {d : Nat} {sz : Nat} {A : Nat → Int → Int} {σ : az_S} (hM : MV sz A σ) (hI : MI sz A) {x tl : Int} (hx0 : 0 ≤ x) (hx1 : x ≤ 3599) (ht0 : 1 ≤ tl) (ht1 : tl ≤ 60) : ∀ (n : Nat) (τ : az_S) (j : Int), (A 42 2 - j).toNat = n → MV sz A τ → Mod σ τ [42, 88, 89, 90, 91, 92, 102] → 0 ≤ j → j ≤ A 42 2 → (∀ w, 0 ≤ w → w < j → zx τ 102 w = 0) → aw (d + 4) k_X12_seeks (some .int) (fun r τ => r = some (.int (iI (mBest A x tl))) ∧ MV sz A τ ∧ Mod σ τ [42, 88, 89, 90, 91, 92, 102] ∧ zx τ 42 88 = mBestS A x tl) 2 [some (.ref 42), some (.int (iI x)), some (.int (iI tl)), some (.int (iI j)), none, none, none] [] τ := by
  intro n
  induction n using Nat.strongRecOn with
  | ind n ih =>
    intro τ j hn hN hD hj0 hj1 hU
    have hce := hI.cells
    have hst := hI.stalls
    have hcl := hI.clock
    refine aw_iload_n rfl rfl rfl ?_
    refine aw_aload_n rfl rfl rfl ?_
    refine aw_gp (2) hN rfl rfl (hN.f.k 42 rfl) rfl rfl (fun _ _ => ?_)
    refine aw_icmp (p' := 23) rfl ⟨by omega, by omega⟩ ⟨by omega, by omega⟩ rfl rfl (fun c18 => ?_) (fun c18 => ?_)
    · dsimp only [zc] at c18
      refine aw_iconst rfl rfl ?_
      refine aw_istore_n rfl (Nat.le_of_ble_eq_true rfl) rfl rfl ?_
      change aw _ _ _ _ 25 [some (.ref 42), some (.int (iI _)), some (.int (iI _)), some (.int (iI _)), none, none, none] _ _
      exact m_seeks_l25 hM hI hx0 hx1 ht0 ht1 _ _ 0 _ rfl hN (hD.su (T := [42, 88, 89, 90, 91, 92, 102]) rfl) (by omega) (by omega) (fun w h1 h2 => hU w h1 (by omega))
    · dsimp only [zc] at c18
      refine aw_aload_n rfl rfl rfl ?_
      refine aw_getr (b := 102) rfl rfl (hN.f.k 42 rfl) (hN.f.r 42 89 102 rfl) rfl ?_
      refine aw_iload_n rfl rfl rfl ?_
      refine aw_iconst rfl rfl ?_
      refine aw_ss (N := 192) hN rfl (hN.f.s 102 rfl) (by omega) rfl (by omega) (by omega) ⟨by omega, by omega⟩ rfl (fun τ19 hM19 hD19 hU19 => ?_)
      refine aw_iinc rfl rfl rfl rfl ?_
      change aw _ _ _ _ 20 [some (.ref 42), some (.int (iI _)), some (.int (iI _)), some (.int (iI _)), none, none, none] _ _
      refine aw_goto (p' := 2) rfl rfl ?_
      exact ih _ (by omega) _ _ rfl hM19 ((hD.su (T := [42, 88, 89, 90, 91, 92, 102]) rfl).tr (hD19.su (T := [42, 88, 89, 90, 91, 92, 102]) rfl)) (by omega) (by omega) (fun w h1 h2 => by rw [hU19]; split; rfl; exact hU w h1 (by omega))
set_option maxRecDepth 10000 in
set_option maxHeartbeats 2000000 in
theorem m_seeks {d : Nat} {sz : Nat} {A : Nat → Int → Int} {σ : az_S} (hM : MV sz A σ) (hI : MI sz A) {x tl : Int} (hx0 : 0 ≤ x) (hx1 : x ≤ 3599) (ht0 : 1 ≤ tl) (ht1 : tl ≤ 60) : cal (d + 5) 248 [.ref 42, .int (iI x), .int (iI tl)] σ (fun r τ => r = some (.int (iI (mBest A x tl))) ∧ MV sz A τ ∧ Mod σ τ [42, 88, 89, 90, 91, 92, 102] ∧ zx τ 42 88 = mBestS A x tl) := by
  have hce := hI.cells
  have hst := hI.stalls
  have hcl := hI.clock
  refine cal_of (M := (yX12_seeks, cX12_seeks, 7, (some .int))) (cd := k_X12_seeks) (L := [some (.ref 42), some (.int (iI x)), some (.int (iI tl)), none, none, none, none]) rfl (Nat.le_of_ble_eq_true rfl) rfl rfl ?_
  refine aw_iconst rfl rfl ?_
  refine aw_istore_n rfl (Nat.le_of_ble_eq_true rfl) rfl rfl ?_
  change aw _ _ _ _ 2 [some (.ref 42), some (.int (iI _)), some (.int (iI _)), some (.int (iI _)), none, none, none] _ _
  exact m_seeks_l2 hM hI hx0 hx1 ht0 ht1 _ _ 0 rfl hM Mod.rf (by omega) (by omega) (fun w _ _ => by omega)
set_option maxRecDepth 10000 in
set_option maxHeartbeats 2000000 in
theorem m_best {d : Nat} {sz : Nat} {A : Nat → Int → Int} {σ : az_S} (hM : MV sz A σ) (hI : MI sz A) {x tl : Int} (hx : inI x) (htl : inI tl) : cal (d + 6) 249 [.ref 42, .int (iI x), .int (iI tl)] σ (fun r τ => r = some (.int (iI (zit ((0 ≤ x ∧ x ≤ 3599) ∧ (1 ≤ tl ∧ tl ≤ 60)) (mBest A x tl) (-1)))) ∧ MV sz A τ ∧ Mod σ τ [42, 88, 89, 90, 91, 92, 102]) := by
  obtain ⟨hx1, hx2⟩ := hx
  obtain ⟨htl1, htl2⟩ := htl
  refine cal_of (M := (yX12_best, cX12_best, 3, (some .int))) (cd := k_X12_best) (L := [some (.ref 42), some (.int (iI x)), some (.int (iI tl))]) rfl (Nat.le_of_ble_eq_true rfl) rfl rfl ?_
  refine aw_iload_n rfl rfl rfl ?_
  refine aw_fnc (m_isDay ⟨by omega, by omega⟩) rfl rfl rfl (Nat.le_of_ble_eq_true rfl) (Or.inl rfl) rfl ?_
  refine aw_ifeqb (p' := 28) rfl rfl rfl (fun c1 => ?_) (fun c1 => ?_)
  · refine aw_iconst rfl rfl ?_
    refine aw_reti rfl ?_
    refine ⟨?_, hM, Mod.rf⟩
    first | rw [zit_t (by omega)] | rw [zit_f (by omega)]
  · refine aw_iload_n rfl rfl rfl ?_
    refine aw_i2l rfl ⟨by omega, by omega⟩ rfl ?_
    refine aw_lconst 1 rfl rfl rfl ?_
    refine aw_ldc2 (60) rfl rfl rfl ?_
    refine aw_fnc (m_in ⟨by omega, by omega⟩ ⟨by omega, by omega⟩ ⟨by omega, by omega⟩) rfl rfl rfl (Nat.le_of_ble_eq_true rfl) (Or.inl rfl) rfl ?_
    refine aw_ifeqb (p' := 28) rfl rfl rfl (fun c2 => ?_) (fun c2 => ?_)
    · refine aw_iconst rfl rfl ?_
      refine aw_reti rfl ?_
      refine ⟨?_, hM, Mod.rf⟩
      first | rw [zit_t (by omega)] | rw [zit_f (by omega)]
    · refine aw_aload_n rfl rfl rfl ?_
      refine aw_iload_n rfl rfl rfl ?_
      refine aw_iload_n rfl rfl rfl ?_
      refine aw_calc (m_seeks hM hI (by omega) (by omega) (by omega) (by omega)) rfl rfl rfl (Nat.le_of_ble_eq_true rfl) (Or.inr ⟨_, rfl, (hM.f.k 42 rfl)⟩) rfl ?_
      rintro _ τ3 ⟨rfl, hM3, hD3, hU3⟩
      change aw _ _ _ _ 25 [some (.ref 42), some (.int (iI _)), some (.int (iI _))] [.int (iI _)] _
      refine aw_goto (p' := 29) rfl rfl ?_
      refine aw_reti rfl ?_
      refine ⟨?_, hM3, (hD3.su (T := [42, 88, 89, 90, 91, 92, 102]) rfl)⟩
      first | rw [zit_t (by omega)] | rw [zit_f (by omega)]
set_option maxRecDepth 10000 in
set_option maxHeartbeats 2000000 in
theorem m_serves {d : Nat} {sz : Nat} {A : Nat → Int → Int} {σ : az_S} (hM : MV sz A σ) (hI : MI sz A) {x tl : Int} (hx : inI x) (htl : inI tl) : cal (d + 6) 250 [.ref 42, .int (iI x), .int (iI tl)] σ (fun r τ => r = some (.int (iI (zit ((0 ≤ x ∧ x ≤ 3599) ∧ (1 ≤ tl ∧ tl ≤ 60)) (mBestS A x tl) (-1)))) ∧ MV sz A τ ∧ Mod σ τ [42, 88, 89, 90, 91, 92, 102]) := by
  obtain ⟨hx1, hx2⟩ := hx
  obtain ⟨htl1, htl2⟩ := htl
  refine cal_of (M := (yX12_serves, cX12_serves, 4, (some .int))) (cd := k_X12_serves) (L := [some (.ref 42), some (.int (iI x)), some (.int (iI tl)), none]) rfl (Nat.le_of_ble_eq_true rfl) rfl rfl ?_
  refine aw_iload_n rfl rfl rfl ?_
  refine aw_fnc (m_isDay ⟨by omega, by omega⟩) rfl rfl rfl (Nat.le_of_ble_eq_true rfl) (Or.inl rfl) rfl ?_
  refine aw_ifeqb (p' := 19) rfl rfl rfl (fun c1 => ?_) (fun c1 => ?_)
  · refine aw_iconst rfl rfl ?_
    refine aw_reti rfl ?_
    refine ⟨?_, hM, Mod.rf⟩
    rw [zit_f (by omega)]
  · refine aw_iload_n rfl rfl rfl ?_
    refine aw_i2l rfl ⟨by omega, by omega⟩ rfl ?_
    refine aw_lconst 1 rfl rfl rfl ?_
    refine aw_ldc2 (60) rfl rfl rfl ?_
    refine aw_fnc (m_in ⟨by omega, by omega⟩ ⟨by omega, by omega⟩ ⟨by omega, by omega⟩) rfl rfl rfl (Nat.le_of_ble_eq_true rfl) (Or.inl rfl) rfl ?_
    refine aw_ifneb (p' := 21) rfl rfl rfl (fun c2 => ?_) (fun c2 => ?_)
    · refine aw_aload_n rfl rfl rfl ?_
      refine aw_iload_n rfl rfl rfl ?_
      refine aw_iload_n rfl rfl rfl ?_
      refine aw_calc (m_seeks hM hI (by omega) (by omega) (by omega) (by omega)) rfl rfl rfl (Nat.le_of_ble_eq_true rfl) (Or.inr ⟨_, rfl, (hM.f.k 42 rfl)⟩) rfl ?_
      rintro _ τ3 ⟨rfl, hM3, hD3, hU3⟩
      change aw _ _ _ _ 27 [some (.ref 42), some (.int (iI _)), some (.int (iI _)), none] [.int (iI _)] _
      refine aw_istore_n rfl (Nat.le_of_ble_eq_true rfl) rfl rfl ?_
      change aw _ _ _ _ 28 [some (.ref 42), some (.int (iI _)), some (.int (iI _)), some (.int (iI _))] _ _
      refine aw_aload_n rfl rfl rfl ?_
      refine aw_gs (88) rfl rfl (hM3.f.k 42 rfl) rfl rfl (fun _ _ => ?_)
      refine aw_reti rfl ?_
      refine ⟨?_, hM3, (hD3.su (T := [42, 88, 89, 90, 91, 92, 102]) rfl)⟩
      rw [zit_t (by omega), hU3]
    · refine aw_iconst rfl rfl ?_
      refine aw_reti rfl ?_
      refine ⟨?_, hM, Mod.rf⟩
      rw [zit_f (by omega)]
