/-! CHARGES -/
noncomputable def cPk (A : Nat → Int → Int) (x h y c p : Int) (t : Nat) : Bool := cIn A x h y c t && dB (p = -1 ∨ mWho A t x h y = p)
theorem cPk_t {A : Nat → Int → Int} {x h y c p t : Int} (ht : 0 ≤ t) : cPk A x h y c p t.toNat = true ↔ (mIn A x h y c t ∧ (p = -1 ∨ mWho A t x h y = p)) := by
  unfold cPk
  rw [Bool.and_eq_true, cIn_m, dB_t, show ((t.toNat : Nat) : Int) = t by omega]
theorem iI_andm1 (a : Int) : iI a &&& iI (-1) = iI a := by
  apply Int32.toBitVec_inj.mp
  rw [Int32.toBitVec_and, show (iI (-1)).toBitVec = BitVec.allOnes 32 from rfl, BitVec.and_allOnes]
theorem pk_all {A : Nat → Int → Int} {x h y c p : Int} (hp : p = -1) : iI (mSet A x h y c) &&& iI (-1) = iI (nbI (cPk A x h y c p) (A 42 12).toNat) := by
  rw [iI_andm1, mSet_in]
  congr 1
  unfold nbI
  congr 1
  refine nb_congr _ (fun t _ => ?_)
  unfold cPk
  rw [show dB (p = -1 ∨ mWho A t x h y = p) = true from dB_t.mpr (Or.inl hp), Bool.and_true]
theorem pk_held {sz : Nat} {A : Nat → Int → Int} (hI : MI sz A) {x h y c p : Int} (hp : p ≠ -1) : iI (mSet A x h y c) &&& iI (cHeld A p x h y) = iI (nbI (cPk A x h y c p) (A 42 12).toNat) := by
  have h1 := mSet_b hI x h y c
  have h2 := cHeld_b hI p x h y
  rw [iI_nat' h1.1, iI_nat' h2.1, nI_and]
  have e : ((((mSet A x h y c).toNat &&& (cHeld A p x h y).toNat : Nat)) : Int) = nbI (cPk A x h y c p) (A 42 12).toNat := by
    have z := zand_c A p x h y c
    unfold zand at z
    rw [z]
    unfold nbI
    congr 1
    refine nb_congr _ (fun t _ => ?_)
    unfold cPk cHB
    rw [Bool.eq_iff_iff, Bool.and_eq_true, Bool.and_eq_true, dB_t, dB_t]
    exact ⟨fun q => ⟨q.1, Or.inr q.2⟩, fun q => ⟨q.1, q.2.resolve_left hp⟩⟩
  rw [← e, iI_nat]
theorem zand_p2 {f : Nat → Bool} {n : Nat} {t : Int} (h0 : 0 ≤ t) (h1 : t.toNat < n) : zand (nbI f n) (2 ^ t.toNat) = zit (f t.toNat = true) (2 ^ t.toNat) 0 := by
  unfold zand nbI
  rw [Int.toNat_natCast, ← p2_c, Int.toNat_natCast]
  have e : nb f n &&& 2 ^ t.toNat = if f t.toNat then 2 ^ t.toNat else 0 := by
    apply tb_ext
    intro i
    rw [Nat.testBit_and, nb_tb, Nat.testBit_two_pow]
    by_cases ei : t.toNat = i
    · subst ei
      cases hf : f t.toNat <;> simp [h1, hf, Nat.testBit_two_pow]
    · cases hf : f t.toNat <;> simp [ei, hf, Nat.testBit_two_pow]
  rw [e]
  by_cases hf : f t.toNat = true
  · rw [if_pos hf, zit_t hf]
  · rw [if_neg hf, zit_f hf]; rfl
theorem mIn_no {A : Nat → Int → Int} {x h y c : Int} (h0 : mSet A x h y c = 0) {t : Int} (ht0 : 0 ≤ t) (ht1 : t < A 42 12) : ¬ mIn A x h y c t := fun q => by
  have := mMany_p ht0 ht1 q
  have := mSet_0.mp h0
  omega
section AwBits6
variable {d : Nat} {cd : List az_I} {rt : Option FieldType} {P : Option Value → az_S → Prop} {pc p' : Nat} {L : az_V} {st : List Value} {σ : az_S}
theorem aw_iandq {a b c : Int} (hf : az_fetch cd pc = some (1, .iand, [])) (hq : iI a &&& iI b = iI c) (hp : pc + 1 = p') (h : aw d cd rt P p' L (.int (iI c) :: st) σ) : aw d cd rt P pc L (.int (iI b) :: .int (iI a) :: st) σ := by
  subst hp
  rw [← hq] at h
  exact aw_nx hf (Nat.le_of_ble_eq_true rfl) ⟨_, _, st, rfl, rfl⟩ h
end AwBits6
theorem cSL.day {A : Nat → Int → Int} {x y : Int} {σ : az_S} (h : cSL A x y σ) : zx σ 29 6 = x := h.1
set_option maxRecDepth 10000 in
set_option maxHeartbeats 2000000 in
theorem c_charge_l71 {d : Nat} {sz : Nat} {κ : Nat × (Nat → Int32) × Option Nat} {A : Nat → Int → Int} {g : Nat → Nat} {σ : az_S} (hC : CR sz κ A g σ) (hI : MI sz A) {R : tRules} (hR : PW R) (hT : cTar σ (g 700) R) {x h : Int} (hx0 : 0 ≤ x) (hx1 : x ≤ 3599) (hh0 : 0 ≤ h) (hh1 : h ≤ 11) {y : Int} (hy0 : 0 ≤ y) (hy1 : y ≤ 3599) (hS : cSL A x y σ) (hU0 : cST A x h y σ) {c : Int} (hc0 : 0 ≤ c) (hc1 : c < A 42 2) {s p m : Int} (hs0 : -1 ≤ s) (hs1 : s ≤ 10) (hmk : iI (mSet A x h y c) &&& iI m = iI (nbI (cPk A x h y c p) (A 42 12).toNat)) : ∀ (n : Nat) (τ : az_S) (t z : Int), (A 42 12 - t).toNat = n → CR sz κ A g τ → Mod σ τ [14, 21, 27] → 0 ≤ t → t ≤ A 42 12 → (zx τ 14 0 = h ∧ zx τ 14 1 = x % 360 / 30 ∧ zx τ 14 2 = x ∧ zx τ 14 4 = mMany A x h y c ∧ zx τ 14 7 = s) → z = sumN (mChF A R x h y c s p) t.toNat → aw (d + 4) k_X11_chargeOf (some .long) (fun r τ => r = some (.long (lI (mChg A R x h y c s p))) ∧ CR sz κ A g τ ∧ Mod σ τ [14, 21, 27]) 71 [some (.ref 0), some (.int (iI c)), some (.int (iI h)), some (.int (iI s)), some (.int (iI m)), some (.int (iI (mSet A x h y c))), some (.long (lI z)), none, some (.int (iI t))] [] τ := by
  intro n
  induction n using Nat.strongRecOn with
  | ind n ih =>
    intro τ t z hn hN hD ht0 ht1 hnf hz
    obtain ⟨hR1, hR2, hR3⟩ := hR
    have hb7 := hC.force.1
    have hth := hI.things
    have hce := hI.cells
    have hsb := mSet_b hI x h y c
    have hmr := mMany_r A x h y c
    have hq := sumN_s (f := mChF A R x h y c s p) ht0
    have hpk := cPk_t (A := A) (x := x) (h := h) (y := y) (c := c) (p := p) ht0
    have hzz := zit_or (cPk A x h y c p t.toNat = true) (2 ^ t.toNat) 0
    have p2b := p2_b (t := t) ht0
    have hnk := fun q => nm_ok hI (y := y) (c := c) hx0 hx1 hh0 hh1 hs0 hs1 ht0 q
    have hTI := fun q => hI.thing t ht0 q
    have hnb := nbI24 (f := cPk A x h y c p) (n := (A 42 12).toNat) (by omega)
    refine aw_iload rfl rfl rfl ?_
    refine aw_aload_n rfl rfl rfl ?_
    refine aw_getr (b := 6) rfl rfl (hN.f.k 0 rfl) (hN.f.r 0 3 6 rfl) rfl ?_
    refine aw_fnc (c_size (hN.f.k 6 rfl) hN.lT.1) rfl rfl rfl (Nat.le_of_ble_eq_true rfl) (Or.inr ⟨_, rfl, (hN.f.k 6 rfl)⟩) rfl ?_
    refine aw_icmp (p' := 173) rfl ⟨by omega, by omega⟩ ⟨by omega, by omega⟩ rfl rfl (fun c1 => ?_) (fun c1 => ?_)
    · dsimp only [zc] at c1
      refine aw_lload rfl rfl rfl ?_
      refine aw_retl rfl ?_
      refine ⟨?_, hN, (hD.su (T := [14, 21, 27]) rfl)⟩
      unfold mChg
      by_cases et : t = A 42 12
      · rw [hz, et]
      · have h0 : mSet A x h y c = 0 := by omega
        have hz0 : ∀ i : Int, 0 ≤ i → i < A 42 12 → mChF A R x h y c s p i = 0 := fun i a b => zit_f (fun e => mIn_no h0 a b e.1)
        rw [hz, sumN_zero _ (fun i a b => hz0 i a (by omega)), sumN_zero _ (fun i a b => hz0 i a (by omega))]
    · dsimp only [zc] at c1
      refine aw_iload rfl rfl rfl ?_
      refine aw_if (p' := 173) rfl ⟨by omega, by omega⟩ rfl rfl (fun c2 => ?_) (fun c2 => ?_)
      · dsimp only [zc] at c2
        refine aw_lload rfl rfl rfl ?_
        refine aw_retl rfl ?_
        refine ⟨?_, hN, (hD.su (T := [14, 21, 27]) rfl)⟩
        unfold mChg
        by_cases et : t = A 42 12
        · rw [hz, et]
        · have h0 : mSet A x h y c = 0 := by omega
          have hz0 : ∀ i : Int, 0 ≤ i → i < A 42 12 → mChF A R x h y c s p i = 0 := fun i a b => zit_f (fun e => mIn_no h0 a b e.1)
          rw [hz, sumN_zero _ (fun i a b => hz0 i a (by omega)), sumN_zero _ (fun i a b => hz0 i a (by omega))]
      · dsimp only [zc] at c2
        have p2b := p2b (by omega)
        have hnk := hnk (by omega)
        have hmh := mH_range (hTI (by omega)) x y
        have hkd := (hTI (by omega)).2.2.2.1
        refine aw_iload rfl rfl rfl ?_
        refine aw_iload rfl rfl rfl ?_
        refine aw_iandq rfl hmk rfl ?_
        refine aw_iconst rfl rfl ?_
        refine aw_iload rfl rfl rfl ?_
        refine aw_ishl1 rfl (by omega) (by omega) rfl ?_
        refine aw_iand rfl (by omega) (by omega) rfl ?_
        rw [zand_p2 ht0 (by omega)]
        refine aw_if (p' := 167) rfl ⟨by omega, by omega⟩ rfl rfl (fun c3 => ?_) (fun c3 => ?_)
        · dsimp only [zc] at c3
          refine aw_iinc rfl rfl rfl rfl ?_
          change aw _ _ _ _ 170 [some (.ref 0), some (.int (iI _)), some (.int (iI _)), some (.int (iI _)), some (.int (iI _)), some (.int (iI _)), some (.long (lI _)), none, some (.int (iI _))] _ _
          refine aw_goto (p' := 71) rfl rfl ?_
          refine ih _ (by omega) _ _ _ rfl hN (hD.su (T := [14, 21, 27]) rfl) (by omega) (by omega) hnf ?_
          rw [hq, hz]
          show _ = sumN (mChF A R x h y c s p) t.toNat + zit _ _ _
          rw [zit_f (fun e => by have := hpk.mpr e; rcases hzz with ⟨a, b⟩ | ⟨a, b⟩; omega; exact a this), Int.add_zero]
        · dsimp only [zc] at c3
          refine aw_aload_n rfl rfl rfl ?_
          refine aw_getr (b := 14) rfl rfl (hN.f.k 0 rfl) (hN.f.r 0 10 14 rfl) rfl ?_
          refine aw_iconst rfl rfl ?_
          refine aw_aload_n rfl rfl rfl ?_
          refine aw_getr (b := 29) rfl rfl (hN.f.k 0 rfl) (hN.f.r 0 6 29 rfl) rfl ?_
          refine aw_iload rfl rfl rfl ?_
          refine aw_fnc (c_sHeight hN hI hx0 hx1 hy0 hy1 ht0 (by omega) (hS.mod (hD.su (T := [14, 21, 27]) rfl) rfl rfl rfl)) rfl rfl rfl (Nat.le_of_ble_eq_true rfl) (Or.inr ⟨_, rfl, (hN.f.k 29 rfl)⟩) rfl ?_
          refine aw_cs (N := 8) hN hI rfl (hN.f.s 14 rfl) (by omega) rfl (by omega) (by omega) ⟨by omega, by omega⟩ rfl (fun τ4 hM4 hD4 hU4 => ?_)
          refine aw_aload_n rfl rfl rfl ?_
          refine aw_getr (b := 14) rfl rfl (hM4.f.k 0 rfl) (hM4.f.r 0 10 14 rfl) rfl ?_
          refine aw_iconst rfl rfl ?_
          refine aw_aload_n rfl rfl rfl ?_
          refine aw_getr (b := 6) rfl rfl (hM4.f.k 0 rfl) (hM4.f.r 0 3 6 rfl) rfl ?_
          refine aw_iload rfl rfl rfl ?_
          refine aw_fnc (c_get (hM4.f.k 6 rfl) hM4.lT (by omega) (by omega) (by omega)) rfl rfl rfl (Nat.le_of_ble_eq_true rfl) (Or.inr ⟨_, rfl, (hM4.f.k 6 rfl)⟩) rfl ?_
          refine aw_cast rfl rfl (hM4.kT (by omega) (by omega)) rfl ?_
          refine aw_gk (v := (A 49 t)) (0) rfl rfl (hM4.kT (by omega) (by omega)) rfl (hM4.T0 (by omega) (by omega)) rfl (fun _ _ => ?_)
          refine aw_cs (N := 8) hM4 hI rfl (hM4.f.s 14 rfl) (by omega) rfl (by omega) (by omega) ⟨by omega, by omega⟩ rfl (fun τ5 hM5 hD5 hU5 => ?_)
          refine aw_aload_n rfl rfl rfl ?_
          refine aw_getr (b := 14) rfl rfl (hM5.f.k 0 rfl) (hM5.f.r 0 10 14 rfl) rfl ?_
          refine aw_bipush rfl rfl rfl ?_
          refine aw_iload rfl rfl rfl ?_
          refine aw_cs (N := 8) hM5 hI rfl (hM5.f.s 14 rfl) (by omega) rfl (by omega) (by omega) ⟨by omega, by omega⟩ rfl (fun τ6 hM6 hD6 hU6 => ?_)
          refine aw_lload rfl rfl rfl ?_
          refine aw_iconst rfl rfl ?_
          have hDk := ((hD4.su (T := [14]) rfl).tr (hD5.su (T := [14]) rfl)).tr (hD6.su (T := [14]) rfl)
          refine aw_aload_n rfl rfl rfl ?_
          refine aw_getr (b := (g 700)) rfl rfl (hM6.f.k 0 rfl) hM6.force.2.1 rfl ?_
          refine aw_aload_n rfl rfl rfl ?_
          refine aw_getr (b := 14) rfl rfl (hM6.f.k 0 rfl) (hM6.f.r 0 10 14 rfl) rfl ?_
          refine aw_calc (c_answer (nm := (nmE h (x % 360 / 30) x (mH A t x y) (mMany A x h y c) (A 49 t) t s)) hM6.f hb7 ⟨hR1, hR2, hR3⟩ (hT.mod ((((hD.su (T := [14, 21, 27]) rfl).tr (hD4.su (T := [14, 21, 27]) rfl)).tr (hD5.su (T := [14, 21, 27]) rfl)).tr (hD6.su (T := [14, 21, 27]) rfl)) (by intro a ha; simp only [List.mem_cons, List.not_mem_nil, or_false] at ha; omega)) hnk (fun w w0 w1 => by
                rw [hU6, hU5, hU4]
                obtain ⟨n0, n1, n2, n4, n7⟩ := hnf
                have hw : w = 0 ∨ w = 1 ∨ w = 2 ∨ w = 3 ∨ w = 4 ∨ w = 5 ∨ w = 6 ∨ w = 7 := by omega
                rcases hw with rfl | rfl | rfl | rfl | rfl | rfl | rfl | rfl <;> simp [nmE, n0, n1, n2, n4, n7])) rfl rfl rfl (Nat.le_of_ble_eq_true rfl) (Or.inr ⟨_, rfl, hM6.kF⟩) rfl ?_
          rintro _ τ7 ⟨rfl, hD7⟩
          change aw _ _ _ _ 160 [some (.ref 0), some (.int (iI _)), some (.int (iI _)), some (.int (iI _)), some (.int (iI _)), some (.int (iI _)), some (.long (lI _)), none, some (.int (iI _))] [.int (iI _), .int (iI _), .long (lI _)] _
          have hM7 := hM6.mod hI hD7 (nt5 hb7)
          have hgb := gvR_b hnk R hR3
          refine aw_fnc (j_max ⟨by omega, by omega⟩ ⟨by omega, by omega⟩) rfl rfl rfl (Nat.le_of_ble_eq_true rfl) (Or.inl rfl) rfl ?_
          refine aw_i2l rfl ⟨by omega, by omega⟩ rfl ?_
          refine aw_ladd rfl rfl ?_
          refine aw_lstore rfl (Nat.le_of_ble_eq_true rfl) rfl rfl ?_
          change aw _ _ _ _ 167 [some (.ref 0), some (.int (iI _)), some (.int (iI _)), some (.int (iI _)), some (.int (iI _)), some (.int (iI _)), some (.long (lI _)), none, some (.int (iI _))] _ _
          refine aw_iinc rfl rfl rfl rfl ?_
          change aw _ _ _ _ 170 [some (.ref 0), some (.int (iI _)), some (.int (iI _)), some (.int (iI _)), some (.int (iI _)), some (.int (iI _)), some (.long (lI _)), none, some (.int (iI _))] _ _
          refine aw_goto (p' := 71) rfl rfl ?_
          refine ih _ (by omega) _ _ _ rfl hM7 ((hD.tr (hDk.su (T := [14, 21, 27]) rfl)).tr (su27 hb7 hD7 rfl rfl)) (by omega) (by omega) ?_ ?_
          · rw [hD7.nz (by simp only [List.mem_singleton]; omega)]
            simp only [hU6, hU5, hU4]
            exact hnf
          · rw [hq, hz]
            show _ = sumN (mChF A R x h y c s p) t.toNat + zit _ _ _
            rw [zit_t (hpk.mp (by rcases hzz with ⟨a, b⟩ | ⟨a, b⟩; exact a; omega))]
            unfold mCh1 mx0
            by_cases q : gvR (nmE h (x % 360 / 30) x (mH A t x y) (mMany A x h y c) (A 49 t) t s) R < 0
            · rw [if_pos q, if_neg (by omega)]
            · rw [if_neg q]
              by_cases q2 : 0 < gvR (nmE h (x % 360 / 30) x (mH A t x y) (mMany A x h y c) (A 49 t) t s) R
              · rw [if_pos q2]
              · rw [if_neg q2, show gvR (nmE h (x % 360 / 30) x (mH A t x y) (mMany A x h y c) (A 49 t) t s) R = 0 by omega]
set_option maxRecDepth 10000 in
set_option maxHeartbeats 2000000 in
theorem c_charge {d : Nat} {sz : Nat} {κ : Nat × (Nat → Int32) × Option Nat} {A : Nat → Int → Int} {g : Nat → Nat} {σ : az_S} (hC : CR sz κ A g σ) (hI : MI sz A) {R : tRules} (hR : PW R) (hT : cTar σ (g 700) R) {x h : Int} (hx0 : 0 ≤ x) (hx1 : x ≤ 3599) (hh0 : 0 ≤ h) (hh1 : h ≤ 11) {y : Int} (hy0 : 0 ≤ y) (hy1 : y ≤ 3599) (hS : cSL A x y σ) (hU0 : cST A x h y σ) {c : Int} (hc0 : 0 ≤ c) (hc1 : c < A 42 2) {s p m : Int} (hs0 : -1 ≤ s) (hs1 : s ≤ 10) (hmk : iI (mSet A x h y c) &&& iI m = iI (nbI (cPk A x h y c p) (A 42 12).toNat)) : cal (d + 5) 150 [.ref 0, .int (iI c), .int (iI h), .int (iI s), .int (iI m)] σ (fun r τ => r = some (.long (lI (mChg A R x h y c s p))) ∧ CR sz κ A g τ ∧ Mod σ τ [14, 21, 27]) := by
  obtain ⟨hR1, hR2, hR3⟩ := hR
  have hb7 := hC.force.1
  have hth := hI.things
  have hce := hI.cells
  have hsb := mSet_b hI x h y c
  have hmr := mMany_r A x h y c
  refine cal_of (M := (yX11_chargeOf, cX11_chargeOf, 9, (some .long))) (cd := k_X11_chargeOf) (L := [some (.ref 0), some (.int (iI c)), some (.int (iI h)), some (.int (iI s)), some (.int (iI m)), none, none, none, none]) rfl (Nat.le_of_ble_eq_true rfl) rfl rfl ?_
  refine aw_aload_n rfl rfl rfl ?_
  refine aw_getr (b := 29) rfl rfl (hC.f.k 0 rfl) (hC.f.r 0 6 29 rfl) rfl ?_
  refine aw_iload_n rfl rfl rfl ?_
  refine aw_fnc (c_shaders hC hI (by omega) (by omega) (by omega) (by omega) (by omega) (by omega) hU0 (by omega) (by omega)) rfl rfl rfl (Nat.le_of_ble_eq_true rfl) (Or.inr ⟨_, rfl, (hC.f.k 29 rfl)⟩) rfl ?_
  have hsb8 := mSet_b hI x h y c
  refine aw_istore rfl (Nat.le_of_ble_eq_true rfl) rfl rfl ?_
  change aw _ _ _ _ 10 [some (.ref 0), some (.int (iI _)), some (.int (iI _)), some (.int (iI _)), some (.int (iI _)), some (.int (iI _)), none, none, none] _ _
  refine aw_aload_n rfl rfl rfl ?_
  refine aw_getr (b := 14) rfl rfl (hC.f.k 0 rfl) (hC.f.r 0 10 14 rfl) rfl ?_
  refine aw_iconst rfl rfl ?_
  refine aw_iload_n rfl rfl rfl ?_
  refine aw_cs (N := 8) hC hI rfl (hC.f.s 14 rfl) (by omega) rfl (by omega) (by omega) ⟨by omega, by omega⟩ rfl (fun τ9 hM9 hD9 hU9 => ?_)
  refine aw_aload_n rfl rfl rfl ?_
  refine aw_getr (b := 14) rfl rfl (hM9.f.k 0 rfl) (hM9.f.r 0 10 14 rfl) rfl ?_
  refine aw_iconst rfl rfl ?_
  refine aw_aload_n rfl rfl rfl ?_
  refine aw_getr (b := 29) rfl rfl (hM9.f.k 0 rfl) (hM9.f.r 0 6 29 rfl) rfl ?_
  refine aw_gk (v := x) (6) rfl rfl (hM9.f.k 29 rfl) rfl (hS.mod (hD9.su (T := [14, 21, 27]) rfl) rfl rfl rfl).1 rfl (fun _ _ => ?_)
  refine aw_fnc (c_monthOf (by omega) (by omega)) rfl rfl rfl (Nat.le_of_ble_eq_true rfl) (Or.inl rfl) rfl ?_
  refine aw_cs (N := 8) hM9 hI rfl (hM9.f.s 14 rfl) (by omega) rfl (by omega) (by omega) ⟨by omega, by omega⟩ rfl (fun τ10 hM10 hD10 hU10 => ?_)
  refine aw_aload_n rfl rfl rfl ?_
  refine aw_getr (b := 14) rfl rfl (hM10.f.k 0 rfl) (hM10.f.r 0 10 14 rfl) rfl ?_
  refine aw_iconst rfl rfl ?_
  refine aw_aload_n rfl rfl rfl ?_
  refine aw_getr (b := 29) rfl rfl (hM10.f.k 0 rfl) (hM10.f.r 0 6 29 rfl) rfl ?_
  refine aw_gk (v := x) (6) rfl rfl (hM10.f.k 29 rfl) rfl (hS.mod ((hD9.su (T := [14, 21, 27]) rfl).tr (hD10.su (T := [14, 21, 27]) rfl)) rfl rfl rfl).1 rfl (fun _ _ => ?_)
  refine aw_cs (N := 8) hM10 hI rfl (hM10.f.s 14 rfl) (by omega) rfl (by omega) (by omega) ⟨by omega, by omega⟩ rfl (fun τ11 hM11 hD11 hU11 => ?_)
  refine aw_aload_n rfl rfl rfl ?_
  refine aw_getr (b := 14) rfl rfl (hM11.f.k 0 rfl) (hM11.f.r 0 10 14 rfl) rfl ?_
  refine aw_iconst rfl rfl ?_
  refine aw_iload rfl rfl rfl ?_
  refine aw_fnc (j_bitCount (by omega) (by omega)) rfl rfl rfl (Nat.le_of_ble_eq_true rfl) (Or.inl rfl) rfl ?_
  rw [cMany_bc hI]
  refine aw_cs (N := 8) hM11 hI rfl (hM11.f.s 14 rfl) (by omega) rfl (by omega) (by omega) ⟨by omega, by omega⟩ rfl (fun τ12 hM12 hD12 hU12 => ?_)
  refine aw_aload_n rfl rfl rfl ?_
  refine aw_getr (b := 14) rfl rfl (hM12.f.k 0 rfl) (hM12.f.r 0 10 14 rfl) rfl ?_
  refine aw_bipush rfl rfl rfl ?_
  refine aw_iload_n rfl rfl rfl ?_
  refine aw_cs (N := 8) hM12 hI rfl (hM12.f.s 14 rfl) (by omega) rfl (by omega) (by omega) ⟨by omega, by omega⟩ rfl (fun τ13 hM13 hD13 hU13 => ?_)
  refine aw_lconst 0 rfl rfl rfl ?_
  refine aw_lstore rfl (Nat.le_of_ble_eq_true rfl) rfl rfl ?_
  change aw _ _ _ _ 68 [some (.ref 0), some (.int (iI _)), some (.int (iI _)), some (.int (iI _)), some (.int (iI _)), some (.int (iI _)), some (.long (lI _)), none, none] _ _
  refine aw_iconst rfl rfl ?_
  refine aw_istore rfl (Nat.le_of_ble_eq_true rfl) rfl rfl ?_
  change aw _ _ _ _ 71 [some (.ref 0), some (.int (iI _)), some (.int (iI _)), some (.int (iI _)), some (.int (iI _)), some (.int (iI _)), some (.long (lI _)), none, some (.int (iI _))] _ _
  refine c_charge_l71 hC hI ⟨hR1, hR2, hR3⟩ hT hx0 hx1 hh0 hh1 hy0 hy1 hS hU0 hc0 hc1 hs0 hs1 hmk _ _ 0 0 rfl hM13 (((((hD9.su (T := [14, 21, 27]) rfl).tr (hD10.su (T := [14, 21, 27]) rfl)).tr (hD11.su (T := [14, 21, 27]) rfl)).tr (hD12.su (T := [14, 21, 27]) rfl)).tr (hD13.su (T := [14, 21, 27]) rfl)) (by omega) (by omega) ?_ rfl
  simp only [hU13, hU12, hU11, hU10, hU9]
  simp
set_option maxRecDepth 10000 in
set_option maxHeartbeats 2000000 in
theorem c_fees_l74 {d : Nat} {sz : Nat} {κ : Nat × (Nat → Int32) × Option Nat} {A : Nat → Int → Int} {g : Nat → Nat} {σ : az_S} (hC : CR sz κ A g σ) (hI : MI sz A) {R : tRules} (hR : PW R) (hT : cTar σ (g 700) R) {s : Int} (hs : inI s) {x : Int} (hx : inI x) {p : Int} (hp : inI p) : ∀ (n : Nat) (τ : az_S) (h z : Int) (w1 w2 : Option Value), (12 - h).toNat = n → ((0 ≤ s ∧ s ≤ A 42 66 - 1) ∧ (A 85 s ≤ x ∧ x ≤ A 86 s) ∧ (p = -1 ∨ (0 ≤ p ∧ p ≤ A 42 9 - 1))) → CR sz κ A g τ → Mod σ τ [14, 15, 21, 27, 29, 30, 31, 32] → 0 ≤ h → h ≤ 12 → cSL A x (A 42 3) τ → z = sumN (mFeF A R s x p) h.toNat → aw (d + 5) k_X11_fees (some .long) (fun r τ => r = some (.long (lI (zit ((0 ≤ s ∧ s ≤ A 42 66 - 1) ∧ (A 85 s ≤ x ∧ x ≤ A 86 s) ∧ (p = -1 ∨ (0 ≤ p ∧ p ≤ A 42 9 - 1))) (mFee A R s x p) (-1000000000)))) ∧ CR sz κ A g τ ∧ Mod σ τ [14, 15, 21, 27, 29, 30, 31, 32]) 74 [some (.ref 0), some (.int (iI s)), some (.int (iI x)), some (.int (iI p)), some (.ref (gS g s)), some (.long (lI z)), none, some (.int (iI h)), w1, w2] [] τ := by
  intro n
  induction n using Nat.strongRecOn with
  | ind n ih =>
    intro τ h z w1 w2 hn hok hN hD hh0 hh1 hS hz
    obtain ⟨hR1, hR2, hR3⟩ := hR
    have hb7 := hC.force.1
    obtain ⟨hs1, hs2⟩ := hs
    obtain ⟨hx1, hx2⟩ := hx
    obtain ⟨hp1, hp2⟩ := hp
    have hst := hI.stalls
    have hpe := hI.people
    have hcl := hI.clock
    have hce := hI.cells
    have hq := sumN_s (f := mFeF A R s x p) hh0
    have hS1 := (hI.stall s (by omega) (by omega)).1
    have hS2 := fun q => (hI.stall s (by omega) (by omega)).2 h hh0 q
    refine aw_iload rfl rfl rfl ?_
    refine aw_bipush rfl rfl rfl ?_
    refine aw_icmp (p' := 150) rfl ⟨by omega, by omega⟩ ⟨by omega, by omega⟩ rfl rfl (fun c1 => ?_) (fun c1 => ?_)
    · dsimp only [zc] at c1
      refine aw_lload rfl rfl rfl ?_
      refine aw_retl rfl ?_
      refine ⟨?_, hN, (hD.su (T := [14, 15, 21, 27, 29, 30, 31, 32]) rfl)⟩
      rw [zit_t hok, hz, show h = 12 by omega]
      rfl
    · dsimp only [zc] at c1
      have hS2 := hS2 (by omega)
      refine aw_aload rfl rfl rfl ?_
      refine aw_iload rfl rfl rfl ?_
      refine aw_fnc (c_cellIn hN hI (by omega) (by omega) ⟨by omega, by omega⟩) rfl rfl rfl (Nat.le_of_ble_eq_true rfl) (Or.inr ⟨_, rfl, (hN.kS (by omega) (by omega))⟩) rfl ?_
      rw [zit_t (p := 0 ≤ h ∧ h ≤ 11) (by omega)]
      refine aw_istore rfl (Nat.le_of_ble_eq_true rfl) rfl rfl ?_
      change aw _ _ _ _ 90 [some (.ref 0), some (.int (iI _)), some (.int (iI _)), some (.int (iI _)), some (.ref (gS g s)), some (.long (lI _)), none, some (.int (iI _)), some (.int (iI _)), _] _ _
      refine aw_iload rfl rfl rfl ?_
      refine aw_iconst rfl rfl ?_
      refine aw_icmp (p' := 144) rfl ⟨by omega, by omega⟩ ⟨by omega, by omega⟩ rfl rfl (fun c2 => ?_) (fun c2 => ?_)
      · dsimp only [zc] at c2
        refine aw_iinc rfl rfl rfl rfl ?_
        change aw _ _ _ _ 147 [some (.ref 0), some (.int (iI _)), some (.int (iI _)), some (.int (iI _)), some (.ref (gS g s)), some (.long (lI _)), none, some (.int (iI _)), some (.int (iI _)), _] _ _
        refine aw_goto (p' := 74) rfl rfl ?_
        refine ih _ (by omega) _ _ _ _ _ rfl hok hN (hD.su (T := [14, 15, 21, 27, 29, 30, 31, 32]) rfl) (by omega) (by omega) hS ?_
        rw [hq, hz]
        show _ = _ + zit _ _ _
        rw [zit_f (by omega), Int.add_zero]
      · dsimp only [zc] at c2
        refine aw_aload_n rfl rfl rfl ?_
        refine aw_getr (b := 29) rfl rfl (hN.f.k 0 rfl) (hN.f.r 0 6 29 rfl) rfl ?_
        refine aw_iload rfl rfl rfl ?_
        refine aw_calc (c_turnTo hN hI (by omega) (by omega) (by omega) (by omega) hcl.1 hcl.2 hS) rfl rfl rfl (Nat.le_of_ble_eq_true rfl) (Or.inr ⟨_, rfl, (hN.f.k 29 rfl)⟩) rfl ?_
        rintro _ τ3 ⟨rfl, hM3, hD3, hT3⟩
        change aw _ _ _ _ 105 [some (.ref 0), some (.int (iI _)), some (.int (iI _)), some (.int (iI _)), some (.ref (gS g s)), some (.long (lI _)), none, some (.int (iI _)), some (.int (iI _)), _] [] _
        refine aw_iload_n rfl rfl rfl ?_
        refine aw_iconst rfl rfl ?_
        refine aw_icmp (p' := 114) rfl ⟨by omega, by omega⟩ ⟨by omega, by omega⟩ rfl rfl (fun c4 => ?_) (fun c4 => ?_)
        · dsimp only [zc] at c4
          skip
          refine aw_aload_n rfl rfl rfl ?_
          refine aw_iload_n rfl rfl rfl ?_
          refine aw_iload_n rfl rfl rfl ?_
          refine aw_iload rfl rfl rfl ?_
          refine aw_aload_n rfl rfl rfl ?_
          refine aw_gk (v := A 42 3) (15) rfl rfl (hM3.f.k 0 rfl) rfl hM3.today rfl (fun _ _ => ?_)
          refine aw_calc (c_heldBy hM3 hI ⟨by omega, by omega⟩ (by omega) (by omega) (by omega) (by omega) (by omega) (by omega)) rfl rfl rfl (Nat.le_of_ble_eq_true rfl) (Or.inr ⟨_, rfl, (hM3.f.k 0 rfl)⟩) rfl ?_
          rintro _ τ5 ⟨rfl, hM5, hD5⟩
          change aw _ _ _ _ 126 [some (.ref 0), some (.int (iI _)), some (.int (iI _)), some (.int (iI _)), some (.ref (gS g s)), some (.long (lI _)), none, some (.int (iI _)), some (.int (iI _)), _] [.int (iI _)] _
          refine aw_istore rfl (Nat.le_of_ble_eq_true rfl) rfl rfl ?_
          change aw _ _ _ _ 128 [some (.ref 0), some (.int (iI _)), some (.int (iI _)), some (.int (iI _)), some (.ref (gS g s)), some (.long (lI _)), none, some (.int (iI _)), some (.int (iI _)), some (.int (iI _))] _ _
          refine aw_lload rfl rfl rfl ?_
          refine aw_aload_n rfl rfl rfl ?_
          refine aw_iload rfl rfl rfl ?_
          refine aw_iload rfl rfl rfl ?_
          refine aw_iload_n rfl rfl rfl ?_
          refine aw_iload rfl rfl rfl ?_
          refine aw_calc (c_charge (m := (cHeld A p x h (A 42 3))) (p := p) hM5 hI ⟨hR1, hR2, hR3⟩ (hT.mod (((hD.su (T := [14, 15, 21, 27, 29, 30, 31, 32]) rfl).tr (hD3.su (T := [14, 15, 21, 27, 29, 30, 31, 32]) rfl)).tr (hD5.su (T := [14, 15, 21, 27, 29, 30, 31, 32]) rfl)) (by intro a ha; simp only [List.mem_cons, List.not_mem_nil, or_false] at ha; omega)) (by omega) (by omega) hh0 (by omega) hcl.1 hcl.2 ((hS.mod hD3 rfl rfl rfl).mod hD5 rfl rfl rfl) (hT3.mod hD5 rfl) (by omega) (by omega) (by omega) (by omega) (pk_held hI (by omega))) rfl rfl rfl (Nat.le_of_ble_eq_true rfl) (Or.inr ⟨_, rfl, (hM5.f.k 0 rfl)⟩) rfl ?_
          rintro _ τ6 ⟨rfl, hM6, hD6⟩
          change aw _ _ _ _ 141 [some (.ref 0), some (.int (iI _)), some (.int (iI _)), some (.int (iI _)), some (.ref (gS g s)), some (.long (lI _)), none, some (.int (iI _)), some (.int (iI _)), some (.int (iI _))] [.long (lI _), .long (lI _)] _
          refine aw_ladd rfl rfl ?_
          refine aw_lstore rfl (Nat.le_of_ble_eq_true rfl) rfl rfl ?_
          change aw _ _ _ _ 144 [some (.ref 0), some (.int (iI _)), some (.int (iI _)), some (.int (iI _)), some (.ref (gS g s)), some (.long (lI _)), none, some (.int (iI _)), some (.int (iI _)), some (.int (iI _))] _ _
          refine aw_iinc rfl rfl rfl rfl ?_
          change aw _ _ _ _ 147 [some (.ref 0), some (.int (iI _)), some (.int (iI _)), some (.int (iI _)), some (.ref (gS g s)), some (.long (lI _)), none, some (.int (iI _)), some (.int (iI _)), some (.int (iI _))] _ _
          refine aw_goto (p' := 74) rfl rfl ?_
          refine ih _ (by omega) _ _ _ _ _ rfl hok hM6 ((((hD.su (T := [14, 15, 21, 27, 29, 30, 31, 32]) rfl).tr (hD3.su (T := [14, 15, 21, 27, 29, 30, 31, 32]) rfl)).tr (hD5.su (T := [14, 15, 21, 27, 29, 30, 31, 32]) rfl)).tr (hD6.su (T := [14, 15, 21, 27, 29, 30, 31, 32]) rfl)) (by omega) (by omega) (((hS.mod hD3 rfl rfl rfl).mod hD5 rfl rfl rfl).mod hD6 rfl rfl rfl) ?_
          rw [hq, hz]
          show _ = _ + zit _ _ _
          rw [zit_t (by omega)]
        · dsimp only [zc] at c4
          skip
          refine aw_iconst rfl rfl ?_
          refine aw_goto (p' := 126) rfl rfl ?_
          refine aw_istore rfl (Nat.le_of_ble_eq_true rfl) rfl rfl ?_
          change aw _ _ _ _ 128 [some (.ref 0), some (.int (iI _)), some (.int (iI _)), some (.int (iI _)), some (.ref (gS g s)), some (.long (lI _)), none, some (.int (iI _)), some (.int (iI _)), some (.int (iI _))] _ _
          refine aw_lload rfl rfl rfl ?_
          refine aw_aload_n rfl rfl rfl ?_
          refine aw_iload rfl rfl rfl ?_
          refine aw_iload rfl rfl rfl ?_
          refine aw_iload_n rfl rfl rfl ?_
          refine aw_iload rfl rfl rfl ?_
          refine aw_calc (c_charge (m := -1) (p := p) hM3 hI ⟨hR1, hR2, hR3⟩ (hT.mod ((hD.su (T := [14, 15, 21, 27, 29, 30, 31, 32]) rfl).tr (hD3.su (T := [14, 15, 21, 27, 29, 30, 31, 32]) rfl)) (by intro a ha; simp only [List.mem_cons, List.not_mem_nil, or_false] at ha; omega)) (by omega) (by omega) hh0 (by omega) hcl.1 hcl.2 (hS.mod hD3 rfl rfl rfl) hT3 (by omega) (by omega) (by omega) (by omega) (pk_all (by omega))) rfl rfl rfl (Nat.le_of_ble_eq_true rfl) (Or.inr ⟨_, rfl, (hM3.f.k 0 rfl)⟩) rfl ?_
          rintro _ τ7 ⟨rfl, hM7, hD7⟩
          change aw _ _ _ _ 141 [some (.ref 0), some (.int (iI _)), some (.int (iI _)), some (.int (iI _)), some (.ref (gS g s)), some (.long (lI _)), none, some (.int (iI _)), some (.int (iI _)), some (.int (iI _))] [.long (lI _), .long (lI _)] _
          refine aw_ladd rfl rfl ?_
          refine aw_lstore rfl (Nat.le_of_ble_eq_true rfl) rfl rfl ?_
          change aw _ _ _ _ 144 [some (.ref 0), some (.int (iI _)), some (.int (iI _)), some (.int (iI _)), some (.ref (gS g s)), some (.long (lI _)), none, some (.int (iI _)), some (.int (iI _)), some (.int (iI _))] _ _
          refine aw_iinc rfl rfl rfl rfl ?_
          change aw _ _ _ _ 147 [some (.ref 0), some (.int (iI _)), some (.int (iI _)), some (.int (iI _)), some (.ref (gS g s)), some (.long (lI _)), none, some (.int (iI _)), some (.int (iI _)), some (.int (iI _))] _ _
          refine aw_goto (p' := 74) rfl rfl ?_
          refine ih _ (by omega) _ _ _ _ _ rfl hok hM7 (((hD.su (T := [14, 15, 21, 27, 29, 30, 31, 32]) rfl).tr (hD3.su (T := [14, 15, 21, 27, 29, 30, 31, 32]) rfl)).tr (hD7.su (T := [14, 15, 21, 27, 29, 30, 31, 32]) rfl)) (by omega) (by omega) ((hS.mod hD3 rfl rfl rfl).mod hD7 rfl rfl rfl) ?_
          rw [hq, hz]
          show _ = _ + zit _ _ _
          rw [zit_t (by omega)]
set_option maxRecDepth 10000 in
set_option maxHeartbeats 2000000 in
theorem c_fees {d : Nat} {sz : Nat} {κ : Nat × (Nat → Int32) × Option Nat} {A : Nat → Int → Int} {g : Nat → Nat} {σ : az_S} (hC : CR sz κ A g σ) (hI : MI sz A) {R : tRules} (hR : PW R) (hT : cTar σ (g 700) R) {s : Int} (hs : inI s) {x : Int} (hx : inI x) {p : Int} (hp : inI p) : cal (d + 6) 124 [.ref 0, .int (iI s), .int (iI x), .int (iI p)] σ (fun r τ => r = some (.long (lI (zit ((0 ≤ s ∧ s ≤ A 42 66 - 1) ∧ (A 85 s ≤ x ∧ x ≤ A 86 s) ∧ (p = -1 ∨ (0 ≤ p ∧ p ≤ A 42 9 - 1))) (mFee A R s x p) (-1000000000)))) ∧ CR sz κ A g τ ∧ Mod σ τ [14, 15, 21, 27, 29, 30, 31, 32]) := by
  obtain ⟨hR1, hR2, hR3⟩ := hR
  have hb7 := hC.force.1
  obtain ⟨hs1, hs2⟩ := hs
  obtain ⟨hx1, hx2⟩ := hx
  obtain ⟨hp1, hp2⟩ := hp
  have hst := hI.stalls
  have hpe := hI.people
  have hcl := hI.clock
  have hce := hI.cells
  refine cal_of (M := (yX11_fees, cX11_fees, 10, (some .long))) (cd := k_X11_fees) (L := [some (.ref 0), some (.int (iI s)), some (.int (iI x)), some (.int (iI p)), none, none, none, none, none, none]) rfl (Nat.le_of_ble_eq_true rfl) rfl rfl ?_
  refine aw_aload_n rfl rfl rfl ?_
  refine aw_iload_n rfl rfl rfl ?_
  refine aw_fnc (c_isStall hC hI ⟨by omega, by omega⟩) rfl rfl rfl (Nat.le_of_ble_eq_true rfl) (Or.inr ⟨_, rfl, (hC.f.k 0 rfl)⟩) rfl ?_
  refine aw_ifeqb (p' := 39) rfl rfl rfl (fun c8 => ?_) (fun c8 => ?_)
  · refine aw_ldc2 (-1000000000) rfl rfl rfl ?_
    refine aw_retl rfl ?_
    refine ⟨?_, hC, Mod.rf⟩
    rw [zit_f (by omega)]
  · refine aw_aload_n rfl rfl rfl ?_
    refine aw_getr (b := 8) rfl rfl (hC.f.k 0 rfl) (hC.f.r 0 5 8 rfl) rfl ?_
    refine aw_iload_n rfl rfl rfl ?_
    refine aw_fnc (c_get (hC.f.k 8 rfl) hC.lS (by omega) (by omega) (by omega)) rfl rfl rfl (Nat.le_of_ble_eq_true rfl) (Or.inr ⟨_, rfl, (hC.f.k 8 rfl)⟩) rfl ?_
    refine aw_cast rfl rfl (hC.kS (by omega) (by omega)) rfl ?_
    refine aw_iload_n rfl rfl rfl ?_
    refine aw_fnc (c_isOn hC hI (by omega) (by omega) ⟨by omega, by omega⟩) rfl rfl rfl (Nat.le_of_ble_eq_true rfl) (Or.inr ⟨_, rfl, (hC.kS (by omega) (by omega))⟩) rfl ?_
    refine aw_ifeqb (p' := 39) rfl rfl rfl (fun c9 => ?_) (fun c9 => ?_)
    · refine aw_ldc2 (-1000000000) rfl rfl rfl ?_
      refine aw_retl rfl ?_
      refine ⟨?_, hC, Mod.rf⟩
      rw [zit_f (by omega)]
    · refine aw_iload_n rfl rfl rfl ?_
      refine aw_iconst rfl rfl ?_
      refine aw_icmp (p' := 43) rfl ⟨by omega, by omega⟩ ⟨by omega, by omega⟩ rfl rfl (fun c10 => ?_) (fun c10 => ?_)
      · dsimp only [zc] at c10
        have hS1 := (hI.stall s (by omega) (by omega)).1
        refine aw_aload_n rfl rfl rfl ?_
        refine aw_getr (b := 8) rfl rfl (hC.f.k 0 rfl) (hC.f.r 0 5 8 rfl) rfl ?_
        refine aw_iload_n rfl rfl rfl ?_
        refine aw_fnc (c_get (hC.f.k 8 rfl) hC.lS (by omega) (by omega) (by omega)) rfl rfl rfl (Nat.le_of_ble_eq_true rfl) (Or.inr ⟨_, rfl, (hC.f.k 8 rfl)⟩) rfl ?_
        refine aw_cast rfl rfl (hC.kS (by omega) (by omega)) rfl ?_
        refine aw_astore rfl (Nat.le_of_ble_eq_true rfl) rfl rfl ?_
        change aw _ _ _ _ 56 [some (.ref 0), some (.int (iI _)), some (.int (iI _)), some (.int (iI _)), some (.ref (gS g s)), none, none, none, none, none] _ _
        refine aw_aload_n rfl rfl rfl ?_
        refine aw_getr (b := 29) rfl rfl (hC.f.k 0 rfl) (hC.f.r 0 6 29 rfl) rfl ?_
        refine aw_iload_n rfl rfl rfl ?_
        refine aw_aload_n rfl rfl rfl ?_
        refine aw_gk (v := A 42 3) (15) rfl rfl (hC.f.k 0 rfl) rfl hC.today rfl (fun _ _ => ?_)
        refine aw_calc (c_lookAt hC hI (by omega) (by omega) (by omega) (by omega)) rfl rfl rfl (Nat.le_of_ble_eq_true rfl) (Or.inr ⟨_, rfl, (hC.f.k 29 rfl)⟩) rfl ?_
        rintro _ τ11 ⟨rfl, hM11, hD11, hS11⟩
        change aw _ _ _ _ 68 [some (.ref 0), some (.int (iI _)), some (.int (iI _)), some (.int (iI _)), some (.ref (gS g s)), none, none, none, none, none] [] _
        refine aw_lconst 0 rfl rfl rfl ?_
        refine aw_lstore rfl (Nat.le_of_ble_eq_true rfl) rfl rfl ?_
        change aw _ _ _ _ 71 [some (.ref 0), some (.int (iI _)), some (.int (iI _)), some (.int (iI _)), some (.ref (gS g s)), some (.long (lI _)), none, none, none, none] _ _
        refine aw_iconst rfl rfl ?_
        refine aw_istore rfl (Nat.le_of_ble_eq_true rfl) rfl rfl ?_
        change aw _ _ _ _ 74 [some (.ref 0), some (.int (iI _)), some (.int (iI _)), some (.int (iI _)), some (.ref (gS g s)), some (.long (lI _)), none, some (.int (iI _)), none, none] _ _
        exact c_fees_l74 hC hI ⟨hR1, hR2, hR3⟩ hT ⟨by omega, by omega⟩ ⟨by omega, by omega⟩ ⟨by omega, by omega⟩ _ _ 0 0 _ _ rfl (by omega) hM11 (hD11.su (T := [14, 15, 21, 27, 29, 30, 31, 32]) rfl) (by omega) (by omega) hS11 rfl
      · dsimp only [zc] at c10
        refine aw_aload_n rfl rfl rfl ?_
        refine aw_iload_n rfl rfl rfl ?_
        refine aw_fnc (c_isPerson hC hI ⟨by omega, by omega⟩) rfl rfl rfl (Nat.le_of_ble_eq_true rfl) (Or.inr ⟨_, rfl, (hC.f.k 0 rfl)⟩) rfl ?_
        refine aw_ifneb (p' := 43) rfl rfl rfl (fun c12 => ?_) (fun c12 => ?_)
        · have hS1 := (hI.stall s (by omega) (by omega)).1
          refine aw_aload_n rfl rfl rfl ?_
          refine aw_getr (b := 8) rfl rfl (hC.f.k 0 rfl) (hC.f.r 0 5 8 rfl) rfl ?_
          refine aw_iload_n rfl rfl rfl ?_
          refine aw_fnc (c_get (hC.f.k 8 rfl) hC.lS (by omega) (by omega) (by omega)) rfl rfl rfl (Nat.le_of_ble_eq_true rfl) (Or.inr ⟨_, rfl, (hC.f.k 8 rfl)⟩) rfl ?_
          refine aw_cast rfl rfl (hC.kS (by omega) (by omega)) rfl ?_
          refine aw_astore rfl (Nat.le_of_ble_eq_true rfl) rfl rfl ?_
          change aw _ _ _ _ 56 [some (.ref 0), some (.int (iI _)), some (.int (iI _)), some (.int (iI _)), some (.ref (gS g s)), none, none, none, none, none] _ _
          refine aw_aload_n rfl rfl rfl ?_
          refine aw_getr (b := 29) rfl rfl (hC.f.k 0 rfl) (hC.f.r 0 6 29 rfl) rfl ?_
          refine aw_iload_n rfl rfl rfl ?_
          refine aw_aload_n rfl rfl rfl ?_
          refine aw_gk (v := A 42 3) (15) rfl rfl (hC.f.k 0 rfl) rfl hC.today rfl (fun _ _ => ?_)
          refine aw_calc (c_lookAt hC hI (by omega) (by omega) (by omega) (by omega)) rfl rfl rfl (Nat.le_of_ble_eq_true rfl) (Or.inr ⟨_, rfl, (hC.f.k 29 rfl)⟩) rfl ?_
          rintro _ τ13 ⟨rfl, hM13, hD13, hS13⟩
          change aw _ _ _ _ 68 [some (.ref 0), some (.int (iI _)), some (.int (iI _)), some (.int (iI _)), some (.ref (gS g s)), none, none, none, none, none] [] _
          refine aw_lconst 0 rfl rfl rfl ?_
          refine aw_lstore rfl (Nat.le_of_ble_eq_true rfl) rfl rfl ?_
          change aw _ _ _ _ 71 [some (.ref 0), some (.int (iI _)), some (.int (iI _)), some (.int (iI _)), some (.ref (gS g s)), some (.long (lI _)), none, none, none, none] _ _
          refine aw_iconst rfl rfl ?_
          refine aw_istore rfl (Nat.le_of_ble_eq_true rfl) rfl rfl ?_
          change aw _ _ _ _ 74 [some (.ref 0), some (.int (iI _)), some (.int (iI _)), some (.int (iI _)), some (.ref (gS g s)), some (.long (lI _)), none, some (.int (iI _)), none, none] _ _
          exact c_fees_l74 hC hI ⟨hR1, hR2, hR3⟩ hT ⟨by omega, by omega⟩ ⟨by omega, by omega⟩ ⟨by omega, by omega⟩ _ _ 0 0 _ _ rfl (by omega) hM13 (hD13.su (T := [14, 15, 21, 27, 29, 30, 31, 32]) rfl) (by omega) (by omega) hS13 rfl
        · refine aw_ldc2 (-1000000000) rfl rfl rfl ?_
          refine aw_retl rfl ?_
          refine ⟨?_, hC, Mod.rf⟩
          rw [zit_f (by omega)]
