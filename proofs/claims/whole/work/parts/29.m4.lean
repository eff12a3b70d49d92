noncomputable def zit (p : Prop) (a b : Int) : Int := @ite Int p (Classical.propDecidable p) a b
theorem zit_t {p : Prop} {a b : Int} (h : p) : zit p a b = a := if_pos h
theorem zit_f {p : Prop} {a b : Int} (h : ¬ p) : zit p a b = b := if_neg h
theorem zit_or (p : Prop) (a b : Int) : (p ∧ zit p a b = a) ∨ (¬ p ∧ zit p a b = b) := by
  by_cases h : p
  · exact Or.inl ⟨h, zit_t h⟩
  · exact Or.inr ⟨h, zit_f h⟩
theorem zit_congr {p q : Prop} {a b : Int} (h : p ↔ q) : zit p a b = zit q a b := by rw [propext h]
def sumN (f : Int → Int) : Nat → Int
  | 0 => 0
  | n + 1 => sumN f n + f n
theorem sumN_s {f : Int → Int} {t : Int} (h : 0 ≤ t) : sumN f (t + 1).toNat = sumN f t.toNat + f t := by
  obtain ⟨n, rfl⟩ := Int.eq_ofNat_of_zero_le h
  have e : ((n : Int) + 1).toNat = n + 1 := by omega
  rw [e]
  rfl
theorem sumN_congr {f g : Int → Int} : ∀ n : Nat, (∀ i : Int, 0 ≤ i → i < n → f i = g i) → sumN f n = sumN g n := by
  intro n
  induction n with
  | zero => intro _; rfl
  | succ n ih => intro h; unfold sumN; rw [ih (fun i a b => h i a (by omega)), h n (by omega) (by omega)]
theorem sumN_b {f : Int → Int} {M : Int} : ∀ n : Nat, (∀ i : Int, 0 ≤ i → i < n → 0 ≤ f i ∧ f i ≤ M) → 0 ≤ sumN f n ∧ sumN f n ≤ n * M := by
  intro n
  induction n with
  | zero => intro _; unfold sumN; omega
  | succ n ih =>
    intro h
    have h1 := ih (fun i a b => h i a (by omega))
    have h2 := h n (by omega) (by omega)
    unfold sumN
    have : ((n + 1 : Nat) : Int) * M = n * M + M := by rw [Int.natCast_add, Int.add_mul]; simp
    omega
noncomputable def cntN (p : Int → Prop) (n : Nat) : Int := sumN (fun i => bI (p i)) n
theorem cntN_s {p : Int → Prop} {t : Int} (h : 0 ≤ t) : cntN p (t + 1).toNat = cntN p t.toNat + bI (p t) := sumN_s h
theorem cntN_b (p : Int → Prop) (n : Nat) : 0 ≤ cntN p n ∧ cntN p n ≤ n := by
  have := sumN_b (f := fun i => bI (p i)) (M := 1) n (fun i _ _ => bI_r (p i))
  unfold cntN
  omega
section AwSw
variable {d : Nat} {cd : List az_I} {rt : Option FieldType} {P : Option Value → az_S → Prop} {pc p' : Nat} {L : az_V} {st : List Value} {σ : az_S}
theorem aw_lsb (k : Int) {z off dflt : Int} {ps : Array (Int × Int)} {len : Nat} (hf : az_fetch cd pc = some (len, .lookupswitch dflt ps, [])) (hs : (ps.toList.zip (ps.toList.drop 1)).all (fun (a, next) => a.1 < next.1) = true) (ho : Op.lookupswitch.offset ps.toList dflt k = off) (hz : inI z) (hp : az_j pc off = p') (h1 : z = k → aw d cd rt P p' L st σ) (h2 : ¬ z = k → aw d cd rt P pc L (.int (iI z) :: st) σ) : aw d cd rt P pc L (.int (iI z) :: st) σ := by
  by_cases e : z = k
  · subst hp
    refine aw_nx hf (Nat.le_of_ble_eq_true rfl) ⟨_, st, rfl, hs, rfl⟩ ?_
    show aw d cd rt P (az_j pc (Op.lookupswitch.offset ps.toList dflt (iI z).toInt)) L st σ
    rw [iI_toInt hz, e, ho]
    exact h1 e
  · exact h2 e
theorem aw_lsd {z dflt : Int} {ps : Array (Int × Int)} {len : Nat} (hf : az_fetch cd pc = some (len, .lookupswitch dflt ps, [])) (hs : (ps.toList.zip (ps.toList.drop 1)).all (fun (a, next) => a.1 < next.1) = true) (ho : Op.lookupswitch.offset ps.toList dflt z = dflt) (hz : inI z) (hp : az_j pc dflt = p') (h1 : aw d cd rt P p' L st σ) : aw d cd rt P pc L (.int (iI z) :: st) σ := by
  subst hp
  refine aw_nx hf (Nat.le_of_ble_eq_true rfl) ⟨_, st, rfl, hs, rfl⟩ ?_
  show aw d cd rt P (az_j pc (Op.lookupswitch.offset ps.toList dflt (iI z).toInt)) L st σ
  rw [iI_toInt hz, ho]
  exact h1
end AwSw
set_option maxRecDepth 10000 in
set_option maxHeartbeats 2000000 in
theorem m_shaded {d : Nat} {sz : Nat} {A : Nat → Int → Int} {σ : az_S} (hM : MV sz A σ) (hI : MI sz A) {c x h y : Int} (hc : inI c) (hx : inI x) (hh : inI h) (hy : inI y) : cal (d + 5) 189 [.ref 42, .int (iI c), .int (iI x), .int (iI h), .int (iI y)] σ (fun r τ => r = some (.int (iI (zit ((0 ≤ c ∧ c ≤ A 42 2 - 1) ∧ (0 ≤ x ∧ x ≤ 3599) ∧ (0 ≤ h ∧ h ≤ 11) ∧ (0 ≤ y ∧ y ≤ 3599)) (mSet A x h y c) (-1)))) ∧ MV sz A τ ∧ Mod σ τ [88, 89, 90, 91, 92]) := by
  obtain ⟨hc1, hc2⟩ := hc
  obtain ⟨hx1, hx2⟩ := hx
  obtain ⟨hh1, hh2⟩ := hh
  obtain ⟨hy1, hy2⟩ := hy
  have hce := hI.cells
  refine cal_of (M := (yX12_shaded, cX12_shaded, 5, (some .int))) (cd := k_X12_shaded) (L := [some (.ref 42), some (.int (iI c)), some (.int (iI x)), some (.int (iI h)), some (.int (iI y))]) rfl (Nat.le_of_ble_eq_true rfl) rfl rfl ?_
  refine aw_aload_n rfl rfl rfl ?_
  refine aw_iload_n rfl rfl rfl ?_
  refine aw_fnc (m_isCell hM hI ⟨by omega, by omega⟩) rfl rfl rfl (Nat.le_of_ble_eq_true rfl) (Or.inr ⟨_, rfl, (hM.f.k 42 rfl)⟩) rfl ?_
  refine aw_ifeqb (p' := 19) rfl rfl rfl (fun c1 => ?_) (fun c1 => ?_)
  · refine aw_iconst rfl rfl ?_
    refine aw_reti rfl ?_
    refine ⟨?_, hM, Mod.rf⟩
    rw [zit_f (by omega)]
  · refine aw_aload_n rfl rfl rfl ?_
    refine aw_iload_n rfl rfl rfl ?_
    refine aw_iload_n rfl rfl rfl ?_
    refine aw_iload rfl rfl rfl ?_
    refine aw_fnc (m_isAsked hM hI ⟨by omega, by omega⟩ ⟨by omega, by omega⟩ ⟨by omega, by omega⟩) rfl rfl rfl (Nat.le_of_ble_eq_true rfl) (Or.inr ⟨_, rfl, (hM.f.k 42 rfl)⟩) rfl ?_
    refine aw_ifneb (p' := 21) rfl rfl rfl (fun c2 => ?_) (fun c2 => ?_)
    · refine aw_aload_n rfl rfl rfl ?_
      refine aw_iload_n rfl rfl rfl ?_
      refine aw_iload_n rfl rfl rfl ?_
      refine aw_iload rfl rfl rfl ?_
      refine aw_calc (m_looks hM hI (by omega) (by omega) (by omega) (by omega) (by omega) (by omega)) rfl rfl rfl (Nat.le_of_ble_eq_true rfl) (Or.inr ⟨_, rfl, (hM.f.k 42 rfl)⟩) rfl ?_
      rintro _ τ3 ⟨rfl, hM3, hD3, hU3⟩
      change aw _ _ _ _ 29 [some (.ref 42), some (.int (iI _)), some (.int (iI _)), some (.int (iI _)), some (.int (iI _))] [] _
      refine aw_aload_n rfl rfl rfl ?_
      refine aw_getr (b := 89) rfl rfl (hM3.f.k 42 rfl) (hM3.f.r 42 72 89 rfl) rfl ?_
      refine aw_iload_n rfl rfl rfl ?_
      refine aw_as (N := 192) rfl (hM3.f.s 89 rfl) (by omega) (by omega) (by omega) rfl (fun _ _ => ?_)
      refine aw_reti rfl ?_
      refine ⟨?_, hM3, (hD3.su (T := [88, 89, 90, 91, 92]) rfl)⟩
      rw [zit_t (by omega), (hU3.2 c (by omega) (by omega)).1]
    · refine aw_iconst rfl rfl ?_
      refine aw_reti rfl ?_
      refine ⟨?_, hM, Mod.rf⟩
      rw [zit_f (by omega)]
noncomputable def mShadow (A : Nat → Int → Int) (t x h y : Int) : Int := cntN (fun c => mDark A (A 50 t) (A 54 t) (A 55 t) (mH A t x y) x h c ∧ mOpen A c x y) (A 42 2).toNat
set_option maxRecDepth 10000 in
set_option maxHeartbeats 2000000 in
theorem m_shadow_l65 {d : Nat} {sz : Nat} {A : Nat → Int → Int} {σ : az_S} (hM : MV sz A σ) (hI : MI sz A) {t x h y : Int} (ht : inI t) (hx : inI x) (hh : inI h) (hy : inI y) : ∀ (n : Nat) (τ : az_S) (c n0 : Int), (A 42 2 - c).toNat = n → ((0 ≤ t ∧ t ≤ A 42 12 - 1) ∧ (0 ≤ x ∧ x ≤ 3599) ∧ (0 ≤ h ∧ h ≤ 11) ∧ (0 ≤ y ∧ y ≤ 3599)) → MV sz A τ → Mod σ τ [88, 89, 90, 91, 92] → 0 ≤ c → c ≤ A 42 2 → (∀ w, 0 ≤ w → w < A 42 2 → zx τ 88 w = bI (mDark A (A 50 t) (A 54 t) (A 55 t) (mH A t x y) x h w) ∧ zx τ 91 w = bI (mOpen A w x y)) → n0 = cntN (fun c => mDark A (A 50 t) (A 54 t) (A 55 t) (mH A t x y) x h c ∧ mOpen A c x y) c.toNat → aw (d + 4) k_X12_shadow (some .int) (fun r τ => r = some (.int (iI (zit ((0 ≤ t ∧ t ≤ A 42 12 - 1) ∧ (0 ≤ x ∧ x ≤ 3599) ∧ (0 ≤ h ∧ h ≤ 11) ∧ (0 ≤ y ∧ y ≤ 3599)) (mShadow A t x h y) (-1)))) ∧ MV sz A τ ∧ Mod σ τ [88, 89, 90, 91, 92]) 65 [some (.ref 42), some (.int (iI t)), some (.int (iI x)), some (.int (iI h)), some (.int (iI y)), some (.int (iI n0)), some (.int (iI c))] [] τ := by
  intro n
  induction n using Nat.strongRecOn with
  | ind n ih =>
    intro τ c n0 hn hv hN hD hc0 hc1 hX hn0
    obtain ⟨ht1, ht2⟩ := ht
    obtain ⟨hx1, hx2⟩ := hx
    obtain ⟨hh1, hh2⟩ := hh
    obtain ⟨hy1, hy2⟩ := hy
    have hce := hI.cells
    have hs := cntN_s (p := (fun c => mDark A (A 50 t) (A 54 t) (A 55 t) (mH A t x y) x h c ∧ mOpen A c x y)) hc0
    have hbb := cntN_b (fun c => mDark A (A 50 t) (A 54 t) (A 55 t) (mH A t x y) x h c ∧ mOpen A c x y) c.toNat
    have e1 := bI_zero (mDark A (A 50 t) (A 54 t) (A 55 t) (mH A t x y) x h c)
    have e2 := bI_zero (mOpen A c x y)
    refine aw_iload rfl rfl rfl ?_
    refine aw_aload_n rfl rfl rfl ?_
    refine aw_gp (2) hN rfl rfl (hN.f.k 42 rfl) rfl rfl (fun _ _ => ?_)
    refine aw_icmp (p' := 110) rfl ⟨by omega, by omega⟩ ⟨by omega, by omega⟩ rfl rfl (fun c1 => ?_) (fun c1 => ?_)
    · dsimp only [zc] at c1
      refine aw_iload rfl rfl rfl ?_
      refine aw_reti rfl ?_
      refine ⟨?_, hN, (hD.su (T := [88, 89, 90, 91, 92]) rfl)⟩
      rw [zit_t (by omega), hn0, show c = A 42 2 by omega]
      rfl
    · dsimp only [zc] at c1
      refine aw_iload rfl rfl rfl ?_
      refine aw_aload_n rfl rfl rfl ?_
      refine aw_getr (b := 88) rfl rfl (hN.f.k 42 rfl) (hN.f.r 42 71 88 rfl) rfl ?_
      refine aw_iload rfl rfl rfl ?_
      refine aw_bs (N := 192) rfl (hN.f.s 88 rfl) (by decide) (by omega) (by omega) (by omega) rfl (fun _ _ => ?_)
      refine aw_if (p' := 100) rfl ⟨by omega, by omega⟩ rfl rfl (fun c2 => ?_) (fun c2 => ?_)
      · dsimp only [zc] at c2
        refine aw_iconst rfl rfl ?_
        refine aw_iadd rfl rfl ?_
        refine aw_istore rfl (Nat.le_of_ble_eq_true rfl) rfl rfl ?_
        change aw _ _ _ _ 104 [some (.ref 42), some (.int (iI _)), some (.int (iI _)), some (.int (iI _)), some (.int (iI _)), some (.int (iI _)), some (.int (iI _))] _ _
        refine aw_iinc rfl rfl rfl rfl ?_
        change aw _ _ _ _ 107 [some (.ref 42), some (.int (iI _)), some (.int (iI _)), some (.int (iI _)), some (.int (iI _)), some (.int (iI _)), some (.int (iI _))] _ _
        refine aw_goto (p' := 65) rfl rfl ?_
        refine ih _ (by omega) _ _ _ rfl hv hN (hD.su (T := [88, 89, 90, 91, 92]) rfl) (by omega) (by omega) hX ?_
        rw [hs, ← hn0]
        obtain ⟨d1, d2⟩ := hX c hc0 (by omega)
        first | rw [bI_f (by rintro ⟨q1, q2⟩; first | exact (e1.mp (by omega)) q1 | exact (e2.mp (by omega)) q2)] | rw [bI_t ⟨Classical.byContradiction (fun q => by have := e1.mpr q; omega), Classical.byContradiction (fun q => by have := e2.mpr q; omega)⟩]
      · dsimp only [zc] at c2
        refine aw_aload_n rfl rfl rfl ?_
        refine aw_getr (b := 91) rfl rfl (hN.f.k 42 rfl) (hN.f.r 42 74 91 rfl) rfl ?_
        refine aw_iload rfl rfl rfl ?_
        refine aw_bs (N := 192) rfl (hN.f.s 91 rfl) (by decide) (by omega) (by omega) (by omega) rfl (fun _ _ => ?_)
        refine aw_if (p' := 100) rfl ⟨by omega, by omega⟩ rfl rfl (fun c3 => ?_) (fun c3 => ?_)
        · dsimp only [zc] at c3
          refine aw_iconst rfl rfl ?_
          refine aw_iadd rfl rfl ?_
          refine aw_istore rfl (Nat.le_of_ble_eq_true rfl) rfl rfl ?_
          change aw _ _ _ _ 104 [some (.ref 42), some (.int (iI _)), some (.int (iI _)), some (.int (iI _)), some (.int (iI _)), some (.int (iI _)), some (.int (iI _))] _ _
          refine aw_iinc rfl rfl rfl rfl ?_
          change aw _ _ _ _ 107 [some (.ref 42), some (.int (iI _)), some (.int (iI _)), some (.int (iI _)), some (.int (iI _)), some (.int (iI _)), some (.int (iI _))] _ _
          refine aw_goto (p' := 65) rfl rfl ?_
          refine ih _ (by omega) _ _ _ rfl hv hN (hD.su (T := [88, 89, 90, 91, 92]) rfl) (by omega) (by omega) hX ?_
          rw [hs, ← hn0]
          obtain ⟨d1, d2⟩ := hX c hc0 (by omega)
          first | rw [bI_f (by rintro ⟨q1, q2⟩; first | exact (e1.mp (by omega)) q1 | exact (e2.mp (by omega)) q2)] | rw [bI_t ⟨Classical.byContradiction (fun q => by have := e1.mpr q; omega), Classical.byContradiction (fun q => by have := e2.mpr q; omega)⟩]
        · dsimp only [zc] at c3
          refine aw_iconst rfl rfl ?_
          refine aw_goto (p' := 101) rfl rfl ?_
          refine aw_iadd rfl rfl ?_
          refine aw_istore rfl (Nat.le_of_ble_eq_true rfl) rfl rfl ?_
          change aw _ _ _ _ 104 [some (.ref 42), some (.int (iI _)), some (.int (iI _)), some (.int (iI _)), some (.int (iI _)), some (.int (iI _)), some (.int (iI _))] _ _
          refine aw_iinc rfl rfl rfl rfl ?_
          change aw _ _ _ _ 107 [some (.ref 42), some (.int (iI _)), some (.int (iI _)), some (.int (iI _)), some (.int (iI _)), some (.int (iI _)), some (.int (iI _))] _ _
          refine aw_goto (p' := 65) rfl rfl ?_
          refine ih _ (by omega) _ _ _ rfl hv hN (hD.su (T := [88, 89, 90, 91, 92]) rfl) (by omega) (by omega) hX ?_
          rw [hs, ← hn0]
          obtain ⟨d1, d2⟩ := hX c hc0 (by omega)
          first | rw [bI_f (by rintro ⟨q1, q2⟩; first | exact (e1.mp (by omega)) q1 | exact (e2.mp (by omega)) q2)] | rw [bI_t ⟨Classical.byContradiction (fun q => by have := e1.mpr q; omega), Classical.byContradiction (fun q => by have := e2.mpr q; omega)⟩]
set_option maxRecDepth 10000 in
set_option maxHeartbeats 2000000 in
theorem m_shadow {d : Nat} {sz : Nat} {A : Nat → Int → Int} {σ : az_S} (hM : MV sz A σ) (hI : MI sz A) {t x h y : Int} (ht : inI t) (hx : inI x) (hh : inI h) (hy : inI y) : cal (d + 5) 190 [.ref 42, .int (iI t), .int (iI x), .int (iI h), .int (iI y)] σ (fun r τ => r = some (.int (iI (zit ((0 ≤ t ∧ t ≤ A 42 12 - 1) ∧ (0 ≤ x ∧ x ≤ 3599) ∧ (0 ≤ h ∧ h ≤ 11) ∧ (0 ≤ y ∧ y ≤ 3599)) (mShadow A t x h y) (-1)))) ∧ MV sz A τ ∧ Mod σ τ [88, 89, 90, 91, 92]) := by
  obtain ⟨ht1, ht2⟩ := ht
  obtain ⟨hx1, hx2⟩ := hx
  obtain ⟨hh1, hh2⟩ := hh
  obtain ⟨hy1, hy2⟩ := hy
  have hce := hI.cells
  have hth := hI.things
  refine cal_of (M := (yX12_shadow, cX12_shadow, 7, (some .int))) (cd := k_X12_shadow) (L := [some (.ref 42), some (.int (iI t)), some (.int (iI x)), some (.int (iI h)), some (.int (iI y)), none, none]) rfl (Nat.le_of_ble_eq_true rfl) rfl rfl ?_
  refine aw_aload_n rfl rfl rfl ?_
  refine aw_iload_n rfl rfl rfl ?_
  refine aw_fnc (m_isThing hM hI ⟨by omega, by omega⟩) rfl rfl rfl (Nat.le_of_ble_eq_true rfl) (Or.inr ⟨_, rfl, (hM.f.k 42 rfl)⟩) rfl ?_
  refine aw_ifeqb (p' := 19) rfl rfl rfl (fun c4 => ?_) (fun c4 => ?_)
  · refine aw_iconst rfl rfl ?_
    refine aw_reti rfl ?_
    refine ⟨?_, hM, Mod.rf⟩
    rw [zit_f (by omega)]
  · refine aw_aload_n rfl rfl rfl ?_
    refine aw_iload_n rfl rfl rfl ?_
    refine aw_iload_n rfl rfl rfl ?_
    refine aw_iload rfl rfl rfl ?_
    refine aw_fnc (m_isAsked hM hI ⟨by omega, by omega⟩ ⟨by omega, by omega⟩ ⟨by omega, by omega⟩) rfl rfl rfl (Nat.le_of_ble_eq_true rfl) (Or.inr ⟨_, rfl, (hM.f.k 42 rfl)⟩) rfl ?_
    refine aw_ifneb (p' := 21) rfl rfl rfl (fun c5 => ?_) (fun c5 => ?_)
    · refine aw_aload_n rfl rfl rfl ?_
      refine aw_iload_n rfl rfl rfl ?_
      refine aw_iload_n rfl rfl rfl ?_
      refine aw_iload rfl rfl rfl ?_
      refine aw_calc (m_looks hM hI (by omega) (by omega) (by omega) (by omega) (by omega) (by omega)) rfl rfl rfl (Nat.le_of_ble_eq_true rfl) (Or.inr ⟨_, rfl, (hM.f.k 42 rfl)⟩) rfl ?_
      rintro _ τ6 ⟨rfl, hM6, hD6, hU6⟩
      change aw _ _ _ _ 29 [some (.ref 42), some (.int (iI _)), some (.int (iI _)), some (.int (iI _)), some (.int (iI _)), none, none] [] _
      have hT := hI.thing t (by omega) (by omega)
      have hr := mH_range hT x y
      obtain ⟨-, -, -, -, hce2, -, -, hll, -⟩ := hT
      refine aw_aload_n rfl rfl rfl ?_
      refine aw_aload_n rfl rfl rfl ?_
      refine aw_getr (b := 50) rfl rfl (hM6.f.k 42 rfl) (hM6.f.r 42 14 50 rfl) rfl ?_
      refine aw_iload_n rfl rfl rfl ?_
      refine aw_ap (N := 24) hM6 rfl (hM6.f.s 50 rfl) (by omega) rfl (by omega) (by omega) rfl (fun _ _ => ?_)
      refine aw_aload_n rfl rfl rfl ?_
      refine aw_getr (b := 54) rfl rfl (hM6.f.k 42 rfl) (hM6.f.r 42 18 54 rfl) rfl ?_
      refine aw_iload_n rfl rfl rfl ?_
      refine aw_ap (N := 24) hM6 rfl (hM6.f.s 54 rfl) (by omega) rfl (by omega) (by omega) rfl (fun _ _ => ?_)
      refine aw_aload_n rfl rfl rfl ?_
      refine aw_getr (b := 55) rfl rfl (hM6.f.k 42 rfl) (hM6.f.r 42 19 55 rfl) rfl ?_
      refine aw_iload_n rfl rfl rfl ?_
      refine aw_ap (N := 24) hM6 rfl (hM6.f.s 55 rfl) (by omega) rfl (by omega) (by omega) rfl (fun _ _ => ?_)
      refine aw_aload_n rfl rfl rfl ?_
      refine aw_getr (b := 92) rfl rfl (hM6.f.k 42 rfl) (hM6.f.r 42 75 92 rfl) rfl ?_
      refine aw_iload_n rfl rfl rfl ?_
      refine aw_as (N := 24) rfl (hM6.f.s 92 rfl) (by omega) (by omega) (by omega) rfl (fun _ _ => ?_)
      rw [hU6.1 t (by omega) (by omega)]
      refine aw_iload_n rfl rfl rfl ?_
      refine aw_iload_n rfl rfl rfl ?_
      refine aw_calc (m_shades hM6 hI (by omega) (by omega) (by omega) (by omega) (by omega) (by omega) (by omega) (by omega) (by omega) (by omega) (by omega) (by omega)) rfl rfl rfl (Nat.le_of_ble_eq_true rfl) (Or.inr ⟨_, rfl, (hM6.f.k 42 rfl)⟩) rfl ?_
      rintro _ τ7 ⟨rfl, hM7, hD7, hU7⟩
      change aw _ _ _ _ 59 [some (.ref 42), some (.int (iI _)), some (.int (iI _)), some (.int (iI _)), some (.int (iI _)), none, none] [] _
      refine aw_iconst rfl rfl ?_
      refine aw_istore rfl (Nat.le_of_ble_eq_true rfl) rfl rfl ?_
      change aw _ _ _ _ 62 [some (.ref 42), some (.int (iI _)), some (.int (iI _)), some (.int (iI _)), some (.int (iI _)), some (.int (iI _)), none] _ _
      refine aw_iconst rfl rfl ?_
      refine aw_istore rfl (Nat.le_of_ble_eq_true rfl) rfl rfl ?_
      change aw _ _ _ _ 65 [some (.ref 42), some (.int (iI _)), some (.int (iI _)), some (.int (iI _)), some (.int (iI _)), some (.int (iI _)), some (.int (iI _))] _ _
      exact m_shadow_l65 hM hI ⟨by omega, by omega⟩ ⟨by omega, by omega⟩ ⟨by omega, by omega⟩ ⟨by omega, by omega⟩ _ _ 0 0 rfl (by omega) hM7 ((hD6.su (T := [88, 89, 90, 91, 92]) rfl).tr (hD7.su (T := [88, 89, 90, 91, 92]) rfl)) (by omega) (by omega) (fun w h1 h2 => ⟨hU7 w h1 h2, by rw [hD7.z 91 rfl]; exact (hU6.2 w h1 h2).2.2⟩) rfl
    · refine aw_iconst rfl rfl ?_
      refine aw_reti rfl ?_
      refine ⟨?_, hM, Mod.rf⟩
      rw [zit_f (by omega)]
def mMon (A : Nat → Int → Int) (g m : Int) : Prop := (A 68 g ≤ A 69 g ∧ A 68 g ≤ m ∧ m ≤ A 69 g) ∨ (A 69 g < A 68 g ∧ (A 68 g ≤ m ∨ m ≤ A 69 g))
def mHolds (A : Nat → Int → Int) (g x h y : Int) : Prop := A 73 g ≤ y ∧ (A 66 g ≤ h ∧ h ≤ A 67 g) ∧ mMon A g (x % 360 / 30) ∧ ((A 72 g = 0 ∧ A 70 g ≤ x) ∨ (A 72 g = 1 ∧ A 70 g ≤ x ∧ x ≤ A 71 g) ∨ (A 72 g = 2 ∧ 0 ≤ A 47 (A 63 g) ∧ A 48 (A 63 g) ≤ y ∧ A 47 (A 63 g) ≤ x))
noncomputable def mWhoN (A : Nat → Int → Int) (t x h y : Int) : Nat → Int
  | 0 => A 51 t
  | n + 1 => zit (A 65 n = t ∧ A 63 n = mWhoN A t x h y n ∧ mHolds A n x h y) (A 64 n) (mWhoN A t x h y n)
noncomputable abbrev mWho (A : Nat → Int → Int) (t x h y : Int) : Int := mWhoN A t x h y (A 42 27).toNat
theorem mWhoN_s {A : Nat → Int → Int} {t x h y g : Int} (h0 : 0 ≤ g) : mWhoN A t x h y (g + 1).toNat = zit (A 65 g = t ∧ A 63 g = mWhoN A t x h y g.toNat ∧ mHolds A g x h y) (A 64 g) (mWhoN A t x h y g.toNat) := by
  obtain ⟨n, rfl⟩ := Int.eq_ofNat_of_zero_le h0
  have e : ((n : Int) + 1).toNat = n + 1 := by omega
  rw [e]
  rfl
theorem mWhoN_r {sz : Nat} {A : Nat → Int → Int} (hI : MI sz A) {t x h y : Int} (h0 : 0 ≤ t) (h1 : t < A 42 12) (n : Nat) (hn : (n : Int) ≤ A 42 27) : 0 ≤ mWhoN A t x h y n ∧ mWhoN A t x h y n < A 42 9 := by
  induction n with
  | zero =>
    obtain ⟨-, -, -, -, -, hh, -⟩ := hI.thing t h0 h1
    exact hh
  | succ n ih =>
    obtain ⟨-, hh, -⟩ := hI.grant n (by omega) (by omega)
    have := ih (by omega)
    unfold mWhoN
    rcases zit_or (A 65 n = t ∧ A 63 n = mWhoN A t x h y n ∧ mHolds A n x h y) (A 64 n) (mWhoN A t x h y n) with ⟨-, q⟩ | ⟨-, q⟩ <;> rw [q] <;> omega
set_option maxRecDepth 10000 in
set_option maxHeartbeats 2000000 in
theorem m_holdsOn_l73 {d : Nat} {sz : Nat} {A : Nat → Int → Int} {σ : az_S} (hM : MV sz A σ) (hI : MI sz A) {g : Int} (hg0 : 0 ≤ g) (hg1 : g < A 42 27) {x h y : Int} (hx0 : 0 ≤ x) (hx1 : x ≤ 3599) (hh0 : 0 ≤ h) (hh1 : h ≤ 11) (hy0 : 0 ≤ y) (hy1 : y ≤ 3599) : ∀ (b : Int), b = bI (mMon A g (x % 360 / 30)) → aw (d + 1) k_X12_holdsOn (some .boolean) (fun r τ => r = some (.int (iI (bI (mHolds A g x h y)))) ∧ τ = σ) 73 [some (.ref 42), some (.int (iI g)), some (.int (iI x)), some (.int (iI h)), some (.int (iI y)), some (.int (iI (x % 360 / 30))), some (.int (iI b)), none] [] σ := by
  intro b hb
  have hgr := hI.grants
  have hpe := hI.people
  have hG := hI.grant g hg0 hg1
  obtain ⟨k1, k2, k3, k4, k5, k6, k7, k8⟩ := hG
  have hbi := bI_r (mMon A g (x % 360 / 30))
  have hbz := bI_zero (mMon A g (x % 360 / 30))
  rw [← hb] at hbi hbz
  refine aw_aload_n rfl rfl rfl ?_
  refine aw_getr (b := 73) rfl rfl (hM.f.k 42 rfl) (hM.f.r 42 38 73 rfl) rfl ?_
  refine aw_iload_n rfl rfl rfl ?_
  refine aw_ap (N := 60) hM rfl (hM.f.s 73 rfl) (by omega) rfl (by omega) (by omega) rfl (fun _ _ => ?_)
  refine aw_iload rfl rfl rfl ?_
  refine aw_icmp (p' := 111) rfl ⟨by omega, by omega⟩ ⟨by omega, by omega⟩ rfl rfl (fun c1 => ?_) (fun c1 => ?_)
  · dsimp only [zc] at c1
    refine aw_iconst rfl rfl ?_
    refine aw_retn rfl (by first | rfl | exact bI_nar _) ?_
    refine ⟨?_, rfl⟩
    unfold mHolds
    first | rw [bI_f (by omega)] | rw [bI_t (by refine ⟨by omega, by omega, Classical.byContradiction (fun q => by have := hbz.mpr q; omega), by omega⟩)] | rw [bI_f (by rintro ⟨-, -, q, -⟩; exact hbz.mp (by omega) q)] | (have hq : mMon A g (x % 360 / 30) := Classical.byContradiction (fun q => by have := hbz.mpr q; omega); simp only [hq, true_and]; exact congrArg (fun z => some (Value.int (iI z))) (bI_congr (by omega)))
  · dsimp only [zc] at c1
    refine aw_iload_n rfl rfl rfl ?_
    refine aw_i2l rfl ⟨by omega, by omega⟩ rfl ?_
    refine aw_aload_n rfl rfl rfl ?_
    refine aw_getr (b := 66) rfl rfl (hM.f.k 42 rfl) (hM.f.r 42 31 66 rfl) rfl ?_
    refine aw_iload_n rfl rfl rfl ?_
    refine aw_ap (N := 60) hM rfl (hM.f.s 66 rfl) (by omega) rfl (by omega) (by omega) rfl (fun _ _ => ?_)
    refine aw_i2l rfl ⟨by omega, by omega⟩ rfl ?_
    refine aw_aload_n rfl rfl rfl ?_
    refine aw_getr (b := 67) rfl rfl (hM.f.k 42 rfl) (hM.f.r 42 32 67 rfl) rfl ?_
    refine aw_iload_n rfl rfl rfl ?_
    refine aw_ap (N := 60) hM rfl (hM.f.s 67 rfl) (by omega) rfl (by omega) (by omega) rfl (fun _ _ => ?_)
    refine aw_i2l rfl ⟨by omega, by omega⟩ rfl ?_
    refine aw_fnc (m_in ⟨by omega, by omega⟩ ⟨by omega, by omega⟩ ⟨by omega, by omega⟩) rfl rfl rfl (Nat.le_of_ble_eq_true rfl) (Or.inl rfl) rfl ?_
    refine aw_ifeqb (p' := 111) rfl rfl rfl (fun c2 => ?_) (fun c2 => ?_)
    · refine aw_iconst rfl rfl ?_
      refine aw_retn rfl (by first | rfl | exact bI_nar _) ?_
      refine ⟨?_, rfl⟩
      unfold mHolds
      first | rw [bI_f (by omega)] | rw [bI_t (by refine ⟨by omega, by omega, Classical.byContradiction (fun q => by have := hbz.mpr q; omega), by omega⟩)] | rw [bI_f (by rintro ⟨-, -, q, -⟩; exact hbz.mp (by omega) q)] | (have hq : mMon A g (x % 360 / 30) := Classical.byContradiction (fun q => by have := hbz.mpr q; omega); simp only [hq, true_and]; exact congrArg (fun z => some (Value.int (iI z))) (bI_congr (by omega)))
    · refine aw_iload rfl rfl rfl ?_
      refine aw_if (p' := 113) rfl ⟨by omega, by omega⟩ rfl rfl (fun c3 => ?_) (fun c3 => ?_)
      · dsimp only [zc] at c3
        refine aw_aload_n rfl rfl rfl ?_
        refine aw_getr (b := 63) rfl rfl (hM.f.k 42 rfl) (hM.f.r 42 28 63 rfl) rfl ?_
        refine aw_iload_n rfl rfl rfl ?_
        refine aw_ap (N := 60) hM rfl (hM.f.s 63 rfl) (by omega) rfl (by omega) (by omega) rfl (fun _ _ => ?_)
        refine aw_istore rfl (Nat.le_of_ble_eq_true rfl) rfl rfl ?_
        change aw _ _ _ _ 121 [some (.ref 42), some (.int (iI _)), some (.int (iI _)), some (.int (iI _)), some (.int (iI _)), some (.int (iI _)), some (.int (iI _)), some (.int (iI _))] _ _
        refine aw_aload_n rfl rfl rfl ?_
        refine aw_getr (b := 72) rfl rfl (hM.f.k 42 rfl) (hM.f.r 42 37 72 rfl) rfl ?_
        refine aw_iload_n rfl rfl rfl ?_
        refine aw_ap (N := 60) hM rfl (hM.f.s 72 rfl) (by omega) rfl (by omega) (by omega) rfl (fun _ _ => ?_)
        refine aw_lsb (p' := 152) (0) rfl rfl rfl ⟨by omega, by omega⟩ rfl (fun c4 => ?_) (fun c4 => ?_)
        · refine aw_iload_n rfl rfl rfl ?_
          refine aw_aload_n rfl rfl rfl ?_
          refine aw_getr (b := 70) rfl rfl (hM.f.k 42 rfl) (hM.f.r 42 35 70 rfl) rfl ?_
          refine aw_iload_n rfl rfl rfl ?_
          refine aw_ap (N := 60) hM rfl (hM.f.s 70 rfl) (by omega) rfl (by omega) (by omega) rfl (fun _ _ => ?_)
          refine aw_icmp (p' := 166) rfl ⟨by omega, by omega⟩ ⟨by omega, by omega⟩ rfl rfl (fun c5 => ?_) (fun c5 => ?_)
          · dsimp only [zc] at c5
            refine aw_iconst rfl rfl ?_
            refine aw_retn rfl (by first | rfl | exact bI_nar _) ?_
            refine ⟨?_, rfl⟩
            unfold mHolds
            first | rw [bI_f (by omega)] | rw [bI_t (by refine ⟨by omega, by omega, Classical.byContradiction (fun q => by have := hbz.mpr q; omega), by omega⟩)] | rw [bI_f (by rintro ⟨-, -, q, -⟩; exact hbz.mp (by omega) q)] | (have hq : mMon A g (x % 360 / 30) := Classical.byContradiction (fun q => by have := hbz.mpr q; omega); simp only [hq, true_and]; exact congrArg (fun z => some (Value.int (iI z))) (bI_congr (by omega)))
          · dsimp only [zc] at c5
            refine aw_iconst rfl rfl ?_
            refine aw_goto (p' := 167) rfl rfl ?_
            refine aw_retn rfl (by first | rfl | exact bI_nar _) ?_
            refine ⟨?_, rfl⟩
            unfold mHolds
            first | rw [bI_f (by omega)] | rw [bI_t (by refine ⟨by omega, by omega, Classical.byContradiction (fun q => by have := hbz.mpr q; omega), by omega⟩)] | rw [bI_f (by rintro ⟨-, -, q, -⟩; exact hbz.mp (by omega) q)] | (have hq : mMon A g (x % 360 / 30) := Classical.byContradiction (fun q => by have := hbz.mpr q; omega); simp only [hq, true_and]; exact congrArg (fun z => some (Value.int (iI z))) (bI_congr (by omega)))
        refine aw_lsb (p' := 168) (1) rfl rfl rfl ⟨by omega, by omega⟩ rfl (fun c6 => ?_) (fun c6 => ?_)
        · refine aw_iload_n rfl rfl rfl ?_
          refine aw_i2l rfl ⟨by omega, by omega⟩ rfl ?_
          refine aw_aload_n rfl rfl rfl ?_
          refine aw_getr (b := 70) rfl rfl (hM.f.k 42 rfl) (hM.f.r 42 35 70 rfl) rfl ?_
          refine aw_iload_n rfl rfl rfl ?_
          refine aw_ap (N := 60) hM rfl (hM.f.s 70 rfl) (by omega) rfl (by omega) (by omega) rfl (fun _ _ => ?_)
          refine aw_i2l rfl ⟨by omega, by omega⟩ rfl ?_
          refine aw_aload_n rfl rfl rfl ?_
          refine aw_getr (b := 71) rfl rfl (hM.f.k 42 rfl) (hM.f.r 42 36 71 rfl) rfl ?_
          refine aw_iload_n rfl rfl rfl ?_
          refine aw_ap (N := 60) hM rfl (hM.f.s 71 rfl) (by omega) rfl (by omega) (by omega) rfl (fun _ _ => ?_)
          refine aw_i2l rfl ⟨by omega, by omega⟩ rfl ?_
          refine aw_fnc (m_in ⟨by omega, by omega⟩ ⟨by omega, by omega⟩ ⟨by omega, by omega⟩) rfl rfl rfl (Nat.le_of_ble_eq_true rfl) (Or.inl rfl) rfl ?_
          refine aw_retn rfl (by first | rfl | exact bI_nar _) ?_
          refine ⟨?_, rfl⟩
          unfold mHolds
          first | rw [bI_f (by omega)] | rw [bI_t (by refine ⟨by omega, by omega, Classical.byContradiction (fun q => by have := hbz.mpr q; omega), by omega⟩)] | rw [bI_f (by rintro ⟨-, -, q, -⟩; exact hbz.mp (by omega) q)] | (have hq : mMon A g (x % 360 / 30) := Classical.byContradiction (fun q => by have := hbz.mpr q; omega); simp only [hq, true_and]; exact congrArg (fun z => some (Value.int (iI z))) (bI_congr (by omega)))
        refine aw_lsd (p' := 188) rfl rfl (by simp only [Op.lookupswitch.offset]; (repeat rw [if_neg (by omega)])) ⟨by omega, by omega⟩ rfl ?_
        refine aw_aload_n rfl rfl rfl ?_
        refine aw_getr (b := 47) rfl rfl (hM.f.k 42 rfl) (hM.f.r 42 10 47 rfl) rfl ?_
        refine aw_iload rfl rfl rfl ?_
        refine aw_ap (N := 16) hM rfl (hM.f.s 47 rfl) (by omega) rfl (by omega) (by omega) rfl (fun _ _ => ?_)
        refine aw_if (p' := 225) rfl ⟨by omega, by omega⟩ rfl rfl (fun c7 => ?_) (fun c7 => ?_)
        · dsimp only [zc] at c7
          refine aw_iconst rfl rfl ?_
          refine aw_retn rfl (by first | rfl | exact bI_nar _) ?_
          refine ⟨?_, rfl⟩
          unfold mHolds
          first | rw [bI_f (by omega)] | rw [bI_t (by refine ⟨by omega, by omega, Classical.byContradiction (fun q => by have := hbz.mpr q; omega), by omega⟩)] | rw [bI_f (by rintro ⟨-, -, q, -⟩; exact hbz.mp (by omega) q)] | (have hq : mMon A g (x % 360 / 30) := Classical.byContradiction (fun q => by have := hbz.mpr q; omega); simp only [hq, true_and]; exact congrArg (fun z => some (Value.int (iI z))) (bI_congr (by omega)))
        · dsimp only [zc] at c7
          refine aw_aload_n rfl rfl rfl ?_
          refine aw_getr (b := 48) rfl rfl (hM.f.k 42 rfl) (hM.f.r 42 11 48 rfl) rfl ?_
          refine aw_iload rfl rfl rfl ?_
          refine aw_ap (N := 16) hM rfl (hM.f.s 48 rfl) (by omega) rfl (by omega) (by omega) rfl (fun _ _ => ?_)
          refine aw_iload rfl rfl rfl ?_
          refine aw_icmp (p' := 225) rfl ⟨by omega, by omega⟩ ⟨by omega, by omega⟩ rfl rfl (fun c8 => ?_) (fun c8 => ?_)
          · dsimp only [zc] at c8
            refine aw_iconst rfl rfl ?_
            refine aw_retn rfl (by first | rfl | exact bI_nar _) ?_
            refine ⟨?_, rfl⟩
            unfold mHolds
            first | rw [bI_f (by omega)] | rw [bI_t (by refine ⟨by omega, by omega, Classical.byContradiction (fun q => by have := hbz.mpr q; omega), by omega⟩)] | rw [bI_f (by rintro ⟨-, -, q, -⟩; exact hbz.mp (by omega) q)] | (have hq : mMon A g (x % 360 / 30) := Classical.byContradiction (fun q => by have := hbz.mpr q; omega); simp only [hq, true_and]; exact congrArg (fun z => some (Value.int (iI z))) (bI_congr (by omega)))
          · dsimp only [zc] at c8
            refine aw_aload_n rfl rfl rfl ?_
            refine aw_getr (b := 47) rfl rfl (hM.f.k 42 rfl) (hM.f.r 42 10 47 rfl) rfl ?_
            refine aw_iload rfl rfl rfl ?_
            refine aw_ap (N := 16) hM rfl (hM.f.s 47 rfl) (by omega) rfl (by omega) (by omega) rfl (fun _ _ => ?_)
            refine aw_iload_n rfl rfl rfl ?_
            refine aw_icmp (p' := 225) rfl ⟨by omega, by omega⟩ ⟨by omega, by omega⟩ rfl rfl (fun c9 => ?_) (fun c9 => ?_)
            · dsimp only [zc] at c9
              refine aw_iconst rfl rfl ?_
              refine aw_retn rfl (by first | rfl | exact bI_nar _) ?_
              refine ⟨?_, rfl⟩
              unfold mHolds
              first | rw [bI_f (by omega)] | rw [bI_t (by refine ⟨by omega, by omega, Classical.byContradiction (fun q => by have := hbz.mpr q; omega), by omega⟩)] | rw [bI_f (by rintro ⟨-, -, q, -⟩; exact hbz.mp (by omega) q)] | (have hq : mMon A g (x % 360 / 30) := Classical.byContradiction (fun q => by have := hbz.mpr q; omega); simp only [hq, true_and]; exact congrArg (fun z => some (Value.int (iI z))) (bI_congr (by omega)))
            · dsimp only [zc] at c9
              refine aw_iconst rfl rfl ?_
              refine aw_goto (p' := 226) rfl rfl ?_
              refine aw_retn rfl (by first | rfl | exact bI_nar _) ?_
              refine ⟨?_, rfl⟩
              unfold mHolds
              first | rw [bI_f (by omega)] | rw [bI_t (by refine ⟨by omega, by omega, Classical.byContradiction (fun q => by have := hbz.mpr q; omega), by omega⟩)] | rw [bI_f (by rintro ⟨-, -, q, -⟩; exact hbz.mp (by omega) q)] | (have hq : mMon A g (x % 360 / 30) := Classical.byContradiction (fun q => by have := hbz.mpr q; omega); simp only [hq, true_and]; exact congrArg (fun z => some (Value.int (iI z))) (bI_congr (by omega)))
      · dsimp only [zc] at c3
        refine aw_iconst rfl rfl ?_
        refine aw_retn rfl (by first | rfl | exact bI_nar _) ?_
        refine ⟨?_, rfl⟩
        unfold mHolds
        first | rw [bI_f (by omega)] | rw [bI_t (by refine ⟨by omega, by omega, Classical.byContradiction (fun q => by have := hbz.mpr q; omega), by omega⟩)] | rw [bI_f (by rintro ⟨-, -, q, -⟩; exact hbz.mp (by omega) q)] | (have hq : mMon A g (x % 360 / 30) := Classical.byContradiction (fun q => by have := hbz.mpr q; omega); simp only [hq, true_and]; exact congrArg (fun z => some (Value.int (iI z))) (bI_congr (by omega)))
set_option maxRecDepth 10000 in
set_option maxHeartbeats 2000000 in
theorem m_holdsOn {d : Nat} {sz : Nat} {A : Nat → Int → Int} {σ : az_S} (hM : MV sz A σ) (hI : MI sz A) {g : Int} (hg0 : 0 ≤ g) (hg1 : g < A 42 27) {x h y : Int} (hx0 : 0 ≤ x) (hx1 : x ≤ 3599) (hh0 : 0 ≤ h) (hh1 : h ≤ 11) (hy0 : 0 ≤ y) (hy1 : y ≤ 3599) : fn (d + 2) 192 [.ref 42, .int (iI g), .int (iI x), .int (iI h), .int (iI y)] σ (.int (iI (bI (mHolds A g x h y)))) := by
  have hgr := hI.grants
  have hpe := hI.people
  have hG := hI.grant g hg0 hg1
  obtain ⟨k1, k2, k3, k4, k5, k6, k7, k8⟩ := hG
  refine fn_of (M := (yX12_holdsOn, cX12_holdsOn, 8, (some .boolean))) (cd := k_X12_holdsOn) (L := [some (.ref 42), some (.int (iI g)), some (.int (iI x)), some (.int (iI h)), some (.int (iI y)), none, none, none]) rfl (Nat.le_of_ble_eq_true rfl) rfl rfl ?_
  refine aw_iload_n rfl rfl rfl ?_
  refine aw_fnc (m_monthOf (by omega) (by omega)) rfl rfl rfl (Nat.le_of_ble_eq_true rfl) (Or.inl rfl) rfl ?_
  refine aw_istore rfl (Nat.le_of_ble_eq_true rfl) rfl rfl ?_
  change aw _ _ _ _ 6 [some (.ref 42), some (.int (iI _)), some (.int (iI _)), some (.int (iI _)), some (.int (iI _)), some (.int (iI _)), none, none] _ _
  refine aw_aload_n rfl rfl rfl ?_
  refine aw_getr (b := 68) rfl rfl (hM.f.k 42 rfl) (hM.f.r 42 33 68 rfl) rfl ?_
  refine aw_iload_n rfl rfl rfl ?_
  refine aw_ap (N := 60) hM rfl (hM.f.s 68 rfl) (by omega) rfl (by omega) (by omega) rfl (fun _ _ => ?_)
  refine aw_aload_n rfl rfl rfl ?_
  refine aw_getr (b := 69) rfl rfl (hM.f.k 42 rfl) (hM.f.r 42 34 69 rfl) rfl ?_
  refine aw_iload_n rfl rfl rfl ?_
  refine aw_ap (N := 60) hM rfl (hM.f.s 69 rfl) (by omega) rfl (by omega) (by omega) rfl (fun _ _ => ?_)
  refine aw_icmp (p' := 44) rfl ⟨by omega, by omega⟩ ⟨by omega, by omega⟩ rfl rfl (fun c10 => ?_) (fun c10 => ?_)
  · dsimp only [zc] at c10
    refine aw_iload rfl rfl rfl ?_
    refine aw_aload_n rfl rfl rfl ?_
    refine aw_getr (b := 68) rfl rfl (hM.f.k 42 rfl) (hM.f.r 42 33 68 rfl) rfl ?_
    refine aw_iload_n rfl rfl rfl ?_
    refine aw_ap (N := 60) hM rfl (hM.f.s 68 rfl) (by omega) rfl (by omega) (by omega) rfl (fun _ _ => ?_)
    refine aw_icmp (p' := 66) rfl ⟨by omega, by omega⟩ ⟨by omega, by omega⟩ rfl rfl (fun c11 => ?_) (fun c11 => ?_)
    · dsimp only [zc] at c11
      refine aw_iconst rfl rfl ?_
      refine aw_goto (p' := 71) rfl rfl ?_
      refine aw_istore rfl (Nat.le_of_ble_eq_true rfl) rfl rfl ?_
      change aw _ _ _ _ 73 [some (.ref 42), some (.int (iI _)), some (.int (iI _)), some (.int (iI _)), some (.int (iI _)), some (.int (iI _)), some (.int (iI _)), none] _ _
      exact m_holdsOn_l73 hM hI hg0 hg1 hx0 hx1 hh0 hh1 hy0 hy1 _ (by unfold mMon; first | exact bI_congr (by omega) | rw [bI_t (by omega)] | rw [bI_f (by omega)])
    · dsimp only [zc] at c11
      refine aw_iload rfl rfl rfl ?_
      refine aw_aload_n rfl rfl rfl ?_
      refine aw_getr (b := 69) rfl rfl (hM.f.k 42 rfl) (hM.f.r 42 34 69 rfl) rfl ?_
      refine aw_iload_n rfl rfl rfl ?_
      refine aw_ap (N := 60) hM rfl (hM.f.s 69 rfl) (by omega) rfl (by omega) (by omega) rfl (fun _ _ => ?_)
      refine aw_icmp (p' := 70) rfl ⟨by omega, by omega⟩ ⟨by omega, by omega⟩ rfl rfl (fun c12 => ?_) (fun c12 => ?_)
      · dsimp only [zc] at c12
        refine aw_iconst rfl rfl ?_
        refine aw_istore rfl (Nat.le_of_ble_eq_true rfl) rfl rfl ?_
        change aw _ _ _ _ 73 [some (.ref 42), some (.int (iI _)), some (.int (iI _)), some (.int (iI _)), some (.int (iI _)), some (.int (iI _)), some (.int (iI _)), none] _ _
        exact m_holdsOn_l73 hM hI hg0 hg1 hx0 hx1 hh0 hh1 hy0 hy1 _ (by unfold mMon; first | exact bI_congr (by omega) | rw [bI_t (by omega)] | rw [bI_f (by omega)])
      · dsimp only [zc] at c12
        refine aw_iconst rfl rfl ?_
        refine aw_goto (p' := 71) rfl rfl ?_
        refine aw_istore rfl (Nat.le_of_ble_eq_true rfl) rfl rfl ?_
        change aw _ _ _ _ 73 [some (.ref 42), some (.int (iI _)), some (.int (iI _)), some (.int (iI _)), some (.int (iI _)), some (.int (iI _)), some (.int (iI _)), none] _ _
        exact m_holdsOn_l73 hM hI hg0 hg1 hx0 hx1 hh0 hh1 hy0 hy1 _ (by unfold mMon; first | exact bI_congr (by omega) | rw [bI_t (by omega)] | rw [bI_f (by omega)])
  · dsimp only [zc] at c10
    refine aw_iload rfl rfl rfl ?_
    refine aw_i2l rfl ⟨by omega, by omega⟩ rfl ?_
    refine aw_aload_n rfl rfl rfl ?_
    refine aw_getr (b := 68) rfl rfl (hM.f.k 42 rfl) (hM.f.r 42 33 68 rfl) rfl ?_
    refine aw_iload_n rfl rfl rfl ?_
    refine aw_ap (N := 60) hM rfl (hM.f.s 68 rfl) (by omega) rfl (by omega) (by omega) rfl (fun _ _ => ?_)
    refine aw_i2l rfl ⟨by omega, by omega⟩ rfl ?_
    refine aw_aload_n rfl rfl rfl ?_
    refine aw_getr (b := 69) rfl rfl (hM.f.k 42 rfl) (hM.f.r 42 34 69 rfl) rfl ?_
    refine aw_iload_n rfl rfl rfl ?_
    refine aw_ap (N := 60) hM rfl (hM.f.s 69 rfl) (by omega) rfl (by omega) (by omega) rfl (fun _ _ => ?_)
    refine aw_i2l rfl ⟨by omega, by omega⟩ rfl ?_
    refine aw_fnc (m_in ⟨by omega, by omega⟩ ⟨by omega, by omega⟩ ⟨by omega, by omega⟩) rfl rfl rfl (Nat.le_of_ble_eq_true rfl) (Or.inl rfl) rfl ?_
    refine aw_goto (p' := 71) rfl rfl ?_
    refine aw_istore rfl (Nat.le_of_ble_eq_true rfl) rfl rfl ?_
    change aw _ _ _ _ 73 [some (.ref 42), some (.int (iI _)), some (.int (iI _)), some (.int (iI _)), some (.int (iI _)), some (.int (iI _)), some (.int (iI _)), none] _ _
    exact m_holdsOn_l73 hM hI hg0 hg1 hx0 hx1 hh0 hh1 hy0 hy1 _ (by unfold mMon; first | exact bI_congr (by omega) | rw [bI_t (by omega)] | rw [bI_f (by omega)])
set_option maxRecDepth 10000 in
set_option maxHeartbeats 2000000 in
theorem m_holderOf_l11 {d : Nat} {sz : Nat} {A : Nat → Int → Int} {σ : az_S} (hM : MV sz A σ) (hI : MI sz A) {t : Int} (ht0 : 0 ≤ t) (ht : t < A 42 12) {x h y : Int} (hx0 : 0 ≤ x) (hx1 : x ≤ 3599) (hh0 : 0 ≤ h) (hh1 : h ≤ 11) (hy0 : 0 ≤ y) (hy1 : y ≤ 3599) : ∀ (n : Nat) (g w : Int), (A 42 27 - g).toNat = n → 0 ≤ g → g ≤ A 42 27 → w = mWhoN A t x h y g.toNat → aw (d + 2) k_X12_holderOf (some .int) (fun r τ => r = some (.int (iI (mWho A t x h y))) ∧ τ = σ) 11 [some (.ref 42), some (.int (iI t)), some (.int (iI x)), some (.int (iI h)), some (.int (iI y)), some (.int (iI w)), some (.int (iI g))] [] σ := by
  intro n
  induction n using Nat.strongRecOn with
  | ind n ih =>
    intro g w hn hg0 hg1 hw
    have hgr := hI.grants
    have hpe := hI.people
    have hth := hI.things
    have hr := mWhoN_r (x := x) (h := h) (y := y) hI ht0 ht g.toNat (by omega)
    rw [← hw] at hr
    have hs := mWhoN_s (A := A) (t := t) (x := x) (h := h) (y := y) hg0
    rw [← hw] at hs
    refine aw_iload rfl rfl rfl ?_
    refine aw_aload_n rfl rfl rfl ?_
    refine aw_gp (27) hM rfl rfl (hM.f.k 42 rfl) rfl rfl (fun _ _ => ?_)
    refine aw_icmp (p' := 76) rfl ⟨by omega, by omega⟩ ⟨by omega, by omega⟩ rfl rfl (fun c1 => ?_) (fun c1 => ?_)
    · dsimp only [zc] at c1
      refine aw_iload rfl rfl rfl ?_
      refine aw_reti rfl ?_
      refine ⟨?_, rfl⟩
      rw [hw, show g = A 42 27 by omega]
    · dsimp only [zc] at c1
      refine aw_aload_n rfl rfl rfl ?_
      refine aw_getr (b := 65) rfl rfl (hM.f.k 42 rfl) (hM.f.r 42 30 65 rfl) rfl ?_
      refine aw_iload rfl rfl rfl ?_
      refine aw_ap (N := 60) hM rfl (hM.f.s 65 rfl) (by omega) rfl (by omega) (by omega) rfl (fun _ _ => ?_)
      refine aw_iload_n rfl rfl rfl ?_
      refine aw_icmp (p' := 66) rfl ⟨by omega, by omega⟩ ⟨by omega, by omega⟩ rfl rfl (fun c2 => ?_) (fun c2 => ?_)
      · dsimp only [zc] at c2
        refine aw_iload rfl rfl rfl ?_
        refine aw_istore rfl (Nat.le_of_ble_eq_true rfl) rfl rfl ?_
        change aw _ _ _ _ 70 [some (.ref 42), some (.int (iI _)), some (.int (iI _)), some (.int (iI _)), some (.int (iI _)), some (.int (iI _)), some (.int (iI _))] _ _
        refine aw_iinc rfl rfl rfl rfl ?_
        change aw _ _ _ _ 73 [some (.ref 42), some (.int (iI _)), some (.int (iI _)), some (.int (iI _)), some (.int (iI _)), some (.int (iI _)), some (.int (iI _))] _ _
        refine aw_goto (p' := 11) rfl rfl ?_
        refine ih _ (by omega) _ _ rfl (by omega) (by omega) ?_
        rw [hs]
        first | rw [zit_t ⟨by omega, by omega, by assumption⟩] | rw [zit_f (by rintro ⟨q1, q2, q3⟩; first | omega | (exact absurd q3 (by assumption)))]
      · dsimp only [zc] at c2
        refine aw_aload_n rfl rfl rfl ?_
        refine aw_getr (b := 63) rfl rfl (hM.f.k 42 rfl) (hM.f.r 42 28 63 rfl) rfl ?_
        refine aw_iload rfl rfl rfl ?_
        refine aw_ap (N := 60) hM rfl (hM.f.s 63 rfl) (by omega) rfl (by omega) (by omega) rfl (fun _ _ => ?_)
        refine aw_iload rfl rfl rfl ?_
        refine aw_icmp (p' := 66) rfl ⟨by omega, by omega⟩ ⟨by omega, by omega⟩ rfl rfl (fun c3 => ?_) (fun c3 => ?_)
        · dsimp only [zc] at c3
          refine aw_iload rfl rfl rfl ?_
          refine aw_istore rfl (Nat.le_of_ble_eq_true rfl) rfl rfl ?_
          change aw _ _ _ _ 70 [some (.ref 42), some (.int (iI _)), some (.int (iI _)), some (.int (iI _)), some (.int (iI _)), some (.int (iI _)), some (.int (iI _))] _ _
          refine aw_iinc rfl rfl rfl rfl ?_
          change aw _ _ _ _ 73 [some (.ref 42), some (.int (iI _)), some (.int (iI _)), some (.int (iI _)), some (.int (iI _)), some (.int (iI _)), some (.int (iI _))] _ _
          refine aw_goto (p' := 11) rfl rfl ?_
          refine ih _ (by omega) _ _ rfl (by omega) (by omega) ?_
          rw [hs]
          first | rw [zit_t ⟨by omega, by omega, by assumption⟩] | rw [zit_f (by rintro ⟨q1, q2, q3⟩; first | omega | (exact absurd q3 (by assumption)))]
        · dsimp only [zc] at c3
          refine aw_aload_n rfl rfl rfl ?_
          refine aw_iload rfl rfl rfl ?_
          refine aw_iload_n rfl rfl rfl ?_
          refine aw_iload_n rfl rfl rfl ?_
          refine aw_iload rfl rfl rfl ?_
          refine aw_fnc (m_holdsOn hM hI (by omega) (by omega) (by omega) (by omega) (by omega) (by omega) (by omega) (by omega)) rfl rfl rfl (Nat.le_of_ble_eq_true rfl) (Or.inr ⟨_, rfl, (hM.f.k 42 rfl)⟩) rfl ?_
          refine aw_ifeqb (p' := 66) rfl rfl rfl (fun c4 => ?_) (fun c4 => ?_)
          · refine aw_iload rfl rfl rfl ?_
            refine aw_istore rfl (Nat.le_of_ble_eq_true rfl) rfl rfl ?_
            change aw _ _ _ _ 70 [some (.ref 42), some (.int (iI _)), some (.int (iI _)), some (.int (iI _)), some (.int (iI _)), some (.int (iI _)), some (.int (iI _))] _ _
            refine aw_iinc rfl rfl rfl rfl ?_
            change aw _ _ _ _ 73 [some (.ref 42), some (.int (iI _)), some (.int (iI _)), some (.int (iI _)), some (.int (iI _)), some (.int (iI _)), some (.int (iI _))] _ _
            refine aw_goto (p' := 11) rfl rfl ?_
            refine ih _ (by omega) _ _ rfl (by omega) (by omega) ?_
            rw [hs]
            first | rw [zit_t ⟨by omega, by omega, by assumption⟩] | rw [zit_f (by rintro ⟨q1, q2, q3⟩; first | omega | (exact absurd q3 (by assumption)))]
          · refine aw_aload_n rfl rfl rfl ?_
            refine aw_getr (b := 64) rfl rfl (hM.f.k 42 rfl) (hM.f.r 42 29 64 rfl) rfl ?_
            refine aw_iload rfl rfl rfl ?_
            refine aw_ap (N := 60) hM rfl (hM.f.s 64 rfl) (by omega) rfl (by omega) (by omega) rfl (fun _ _ => ?_)
            refine aw_goto (p' := 68) rfl rfl ?_
            refine aw_istore rfl (Nat.le_of_ble_eq_true rfl) rfl rfl ?_
            change aw _ _ _ _ 70 [some (.ref 42), some (.int (iI _)), some (.int (iI _)), some (.int (iI _)), some (.int (iI _)), some (.int (iI _)), some (.int (iI _))] _ _
            refine aw_iinc rfl rfl rfl rfl ?_
            change aw _ _ _ _ 73 [some (.ref 42), some (.int (iI _)), some (.int (iI _)), some (.int (iI _)), some (.int (iI _)), some (.int (iI _)), some (.int (iI _))] _ _
            refine aw_goto (p' := 11) rfl rfl ?_
            refine ih _ (by omega) _ _ rfl (by omega) (by omega) ?_
            rw [hs]
            first | rw [zit_t ⟨by omega, by omega, by assumption⟩] | rw [zit_f (by rintro ⟨q1, q2, q3⟩; first | omega | (exact absurd q3 (by assumption)))]
set_option maxRecDepth 10000 in
set_option maxHeartbeats 2000000 in
theorem m_holderOf {d : Nat} {sz : Nat} {A : Nat → Int → Int} {σ : az_S} (hM : MV sz A σ) (hI : MI sz A) {t : Int} (ht0 : 0 ≤ t) (ht : t < A 42 12) {x h y : Int} (hx0 : 0 ≤ x) (hx1 : x ≤ 3599) (hh0 : 0 ≤ h) (hh1 : h ≤ 11) (hy0 : 0 ≤ y) (hy1 : y ≤ 3599) : fn (d + 3) 193 [.ref 42, .int (iI t), .int (iI x), .int (iI h), .int (iI y)] σ (.int (iI (mWho A t x h y))) := by
  have hgr := hI.grants
  have hpe := hI.people
  have hth := hI.things
  refine fn_of (M := (yX12_holderOf, cX12_holderOf, 7, (some .int))) (cd := k_X12_holderOf) (L := [some (.ref 42), some (.int (iI t)), some (.int (iI x)), some (.int (iI h)), some (.int (iI y)), none, none]) rfl (Nat.le_of_ble_eq_true rfl) rfl rfl ?_
  refine aw_aload_n rfl rfl rfl ?_
  refine aw_getr (b := 51) rfl rfl (hM.f.k 42 rfl) (hM.f.r 42 15 51 rfl) rfl ?_
  refine aw_iload_n rfl rfl rfl ?_
  refine aw_ap (N := 24) hM rfl (hM.f.s 51 rfl) (by omega) rfl (by omega) (by omega) rfl (fun _ _ => ?_)
  refine aw_istore rfl (Nat.le_of_ble_eq_true rfl) rfl rfl ?_
  change aw _ _ _ _ 8 [some (.ref 42), some (.int (iI _)), some (.int (iI _)), some (.int (iI _)), some (.int (iI _)), some (.int (iI _)), none] _ _
  refine aw_iconst rfl rfl ?_
  refine aw_istore rfl (Nat.le_of_ble_eq_true rfl) rfl rfl ?_
  change aw _ _ _ _ 11 [some (.ref 42), some (.int (iI _)), some (.int (iI _)), some (.int (iI _)), some (.int (iI _)), some (.int (iI _)), some (.int (iI _))] _ _
  exact m_holderOf_l11 hM hI ht0 ht hx0 hx1 hh0 hh1 hy0 hy1 _ 0 _ rfl (by omega) (by omega) rfl
theorem mWho_r {sz : Nat} {A : Nat → Int → Int} (hI : MI sz A) {t x h y : Int} (h0 : 0 ≤ t) (h1 : t < A 42 12) : 0 ≤ mWho A t x h y ∧ mWho A t x h y < A 42 9 := mWhoN_r hI h0 h1 _ (by have := hI.grants; omega)
/-- what holds leaves behind -/
def HK (A : Nat → Int → Int) (x h y n : Int) (τ : az_S) : Prop := ∀ u : Int, 0 ≤ u → u < n → zx τ 93 u = mWho A u x h y
theorem HK.mod {A : Nat → Int → Int} {x h y n : Int} {σ τ : az_S} {S : List Nat} (k : HK A x h y n σ) (hd : Mod σ τ S) (h1 : S.contains 93 = false) : HK A x h y n τ := fun u a b => by rw [hd.z 93 h1]; exact k u a b
set_option maxRecDepth 10000 in
set_option maxHeartbeats 2000000 in
theorem m_holder {d : Nat} {sz : Nat} {A : Nat → Int → Int} {σ : az_S} (hM : MV sz A σ) (hI : MI sz A) {t x h y : Int} (ht : inI t) (hx : inI x) (hh : inI h) (hy : inI y) : fn (d + 4) 194 [.ref 42, .int (iI t), .int (iI x), .int (iI h), .int (iI y)] σ (.int (iI (zit (((0 ≤ t ∧ t ≤ A 42 12 - 1) ∧ (0 ≤ x ∧ x ≤ 3599) ∧ (0 ≤ h ∧ h ≤ 11) ∧ (0 ≤ y ∧ y ≤ 3599)) ∧ 0 ≤ mH A t x y) (mWho A t x h y) (-1)))) := by
  obtain ⟨ht1, ht2⟩ := ht
  obtain ⟨hx1, hx2⟩ := hx
  obtain ⟨hh1, hh2⟩ := hh
  obtain ⟨hy1, hy2⟩ := hy
  refine fn_of (M := (yX12_holder, cX12_holder, 5, (some .int))) (cd := k_X12_holder) (L := [some (.ref 42), some (.int (iI t)), some (.int (iI x)), some (.int (iI h)), some (.int (iI y))]) rfl (Nat.le_of_ble_eq_true rfl) rfl rfl ?_
  refine aw_aload_n rfl rfl rfl ?_
  refine aw_iload_n rfl rfl rfl ?_
  refine aw_fnc (m_isThing hM hI ⟨by omega, by omega⟩) rfl rfl rfl (Nat.le_of_ble_eq_true rfl) (Or.inr ⟨_, rfl, (hM.f.k 42 rfl)⟩) rfl ?_
  refine aw_ifeqb (p' := 30) rfl rfl rfl (fun c1 => ?_) (fun c1 => ?_)
  · refine aw_iconst rfl rfl ?_
    refine aw_goto (p' := 43) rfl rfl ?_
    refine aw_reti rfl ?_
    refine ⟨?_, rfl⟩
    first | rw [zit_t (by omega)] | rw [zit_f (by omega)]
  · refine aw_aload_n rfl rfl rfl ?_
    refine aw_iload_n rfl rfl rfl ?_
    refine aw_iload_n rfl rfl rfl ?_
    refine aw_iload rfl rfl rfl ?_
    refine aw_fnc (m_isAsked hM hI ⟨by omega, by omega⟩ ⟨by omega, by omega⟩ ⟨by omega, by omega⟩) rfl rfl rfl (Nat.le_of_ble_eq_true rfl) (Or.inr ⟨_, rfl, (hM.f.k 42 rfl)⟩) rfl ?_
    refine aw_ifeqb (p' := 30) rfl rfl rfl (fun c2 => ?_) (fun c2 => ?_)
    · refine aw_iconst rfl rfl ?_
      refine aw_goto (p' := 43) rfl rfl ?_
      refine aw_reti rfl ?_
      refine ⟨?_, rfl⟩
      first | rw [zit_t (by omega)] | rw [zit_f (by omega)]
    · refine aw_aload_n rfl rfl rfl ?_
      refine aw_iload_n rfl rfl rfl ?_
      refine aw_iload_n rfl rfl rfl ?_
      refine aw_iload rfl rfl rfl ?_
      refine aw_fnc (m_heightOf hM hI (by omega) (by omega) (by omega) (by omega) (by omega) (by omega)) rfl rfl rfl (Nat.le_of_ble_eq_true rfl) (Or.inr ⟨_, rfl, (hM.f.k 42 rfl)⟩) rfl ?_
      have hrH3 := mH_range (hI.thing t (by omega) (by omega)) x y
      refine aw_if (p' := 34) rfl ⟨by omega, by omega⟩ rfl rfl (fun c4 => ?_) (fun c4 => ?_)
      · dsimp only [zc] at c4
        refine aw_aload_n rfl rfl rfl ?_
        refine aw_iload_n rfl rfl rfl ?_
        refine aw_iload_n rfl rfl rfl ?_
        refine aw_iload_n rfl rfl rfl ?_
        refine aw_iload rfl rfl rfl ?_
        refine aw_fnc (m_holderOf hM hI (by omega) (by omega) (by omega) (by omega) (by omega) (by omega) (by omega) (by omega)) rfl rfl rfl (Nat.le_of_ble_eq_true rfl) (Or.inr ⟨_, rfl, (hM.f.k 42 rfl)⟩) rfl ?_
        refine aw_reti rfl ?_
        refine ⟨?_, rfl⟩
        first | rw [zit_t (by omega)] | rw [zit_f (by omega)]
      · dsimp only [zc] at c4
        refine aw_iconst rfl rfl ?_
        refine aw_goto (p' := 43) rfl rfl ?_
        refine aw_reti rfl ?_
        refine ⟨?_, rfl⟩
        first | rw [zit_t (by omega)] | rw [zit_f (by omega)]
set_option maxRecDepth 10000 in
set_option maxHeartbeats 2000000 in
theorem m_holds_l3 {d : Nat} {sz : Nat} {A : Nat → Int → Int} {σ : az_S} (hM : MV sz A σ) (hI : MI sz A) {x h y : Int} (hx0 : 0 ≤ x) (hx1 : x ≤ 3599) (hh0 : 0 ≤ h) (hh1 : h ≤ 11) (hy0 : 0 ≤ y) (hy1 : y ≤ 3599) : ∀ (n : Nat) (τ : az_S) (t : Int), (A 42 12 - t).toNat = n → MV sz A τ → Mod σ τ [93] → 0 ≤ t → t ≤ A 42 12 → HK A x h y t τ → aw (d + 3) k_X12_holds none (fun r τ => r = none ∧ MV sz A τ ∧ Mod σ τ [93] ∧ HK A x h y (A 42 12) τ) 3 [some (.ref 42), some (.int (iI x)), some (.int (iI h)), some (.int (iI y)), some (.int (iI t))] [] τ := by
  intro n
  induction n using Nat.strongRecOn with
  | ind n ih =>
    intro τ t hn hN hD ht0 ht1 hU
    have hth := hI.things
    have hpe := hI.people
    refine aw_iload rfl rfl rfl ?_
    refine aw_aload_n rfl rfl rfl ?_
    refine aw_gp (12) hN rfl rfl (hN.f.k 42 rfl) rfl rfl (fun _ _ => ?_)
    refine aw_icmp (p' := 34) rfl ⟨by omega, by omega⟩ ⟨by omega, by omega⟩ rfl rfl (fun c1 => ?_) (fun c1 => ?_)
    · dsimp only [zc] at c1
      refine aw_retv rfl ?_
      refine ⟨rfl, hN, (hD.su (T := [93]) rfl), ?_⟩
      rw [show t = A 42 12 by omega] at hU
      exact hU
    · dsimp only [zc] at c1
      refine aw_aload_n rfl rfl rfl ?_
      refine aw_getr (b := 93) rfl rfl (hN.f.k 42 rfl) (hN.f.r 42 76 93 rfl) rfl ?_
      refine aw_iload rfl rfl rfl ?_
      refine aw_aload_n rfl rfl rfl ?_
      refine aw_iload rfl rfl rfl ?_
      refine aw_iload_n rfl rfl rfl ?_
      refine aw_iload_n rfl rfl rfl ?_
      refine aw_iload_n rfl rfl rfl ?_
      refine aw_fnc (m_holderOf hN hI (by omega) (by omega) (by omega) (by omega) (by omega) (by omega) (by omega) (by omega)) rfl rfl rfl (Nat.le_of_ble_eq_true rfl) (Or.inr ⟨_, rfl, (hN.f.k 42 rfl)⟩) rfl ?_
      have hr := mWho_r (x := x) (h := h) (y := y) hI ht0 (by omega)
      refine aw_ss (N := 24) hN rfl (hN.f.s 93 rfl) (by omega) rfl (by omega) (by omega) ⟨by omega, by omega⟩ rfl (fun τ2 hM2 hD2 hU2 => ?_)
      refine aw_iinc rfl rfl rfl rfl ?_
      change aw _ _ _ _ 31 [some (.ref 42), some (.int (iI _)), some (.int (iI _)), some (.int (iI _)), some (.int (iI _))] _ _
      refine aw_goto (p' := 3) rfl rfl ?_
      exact ih _ (by omega) _ _ rfl hM2 ((hD.su (T := [93]) rfl).tr (hD2.su (T := [93]) rfl)) (by omega) (by omega) (fun u h1 h2 => by rw [hU2]; split; (rename_i e; rw [e]); exact hU u h1 (by omega))
set_option maxRecDepth 10000 in
set_option maxHeartbeats 2000000 in
theorem m_holds {d : Nat} {sz : Nat} {A : Nat → Int → Int} {σ : az_S} (hM : MV sz A σ) (hI : MI sz A) {x h y : Int} (hx0 : 0 ≤ x) (hx1 : x ≤ 3599) (hh0 : 0 ≤ h) (hh1 : h ≤ 11) (hy0 : 0 ≤ y) (hy1 : y ≤ 3599) : cal (d + 4) 195 [.ref 42, .int (iI x), .int (iI h), .int (iI y)] σ (fun r τ => r = none ∧ MV sz A τ ∧ Mod σ τ [93] ∧ HK A x h y (A 42 12) τ) := by
  have hth := hI.things
  have hpe := hI.people
  refine cal_of (M := (yX12_holds, cX12_holds, 5, none)) (cd := k_X12_holds) (L := [some (.ref 42), some (.int (iI x)), some (.int (iI h)), some (.int (iI y)), none]) rfl (Nat.le_of_ble_eq_true rfl) rfl rfl ?_
  refine aw_iconst rfl rfl ?_
  refine aw_istore rfl (Nat.le_of_ble_eq_true rfl) rfl rfl ?_
  change aw _ _ _ _ 3 [some (.ref 42), some (.int (iI _)), some (.int (iI _)), some (.int (iI _)), some (.int (iI _))] _ _
  exact m_holds_l3 hM hI hx0 hx1 hh0 hh1 hy0 hy1 _ _ 0 rfl hM Mod.rf (by omega) (by omega) (fun u _ _ => by omega)
