/-! THE FIXED PLACES: the class's object at 0, the reference's at 42, what they are made of -/
def fxk (a : Nat) : Nat := ([12, 7, 100, 100, 100, 0, 0, 0, 0, 9, 100, 100, 100, 100, 100, 100, 10, 100, 100, 100, 100, 103, 10, 100, 100, 100, 100, 103, 2, 6, 100, 101, 100, 5, 100, 100, 100, 100, 103, 103, 3, 100, 13, 100, 100, 100, 100, 100, 100, 100, 100, 100, 100, 100, 100, 100, 100, 100, 100, 100, 100, 100, 100, 100, 100, 100, 100, 100, 100, 100, 100, 100, 100, 100, 102, 100, 100, 100, 100, 100, 100, 100, 103, 100, 100, 100, 100, 100, 101, 100, 100, 101, 100, 100, 100, 100, 101, 100, 103, 100, 103, 100, 100] : List Nat).getD a 999
def fxn (sz a : Nat) : Nat := ([18, 4, 144, 144, 60, 3, 3, 3, 3, 6, 400, 401, 401, 401, 8, 24, 7, 400, 400, 20, 20, 64, 7, 400, 400, 20, 20, 64, 3, 7, 24, sz, sz, 9, 12, (12 * sz), sz, sz, sz, sz, 6, sz, 90, 144, 144, 60, 60, 16, 16, 24, 24, 24, 24, 24, 24, 24, 24, 984, 984, 984, 24, 24, 24, 60, 60, 60, 60, 60, 60, 60, 60, 60, 60, 60, 400, 900, 900, 900, 900, 64, 128, 128, 300, 8, 10, 10, 10, 120, 192, 192, 192, 192, 24, 24, 65, 65, 2304, 2304, 2304, 2304, 2304, 12, 192] : List Nat).getD a 0
def fxl : List (Nat × Nat × Nat) := [(0, 0, 28), (0, 1, 1), (0, 2, 5), (0, 3, 6), (0, 4, 7), (0, 5, 8), (0, 6, 29), (0, 7, 9), (0, 8, 40), (0, 9, 33), (0, 10, 14), (0, 11, 15), (0, 12, 41), (1, 0, 2), (1, 1, 3), (1, 2, 4), (9, 0, 10), (9, 2, 11), (9, 3, 12), (9, 4, 13), (16, 0, 17), (16, 1, 18), (16, 2, 19), (16, 3, 20), (16, 4, 21), (22, 0, 23), (22, 1, 24), (22, 2, 25), (22, 3, 26), (22, 4, 27), (29, 0, 28), (29, 1, 1), (29, 2, 6), (29, 3, 30), (29, 4, 31), (29, 5, 32), (33, 0, 28), (33, 1, 35), (33, 2, 34), (40, 0, 9), (42, 4, 43), (42, 5, 44), (42, 7, 45), (42, 8, 46), (42, 10, 47), (42, 11, 48), (42, 13, 49), (42, 14, 50), (42, 15, 51), (42, 16, 52), (42, 17, 53), (42, 18, 54), (42, 19, 55), (42, 20, 56), (42, 21, 57), (42, 22, 58), (42, 23, 59), (42, 24, 60), (42, 25, 61), (42, 26, 62), (42, 28, 63), (42, 29, 64), (42, 30, 65), (42, 31, 66), (42, 32, 67), (42, 33, 68), (42, 34, 69), (42, 35, 70), (42, 36, 71), (42, 37, 72), (42, 38, 73), (42, 39, 74), (42, 52, 75), (42, 53, 76), (42, 56, 77), (42, 57, 78), (42, 59, 79), (42, 61, 80), (42, 62, 81), (42, 64, 82), (42, 65, 83), (42, 67, 84), (42, 68, 85), (42, 69, 86), (42, 70, 87), (42, 71, 88), (42, 72, 89), (42, 73, 90), (42, 74, 91), (42, 75, 92), (42, 76, 93), (42, 77, 94), (42, 79, 95), (42, 80, 96), (42, 81, 97), (42, 82, 98), (42, 83, 99), (42, 84, 100), (42, 87, 101), (42, 89, 102)]
def fxq (a k : Nat) : Option Nat := (fxl.find? (fun q => q.1 == a && q.2.1 == k)).map (fun q => q.2.2)
def FX (sz : Nat) (σ : az_S) : Prop := (16 ≤ sz ∧ sz ≤ 192) ∧ (∀ a, a < 103 → az_sh σ a = (fxk a, fxn sz a)) ∧ ∀ a k b, fxq a k = some b → az_r σ a k = some b
theorem FX.s {sz : Nat} {σ : az_S} (h : FX sz σ) (a : Nat) (ha : Nat.ble (a + 1) 103 = true) : az_sh σ a = (fxk a, fxn sz a) := h.2.1 a (Nat.le_of_ble_eq_true ha)
theorem FX.k {sz : Nat} {σ : az_S} (h : FX sz σ) (a : Nat) (ha : Nat.ble (a + 1) 103 = true) : (az_sh σ a).1 = fxk a := by rw [h.s a ha]
theorem FX.r {sz : Nat} {σ : az_S} (h : FX sz σ) (a k b : Nat) (hq : fxq a k = some b) : az_r σ a k = some b := h.2.2 a k b hq
section AwRules3
variable {d : Nat} {cd : List az_I} {rt : Option FieldType} {P : Option Value → az_S → Prop} {pc p' : Nat} {L : az_V} {st : List Value} {σ : az_S}
theorem aw_fnc {ins : Instr} {y n kc : Nat} {v : Value} {as rest : List Value} (hc : fn d y as σ v) (hf : az_fetch cd pc = some (3, ins, [0, y, n, kc])) (hst : st = as.reverse ++ rest) (hlen : as.length = n) (hcat : (rest.map fun v => v.category).sum ≤ 8) (hk : kc = 999 ∨ ∃ a, as.head? = some (.ref a) ∧ (az_sh σ a).1 = kc) (hp : pc + 3 = p') (h : aw d cd rt P p' L (v :: rest) σ) : aw d cd rt P pc L st σ := aw_fn as rest hf hst hlen hcat hk hc hp h
theorem aw_calc {ins : Instr} {y n kc : Nat} {Pc : Option Value → az_S → Prop} {as rest : List Value} (hc : cal d y as σ Pc) (hf : az_fetch cd pc = some (3, ins, [0, y, n, kc])) (hst : st = as.reverse ++ rest) (hlen : as.length = n) (hcat : (rest.map fun v => v.category).sum ≤ 8) (hk : kc = 999 ∨ ∃ a, as.head? = some (.ref a) ∧ (az_sh σ a).1 = kc) (hp : pc + 3 = p') (h : ∀ r τ, Pc r τ → aw d cd rt P p' L (r.toList ++ rest) τ) : aw d cd rt P pc L st σ := aw_call as rest hf hst hlen hcat hk hc hp h
theorem aw_sz {a N : Nat} {z x : Int} (hf : az_fetch cd pc = some (1, .iastore, [])) (hs : az_sh σ a = (100, N)) (hN : N ≤ 10000) (h0 : 0 ≤ z) (hj : z < N) (hp : pc + 1 = p') (h : aw d cd rt P p' L st (az_pi σ a z.toNat (iI x))) : aw d cd rt P pc L (.int (iI x) :: .int (iI z) :: .ref a :: st) σ := aw_iastore (j := z.toNat) hf hs hN (by omega) (by omega) hp h
end AwRules3
set_option maxRecDepth 10000 in
set_option maxHeartbeats 1000000 in
theorem m_isDay {d : Nat} {σ : az_S} {z : Int} (hz : inI z) : fn (d + 2) 160 [.int (iI z)] σ (.int (iI (bI (0 ≤ z ∧ z ≤ 3599)))) := by
  obtain ⟨hz1, hz2⟩ := hz
  refine fn_of (M := (yX12_isDay, cX12_isDay, 1, (some .boolean))) (cd := k_X12_isDay) (L := [some (.int (iI z))]) rfl (Nat.le_of_ble_eq_true rfl) rfl rfl ?_
  refine aw_iload_n rfl rfl rfl ?_
  refine aw_i2l rfl ⟨by omega, by omega⟩ rfl ?_
  refine aw_lconst 0 rfl rfl rfl ?_
  refine aw_ldc2 (3599) rfl rfl rfl ?_
  refine aw_fnc (m_in ⟨by omega, by omega⟩ ⟨by omega, by omega⟩ ⟨by omega, by omega⟩) rfl rfl rfl (Nat.le_of_ble_eq_true rfl) (Or.inl rfl) rfl ?_
  refine aw_retn rfl (bI_nar _) ?_
  exact ⟨rfl, rfl⟩
set_option maxRecDepth 10000 in
set_option maxHeartbeats 1000000 in
theorem m_isHour {d : Nat} {σ : az_S} {z : Int} (hz : inI z) : fn (d + 2) 161 [.int (iI z)] σ (.int (iI (bI (0 ≤ z ∧ z ≤ 11)))) := by
  obtain ⟨hz1, hz2⟩ := hz
  refine fn_of (M := (yX12_isHour, cX12_isHour, 1, (some .boolean))) (cd := k_X12_isHour) (L := [some (.int (iI z))]) rfl (Nat.le_of_ble_eq_true rfl) rfl rfl ?_
  refine aw_iload_n rfl rfl rfl ?_
  refine aw_i2l rfl ⟨by omega, by omega⟩ rfl ?_
  refine aw_lconst 0 rfl rfl rfl ?_
  refine aw_ldc2 (11) rfl rfl rfl ?_
  refine aw_fnc (m_in ⟨by omega, by omega⟩ ⟨by omega, by omega⟩ ⟨by omega, by omega⟩) rfl rfl rfl (Nat.le_of_ble_eq_true rfl) (Or.inl rfl) rfl ?_
  refine aw_retn rfl (bI_nar _) ?_
  exact ⟨rfl, rfl⟩
set_option maxRecDepth 10000 in
set_option maxHeartbeats 1000000 in
theorem m_isCell {d : Nat} {sz : Nat} {σ : az_S} (hF : FX sz σ) {z : Int} (hz : inI z) (hb : 0 ≤ zi σ 42 2) : fn (d + 2) 162 [.ref 42, .int (iI z)] σ (.int (iI (bI (0 ≤ z ∧ z ≤ zi σ 42 2 - 1)))) := by
  obtain ⟨hz1, hz2⟩ := hz
  refine fn_of (M := (yX12_isCell, cX12_isCell, 2, (some .boolean))) (cd := k_X12_isCell) (L := [some (.ref 42), some (.int (iI z))]) rfl (Nat.le_of_ble_eq_true rfl) rfl rfl ?_
  refine aw_iload_n rfl rfl rfl ?_
  refine aw_i2l rfl ⟨by omega, by omega⟩ rfl ?_
  refine aw_lconst 0 rfl rfl rfl ?_
  refine aw_aload_n rfl rfl rfl ?_
  refine aw_gz rfl rfl (hF.k 42 rfl) rfl (fun _ _ => ?_)
  refine aw_iconst rfl rfl ?_
  refine aw_isub rfl rfl ?_
  refine aw_i2l rfl ⟨by omega, by omega⟩ rfl ?_
  refine aw_fnc (m_in ⟨by omega, by omega⟩ ⟨by omega, by omega⟩ ⟨by omega, by omega⟩) rfl rfl rfl (Nat.le_of_ble_eq_true rfl) (Or.inl rfl) rfl ?_
  refine aw_retn rfl (bI_nar _) ?_
  exact ⟨rfl, rfl⟩
set_option maxRecDepth 10000 in
set_option maxHeartbeats 1000000 in
theorem m_isPerson {d : Nat} {sz : Nat} {σ : az_S} (hF : FX sz σ) {z : Int} (hz : inI z) (hb : 0 ≤ zi σ 42 9) : fn (d + 2) 163 [.ref 42, .int (iI z)] σ (.int (iI (bI (0 ≤ z ∧ z ≤ zi σ 42 9 - 1)))) := by
  obtain ⟨hz1, hz2⟩ := hz
  refine fn_of (M := (yX12_isPerson, cX12_isPerson, 2, (some .boolean))) (cd := k_X12_isPerson) (L := [some (.ref 42), some (.int (iI z))]) rfl (Nat.le_of_ble_eq_true rfl) rfl rfl ?_
  refine aw_iload_n rfl rfl rfl ?_
  refine aw_i2l rfl ⟨by omega, by omega⟩ rfl ?_
  refine aw_lconst 0 rfl rfl rfl ?_
  refine aw_aload_n rfl rfl rfl ?_
  refine aw_gz rfl rfl (hF.k 42 rfl) rfl (fun _ _ => ?_)
  refine aw_iconst rfl rfl ?_
  refine aw_isub rfl rfl ?_
  refine aw_i2l rfl ⟨by omega, by omega⟩ rfl ?_
  refine aw_fnc (m_in ⟨by omega, by omega⟩ ⟨by omega, by omega⟩ ⟨by omega, by omega⟩) rfl rfl rfl (Nat.le_of_ble_eq_true rfl) (Or.inl rfl) rfl ?_
  refine aw_retn rfl (bI_nar _) ?_
  exact ⟨rfl, rfl⟩
set_option maxRecDepth 10000 in
set_option maxHeartbeats 1000000 in
theorem m_isThing {d : Nat} {sz : Nat} {σ : az_S} (hF : FX sz σ) {z : Int} (hz : inI z) (hb : 0 ≤ zi σ 42 12) : fn (d + 2) 164 [.ref 42, .int (iI z)] σ (.int (iI (bI (0 ≤ z ∧ z ≤ zi σ 42 12 - 1)))) := by
  obtain ⟨hz1, hz2⟩ := hz
  refine fn_of (M := (yX12_isThing, cX12_isThing, 2, (some .boolean))) (cd := k_X12_isThing) (L := [some (.ref 42), some (.int (iI z))]) rfl (Nat.le_of_ble_eq_true rfl) rfl rfl ?_
  refine aw_iload_n rfl rfl rfl ?_
  refine aw_i2l rfl ⟨by omega, by omega⟩ rfl ?_
  refine aw_lconst 0 rfl rfl rfl ?_
  refine aw_aload_n rfl rfl rfl ?_
  refine aw_gz rfl rfl (hF.k 42 rfl) rfl (fun _ _ => ?_)
  refine aw_iconst rfl rfl ?_
  refine aw_isub rfl rfl ?_
  refine aw_i2l rfl ⟨by omega, by omega⟩ rfl ?_
  refine aw_fnc (m_in ⟨by omega, by omega⟩ ⟨by omega, by omega⟩ ⟨by omega, by omega⟩) rfl rfl rfl (Nat.le_of_ble_eq_true rfl) (Or.inl rfl) rfl ?_
  refine aw_retn rfl (bI_nar _) ?_
  exact ⟨rfl, rfl⟩
set_option maxRecDepth 10000 in
set_option maxHeartbeats 1000000 in
theorem m_monthOf {d : Nat} {σ : az_S} {z : Int} (h0 : 0 ≤ z) (h1 : z < 2147483648) : fn (d + 1) 165 [.int (iI z)] σ (.int (iI (z % 360 / 30))) := by
  refine fn_of (M := (yX12_monthOf, cX12_monthOf, 1, (some .int))) (cd := k_X12_monthOf) (L := [some (.int (iI z))]) rfl (Nat.le_of_ble_eq_true rfl) rfl rfl ?_
  refine aw_iload_n rfl rfl rfl ?_
  refine aw_sipush rfl rfl rfl ?_
  refine aw_irem rfl (by omega) (by omega) (by omega) (by omega) rfl ?_
  refine aw_bipush rfl rfl rfl ?_
  refine aw_idiv rfl (by omega) (by omega) (by omega) (by omega) rfl ?_
  refine aw_reti rfl ?_
  exact ⟨rfl, rfl⟩
set_option maxRecDepth 10000 in
set_option maxHeartbeats 1000000 in
theorem m_far {d : Nat} {σ : az_S} {a b : Int} (ha1 : -1000000 ≤ a) (ha2 : a ≤ 1000000) (hb1 : -1000000 ≤ b) (hb2 : b ≤ 1000000) : fn (d + 1) 202 [.int (iI a), .int (iI b)] σ (.int (iI (if a > b then a - b else b - a))) := by
  refine fn_of (M := (yX12_far, cX12_far, 2, (some .int))) (cd := k_X12_far) (L := [some (.int (iI a)), some (.int (iI b))]) rfl (Nat.le_of_ble_eq_true rfl) rfl rfl ?_
  refine aw_iload_n rfl rfl rfl ?_
  refine aw_iload_n rfl rfl rfl ?_
  refine aw_icmp (p' := 11) rfl ⟨by omega, by omega⟩ ⟨by omega, by omega⟩ rfl rfl (fun c1 => ?_) (fun c1 => ?_)
  · dsimp only [zc] at c1
    refine aw_iload_n rfl rfl rfl ?_
    refine aw_iload_n rfl rfl rfl ?_
    refine aw_isub rfl rfl ?_
    refine aw_reti rfl ?_
    refine ⟨?_, rfl⟩
    split <;> first | rfl | omega
  · dsimp only [zc] at c1
    refine aw_iload_n rfl rfl rfl ?_
    refine aw_iload_n rfl rfl rfl ?_
    refine aw_isub rfl rfl ?_
    refine aw_goto (p' := 14) rfl rfl ?_
    refine aw_reti rfl ?_
    refine ⟨?_, rfl⟩
    split <;> first | rfl | omega
def mCloud (σ : az_S) (x y : Int) : Prop := ∃ j : Nat, (j : Int) < zi σ 42 6 ∧ zi σ 45 j = x ∧ zi σ 46 j = y
def mCloudTo (σ : az_S) (x y k : Int) : Prop := ∃ j : Nat, (j : Int) < k ∧ zi σ 45 j = x ∧ zi σ 46 j = y
theorem mCloudTo_s {σ : az_S} {x y k : Int} (h0 : 0 ≤ k) : mCloudTo σ x y (k + 1) ↔ mCloudTo σ x y k ∨ (zi σ 45 k.toNat = x ∧ zi σ 46 k.toNat = y) := by
  constructor
  · rintro ⟨j, h1, h2⟩
    by_cases e : (j : Int) < k
    · exact Or.inl ⟨j, e, h2⟩
    · have : k.toNat = j := by omega
      rw [this]; exact Or.inr h2
  · rintro (⟨j, h1, h2⟩ | h)
    · exact ⟨j, by omega, h2⟩
    · exact ⟨k.toNat, by omega, h⟩
set_option maxRecDepth 10000 in
set_option maxHeartbeats 1000000 in
theorem m_isCloud_l5 {d : Nat} {sz : Nat} {σ : az_S} (hF : FX sz σ) {x y : Int} (hx : inI x) (hy : inI y) (hc0 : 0 ≤ zi σ 42 6) (hc1 : zi σ 42 6 ≤ 60) : ∀ (n : Nat) (k b : Int), (zi σ 42 6 - k).toNat = n → 0 ≤ k → k ≤ zi σ 42 6 → b = bI (mCloudTo σ x y k) → aw (d) k_X12_isCloud (some .boolean) (fun r τ => r = some (.int (iI (bI (mCloud σ x y)))) ∧ τ = σ) 5 [some (.ref 42), some (.int (iI x)), some (.int (iI y)), some (.int (iI b)), some (.int (iI k))] [] σ := by
  intro n
  induction n using Nat.strongRecOn with
  | ind n ih =>
    intro k b hn hk0 hk1 hb
    obtain ⟨hx1, hx2⟩ := hx
    obtain ⟨hy1, hy2⟩ := hy
    have hbi := bI_in (mCloudTo σ x y k)
    rw [← hb] at hbi
    obtain ⟨hb1, hb2⟩ := hbi
    have hz := bI_zero (mCloudTo σ x y k)
    rw [← hb] at hz
    have hs := mCloudTo_s (σ := σ) (x := x) (y := y) hk0
    refine aw_iload rfl rfl rfl ?_
    refine aw_aload_n rfl rfl rfl ?_
    refine aw_gz rfl rfl (hF.k 42 rfl) rfl (fun _ _ => ?_)
    refine aw_icmp (p' := 52) rfl ⟨by omega, by omega⟩ ⟨by omega, by omega⟩ rfl rfl (fun c1 => ?_) (fun c1 => ?_)
    · dsimp only [zc] at c1
      refine aw_iload_n rfl rfl rfl ?_
      refine aw_retn rfl (by rw [hb]; exact bI_nar _) ?_
      refine ⟨?_, rfl⟩
      rw [hb, show k = zi σ 42 6 by omega]
      rfl
    · dsimp only [zc] at c1
      refine aw_iload_n rfl rfl rfl ?_
      refine aw_if (p' := 40) rfl ⟨by omega, by omega⟩ rfl rfl (fun c2 => ?_) (fun c2 => ?_)
      · dsimp only [zc] at c2
        refine aw_iconst rfl rfl ?_
        refine aw_goto (p' := 45) rfl rfl ?_
        refine aw_istore_n rfl (Nat.le_of_ble_eq_true rfl) rfl rfl ?_
        change aw _ _ _ _ 46 [some (.ref 42), some (.int (iI _)), some (.int (iI _)), some (.int (iI _)), some (.int (iI _))] _ _
        refine aw_iinc rfl rfl rfl rfl ?_
        change aw _ _ _ _ 49 [some (.ref 42), some (.int (iI _)), some (.int (iI _)), some (.int (iI _)), some (.int (iI _))] _ _
        refine aw_goto (p' := 5) rfl rfl ?_
        exact ih _ (by omega) _ _ rfl (by omega) (by omega) (by (first | rw [bI_one', hs] | rw [bI_zero', hs]); clear ih; grind)
      · dsimp only [zc] at c2
        refine aw_aload_n rfl rfl rfl ?_
        refine aw_getr (b := 45) rfl rfl (hF.k 42 rfl) (hF.r 42 7 45 rfl) rfl ?_
        refine aw_iload rfl rfl rfl ?_
        refine aw_az (N := 60) rfl (hF.s 45 rfl) (by omega) (by omega) (by omega) rfl (fun _ _ => ?_)
        refine aw_iload_n rfl rfl rfl ?_
        refine aw_icmp (p' := 44) rfl ⟨by omega, by omega⟩ ⟨by omega, by omega⟩ rfl rfl (fun c3 => ?_) (fun c3 => ?_)
        · dsimp only [zc] at c3
          refine aw_iconst rfl rfl ?_
          refine aw_istore_n rfl (Nat.le_of_ble_eq_true rfl) rfl rfl ?_
          change aw _ _ _ _ 46 [some (.ref 42), some (.int (iI _)), some (.int (iI _)), some (.int (iI _)), some (.int (iI _))] _ _
          refine aw_iinc rfl rfl rfl rfl ?_
          change aw _ _ _ _ 49 [some (.ref 42), some (.int (iI _)), some (.int (iI _)), some (.int (iI _)), some (.int (iI _))] _ _
          refine aw_goto (p' := 5) rfl rfl ?_
          exact ih _ (by omega) _ _ rfl (by omega) (by omega) (by (first | rw [bI_one', hs] | rw [bI_zero', hs]); clear ih; grind)
        · dsimp only [zc] at c3
          refine aw_aload_n rfl rfl rfl ?_
          refine aw_getr (b := 46) rfl rfl (hF.k 42 rfl) (hF.r 42 8 46 rfl) rfl ?_
          refine aw_iload rfl rfl rfl ?_
          refine aw_az (N := 60) rfl (hF.s 46 rfl) (by omega) (by omega) (by omega) rfl (fun _ _ => ?_)
          refine aw_iload_n rfl rfl rfl ?_
          refine aw_icmp (p' := 44) rfl ⟨by omega, by omega⟩ ⟨by omega, by omega⟩ rfl rfl (fun c4 => ?_) (fun c4 => ?_)
          · dsimp only [zc] at c4
            refine aw_iconst rfl rfl ?_
            refine aw_istore_n rfl (Nat.le_of_ble_eq_true rfl) rfl rfl ?_
            change aw _ _ _ _ 46 [some (.ref 42), some (.int (iI _)), some (.int (iI _)), some (.int (iI _)), some (.int (iI _))] _ _
            refine aw_iinc rfl rfl rfl rfl ?_
            change aw _ _ _ _ 49 [some (.ref 42), some (.int (iI _)), some (.int (iI _)), some (.int (iI _)), some (.int (iI _))] _ _
            refine aw_goto (p' := 5) rfl rfl ?_
            exact ih _ (by omega) _ _ rfl (by omega) (by omega) (by (first | rw [bI_one', hs] | rw [bI_zero', hs]); clear ih; grind)
          · dsimp only [zc] at c4
            refine aw_iconst rfl rfl ?_
            refine aw_goto (p' := 45) rfl rfl ?_
            refine aw_istore_n rfl (Nat.le_of_ble_eq_true rfl) rfl rfl ?_
            change aw _ _ _ _ 46 [some (.ref 42), some (.int (iI _)), some (.int (iI _)), some (.int (iI _)), some (.int (iI _))] _ _
            refine aw_iinc rfl rfl rfl rfl ?_
            change aw _ _ _ _ 49 [some (.ref 42), some (.int (iI _)), some (.int (iI _)), some (.int (iI _)), some (.int (iI _))] _ _
            refine aw_goto (p' := 5) rfl rfl ?_
            exact ih _ (by omega) _ _ rfl (by omega) (by omega) (by (first | rw [bI_one', hs] | rw [bI_zero', hs]); clear ih; grind)
set_option maxRecDepth 10000 in
set_option maxHeartbeats 1000000 in
theorem m_isCloud {d : Nat} {sz : Nat} {σ : az_S} (hF : FX sz σ) {x y : Int} (hx : inI x) (hy : inI y) (hc0 : 0 ≤ zi σ 42 6) (hc1 : zi σ 42 6 ≤ 60) : fn (d + 1) 168 [.ref 42, .int (iI x), .int (iI y)] σ (.int (iI (bI (mCloud σ x y)))) := by
  obtain ⟨hx1, hx2⟩ := hx
  obtain ⟨hy1, hy2⟩ := hy
  refine fn_of (M := (yX12_isCloud, cX12_isCloud, 5, (some .boolean))) (cd := k_X12_isCloud) (L := [some (.ref 42), some (.int (iI x)), some (.int (iI y)), none, none]) rfl (Nat.le_of_ble_eq_true rfl) rfl rfl ?_
  refine aw_iconst rfl rfl ?_
  refine aw_istore_n rfl (Nat.le_of_ble_eq_true rfl) rfl rfl ?_
  change aw _ _ _ _ 2 [some (.ref 42), some (.int (iI _)), some (.int (iI _)), some (.int (iI _)), none] _ _
  refine aw_iconst rfl rfl ?_
  refine aw_istore rfl (Nat.le_of_ble_eq_true rfl) rfl rfl ?_
  change aw _ _ _ _ 5 [some (.ref 42), some (.int (iI _)), some (.int (iI _)), some (.int (iI _)), some (.int (iI _))] _ _
  exact m_isCloud_l5 hF ⟨hx1, hx2⟩ ⟨hy1, hy2⟩ hc0 hc1 _ 0 0 rfl (by omega) (by omega) (by rw [bI_zero']; rintro ⟨j, h1, h2⟩; omega)
