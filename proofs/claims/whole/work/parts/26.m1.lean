theorem bI_01 (p : Prop) : bI p = 0 ∨ bI p = 1 := by rcases bI_or p with ⟨_, h⟩ | ⟨_, h⟩ <;> simp [h]
theorem bI_r (p : Prop) : 0 ≤ bI p ∧ bI p ≤ 1 := by rcases bI_01 p with h | h <;> omega
theorem mul_b {j u J U : Int} (h1 : 0 ≤ j) (h2 : j ≤ J) (h3 : -U ≤ u) (h4 : u ≤ U) : -(J * U) ≤ j * u ∧ j * u ≤ J * U := by
  have hU : 0 ≤ U := by omega
  have a1 : j * u ≤ j * U := Int.mul_le_mul_of_nonneg_left h4 h1
  have a2 : j * U ≤ J * U := Int.mul_le_mul_of_nonneg_right h2 hU
  have a3 : j * (-U) ≤ j * u := Int.mul_le_mul_of_nonneg_left h3 h1
  have a4 : j * (-U) = -(j * U) := Int.mul_neg j U
  omega
theorem div_b {a g : Int} (h : 0 ≤ a) (hg : 1 ≤ g) : 0 ≤ a / g ∧ a / g ≤ a := ⟨Int.ediv_nonneg h (by omega), Int.ediv_le_self g h⟩
theorem rem_b {a g : Int} (hg : 1 ≤ g) : 0 ≤ a % g ∧ a % g < g := ⟨Int.emod_nonneg a (by omega), Int.emod_lt_of_pos a (by omega)⟩
set_option maxRecDepth 10000 in
set_option maxHeartbeats 2000000 in
theorem m_isDay {d : Nat} {σ : az_S} {z : Int} (hz : inI z) : fn (d + 2) 160 [.int (iI z)] σ (.int (iI (bI (0 ≤ z ∧ z ≤ 3599)))) := by
  obtain ⟨hz1, hz2⟩ := hz
  refine fn_of (M := (yX12_isDay, cX12_isDay, 1, (some .boolean))) (cd := k_X12_isDay) (L := [some (.int (iI z))]) rfl (Nat.le_of_ble_eq_true rfl) rfl rfl ?_
  refine aw_iload_n rfl rfl rfl ?_
  refine aw_i2l rfl ⟨by omega, by omega⟩ rfl ?_
  refine aw_lconst 0 rfl rfl rfl ?_
  refine aw_ldc2 (3599) rfl rfl rfl ?_
  refine aw_fnc (m_in ⟨by omega, by omega⟩ ⟨by omega, by omega⟩ ⟨by omega, by omega⟩) rfl rfl rfl (Nat.le_of_ble_eq_true rfl) (Or.inl rfl) rfl ?_
  refine aw_retn rfl (bI_nar _) ?_
  exact ⟨rfl, rfl⟩
set_option maxRecDepth 10000 in
set_option maxHeartbeats 2000000 in
theorem m_isHour {d : Nat} {σ : az_S} {z : Int} (hz : inI z) : fn (d + 2) 161 [.int (iI z)] σ (.int (iI (bI (0 ≤ z ∧ z ≤ 11)))) := by
  obtain ⟨hz1, hz2⟩ := hz
  refine fn_of (M := (yX12_isHour, cX12_isHour, 1, (some .boolean))) (cd := k_X12_isHour) (L := [some (.int (iI z))]) rfl (Nat.le_of_ble_eq_true rfl) rfl rfl ?_
  refine aw_iload_n rfl rfl rfl ?_
  refine aw_i2l rfl ⟨by omega, by omega⟩ rfl ?_
  refine aw_lconst 0 rfl rfl rfl ?_
  refine aw_ldc2 (11) rfl rfl rfl ?_
  refine aw_fnc (m_in ⟨by omega, by omega⟩ ⟨by omega, by omega⟩ ⟨by omega, by omega⟩) rfl rfl rfl (Nat.le_of_ble_eq_true rfl) (Or.inl rfl) rfl ?_
  refine aw_retn rfl (bI_nar _) ?_
  exact ⟨rfl, rfl⟩
set_option maxRecDepth 10000 in
set_option maxHeartbeats 2000000 in
theorem m_isCell {d : Nat} {sz : Nat} {A : Nat → Int → Int} {σ : az_S} (hM : MV sz A σ) (hI : MI sz A) {z : Int} (hz : inI z) : fn (d + 2) 162 [.ref 42, .int (iI z)] σ (.int (iI (bI (0 ≤ z ∧ z ≤ A 42 2 - 1)))) := by
  obtain ⟨hz1, hz2⟩ := hz
  have hb := hI.cells
  refine fn_of (M := (yX12_isCell, cX12_isCell, 2, (some .boolean))) (cd := k_X12_isCell) (L := [some (.ref 42), some (.int (iI z))]) rfl (Nat.le_of_ble_eq_true rfl) rfl rfl ?_
  refine aw_iload_n rfl rfl rfl ?_
  refine aw_i2l rfl ⟨by omega, by omega⟩ rfl ?_
  refine aw_lconst 0 rfl rfl rfl ?_
  refine aw_aload_n rfl rfl rfl ?_
  refine aw_gp (2) hM rfl rfl (hM.f.k 42 rfl) rfl rfl (fun _ _ => ?_)
  refine aw_iconst rfl rfl ?_
  refine aw_isub rfl rfl ?_
  refine aw_i2l rfl ⟨by omega, by omega⟩ rfl ?_
  refine aw_fnc (m_in ⟨by omega, by omega⟩ ⟨by omega, by omega⟩ ⟨by omega, by omega⟩) rfl rfl rfl (Nat.le_of_ble_eq_true rfl) (Or.inl rfl) rfl ?_
  refine aw_retn rfl (bI_nar _) ?_
  exact ⟨rfl, rfl⟩
set_option maxRecDepth 10000 in
set_option maxHeartbeats 2000000 in
theorem m_isPerson {d : Nat} {sz : Nat} {A : Nat → Int → Int} {σ : az_S} (hM : MV sz A σ) (hI : MI sz A) {z : Int} (hz : inI z) : fn (d + 2) 163 [.ref 42, .int (iI z)] σ (.int (iI (bI (0 ≤ z ∧ z ≤ A 42 9 - 1)))) := by
  obtain ⟨hz1, hz2⟩ := hz
  have hb := hI.people
  refine fn_of (M := (yX12_isPerson, cX12_isPerson, 2, (some .boolean))) (cd := k_X12_isPerson) (L := [some (.ref 42), some (.int (iI z))]) rfl (Nat.le_of_ble_eq_true rfl) rfl rfl ?_
  refine aw_iload_n rfl rfl rfl ?_
  refine aw_i2l rfl ⟨by omega, by omega⟩ rfl ?_
  refine aw_lconst 0 rfl rfl rfl ?_
  refine aw_aload_n rfl rfl rfl ?_
  refine aw_gp (9) hM rfl rfl (hM.f.k 42 rfl) rfl rfl (fun _ _ => ?_)
  refine aw_iconst rfl rfl ?_
  refine aw_isub rfl rfl ?_
  refine aw_i2l rfl ⟨by omega, by omega⟩ rfl ?_
  refine aw_fnc (m_in ⟨by omega, by omega⟩ ⟨by omega, by omega⟩ ⟨by omega, by omega⟩) rfl rfl rfl (Nat.le_of_ble_eq_true rfl) (Or.inl rfl) rfl ?_
  refine aw_retn rfl (bI_nar _) ?_
  exact ⟨rfl, rfl⟩
set_option maxRecDepth 10000 in
set_option maxHeartbeats 2000000 in
theorem m_isThing {d : Nat} {sz : Nat} {A : Nat → Int → Int} {σ : az_S} (hM : MV sz A σ) (hI : MI sz A) {z : Int} (hz : inI z) : fn (d + 2) 164 [.ref 42, .int (iI z)] σ (.int (iI (bI (0 ≤ z ∧ z ≤ A 42 12 - 1)))) := by
  obtain ⟨hz1, hz2⟩ := hz
  have hb := hI.things
  refine fn_of (M := (yX12_isThing, cX12_isThing, 2, (some .boolean))) (cd := k_X12_isThing) (L := [some (.ref 42), some (.int (iI z))]) rfl (Nat.le_of_ble_eq_true rfl) rfl rfl ?_
  refine aw_iload_n rfl rfl rfl ?_
  refine aw_i2l rfl ⟨by omega, by omega⟩ rfl ?_
  refine aw_lconst 0 rfl rfl rfl ?_
  refine aw_aload_n rfl rfl rfl ?_
  refine aw_gp (12) hM rfl rfl (hM.f.k 42 rfl) rfl rfl (fun _ _ => ?_)
  refine aw_iconst rfl rfl ?_
  refine aw_isub rfl rfl ?_
  refine aw_i2l rfl ⟨by omega, by omega⟩ rfl ?_
  refine aw_fnc (m_in ⟨by omega, by omega⟩ ⟨by omega, by omega⟩ ⟨by omega, by omega⟩) rfl rfl rfl (Nat.le_of_ble_eq_true rfl) (Or.inl rfl) rfl ?_
  refine aw_retn rfl (bI_nar _) ?_
  exact ⟨rfl, rfl⟩
set_option maxRecDepth 10000 in
set_option maxHeartbeats 2000000 in
theorem m_isAsked {d : Nat} {sz : Nat} {A : Nat → Int → Int} {σ : az_S} (hM : MV sz A σ) (hI : MI sz A) {x y z : Int} (hx : inI x) (hy : inI y) (hz : inI z) : fn (d + 3) 188 [.ref 42, .int (iI x), .int (iI y), .int (iI z)] σ (.int (iI (bI ((0 ≤ x ∧ x ≤ 3599) ∧ (0 ≤ y ∧ y ≤ 11) ∧ (0 ≤ z ∧ z ≤ 3599))))) := by
  obtain ⟨hx1, hx2⟩ := hx
  obtain ⟨hy1, hy2⟩ := hy
  obtain ⟨hz1, hz2⟩ := hz
  refine fn_of (M := (yX12_isAsked, cX12_isAsked, 4, (some .boolean))) (cd := k_X12_isAsked) (L := [some (.ref 42), some (.int (iI x)), some (.int (iI y)), some (.int (iI z))]) rfl (Nat.le_of_ble_eq_true rfl) rfl rfl ?_
  refine aw_iload_n rfl rfl rfl ?_
  refine aw_fnc (m_isDay ⟨by omega, by omega⟩) rfl rfl rfl (Nat.le_of_ble_eq_true rfl) (Or.inl rfl) rfl ?_
  refine aw_ifeqb (p' := 25) rfl rfl rfl (fun c1 => ?_) (fun c1 => ?_)
  · refine aw_iconst rfl rfl ?_
    refine aw_retn rfl (by first | rfl | exact bI_nar _) ?_
    refine ⟨?_, rfl⟩
    first | rw [bI_t ⟨by omega, by omega, by omega⟩] | rw [bI_f (by omega)]
  · refine aw_iload_n rfl rfl rfl ?_
    refine aw_fnc (m_isHour ⟨by omega, by omega⟩) rfl rfl rfl (Nat.le_of_ble_eq_true rfl) (Or.inl rfl) rfl ?_
    refine aw_ifeqb (p' := 25) rfl rfl rfl (fun c2 => ?_) (fun c2 => ?_)
    · refine aw_iconst rfl rfl ?_
      refine aw_retn rfl (by first | rfl | exact bI_nar _) ?_
      refine ⟨?_, rfl⟩
      first | rw [bI_t ⟨by omega, by omega, by omega⟩] | rw [bI_f (by omega)]
    · refine aw_iload_n rfl rfl rfl ?_
      refine aw_fnc (m_isDay ⟨by omega, by omega⟩) rfl rfl rfl (Nat.le_of_ble_eq_true rfl) (Or.inl rfl) rfl ?_
      refine aw_ifeqb (p' := 25) rfl rfl rfl (fun c3 => ?_) (fun c3 => ?_)
      · refine aw_iconst rfl rfl ?_
        refine aw_retn rfl (by first | rfl | exact bI_nar _) ?_
        refine ⟨?_, rfl⟩
        first | rw [bI_t ⟨by omega, by omega, by omega⟩] | rw [bI_f (by omega)]
      · refine aw_iconst rfl rfl ?_
        refine aw_goto (p' := 26) rfl rfl ?_
        refine aw_retn rfl (by first | rfl | exact bI_nar _) ?_
        refine ⟨?_, rfl⟩
        first | rw [bI_t ⟨by omega, by omega, by omega⟩] | rw [bI_f (by omega)]
set_option maxRecDepth 10000 in
set_option maxHeartbeats 2000000 in
theorem m_monthOf {d : Nat} {σ : az_S} {z : Int} (h0 : 0 ≤ z) (h1 : z < 2147483648) : fn (d + 1) 165 [.int (iI z)] σ (.int (iI (z % 360 / 30))) := by
  refine fn_of (M := (yX12_monthOf, cX12_monthOf, 1, (some .int))) (cd := k_X12_monthOf) (L := [some (.int (iI z))]) rfl (Nat.le_of_ble_eq_true rfl) rfl rfl ?_
  refine aw_iload_n rfl rfl rfl ?_
  refine aw_sipush rfl rfl rfl ?_
  refine aw_irem rfl (by omega) (by omega) (by omega) (by omega) rfl ?_
  refine aw_bipush rfl rfl rfl ?_
  refine aw_idiv rfl (by omega) (by omega) (by omega) (by omega) rfl ?_
  refine aw_reti rfl ?_
  exact ⟨rfl, rfl⟩
set_option maxRecDepth 10000 in
set_option maxHeartbeats 2000000 in
theorem m_far {d : Nat} {σ : az_S} {a b : Int} (ha1 : -1000000 ≤ a) (ha2 : a ≤ 1000000) (hb1 : -1000000 ≤ b) (hb2 : b ≤ 1000000) : fn (d + 1) 202 [.int (iI a), .int (iI b)] σ (.int (iI (if b < a then a - b else b - a))) := by
  refine fn_of (M := (yX12_far, cX12_far, 2, (some .int))) (cd := k_X12_far) (L := [some (.int (iI a)), some (.int (iI b))]) rfl (Nat.le_of_ble_eq_true rfl) rfl rfl ?_
  refine aw_iload_n rfl rfl rfl ?_
  refine aw_iload_n rfl rfl rfl ?_
  refine aw_icmp (p' := 11) rfl ⟨by omega, by omega⟩ ⟨by omega, by omega⟩ rfl rfl (fun c1 => ?_) (fun c1 => ?_)
  · dsimp only [zc] at c1
    refine aw_iload_n rfl rfl rfl ?_
    refine aw_iload_n rfl rfl rfl ?_
    refine aw_isub rfl rfl ?_
    refine aw_reti rfl ?_
    refine ⟨?_, rfl⟩
    split <;> first | rfl | omega
  · dsimp only [zc] at c1
    refine aw_iload_n rfl rfl rfl ?_
    refine aw_iload_n rfl rfl rfl ?_
    refine aw_isub rfl rfl ?_
    refine aw_goto (p' := 14) rfl rfl ?_
    refine aw_reti rfl ?_
    refine ⟨?_, rfl⟩
    split <;> first | rfl | omega
set_option maxRecDepth 10000 in
set_option maxHeartbeats 2000000 in
theorem m_below {d : Nat} {σ : az_S} {a : Int} (ha1 : -1000000000 ≤ a) (ha2 : a ≤ 1000000000) : fn (d + 1) 184 [.int (iI a)] σ (.int (iI (a / 100))) := by
  refine fn_of (M := (yX12_below, cX12_below, 1, (some .int))) (cd := k_X12_below) (L := [some (.int (iI a))]) rfl (Nat.le_of_ble_eq_true rfl) rfl rfl ?_
  refine aw_iload_n rfl rfl rfl ?_
  refine aw_if (p' := 11) rfl ⟨by omega, by omega⟩ rfl rfl (fun c1 => ?_) (fun c1 => ?_)
  · dsimp only [zc] at c1
    refine aw_bipush rfl rfl rfl ?_
    refine aw_iload_n rfl rfl rfl ?_
    refine aw_isub rfl rfl ?_
    refine aw_bipush rfl rfl rfl ?_
    refine aw_idiv rfl (by omega) (by omega) (by omega) (by omega) rfl ?_
    refine aw_ineg rfl rfl ?_
    refine aw_reti rfl ?_
    refine ⟨?_, rfl⟩
    first | rfl | (congr 3; omega)
  · dsimp only [zc] at c1
    refine aw_iload_n rfl rfl rfl ?_
    refine aw_bipush rfl rfl rfl ?_
    refine aw_idiv rfl (by omega) (by omega) (by omega) (by omega) rfl ?_
    refine aw_goto (p' := 19) rfl rfl ?_
    refine aw_reti rfl ?_
    refine ⟨?_, rfl⟩
    first | rfl | (congr 3; omega)
def mCloudTo (A : Nat → Int → Int) (x y k : Int) : Prop := ∃ j : Int, 0 ≤ j ∧ j < k ∧ A 45 j = x ∧ A 46 j = y
abbrev mCloud (A : Nat → Int → Int) (x y : Int) : Prop := mCloudTo A x y (A 42 6)
theorem mCloudTo_s {A : Nat → Int → Int} {x y k : Int} (h0 : 0 ≤ k) : mCloudTo A x y (k + 1) ↔ mCloudTo A x y k ∨ (A 45 k = x ∧ A 46 k = y) := by
  constructor
  · rintro ⟨j, h1, h2, h3⟩
    by_cases e : j < k
    · exact Or.inl ⟨j, h1, e, h3⟩
    · have : k = j := by omega
      rw [this]; exact Or.inr h3
  · rintro (⟨j, h1, h2, h3⟩ | h)
    · exact ⟨j, h1, by omega, h3⟩
    · exact ⟨k, by omega, by omega, h⟩
set_option maxRecDepth 10000 in
set_option maxHeartbeats 2000000 in
theorem m_isCloud_l5 {d : Nat} {sz : Nat} {A : Nat → Int → Int} {σ : az_S} (hM : MV sz A σ) (hI : MI sz A) {x y : Int} (hx : inI x) (hy : inI y) : ∀ (n : Nat) (k b : Int), (A 42 6 - k).toNat = n → 0 ≤ k → k ≤ A 42 6 → b = bI (mCloudTo A x y k) → aw (d) k_X12_isCloud (some .boolean) (fun r τ => r = some (.int (iI (bI (mCloud A x y)))) ∧ τ = σ) 5 [some (.ref 42), some (.int (iI x)), some (.int (iI y)), some (.int (iI b)), some (.int (iI k))] [] σ := by
  intro n
  induction n using Nat.strongRecOn with
  | ind n ih =>
    intro k b hn hk0 hk1 hb
    obtain ⟨hx1, hx2⟩ := hx
    obtain ⟨hy1, hy2⟩ := hy
    obtain ⟨hc0, hc1⟩ := hI.clouds
    have hbi := bI_r (mCloudTo A x y k)
    rw [← hb] at hbi
    obtain ⟨hb1, hb2⟩ := hbi
    have hz := bI_zero (mCloudTo A x y k)
    rw [← hb] at hz
    have hs := mCloudTo_s (A := A) (x := x) (y := y) hk0
    refine aw_iload rfl rfl rfl ?_
    refine aw_aload_n rfl rfl rfl ?_
    refine aw_gp (6) hM rfl rfl (hM.f.k 42 rfl) rfl rfl (fun _ _ => ?_)
    refine aw_icmp (p' := 52) rfl ⟨by omega, by omega⟩ ⟨by omega, by omega⟩ rfl rfl (fun c1 => ?_) (fun c1 => ?_)
    · dsimp only [zc] at c1
      refine aw_iload_n rfl rfl rfl ?_
      refine aw_retn rfl (by rw [hb]; exact bI_nar _) ?_
      refine ⟨?_, rfl⟩
      rw [hb, show k = A 42 6 by omega]
    · dsimp only [zc] at c1
      refine aw_iload_n rfl rfl rfl ?_
      refine aw_if (p' := 40) rfl ⟨by omega, by omega⟩ rfl rfl (fun c2 => ?_) (fun c2 => ?_)
      · dsimp only [zc] at c2
        refine aw_iconst rfl rfl ?_
        refine aw_goto (p' := 45) rfl rfl ?_
        refine aw_istore_n rfl (Nat.le_of_ble_eq_true rfl) rfl rfl ?_
        change aw _ _ _ _ 46 [some (.ref 42), some (.int (iI _)), some (.int (iI _)), some (.int (iI _)), some (.int (iI _))] _ _
        refine aw_iinc rfl rfl rfl rfl ?_
        change aw _ _ _ _ 49 [some (.ref 42), some (.int (iI _)), some (.int (iI _)), some (.int (iI _)), some (.int (iI _))] _ _
        refine aw_goto (p' := 5) rfl rfl ?_
        exact ih _ (by omega) _ _ rfl (by omega) (by omega) (by (first | rw [bI_one', hs] | rw [bI_zero', hs]); clear ih; grind)
      · dsimp only [zc] at c2
        refine aw_aload_n rfl rfl rfl ?_
        refine aw_getr (b := 45) rfl rfl (hM.f.k 42 rfl) (hM.f.r 42 7 45 rfl) rfl ?_
        refine aw_iload rfl rfl rfl ?_
        refine aw_ap (N := 60) hM rfl (hM.f.s 45 rfl) (by omega) rfl (by omega) (by omega) rfl (fun _ _ => ?_)
        refine aw_iload_n rfl rfl rfl ?_
        refine aw_icmp (p' := 44) rfl ⟨by omega, by omega⟩ ⟨by omega, by omega⟩ rfl rfl (fun c3 => ?_) (fun c3 => ?_)
        · dsimp only [zc] at c3
          refine aw_iconst rfl rfl ?_
          refine aw_istore_n rfl (Nat.le_of_ble_eq_true rfl) rfl rfl ?_
          change aw _ _ _ _ 46 [some (.ref 42), some (.int (iI _)), some (.int (iI _)), some (.int (iI _)), some (.int (iI _))] _ _
          refine aw_iinc rfl rfl rfl rfl ?_
          change aw _ _ _ _ 49 [some (.ref 42), some (.int (iI _)), some (.int (iI _)), some (.int (iI _)), some (.int (iI _))] _ _
          refine aw_goto (p' := 5) rfl rfl ?_
          exact ih _ (by omega) _ _ rfl (by omega) (by omega) (by (first | rw [bI_one', hs] | rw [bI_zero', hs]); clear ih; grind)
        · dsimp only [zc] at c3
          refine aw_aload_n rfl rfl rfl ?_
          refine aw_getr (b := 46) rfl rfl (hM.f.k 42 rfl) (hM.f.r 42 8 46 rfl) rfl ?_
          refine aw_iload rfl rfl rfl ?_
          refine aw_ap (N := 60) hM rfl (hM.f.s 46 rfl) (by omega) rfl (by omega) (by omega) rfl (fun _ _ => ?_)
          refine aw_iload_n rfl rfl rfl ?_
          refine aw_icmp (p' := 44) rfl ⟨by omega, by omega⟩ ⟨by omega, by omega⟩ rfl rfl (fun c4 => ?_) (fun c4 => ?_)
          · dsimp only [zc] at c4
            refine aw_iconst rfl rfl ?_
            refine aw_istore_n rfl (Nat.le_of_ble_eq_true rfl) rfl rfl ?_
            change aw _ _ _ _ 46 [some (.ref 42), some (.int (iI _)), some (.int (iI _)), some (.int (iI _)), some (.int (iI _))] _ _
            refine aw_iinc rfl rfl rfl rfl ?_
            change aw _ _ _ _ 49 [some (.ref 42), some (.int (iI _)), some (.int (iI _)), some (.int (iI _)), some (.int (iI _))] _ _
            refine aw_goto (p' := 5) rfl rfl ?_
            exact ih _ (by omega) _ _ rfl (by omega) (by omega) (by (first | rw [bI_one', hs] | rw [bI_zero', hs]); clear ih; grind)
          · dsimp only [zc] at c4
            refine aw_iconst rfl rfl ?_
            refine aw_goto (p' := 45) rfl rfl ?_
            refine aw_istore_n rfl (Nat.le_of_ble_eq_true rfl) rfl rfl ?_
            change aw _ _ _ _ 46 [some (.ref 42), some (.int (iI _)), some (.int (iI _)), some (.int (iI _)), some (.int (iI _))] _ _
            refine aw_iinc rfl rfl rfl rfl ?_
            change aw _ _ _ _ 49 [some (.ref 42), some (.int (iI _)), some (.int (iI _)), some (.int (iI _)), some (.int (iI _))] _ _
            refine aw_goto (p' := 5) rfl rfl ?_
            exact ih _ (by omega) _ _ rfl (by omega) (by omega) (by (first | rw [bI_one', hs] | rw [bI_zero', hs]); clear ih; grind)
set_option maxRecDepth 10000 in
set_option maxHeartbeats 2000000 in
theorem m_isCloud {d : Nat} {sz : Nat} {A : Nat → Int → Int} {σ : az_S} (hM : MV sz A σ) (hI : MI sz A) {x y : Int} (hx : inI x) (hy : inI y) : fn (d + 1) 168 [.ref 42, .int (iI x), .int (iI y)] σ (.int (iI (bI (mCloud A x y)))) := by
  obtain ⟨hx1, hx2⟩ := hx
  obtain ⟨hy1, hy2⟩ := hy
  obtain ⟨hc0, hc1⟩ := hI.clouds
  refine fn_of (M := (yX12_isCloud, cX12_isCloud, 5, (some .boolean))) (cd := k_X12_isCloud) (L := [some (.ref 42), some (.int (iI x)), some (.int (iI y)), none, none]) rfl (Nat.le_of_ble_eq_true rfl) rfl rfl ?_
  refine aw_iconst rfl rfl ?_
  refine aw_istore_n rfl (Nat.le_of_ble_eq_true rfl) rfl rfl ?_
  change aw _ _ _ _ 2 [some (.ref 42), some (.int (iI _)), some (.int (iI _)), some (.int (iI _)), none] _ _
  refine aw_iconst rfl rfl ?_
  refine aw_istore rfl (Nat.le_of_ble_eq_true rfl) rfl rfl ?_
  change aw _ _ _ _ 5 [some (.ref 42), some (.int (iI _)), some (.int (iI _)), some (.int (iI _)), some (.int (iI _))] _ _
  exact m_isCloud_l5 hM hI ⟨hx1, hx2⟩ ⟨hy1, hy2⟩ _ 0 0 rfl (by omega) (by omega) (by rw [bI_zero']; rintro ⟨j, h1, h2⟩; omega)
def bestE (ed et : Int → Int) (d k : Int) : Nat → Int
  | 0 => -1
  | n + 1 => if et n ≤ k ∧ ed n ≤ d ∧ (bestE ed et d k n < 0 ∨ ed (bestE ed et d k n) ≤ ed n) then (n : Int) else bestE ed et d k n
theorem bestE_lo (ed et : Int → Int) (d k : Int) (n : Nat) : -1 ≤ bestE ed et d k n ∧ bestE ed et d k n < n := by
  induction n with
  | zero => unfold bestE; omega
  | succ n ih => unfold bestE; split <;> omega
theorem bestE_pos {ed et : Int → Int} {d k : Int} (h1 : ed 0 ≤ d) (h2 : et 0 ≤ k) : ∀ n, 1 ≤ n → 0 ≤ bestE ed et d k n := by
  intro n
  induction n with
  | zero => intro h; omega
  | succ n ih =>
    intro _
    unfold bestE
    split
    · omega
    · rename_i hc
      by_cases h0 : n = 0
      · subst h0
        exact absurd ⟨h2, h1, Or.inl (by unfold bestE; decide)⟩ hc
      · exact ih (by omega)
theorem bestE_ok {ed et : Int → Int} {d k : Int} : ∀ n, 0 ≤ bestE ed et d k n → ed (bestE ed et d k n) ≤ d ∧ et (bestE ed et d k n) ≤ k := by
  intro n
  induction n with
  | zero => intro h; unfold bestE at h; omega
  | succ n ih =>
    unfold bestE
    split
    · rename_i hc
      intro _
      exact ⟨hc.2.1, hc.1⟩
    · exact ih
abbrev meD (A : Nat → Int → Int) (t : Int) : Int → Int := fun i => A 57 (41 * t + i)
abbrev meT (A : Nat → Int → Int) (t : Int) : Int → Int := fun i => A 59 (41 * t + i)
def mBn (A : Nat → Int → Int) (t d k : Int) (n : Nat) : Int := bestE (meD A t) (meT A t) d k n
def absB (t b : Int) : Int := if b < 0 then -1 else 41 * t + b
theorem mBn_s (A : Nat → Int → Int) (t d k : Int) (j : Nat) {bb i : Int} (hi : i = 41 * t + j) (hbb : bb = absB t (mBn A t d k j)) (ht : 0 ≤ t) :
    ((A 59 i ≤ k ∧ A 57 i ≤ d ∧ (bb < 0 ∨ A 57 bb ≤ A 57 i)) → i = absB t (mBn A t d k (j + 1))) ∧ (¬ (A 59 i ≤ k ∧ A 57 i ≤ d ∧ (bb < 0 ∨ A 57 bb ≤ A 57 i)) → bb = absB t (mBn A t d k (j + 1))) := by
  have hr := bestE_lo (meD A t) (meT A t) d k j
  subst hi
  have e2 : (bb < 0 ∨ A 57 bb ≤ A 57 (41 * t + j)) ↔ (mBn A t d k j < 0 ∨ meD A t (mBn A t d k j) ≤ meD A t j) := by
    by_cases h : mBn A t d k j < 0
    · have : bb < 0 := by rw [hbb]; unfold absB; rw [if_pos h]; decide
      simp [h, this]
    · have h1 : bb = 41 * t + mBn A t d k j := by rw [hbb]; unfold absB; rw [if_neg h]
      have h3 : ¬ bb < 0 := by omega
      rw [h1] at h3 ⊢
      simp only [h, h3, false_or, meD]
  rw [e2]
  refine ⟨fun h => ?_, fun h => ?_⟩
  · show _ = absB t (bestE (meD A t) (meT A t) d k (j + 1))
    unfold bestE
    rw [if_pos (show meT A t ↑j ≤ k ∧ meD A t ↑j ≤ d ∧ (bestE (meD A t) (meT A t) d k j < 0 ∨ meD A t (bestE (meD A t) (meT A t) d k j) ≤ meD A t ↑j) from h)]
    unfold absB
    rw [if_neg (by omega)]
  · show bb = absB t (bestE (meD A t) (meT A t) d k (j + 1))
    unfold bestE
    rw [if_neg (show ¬ (meT A t ↑j ≤ k ∧ meD A t ↑j ≤ d ∧ (bestE (meD A t) (meT A t) d k j < 0 ∨ meD A t (bestE (meD A t) (meT A t) d k j) ≤ meD A t ↑j)) from h)]
    exact hbb
abbrev mB (A : Nat → Int → Int) (t d k : Int) : Int := mBn A t d k (A 56 t).toNat
set_option maxRecDepth 10000 in
set_option maxHeartbeats 2000000 in
theorem m_entryFor_l9 {d : Nat} {sz : Nat} {A : Nat → Int → Int} {σ : az_S} (hM : MV sz A σ) (hI : MI sz A) {t : Int} (ht0 : 0 ≤ t) (ht : t < A 42 12) {x y : Int} (hx : inI x) (hy : inI y) : ∀ (n : Nat) (i bb : Int) (j : Nat), (A 56 t - j).toNat = n → i = 41 * t + j → (j : Int) ≤ A 56 t → bb = absB t (mBn A t x y j) → aw (d) k_X12_entryFor (some .int) (fun r τ => r = some (.int (iI (absB t (mB A t x y)))) ∧ τ = σ) 9 [some (.ref 42), some (.int (iI t)), some (.int (iI x)), some (.int (iI y)), some (.int (iI bb)), some (.int (iI i))] [] σ := by
  intro n
  induction n using Nat.strongRecOn with
  | ind n ih =>
    intro i bb j hn hi hj hbb
    obtain ⟨hx1, hx2⟩ := hx
    obtain ⟨hy1, hy2⟩ := hy
    have hth := hI.things
    have hT := hI.thing t ht0 ht
    obtain ⟨⟨hn0, hn1⟩, -⟩ := hT
    have hstep := mBn_s A t x y j hi hbb ht0
    have hr : -1 ≤ mBn A t x y j ∧ mBn A t x y j < j := bestE_lo _ _ x y j
    have hbr : -1 ≤ bb ∧ bb < 41 * t + j := by
      rw [hbb]; clear hstep; unfold absB; split <;> omega
    obtain ⟨hb1, hb2⟩ := hbr
    refine aw_iload rfl rfl rfl ?_
    refine aw_bipush rfl rfl rfl ?_
    refine aw_iload_n rfl rfl rfl ?_
    refine aw_imul rfl rfl ?_
    refine aw_aload_n rfl rfl rfl ?_
    refine aw_getr (b := 56) rfl rfl (hM.f.k 42 rfl) (hM.f.r 42 20 56 rfl) rfl ?_
    refine aw_iload_n rfl rfl rfl ?_
    refine aw_ap (N := 24) hM rfl (hM.f.s 56 rfl) (by omega) rfl (by omega) (by omega) rfl (fun _ _ => ?_)
    refine aw_iadd rfl rfl ?_
    refine aw_icmp (p' := 84) rfl ⟨by omega, by omega⟩ ⟨by omega, by omega⟩ rfl rfl (fun c1 => ?_) (fun c1 => ?_)
    · dsimp only [zc] at c1
      refine aw_iload rfl rfl rfl ?_
      refine aw_reti rfl ?_
      refine ⟨?_, rfl⟩
      rw [hbb, show j = (A 56 t).toNat by omega]
    · dsimp only [zc] at c1
      refine aw_aload_n rfl rfl rfl ?_
      refine aw_getr (b := 59) rfl rfl (hM.f.k 42 rfl) (hM.f.r 42 23 59 rfl) rfl ?_
      refine aw_iload rfl rfl rfl ?_
      refine aw_ap (N := 984) hM rfl (hM.f.s 59 rfl) (by omega) rfl (by omega) (by omega) rfl (fun _ _ => ?_)
      refine aw_iload_n rfl rfl rfl ?_
      refine aw_icmp (p' := 74) rfl ⟨by omega, by omega⟩ ⟨by omega, by omega⟩ rfl rfl (fun c2 => ?_) (fun c2 => ?_)
      · dsimp only [zc] at c2
        refine aw_iload rfl rfl rfl ?_
        refine aw_istore rfl (Nat.le_of_ble_eq_true rfl) rfl rfl ?_
        change aw _ _ _ _ 78 [some (.ref 42), some (.int (iI _)), some (.int (iI _)), some (.int (iI _)), some (.int (iI _)), some (.int (iI _))] _ _
        refine aw_iinc rfl rfl rfl rfl ?_
        change aw _ _ _ _ 81 [some (.ref 42), some (.int (iI _)), some (.int (iI _)), some (.int (iI _)), some (.int (iI _)), some (.int (iI _))] _ _
        refine aw_goto (p' := 9) rfl rfl ?_
        exact ih _ (by omega) _ _ (j + 1) rfl (by omega) (by omega) (by clear ih; first | exact hstep.1 ⟨by omega, by omega, by omega⟩ | exact hstep.2 (by omega))
      · dsimp only [zc] at c2
        refine aw_aload_n rfl rfl rfl ?_
        refine aw_getr (b := 57) rfl rfl (hM.f.k 42 rfl) (hM.f.r 42 21 57 rfl) rfl ?_
        refine aw_iload rfl rfl rfl ?_
        refine aw_ap (N := 984) hM rfl (hM.f.s 57 rfl) (by omega) rfl (by omega) (by omega) rfl (fun _ _ => ?_)
        refine aw_iload_n rfl rfl rfl ?_
        refine aw_icmp (p' := 74) rfl ⟨by omega, by omega⟩ ⟨by omega, by omega⟩ rfl rfl (fun c3 => ?_) (fun c3 => ?_)
        · dsimp only [zc] at c3
          refine aw_iload rfl rfl rfl ?_
          refine aw_istore rfl (Nat.le_of_ble_eq_true rfl) rfl rfl ?_
          change aw _ _ _ _ 78 [some (.ref 42), some (.int (iI _)), some (.int (iI _)), some (.int (iI _)), some (.int (iI _)), some (.int (iI _))] _ _
          refine aw_iinc rfl rfl rfl rfl ?_
          change aw _ _ _ _ 81 [some (.ref 42), some (.int (iI _)), some (.int (iI _)), some (.int (iI _)), some (.int (iI _)), some (.int (iI _))] _ _
          refine aw_goto (p' := 9) rfl rfl ?_
          exact ih _ (by omega) _ _ (j + 1) rfl (by omega) (by omega) (by clear ih; first | exact hstep.1 ⟨by omega, by omega, by omega⟩ | exact hstep.2 (by omega))
        · dsimp only [zc] at c3
          refine aw_iload rfl rfl rfl ?_
          refine aw_if (p' := 69) rfl ⟨by omega, by omega⟩ rfl rfl (fun c4 => ?_) (fun c4 => ?_)
          · dsimp only [zc] at c4
            refine aw_iload rfl rfl rfl ?_
            refine aw_goto (p' := 76) rfl rfl ?_
            refine aw_istore rfl (Nat.le_of_ble_eq_true rfl) rfl rfl ?_
            change aw _ _ _ _ 78 [some (.ref 42), some (.int (iI _)), some (.int (iI _)), some (.int (iI _)), some (.int (iI _)), some (.int (iI _))] _ _
            refine aw_iinc rfl rfl rfl rfl ?_
            change aw _ _ _ _ 81 [some (.ref 42), some (.int (iI _)), some (.int (iI _)), some (.int (iI _)), some (.int (iI _)), some (.int (iI _))] _ _
            refine aw_goto (p' := 9) rfl rfl ?_
            exact ih _ (by omega) _ _ (j + 1) rfl (by omega) (by omega) (by clear ih; first | exact hstep.1 ⟨by omega, by omega, by omega⟩ | exact hstep.2 (by omega))
          · dsimp only [zc] at c4
            refine aw_aload_n rfl rfl rfl ?_
            refine aw_getr (b := 57) rfl rfl (hM.f.k 42 rfl) (hM.f.r 42 21 57 rfl) rfl ?_
            refine aw_iload rfl rfl rfl ?_
            refine aw_ap (N := 984) hM rfl (hM.f.s 57 rfl) (by omega) rfl (by omega) (by omega) rfl (fun _ _ => ?_)
            refine aw_aload_n rfl rfl rfl ?_
            refine aw_getr (b := 57) rfl rfl (hM.f.k 42 rfl) (hM.f.r 42 21 57 rfl) rfl ?_
            refine aw_iload rfl rfl rfl ?_
            refine aw_ap (N := 984) hM rfl (hM.f.s 57 rfl) (by omega) rfl (by omega) (by omega) rfl (fun _ _ => ?_)
            refine aw_icmp (p' := 74) rfl ⟨by omega, by omega⟩ ⟨by omega, by omega⟩ rfl rfl (fun c5 => ?_) (fun c5 => ?_)
            · dsimp only [zc] at c5
              refine aw_iload rfl rfl rfl ?_
              refine aw_istore rfl (Nat.le_of_ble_eq_true rfl) rfl rfl ?_
              change aw _ _ _ _ 78 [some (.ref 42), some (.int (iI _)), some (.int (iI _)), some (.int (iI _)), some (.int (iI _)), some (.int (iI _))] _ _
              refine aw_iinc rfl rfl rfl rfl ?_
              change aw _ _ _ _ 81 [some (.ref 42), some (.int (iI _)), some (.int (iI _)), some (.int (iI _)), some (.int (iI _)), some (.int (iI _))] _ _
              refine aw_goto (p' := 9) rfl rfl ?_
              exact ih _ (by omega) _ _ (j + 1) rfl (by omega) (by omega) (by clear ih; first | exact hstep.1 ⟨by omega, by omega, by omega⟩ | exact hstep.2 (by omega))
            · dsimp only [zc] at c5
              refine aw_iload rfl rfl rfl ?_
              refine aw_goto (p' := 76) rfl rfl ?_
              refine aw_istore rfl (Nat.le_of_ble_eq_true rfl) rfl rfl ?_
              change aw _ _ _ _ 78 [some (.ref 42), some (.int (iI _)), some (.int (iI _)), some (.int (iI _)), some (.int (iI _)), some (.int (iI _))] _ _
              refine aw_iinc rfl rfl rfl rfl ?_
              change aw _ _ _ _ 81 [some (.ref 42), some (.int (iI _)), some (.int (iI _)), some (.int (iI _)), some (.int (iI _)), some (.int (iI _))] _ _
              refine aw_goto (p' := 9) rfl rfl ?_
              exact ih _ (by omega) _ _ (j + 1) rfl (by omega) (by omega) (by clear ih; first | exact hstep.1 ⟨by omega, by omega, by omega⟩ | exact hstep.2 (by omega))
set_option maxRecDepth 10000 in
set_option maxHeartbeats 2000000 in
theorem m_entryFor {d : Nat} {sz : Nat} {A : Nat → Int → Int} {σ : az_S} (hM : MV sz A σ) (hI : MI sz A) {t : Int} (ht0 : 0 ≤ t) (ht : t < A 42 12) {x y : Int} (hx : inI x) (hy : inI y) : fn (d + 1) 180 [.ref 42, .int (iI t), .int (iI x), .int (iI y)] σ (.int (iI (absB t (mB A t x y)))) := by
  obtain ⟨hx1, hx2⟩ := hx
  obtain ⟨hy1, hy2⟩ := hy
  have hth := hI.things
  have hT := hI.thing t ht0 ht
  obtain ⟨⟨hn0, hn1⟩, -⟩ := hT
  refine fn_of (M := (yX12_entryFor, cX12_entryFor, 6, (some .int))) (cd := k_X12_entryFor) (L := [some (.ref 42), some (.int (iI t)), some (.int (iI x)), some (.int (iI y)), none, none]) rfl (Nat.le_of_ble_eq_true rfl) rfl rfl ?_
  refine aw_iconst rfl rfl ?_
  refine aw_istore rfl (Nat.le_of_ble_eq_true rfl) rfl rfl ?_
  change aw _ _ _ _ 3 [some (.ref 42), some (.int (iI _)), some (.int (iI _)), some (.int (iI _)), some (.int (iI _)), none] _ _
  refine aw_bipush rfl rfl rfl ?_
  refine aw_iload_n rfl rfl rfl ?_
  refine aw_imul rfl rfl ?_
  refine aw_istore rfl (Nat.le_of_ble_eq_true rfl) rfl rfl ?_
  change aw _ _ _ _ 9 [some (.ref 42), some (.int (iI _)), some (.int (iI _)), some (.int (iI _)), some (.int (iI _)), some (.int (iI _))] _ _
  exact m_entryFor_l9 hM hI ht0 ht ⟨hx1, hx2⟩ ⟨hy1, hy2⟩ _ _ _ 0 rfl (by omega) (by omega) rfl
def mGone (A : Nat → Int → Int) (t d k : Int) : Prop := d < A 52 t ∨ k < A 52 t ∨ (0 ≤ A 60 t ∧ A 60 t ≤ d ∧ A 61 t ≤ k)
/-- the height of a thing before the bound of 60 -/
def mRaw (A : Nat → Int → Int) (t d k : Int) : Int := A 58 (41 * t + mB A t d k) + (if A 49 t = 1 then (d - A 57 (41 * t + mB A t d k)) / A 53 t else 0)
noncomputable def mH (A : Nat → Int → Int) (t d k : Int) : Int := @ite Int (mGone A t d k) (Classical.propDecidable _) (-1) (if 60 < mRaw A t d k then 60 else mRaw A t d k)
theorem mH_gone {A : Nat → Int → Int} {t d k : Int} (h : mGone A t d k) : mH A t d k = -1 := if_pos h
theorem mH_up {A : Nat → Int → Int} {t d k : Int} (h : ¬ mGone A t d k) : mH A t d k = (if 60 < mRaw A t d k then 60 else mRaw A t d k) := if_neg h
theorem mB_facts {A : Nat → Int → Int} {t : Int} (hT : TI A t) {d k : Int} (h : ¬ mGone A t d k) : 0 ≤ mB A t d k ∧ mB A t d k < A 56 t ∧ A 57 (41 * t + mB A t d k) ≤ d ∧ 0 ≤ A 57 (41 * t + mB A t d k) ∧ 0 ≤ A 58 (41 * t + mB A t d k) ∧ A 58 (41 * t + mB A t d k) ≤ 60 := by
  obtain ⟨⟨h1, h2⟩, ⟨h3, h4⟩, h5, -⟩ := hT
  unfold mGone at h
  have hp : 0 ≤ mB A t d k := bestE_pos (by simp only [meD, Int.add_zero]; omega) (by simp only [meT, Int.add_zero]; omega) _ (by omega)
  have hl := bestE_lo (meD A t) (meT A t) d k (A 56 t).toNat
  have hk := bestE_ok (ed := meD A t) (et := meT A t) (d := d) (k := k) _ hp
  have hl2 : mB A t d k < A 56 t := by have := hl.2; show bestE _ _ _ _ _ < _; omega
  obtain ⟨⟨a1, a2⟩, ⟨a3, a4⟩, -⟩ := h5 (mB A t d k) (by omega) hl2
  exact ⟨hp, hl2, hk.1, a1, a3, a4⟩
theorem mH_range {A : Nat → Int → Int} {t : Int} (hT : TI A t) (d k : Int) : -1 ≤ mH A t d k ∧ mH A t d k ≤ 60 ∧ (mH A t d k = -1 ↔ mGone A t d k) := by
  by_cases h : mGone A t d k
  · rw [mH_gone h]; exact ⟨by decide, by decide, by simp [h]⟩
  · obtain ⟨b1, b2, b3, b4, b5, b6⟩ := mB_facts hT h
    rw [mH_up h]
    have hr : 0 ≤ mRaw A t d k := by
      unfold mRaw
      split
      · have : 0 ≤ (d - A 57 (41 * t + mB A t d k)) / A 53 t := by
          obtain ⟨-, -, -, h8 | h8, -⟩ := hT
          · exact Int.ediv_nonneg (by omega) (by omega)
          · omega
        omega
      · omega
    have : (if 60 < mRaw A t d k then (60 : Int) else mRaw A t d k) ≤ 60 ∧ 0 ≤ (if 60 < mRaw A t d k then (60 : Int) else mRaw A t d k) := by split <;> omega
    exact ⟨by omega, this.1, ⟨fun q => by omega, fun q => absurd q h⟩⟩
theorem absB_pos {t b : Int} (h : 0 ≤ b) : absB t b = 41 * t + b := by unfold absB; rw [if_neg (by omega)]
set_option maxRecDepth 10000 in
set_option maxHeartbeats 2000000 in
theorem m_heightOf_l51 {d : Nat} {sz : Nat} {A : Nat → Int → Int} {σ : az_S} (hM : MV sz A σ) (hI : MI sz A) {t : Int} (ht0 : 0 ≤ t) (ht : t < A 42 12) {x y : Int} (hx0 : 0 ≤ x) (hx1 : x ≤ 3599) (hy0 : 0 ≤ y) (hy1 : y ≤ 3599) : ∀ (hng : ¬ mGone A t x y),  aw (d + 1) k_X12_heightOf (some .int) (fun r τ => r = some (.int (iI (mH A t x y))) ∧ τ = σ) 51 [some (.ref 42), some (.int (iI t)), some (.int (iI x)), some (.int (iI y)), none, none] [] σ := by
  intro hng
  have hth := hI.things
  have hT := hI.thing t ht0 ht
  have hbf := mB_facts (d := x) (k := y) hT
  obtain ⟨⟨he1, he2⟩, -, -, hkg, -⟩ := hT
  obtain ⟨b1, b2, b3, b4, b5, b6⟩ := hbf hng
  refine aw_aload_n rfl rfl rfl ?_
  refine aw_iload_n rfl rfl rfl ?_
  refine aw_iload_n rfl rfl rfl ?_
  refine aw_iload_n rfl rfl rfl ?_
  refine aw_fnc (m_entryFor hM hI (by omega) (by omega) ⟨by omega, by omega⟩ ⟨by omega, by omega⟩) rfl rfl rfl (Nat.le_of_ble_eq_true rfl) (Or.inr ⟨_, rfl, (hM.f.k 42 rfl)⟩) rfl ?_
  rw [absB_pos b1]
  refine aw_istore rfl (Nat.le_of_ble_eq_true rfl) rfl rfl ?_
  change aw _ _ _ _ 60 [some (.ref 42), some (.int (iI _)), some (.int (iI _)), some (.int (iI _)), some (.int (iI _)), none] _ _
  refine aw_aload_n rfl rfl rfl ?_
  refine aw_getr (b := 58) rfl rfl (hM.f.k 42 rfl) (hM.f.r 42 22 58 rfl) rfl ?_
  refine aw_iload rfl rfl rfl ?_
  refine aw_ap (N := 984) hM rfl (hM.f.s 58 rfl) (by omega) rfl (by omega) (by omega) rfl (fun _ _ => ?_)
  refine aw_aload_n rfl rfl rfl ?_
  refine aw_getr (b := 49) rfl rfl (hM.f.k 42 rfl) (hM.f.r 42 13 49 rfl) rfl ?_
  refine aw_iload_n rfl rfl rfl ?_
  refine aw_ap (N := 24) hM rfl (hM.f.s 49 rfl) (by omega) rfl (by omega) (by omega) rfl (fun _ _ => ?_)
  refine aw_iconst rfl rfl ?_
  refine aw_icmp (p' := 96) rfl ⟨by omega, by omega⟩ ⟨by omega, by omega⟩ rfl rfl (fun c1 => ?_) (fun c1 => ?_)
  · dsimp only [zc] at c1
    refine aw_iconst rfl rfl ?_
    refine aw_iadd rfl rfl ?_
    refine aw_istore rfl (Nat.le_of_ble_eq_true rfl) rfl rfl ?_
    change aw _ _ _ _ 100 [some (.ref 42), some (.int (iI _)), some (.int (iI _)), some (.int (iI _)), some (.int (iI _)), some (.int (iI _))] _ _
    refine aw_iload rfl rfl rfl ?_
    refine aw_bipush rfl rfl rfl ?_
    refine aw_icmp (p' := 112) rfl ⟨by omega, by omega⟩ ⟨by omega, by omega⟩ rfl rfl (fun c2 => ?_) (fun c2 => ?_)
    · dsimp only [zc] at c2
      refine aw_iload rfl rfl rfl ?_
      refine aw_reti rfl ?_
      refine ⟨?_, rfl⟩
      rw [mH_up hng]
      unfold mRaw
      grind
    · dsimp only [zc] at c2
      refine aw_bipush rfl rfl rfl ?_
      refine aw_goto (p' := 114) rfl rfl ?_
      refine aw_reti rfl ?_
      refine ⟨?_, rfl⟩
      rw [mH_up hng]
      unfold mRaw
      grind
  · dsimp only [zc] at c1
    refine aw_iload_n rfl rfl rfl ?_
    refine aw_aload_n rfl rfl rfl ?_
    refine aw_getr (b := 57) rfl rfl (hM.f.k 42 rfl) (hM.f.r 42 21 57 rfl) rfl ?_
    refine aw_iload rfl rfl rfl ?_
    refine aw_ap (N := 984) hM rfl (hM.f.s 57 rfl) (by omega) rfl (by omega) (by omega) rfl (fun _ _ => ?_)
    refine aw_isub rfl rfl ?_
    refine aw_aload_n rfl rfl rfl ?_
    refine aw_getr (b := 53) rfl rfl (hM.f.k 42 rfl) (hM.f.r 42 17 53 rfl) rfl ?_
    refine aw_iload_n rfl rfl rfl ?_
    refine aw_ap (N := 24) hM rfl (hM.f.s 53 rfl) (by omega) rfl (by omega) (by omega) rfl (fun _ _ => ?_)
    have hq := div_b (a := x - A 57 (41 * t + mB A t x y)) (g := A 53 t) (by omega) (by omega)
    refine aw_idiv rfl (by omega) (by omega) (by omega) (by omega) rfl ?_
    refine aw_goto (p' := 97) rfl rfl ?_
    refine aw_iadd rfl rfl ?_
    refine aw_istore rfl (Nat.le_of_ble_eq_true rfl) rfl rfl ?_
    change aw _ _ _ _ 100 [some (.ref 42), some (.int (iI _)), some (.int (iI _)), some (.int (iI _)), some (.int (iI _)), some (.int (iI _))] _ _
    refine aw_iload rfl rfl rfl ?_
    refine aw_bipush rfl rfl rfl ?_
    refine aw_icmp (p' := 112) rfl ⟨by omega, by omega⟩ ⟨by omega, by omega⟩ rfl rfl (fun c3 => ?_) (fun c3 => ?_)
    · dsimp only [zc] at c3
      refine aw_iload rfl rfl rfl ?_
      refine aw_reti rfl ?_
      refine ⟨?_, rfl⟩
      rw [mH_up hng]
      unfold mRaw
      grind
    · dsimp only [zc] at c3
      refine aw_bipush rfl rfl rfl ?_
      refine aw_goto (p' := 114) rfl rfl ?_
      refine aw_reti rfl ?_
      refine ⟨?_, rfl⟩
      rw [mH_up hng]
      unfold mRaw
      grind
set_option maxRecDepth 10000 in
set_option maxHeartbeats 2000000 in
theorem m_heightOf {d : Nat} {sz : Nat} {A : Nat → Int → Int} {σ : az_S} (hM : MV sz A σ) (hI : MI sz A) {t : Int} (ht0 : 0 ≤ t) (ht : t < A 42 12) {x y : Int} (hx0 : 0 ≤ x) (hx1 : x ≤ 3599) (hy0 : 0 ≤ y) (hy1 : y ≤ 3599) : fn (d + 2) 181 [.ref 42, .int (iI t), .int (iI x), .int (iI y)] σ (.int (iI (mH A t x y))) := by
  have hth := hI.things
  have hT := hI.thing t ht0 ht
  have hbf := mB_facts (d := x) (k := y) hT
  obtain ⟨⟨he1, he2⟩, -, -, hkg, -⟩ := hT
  refine fn_of (M := (yX12_heightOf, cX12_heightOf, 6, (some .int))) (cd := k_X12_heightOf) (L := [some (.ref 42), some (.int (iI t)), some (.int (iI x)), some (.int (iI y)), none, none]) rfl (Nat.le_of_ble_eq_true rfl) rfl rfl ?_
  refine aw_aload_n rfl rfl rfl ?_
  refine aw_getr (b := 52) rfl rfl (hM.f.k 42 rfl) (hM.f.r 42 16 52 rfl) rfl ?_
  refine aw_iload_n rfl rfl rfl ?_
  refine aw_ap (N := 24) hM rfl (hM.f.s 52 rfl) (by omega) rfl (by omega) (by omega) rfl (fun _ _ => ?_)
  refine aw_iload_n rfl rfl rfl ?_
  refine aw_icmp (p' := 49) rfl ⟨by omega, by omega⟩ ⟨by omega, by omega⟩ rfl rfl (fun c4 => ?_) (fun c4 => ?_)
  · dsimp only [zc] at c4
    refine aw_iconst rfl rfl ?_
    refine aw_reti rfl ?_
    refine ⟨?_, rfl⟩
    rw [mH_gone (by unfold mGone; omega)]
  · dsimp only [zc] at c4
    refine aw_aload_n rfl rfl rfl ?_
    refine aw_getr (b := 52) rfl rfl (hM.f.k 42 rfl) (hM.f.r 42 16 52 rfl) rfl ?_
    refine aw_iload_n rfl rfl rfl ?_
    refine aw_ap (N := 24) hM rfl (hM.f.s 52 rfl) (by omega) rfl (by omega) (by omega) rfl (fun _ _ => ?_)
    refine aw_iload_n rfl rfl rfl ?_
    refine aw_icmp (p' := 49) rfl ⟨by omega, by omega⟩ ⟨by omega, by omega⟩ rfl rfl (fun c5 => ?_) (fun c5 => ?_)
    · dsimp only [zc] at c5
      refine aw_iconst rfl rfl ?_
      refine aw_reti rfl ?_
      refine ⟨?_, rfl⟩
      rw [mH_gone (by unfold mGone; omega)]
    · dsimp only [zc] at c5
      refine aw_aload_n rfl rfl rfl ?_
      refine aw_getr (b := 60) rfl rfl (hM.f.k 42 rfl) (hM.f.r 42 24 60 rfl) rfl ?_
      refine aw_iload_n rfl rfl rfl ?_
      refine aw_ap (N := 24) hM rfl (hM.f.s 60 rfl) (by omega) rfl (by omega) (by omega) rfl (fun _ _ => ?_)
      refine aw_if (p' := 51) rfl ⟨by omega, by omega⟩ rfl rfl (fun c6 => ?_) (fun c6 => ?_)
      · dsimp only [zc] at c6
        exact m_heightOf_l51 hM hI ht0 ht hx0 hx1 hy0 hy1 (by unfold mGone; omega)
      · dsimp only [zc] at c6
        refine aw_aload_n rfl rfl rfl ?_
        refine aw_getr (b := 60) rfl rfl (hM.f.k 42 rfl) (hM.f.r 42 24 60 rfl) rfl ?_
        refine aw_iload_n rfl rfl rfl ?_
        refine aw_ap (N := 24) hM rfl (hM.f.s 60 rfl) (by omega) rfl (by omega) (by omega) rfl (fun _ _ => ?_)
        refine aw_iload_n rfl rfl rfl ?_
        refine aw_icmp (p' := 51) rfl ⟨by omega, by omega⟩ ⟨by omega, by omega⟩ rfl rfl (fun c7 => ?_) (fun c7 => ?_)
        · dsimp only [zc] at c7
          exact m_heightOf_l51 hM hI ht0 ht hx0 hx1 hy0 hy1 (by unfold mGone; omega)
        · dsimp only [zc] at c7
          refine aw_aload_n rfl rfl rfl ?_
          refine aw_getr (b := 61) rfl rfl (hM.f.k 42 rfl) (hM.f.r 42 25 61 rfl) rfl ?_
          refine aw_iload_n rfl rfl rfl ?_
          refine aw_ap (N := 24) hM rfl (hM.f.s 61 rfl) (by omega) rfl (by omega) (by omega) rfl (fun _ _ => ?_)
          refine aw_iload_n rfl rfl rfl ?_
          refine aw_icmp (p' := 51) rfl ⟨by omega, by omega⟩ ⟨by omega, by omega⟩ rfl rfl (fun c8 => ?_) (fun c8 => ?_)
          · dsimp only [zc] at c8
            exact m_heightOf_l51 hM hI ht0 ht hx0 hx1 hy0 hy1 (by unfold mGone; omega)
          · dsimp only [zc] at c8
            refine aw_iconst rfl rfl ?_
            refine aw_reti rfl ?_
            refine ⟨?_, rfl⟩
            rw [mH_gone (by unfold mGone; omega)]
set_option maxRecDepth 10000 in
set_option maxHeartbeats 2000000 in
theorem m_height {d : Nat} {sz : Nat} {A : Nat → Int → Int} {σ : az_S} (hM : MV sz A σ) (hI : MI sz A) {t x y : Int} (ht : inI t) (hx : inI x) (hy : inI y) : fn (d + 3) 182 [.ref 42, .int (iI t), .int (iI x), .int (iI y)] σ (.int (iI (@ite Int ((0 ≤ t ∧ t ≤ A 42 12 - 1) ∧ (0 ≤ x ∧ x ≤ 3599) ∧ (0 ≤ y ∧ y ≤ 3599)) (Classical.propDecidable _) (mH A t x y) (-1)))) := by
  obtain ⟨ht1, ht2⟩ := ht
  obtain ⟨hx1, hx2⟩ := hx
  obtain ⟨hy1, hy2⟩ := hy
  refine fn_of (M := (yX12_height, cX12_height, 4, (some .int))) (cd := k_X12_height) (L := [some (.ref 42), some (.int (iI t)), some (.int (iI x)), some (.int (iI y))]) rfl (Nat.le_of_ble_eq_true rfl) rfl rfl ?_
  refine aw_aload_n rfl rfl rfl ?_
  refine aw_iload_n rfl rfl rfl ?_
  refine aw_fnc (m_isThing hM hI ⟨by omega, by omega⟩) rfl rfl rfl (Nat.le_of_ble_eq_true rfl) (Or.inr ⟨_, rfl, (hM.f.k 42 rfl)⟩) rfl ?_
  refine aw_ifeqb (p' := 32) rfl rfl rfl (fun c1 => ?_) (fun c1 => ?_)
  · refine aw_iconst rfl rfl ?_
    refine aw_reti rfl ?_
    refine ⟨?_, rfl⟩
    first | rw [if_pos ⟨by omega, by omega, by omega⟩] | rw [if_neg (by omega)]
  · refine aw_iload_n rfl rfl rfl ?_
    refine aw_fnc (m_isDay ⟨by omega, by omega⟩) rfl rfl rfl (Nat.le_of_ble_eq_true rfl) (Or.inl rfl) rfl ?_
    refine aw_ifeqb (p' := 32) rfl rfl rfl (fun c2 => ?_) (fun c2 => ?_)
    · refine aw_iconst rfl rfl ?_
      refine aw_reti rfl ?_
      refine ⟨?_, rfl⟩
      first | rw [if_pos ⟨by omega, by omega, by omega⟩] | rw [if_neg (by omega)]
    · refine aw_iload_n rfl rfl rfl ?_
      refine aw_fnc (m_isDay ⟨by omega, by omega⟩) rfl rfl rfl (Nat.le_of_ble_eq_true rfl) (Or.inl rfl) rfl ?_
      refine aw_ifeqb (p' := 32) rfl rfl rfl (fun c3 => ?_) (fun c3 => ?_)
      · refine aw_iconst rfl rfl ?_
        refine aw_reti rfl ?_
        refine ⟨?_, rfl⟩
        first | rw [if_pos ⟨by omega, by omega, by omega⟩] | rw [if_neg (by omega)]
      · refine aw_aload_n rfl rfl rfl ?_
        refine aw_iload_n rfl rfl rfl ?_
        refine aw_iload_n rfl rfl rfl ?_
        refine aw_iload_n rfl rfl rfl ?_
        refine aw_fnc (m_heightOf hM hI (by omega) (by omega) (by omega) (by omega) (by omega) (by omega)) rfl rfl rfl (Nat.le_of_ble_eq_true rfl) (Or.inr ⟨_, rfl, (hM.f.k 42 rfl)⟩) rfl ?_
        have hrH4 := mH_range (hI.thing t (by omega) (by omega)) x y
        refine aw_goto (p' := 33) rfl rfl ?_
        refine aw_reti rfl ?_
        refine ⟨?_, rfl⟩
        first | rw [if_pos ⟨by omega, by omega, by omega⟩] | rw [if_neg (by omega)]
def mOpenTo (A : Nat → Int → Int) (c d k n : Int) : Prop := ∀ t : Int, 0 ≤ t → t < n → A 50 t ≠ c ∨ mH A t d k < 0
abbrev mOpen (A : Nat → Int → Int) (c d k : Int) : Prop := mOpenTo A c d k (A 42 12)
theorem mOpenTo_s {A : Nat → Int → Int} {c d k n : Int} (h0 : 0 ≤ n) : mOpenTo A c d k (n + 1) ↔ mOpenTo A c d k n ∧ (A 50 n ≠ c ∨ mH A n d k < 0) := by
  constructor
  · intro h; exact ⟨fun t h1 h2 => h t h1 (by omega), h n h0 (by omega)⟩
  · rintro ⟨h1, h2⟩ t h3 h4
    by_cases e : t < n
    · exact h1 t h3 e
    · have : t = n := by omega
      rw [this]; exact h2
set_option maxRecDepth 10000 in
set_option maxHeartbeats 2000000 in
theorem m_isOpen_l6 {d : Nat} {sz : Nat} {A : Nat → Int → Int} {σ : az_S} (hM : MV sz A σ) (hI : MI sz A) {c : Int} (hc : inI c) {x y : Int} (hx0 : 0 ≤ x) (hx1 : x ≤ 3599) (hy0 : 0 ≤ y) (hy1 : y ≤ 3599) : ∀ (n : Nat) (t b : Int), (A 42 12 - t).toNat = n → 0 ≤ t → t ≤ A 42 12 → b = bI (mOpenTo A c x y t) → aw (d + 2) k_X12_isOpen (some .boolean) (fun r τ => r = some (.int (iI (bI (mOpen A c x y)))) ∧ τ = σ) 6 [some (.ref 42), some (.int (iI c)), some (.int (iI x)), some (.int (iI y)), some (.int (iI b)), some (.int (iI t))] [] σ := by
  intro n
  induction n using Nat.strongRecOn with
  | ind n ih =>
    intro t b hn hk0 hk1 hb
    obtain ⟨hc1, hc2⟩ := hc
    have hth := hI.things
    have hbi := bI_r (mOpenTo A c x y t)
    rw [← hb] at hbi
    obtain ⟨hb1, hb2⟩ := hbi
    have hz := bI_zero (mOpenTo A c x y t)
    rw [← hb] at hz
    have hs := mOpenTo_s (A := A) (c := c) (d := x) (k := y) hk0
    have hr : t < A 42 12 → -1 ≤ mH A t x y ∧ mH A t x y ≤ 60 := fun q => ⟨(mH_range (hI.thing t hk0 q) x y).1, (mH_range (hI.thing t hk0 q) x y).2.1⟩
    refine aw_iload rfl rfl rfl ?_
    refine aw_aload_n rfl rfl rfl ?_
    refine aw_gp (12) hM rfl rfl (hM.f.k 42 rfl) rfl rfl (fun _ _ => ?_)
    refine aw_icmp (p' := 55) rfl ⟨by omega, by omega⟩ ⟨by omega, by omega⟩ rfl rfl (fun c1 => ?_) (fun c1 => ?_)
    · dsimp only [zc] at c1
      refine aw_iload rfl rfl rfl ?_
      refine aw_retn rfl (by rw [hb]; exact bI_nar _) ?_
      refine ⟨?_, rfl⟩
      rw [hb, show t = A 42 12 by omega]
    · dsimp only [zc] at c1
      refine aw_iload rfl rfl rfl ?_
      refine aw_if (p' := 46) rfl ⟨by omega, by omega⟩ rfl rfl (fun c2 => ?_) (fun c2 => ?_)
      · dsimp only [zc] at c2
        refine aw_iconst rfl rfl ?_
        refine aw_istore rfl (Nat.le_of_ble_eq_true rfl) rfl rfl ?_
        change aw _ _ _ _ 49 [some (.ref 42), some (.int (iI _)), some (.int (iI _)), some (.int (iI _)), some (.int (iI _)), some (.int (iI _))] _ _
        refine aw_iinc rfl rfl rfl rfl ?_
        change aw _ _ _ _ 52 [some (.ref 42), some (.int (iI _)), some (.int (iI _)), some (.int (iI _)), some (.int (iI _)), some (.int (iI _))] _ _
        refine aw_goto (p' := 6) rfl rfl ?_
        exact ih _ (by omega) _ _ rfl (by omega) (by omega) (by (first | rw [bI_one', hs] | rw [bI_zero', hs]); clear ih; grind)
      · dsimp only [zc] at c2
        refine aw_aload_n rfl rfl rfl ?_
        refine aw_getr (b := 50) rfl rfl (hM.f.k 42 rfl) (hM.f.r 42 14 50 rfl) rfl ?_
        refine aw_iload rfl rfl rfl ?_
        refine aw_ap (N := 24) hM rfl (hM.f.s 50 rfl) (by omega) rfl (by omega) (by omega) rfl (fun _ _ => ?_)
        refine aw_iload_n rfl rfl rfl ?_
        refine aw_icmp (p' := 42) rfl ⟨by omega, by omega⟩ ⟨by omega, by omega⟩ rfl rfl (fun c3 => ?_) (fun c3 => ?_)
        · dsimp only [zc] at c3
          refine aw_iconst rfl rfl ?_
          refine aw_goto (p' := 47) rfl rfl ?_
          refine aw_istore rfl (Nat.le_of_ble_eq_true rfl) rfl rfl ?_
          change aw _ _ _ _ 49 [some (.ref 42), some (.int (iI _)), some (.int (iI _)), some (.int (iI _)), some (.int (iI _)), some (.int (iI _))] _ _
          refine aw_iinc rfl rfl rfl rfl ?_
          change aw _ _ _ _ 52 [some (.ref 42), some (.int (iI _)), some (.int (iI _)), some (.int (iI _)), some (.int (iI _)), some (.int (iI _))] _ _
          refine aw_goto (p' := 6) rfl rfl ?_
          exact ih _ (by omega) _ _ rfl (by omega) (by omega) (by (first | rw [bI_one', hs] | rw [bI_zero', hs]); clear ih; grind)
        · dsimp only [zc] at c3
          refine aw_aload_n rfl rfl rfl ?_
          refine aw_iload rfl rfl rfl ?_
          refine aw_iload_n rfl rfl rfl ?_
          refine aw_iload_n rfl rfl rfl ?_
          refine aw_fnc (m_heightOf hM hI (by omega) (by omega) (by omega) (by omega) (by omega) (by omega)) rfl rfl rfl (Nat.le_of_ble_eq_true rfl) (Or.inr ⟨_, rfl, (hM.f.k 42 rfl)⟩) rfl ?_
          have hrH4 := mH_range (hI.thing t (by omega) (by omega)) x y
          refine aw_if (p' := 46) rfl ⟨by omega, by omega⟩ rfl rfl (fun c5 => ?_) (fun c5 => ?_)
          · dsimp only [zc] at c5
            refine aw_iconst rfl rfl ?_
            refine aw_istore rfl (Nat.le_of_ble_eq_true rfl) rfl rfl ?_
            change aw _ _ _ _ 49 [some (.ref 42), some (.int (iI _)), some (.int (iI _)), some (.int (iI _)), some (.int (iI _)), some (.int (iI _))] _ _
            refine aw_iinc rfl rfl rfl rfl ?_
            change aw _ _ _ _ 52 [some (.ref 42), some (.int (iI _)), some (.int (iI _)), some (.int (iI _)), some (.int (iI _)), some (.int (iI _))] _ _
            refine aw_goto (p' := 6) rfl rfl ?_
            exact ih _ (by omega) _ _ rfl (by omega) (by omega) (by (first | rw [bI_one', hs] | rw [bI_zero', hs]); clear ih; grind)
          · dsimp only [zc] at c5
            refine aw_iconst rfl rfl ?_
            refine aw_goto (p' := 47) rfl rfl ?_
            refine aw_istore rfl (Nat.le_of_ble_eq_true rfl) rfl rfl ?_
            change aw _ _ _ _ 49 [some (.ref 42), some (.int (iI _)), some (.int (iI _)), some (.int (iI _)), some (.int (iI _)), some (.int (iI _))] _ _
            refine aw_iinc rfl rfl rfl rfl ?_
            change aw _ _ _ _ 52 [some (.ref 42), some (.int (iI _)), some (.int (iI _)), some (.int (iI _)), some (.int (iI _)), some (.int (iI _))] _ _
            refine aw_goto (p' := 6) rfl rfl ?_
            exact ih _ (by omega) _ _ rfl (by omega) (by omega) (by (first | rw [bI_one', hs] | rw [bI_zero', hs]); clear ih; grind)
set_option maxRecDepth 10000 in
set_option maxHeartbeats 2000000 in
theorem m_isOpen {d : Nat} {sz : Nat} {A : Nat → Int → Int} {σ : az_S} (hM : MV sz A σ) (hI : MI sz A) {c : Int} (hc : inI c) {x y : Int} (hx0 : 0 ≤ x) (hx1 : x ≤ 3599) (hy0 : 0 ≤ y) (hy1 : y ≤ 3599) : fn (d + 3) 183 [.ref 42, .int (iI c), .int (iI x), .int (iI y)] σ (.int (iI (bI (mOpen A c x y)))) := by
  obtain ⟨hc1, hc2⟩ := hc
  have hth := hI.things
  refine fn_of (M := (yX12_isOpen, cX12_isOpen, 6, (some .boolean))) (cd := k_X12_isOpen) (L := [some (.ref 42), some (.int (iI c)), some (.int (iI x)), some (.int (iI y)), none, none]) rfl (Nat.le_of_ble_eq_true rfl) rfl rfl ?_
  refine aw_iconst rfl rfl ?_
  refine aw_istore rfl (Nat.le_of_ble_eq_true rfl) rfl rfl ?_
  change aw _ _ _ _ 3 [some (.ref 42), some (.int (iI _)), some (.int (iI _)), some (.int (iI _)), some (.int (iI _)), none] _ _
  refine aw_iconst rfl rfl ?_
  refine aw_istore rfl (Nat.le_of_ble_eq_true rfl) rfl rfl ?_
  change aw _ _ _ _ 6 [some (.ref 42), some (.int (iI _)), some (.int (iI _)), some (.int (iI _)), some (.int (iI _)), some (.int (iI _))] _ _
  exact m_isOpen_l6 hM hI ⟨hc1, hc2⟩ hx0 hx1 hy0 hy1 _ 0 1 rfl (by omega) (by omega) (by rw [bI_one']; intro t h1 h2; omega)
