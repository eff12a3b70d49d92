set_option maxRecDepth 10000 in
set_option maxHeartbeats 2000000 in
theorem c_isDay {d : Nat} {σ : az_S} {z : Int} (hz : inI z) : fn (d + 1) 130 [.int (iI z)] σ (.int (iI (bI (0 ≤ z ∧ z ≤ 3599)))) := by
  obtain ⟨hz1, hz2⟩ := hz
  refine fn_of (M := (yX11_isDay, cX11_isDay, 1, (some .boolean))) (cd := k_X11_isDay) (L := [some (.int (iI z))]) rfl (Nat.le_of_ble_eq_true rfl) rfl rfl ?_
  refine aw_iload_n rfl rfl rfl ?_
  refine aw_if (p' := 15) rfl ⟨by omega, by omega⟩ rfl rfl (fun c1 => ?_) (fun c1 => ?_)
  · dsimp only [zc] at c1
    refine aw_iconst rfl rfl ?_
    refine aw_retn rfl (by first | rfl | exact bI_nar _) ?_
    refine ⟨?_, rfl⟩
    first | (rw [bI_t (by omega)]; done) | (rw [bI_f (by omega)]; done)
  · dsimp only [zc] at c1
    refine aw_iload_n rfl rfl rfl ?_
    refine aw_sipush rfl rfl rfl ?_
    refine aw_icmp (p' := 15) rfl ⟨by omega, by omega⟩ ⟨by omega, by omega⟩ rfl rfl (fun c2 => ?_) (fun c2 => ?_)
    · dsimp only [zc] at c2
      refine aw_iconst rfl rfl ?_
      refine aw_retn rfl (by first | rfl | exact bI_nar _) ?_
      refine ⟨?_, rfl⟩
      first | (rw [bI_t (by omega)]; done) | (rw [bI_f (by omega)]; done)
    · dsimp only [zc] at c2
      refine aw_iconst rfl rfl ?_
      refine aw_goto (p' := 16) rfl rfl ?_
      refine aw_retn rfl (by first | rfl | exact bI_nar _) ?_
      refine ⟨?_, rfl⟩
      first | (rw [bI_t (by omega)]; done) | (rw [bI_f (by omega)]; done)
set_option maxRecDepth 10000 in
set_option maxHeartbeats 2000000 in
theorem c_isHour {d : Nat} {σ : az_S} {z : Int} (hz : inI z) : fn (d + 1) 132 [.int (iI z)] σ (.int (iI (bI (0 ≤ z ∧ z ≤ 11)))) := by
  obtain ⟨hz1, hz2⟩ := hz
  refine fn_of (M := (yX11_isHour, cX11_isHour, 1, (some .boolean))) (cd := k_X11_isHour) (L := [some (.int (iI z))]) rfl (Nat.le_of_ble_eq_true rfl) rfl rfl ?_
  refine aw_iload_n rfl rfl rfl ?_
  refine aw_if (p' := 14) rfl ⟨by omega, by omega⟩ rfl rfl (fun c1 => ?_) (fun c1 => ?_)
  · dsimp only [zc] at c1
    refine aw_iconst rfl rfl ?_
    refine aw_retn rfl (by first | rfl | exact bI_nar _) ?_
    refine ⟨?_, rfl⟩
    first | (rw [bI_t (by omega)]; done) | (rw [bI_f (by omega)]; done)
  · dsimp only [zc] at c1
    refine aw_iload_n rfl rfl rfl ?_
    refine aw_bipush rfl rfl rfl ?_
    refine aw_icmp (p' := 14) rfl ⟨by omega, by omega⟩ ⟨by omega, by omega⟩ rfl rfl (fun c2 => ?_) (fun c2 => ?_)
    · dsimp only [zc] at c2
      refine aw_iconst rfl rfl ?_
      refine aw_retn rfl (by first | rfl | exact bI_nar _) ?_
      refine ⟨?_, rfl⟩
      first | (rw [bI_t (by omega)]; done) | (rw [bI_f (by omega)]; done)
    · dsimp only [zc] at c2
      refine aw_iconst rfl rfl ?_
      refine aw_goto (p' := 15) rfl rfl ?_
      refine aw_retn rfl (by first | rfl | exact bI_nar _) ?_
      refine ⟨?_, rfl⟩
      first | (rw [bI_t (by omega)]; done) | (rw [bI_f (by omega)]; done)
set_option maxRecDepth 10000 in
set_option maxHeartbeats 2000000 in
theorem c_isHeight {d : Nat} {σ : az_S} {z : Int} (hz : inI z) : fn (d + 1) 133 [.int (iI z)] σ (.int (iI (bI (0 ≤ z ∧ z ≤ 60)))) := by
  obtain ⟨hz1, hz2⟩ := hz
  refine fn_of (M := (yX11_isHeight, cX11_isHeight, 1, (some .boolean))) (cd := k_X11_isHeight) (L := [some (.int (iI z))]) rfl (Nat.le_of_ble_eq_true rfl) rfl rfl ?_
  refine aw_iload_n rfl rfl rfl ?_
  refine aw_if (p' := 14) rfl ⟨by omega, by omega⟩ rfl rfl (fun c1 => ?_) (fun c1 => ?_)
  · dsimp only [zc] at c1
    refine aw_iconst rfl rfl ?_
    refine aw_retn rfl (by first | rfl | exact bI_nar _) ?_
    refine ⟨?_, rfl⟩
    first | (rw [bI_t (by omega)]; done) | (rw [bI_f (by omega)]; done)
  · dsimp only [zc] at c1
    refine aw_iload_n rfl rfl rfl ?_
    refine aw_bipush rfl rfl rfl ?_
    refine aw_icmp (p' := 14) rfl ⟨by omega, by omega⟩ ⟨by omega, by omega⟩ rfl rfl (fun c2 => ?_) (fun c2 => ?_)
    · dsimp only [zc] at c2
      refine aw_iconst rfl rfl ?_
      refine aw_retn rfl (by first | rfl | exact bI_nar _) ?_
      refine ⟨?_, rfl⟩
      first | (rw [bI_t (by omega)]; done) | (rw [bI_f (by omega)]; done)
    · dsimp only [zc] at c2
      refine aw_iconst rfl rfl ?_
      refine aw_goto (p' := 15) rfl rfl ?_
      refine aw_retn rfl (by first | rfl | exact bI_nar _) ?_
      refine ⟨?_, rfl⟩
      first | (rw [bI_t (by omega)]; done) | (rw [bI_f (by omega)]; done)
set_option maxRecDepth 10000 in
set_option maxHeartbeats 2000000 in
theorem c_isWithin {d : Nat} {σ : az_S} {z : Int} (hz : inI z) {m : Int} (hm1 : 0 ≤ m) (hm2 : m ≤ 1000000) : fn (d + 1) 134 [.int (iI z), .int (iI m)] σ (.int (iI (bI (-m ≤ z ∧ z ≤ m)))) := by
  obtain ⟨hz1, hz2⟩ := hz
  refine fn_of (M := (yX11_isWithin, cX11_isWithin, 2, (some .boolean))) (cd := k_X11_isWithin) (L := [some (.int (iI z)), some (.int (iI m))]) rfl (Nat.le_of_ble_eq_true rfl) rfl rfl ?_
  refine aw_iload_n rfl rfl rfl ?_
  refine aw_iload_n rfl rfl rfl ?_
  refine aw_ineg rfl rfl ?_
  refine aw_icmp (p' := 15) rfl ⟨by omega, by omega⟩ ⟨by omega, by omega⟩ rfl rfl (fun c1 => ?_) (fun c1 => ?_)
  · dsimp only [zc] at c1
    refine aw_iconst rfl rfl ?_
    refine aw_retn rfl (by first | rfl | exact bI_nar _) ?_
    refine ⟨?_, rfl⟩
    first | (rw [bI_t (by omega)]; done) | (rw [bI_f (by omega)]; done)
  · dsimp only [zc] at c1
    refine aw_iload_n rfl rfl rfl ?_
    refine aw_iload_n rfl rfl rfl ?_
    refine aw_icmp (p' := 15) rfl ⟨by omega, by omega⟩ ⟨by omega, by omega⟩ rfl rfl (fun c2 => ?_) (fun c2 => ?_)
    · dsimp only [zc] at c2
      refine aw_iconst rfl rfl ?_
      refine aw_retn rfl (by first | rfl | exact bI_nar _) ?_
      refine ⟨?_, rfl⟩
      first | (rw [bI_t (by omega)]; done) | (rw [bI_f (by omega)]; done)
    · dsimp only [zc] at c2
      refine aw_iconst rfl rfl ?_
      refine aw_goto (p' := 16) rfl rfl ?_
      refine aw_retn rfl (by first | rfl | exact bI_nar _) ?_
      refine ⟨?_, rfl⟩
      first | (rw [bI_t (by omega)]; done) | (rw [bI_f (by omega)]; done)
set_option maxRecDepth 10000 in
set_option maxHeartbeats 2000000 in
theorem c_isSpan {d : Nat} {σ : az_S} {x : Int} (hx : inI x) {y : Int} (hy : inI y) : fn (d + 2) 131 [.int (iI x), .int (iI y)] σ (.int (iI (bI ((0 ≤ x ∧ x ≤ 3599) ∧ (0 ≤ y ∧ y ≤ 3599) ∧ x ≤ y)))) := by
  obtain ⟨hx1, hx2⟩ := hx
  obtain ⟨hy1, hy2⟩ := hy
  refine fn_of (M := (yX11_isSpan, cX11_isSpan, 2, (some .boolean))) (cd := k_X11_isSpan) (L := [some (.int (iI x)), some (.int (iI y))]) rfl (Nat.le_of_ble_eq_true rfl) rfl rfl ?_
  refine aw_iload_n rfl rfl rfl ?_
  refine aw_fnc (c_isDay ⟨by omega, by omega⟩) rfl rfl rfl (Nat.le_of_ble_eq_true rfl) (Or.inl rfl) rfl ?_
  refine aw_ifeqb (p' := 23) rfl rfl rfl (fun c1 => ?_) (fun c1 => ?_)
  · refine aw_iconst rfl rfl ?_
    refine aw_retn rfl (by first | rfl | exact bI_nar _) ?_
    refine ⟨?_, rfl⟩
    first | (rw [bI_t (by omega)]; done) | (rw [bI_f (by omega)]; done)
  · refine aw_iload_n rfl rfl rfl ?_
    refine aw_fnc (c_isDay ⟨by omega, by omega⟩) rfl rfl rfl (Nat.le_of_ble_eq_true rfl) (Or.inl rfl) rfl ?_
    refine aw_ifeqb (p' := 23) rfl rfl rfl (fun c2 => ?_) (fun c2 => ?_)
    · refine aw_iconst rfl rfl ?_
      refine aw_retn rfl (by first | rfl | exact bI_nar _) ?_
      refine ⟨?_, rfl⟩
      first | (rw [bI_t (by omega)]; done) | (rw [bI_f (by omega)]; done)
    · refine aw_iload_n rfl rfl rfl ?_
      refine aw_iload_n rfl rfl rfl ?_
      refine aw_icmp (p' := 23) rfl ⟨by omega, by omega⟩ ⟨by omega, by omega⟩ rfl rfl (fun c3 => ?_) (fun c3 => ?_)
      · dsimp only [zc] at c3
        refine aw_iconst rfl rfl ?_
        refine aw_retn rfl (by first | rfl | exact bI_nar _) ?_
        refine ⟨?_, rfl⟩
        first | (rw [bI_t (by omega)]; done) | (rw [bI_f (by omega)]; done)
      · dsimp only [zc] at c3
        refine aw_iconst rfl rfl ?_
        refine aw_goto (p' := 24) rfl rfl ?_
        refine aw_retn rfl (by first | rfl | exact bI_nar _) ?_
        refine ⟨?_, rfl⟩
        first | (rw [bI_t (by omega)]; done) | (rw [bI_f (by omega)]; done)
set_option maxRecDepth 10000 in
set_option maxHeartbeats 2000000 in
theorem c_isPair {d : Nat} {σ : az_S} {z : Int} (hz : inI z) : fn (d + 1) 135 [.int (iI z)] σ (.int (iI (bI (0 ≤ z ∧ z / 16 < 12 ∧ z % 16 < 12)))) := by
  obtain ⟨hz1, hz2⟩ := hz
  refine fn_of (M := (yX11_isPairOfTwelve, cX11_isPairOfTwelve, 1, (some .boolean))) (cd := k_X11_isPairOfTwelve) (L := [some (.int (iI z))]) rfl (Nat.le_of_ble_eq_true rfl) rfl rfl ?_
  refine aw_iload_n rfl rfl rfl ?_
  refine aw_if (p' := 26) rfl ⟨by omega, by omega⟩ rfl rfl (fun c1 => ?_) (fun c1 => ?_)
  · dsimp only [zc] at c1
    refine aw_iconst rfl rfl ?_
    refine aw_retn rfl (by first | rfl | exact bI_nar _) ?_
    refine ⟨?_, rfl⟩
    first | (rw [bI_t (by omega)]; done) | (rw [bI_f (by omega)]; done)
  · dsimp only [zc] at c1
    refine aw_iload_n rfl rfl rfl ?_
    refine aw_bipush rfl rfl rfl ?_
    refine aw_idiv rfl (by omega) (by omega) (by omega) (by omega) rfl ?_
    refine aw_bipush rfl rfl rfl ?_
    refine aw_icmp (p' := 26) rfl ⟨by omega, by omega⟩ ⟨by omega, by omega⟩ rfl rfl (fun c2 => ?_) (fun c2 => ?_)
    · dsimp only [zc] at c2
      refine aw_iconst rfl rfl ?_
      refine aw_retn rfl (by first | rfl | exact bI_nar _) ?_
      refine ⟨?_, rfl⟩
      first | (rw [bI_t (by omega)]; done) | (rw [bI_f (by omega)]; done)
    · dsimp only [zc] at c2
      refine aw_iload_n rfl rfl rfl ?_
      refine aw_bipush rfl rfl rfl ?_
      refine aw_irem rfl (by omega) (by omega) (by omega) (by omega) rfl ?_
      refine aw_bipush rfl rfl rfl ?_
      refine aw_icmp (p' := 26) rfl ⟨by omega, by omega⟩ ⟨by omega, by omega⟩ rfl rfl (fun c3 => ?_) (fun c3 => ?_)
      · dsimp only [zc] at c3
        refine aw_iconst rfl rfl ?_
        refine aw_retn rfl (by first | rfl | exact bI_nar _) ?_
        refine ⟨?_, rfl⟩
        first | (rw [bI_t (by omega)]; done) | (rw [bI_f (by omega)]; done)
      · dsimp only [zc] at c3
        refine aw_iconst rfl rfl ?_
        refine aw_goto (p' := 27) rfl rfl ?_
        refine aw_retn rfl (by first | rfl | exact bI_nar _) ?_
        refine ⟨?_, rfl⟩
        first | (rw [bI_t (by omega)]; done) | (rw [bI_f (by omega)]; done)
set_option maxRecDepth 10000 in
set_option maxHeartbeats 2000000 in
theorem c_monthOf {d : Nat} {σ : az_S} {z : Int} (h0 : 0 ≤ z) (h1 : z < 2147483648) : fn (d + 1) 136 [.int (iI z)] σ (.int (iI (z % 360 / 30))) := by
  refine fn_of (M := (yX11_monthOf, cX11_monthOf, 1, (some .int))) (cd := k_X11_monthOf) (L := [some (.int (iI z))]) rfl (Nat.le_of_ble_eq_true rfl) rfl rfl ?_
  refine aw_iload_n rfl rfl rfl ?_
  refine aw_sipush rfl rfl rfl ?_
  refine aw_irem rfl (by omega) (by omega) (by omega) (by omega) rfl ?_
  refine aw_bipush rfl rfl rfl ?_
  refine aw_idiv rfl (by omega) (by omega) (by omega) (by omega) rfl ?_
  refine aw_reti rfl ?_
  exact ⟨rfl, rfl⟩
set_option maxRecDepth 10000 in
set_option maxHeartbeats 2000000 in
theorem c_aside {d : Nat} {σ : az_S} {j u : Int} (hj0 : 0 ≤ j) (hj1 : j ≤ 60) (hu0 : -1000 ≤ u) (hu1 : u ≤ 1000) : fn (d + 2) 137 [.int (iI j), .int (iI u)] σ (.int (iI ((50 + j * u) / 100))) := by
  have hm := mul_b (u := u) hj0 hj1 hu0 hu1
  refine fn_of (M := (yX11_cellsAside, cX11_cellsAside, 2, (some .int))) (cd := k_X11_cellsAside) (L := [some (.int (iI j)), some (.int (iI u))]) rfl (Nat.le_of_ble_eq_true rfl) rfl rfl ?_
  refine aw_bipush rfl rfl rfl ?_
  refine aw_iload_n rfl rfl rfl ?_
  refine aw_iload_n rfl rfl rfl ?_
  refine aw_imul rfl rfl ?_
  refine aw_iadd rfl rfl ?_
  refine aw_bipush rfl rfl rfl ?_
  refine aw_fnc (j_floorDiv (by omega) (by omega)) rfl rfl rfl (Nat.le_of_ble_eq_true rfl) (Or.inl rfl) rfl ?_
  refine aw_reti rfl ?_
  exact ⟨rfl, rfl⟩
set_option maxRecDepth 10000 in
set_option maxHeartbeats 2000000 in
theorem c_has {d : Nat} {sz : Nat} {κ : Nat × (Nat → Int32) × Option Nat} {A : Nat → Int → Int} {g : Nat → Nat} {σ : az_S} (hC : CR sz κ A g σ) (hI : MI sz A) {c : Int} (hc : inI c) : fn (d + 1) 5 [.ref 28, .int (iI c)] σ (.int (iI (bI (0 ≤ c ∧ c < A 42 2)))) := by
  have hw := hI.wide
  have hh := hI.high
  have hce := hI.cells
  obtain ⟨hc1, hc2⟩ := hc
  refine fn_of (M := (yX1_has, cX1_has, 2, (some .boolean))) (cd := k_X1_has) (L := [some (.ref 28), some (.int (iI c))]) rfl (Nat.le_of_ble_eq_true rfl) rfl rfl ?_
  refine aw_iload_n rfl rfl rfl ?_
  refine aw_if (p' := 16) rfl ⟨by omega, by omega⟩ rfl rfl (fun c1 => ?_) (fun c1 => ?_)
  · dsimp only [zc] at c1
    refine aw_iconst rfl rfl ?_
    refine aw_retn rfl (by first | rfl | exact bI_nar _) ?_
    refine ⟨?_, rfl⟩
    first | (rw [bI_t (by omega)]; done) | (rw [bI_f (by omega)]; done)
  · dsimp only [zc] at c1
    refine aw_iload_n rfl rfl rfl ?_
    refine aw_aload_n rfl rfl rfl ?_
    refine aw_gk (v := A 42 2) (2) rfl rfl (hC.f.k 28 rfl) rfl hC.ground.2.2 rfl (fun _ _ => ?_)
    refine aw_icmp (p' := 16) rfl ⟨by omega, by omega⟩ ⟨by omega, by omega⟩ rfl rfl (fun c2 => ?_) (fun c2 => ?_)
    · dsimp only [zc] at c2
      refine aw_iconst rfl rfl ?_
      refine aw_retn rfl (by first | rfl | exact bI_nar _) ?_
      refine ⟨?_, rfl⟩
      first | (rw [bI_t (by omega)]; done) | (rw [bI_f (by omega)]; done)
    · dsimp only [zc] at c2
      refine aw_iconst rfl rfl ?_
      refine aw_goto (p' := 17) rfl rfl ?_
      refine aw_retn rfl (by first | rfl | exact bI_nar _) ?_
      refine ⟨?_, rfl⟩
      first | (rw [bI_t (by omega)]; done) | (rw [bI_f (by omega)]; done)
set_option maxRecDepth 10000 in
set_option maxHeartbeats 2000000 in
theorem c_col {d : Nat} {sz : Nat} {κ : Nat × (Nat → Int32) × Option Nat} {A : Nat → Int → Int} {g : Nat → Nat} {σ : az_S} (hC : CR sz κ A g σ) (hI : MI sz A) {c : Int} (hc0 : 0 ≤ c) (hc1 : c < 2147483648) : fn (d + 1) 6 [.ref 28, .int (iI c)] σ (.int (iI (c % A 42 0))) := by
  have hw := hI.wide
  have hh := hI.high
  have hce := hI.cells
  refine fn_of (M := (yX1_columnOf, cX1_columnOf, 2, (some .int))) (cd := k_X1_columnOf) (L := [some (.ref 28), some (.int (iI c))]) rfl (Nat.le_of_ble_eq_true rfl) rfl rfl ?_
  refine aw_aload_n rfl rfl rfl ?_
  refine aw_gk (v := A 42 0) (0) rfl rfl (hC.f.k 28 rfl) rfl hC.ground.1 rfl (fun _ _ => ?_)
  refine aw_if (p' := 16) rfl ⟨by omega, by omega⟩ rfl rfl (fun c1 => ?_) (fun c1 => ?_)
  · dsimp only [zc] at c1
    refine aw_iconst rfl rfl ?_
    refine aw_reti rfl ?_
    refine ⟨?_, rfl⟩
    first | rfl | omega
  · dsimp only [zc] at c1
    refine aw_iload_n rfl rfl rfl ?_
    refine aw_aload_n rfl rfl rfl ?_
    refine aw_gk (v := A 42 0) (0) rfl rfl (hC.f.k 28 rfl) rfl hC.ground.1 rfl (fun _ _ => ?_)
    refine aw_irem rfl (by omega) (by omega) (by omega) (by omega) rfl ?_
    refine aw_goto (p' := 17) rfl rfl ?_
    refine aw_reti rfl ?_
    refine ⟨?_, rfl⟩
    first | rfl | omega
set_option maxRecDepth 10000 in
set_option maxHeartbeats 2000000 in
theorem c_row {d : Nat} {sz : Nat} {κ : Nat × (Nat → Int32) × Option Nat} {A : Nat → Int → Int} {g : Nat → Nat} {σ : az_S} (hC : CR sz κ A g σ) (hI : MI sz A) {c : Int} (hc0 : 0 ≤ c) (hc1 : c < 2147483648) : fn (d + 1) 7 [.ref 28, .int (iI c)] σ (.int (iI (c / A 42 0))) := by
  have hw := hI.wide
  have hh := hI.high
  have hce := hI.cells
  refine fn_of (M := (yX1_rowOf, cX1_rowOf, 2, (some .int))) (cd := k_X1_rowOf) (L := [some (.ref 28), some (.int (iI c))]) rfl (Nat.le_of_ble_eq_true rfl) rfl rfl ?_
  refine aw_aload_n rfl rfl rfl ?_
  refine aw_gk (v := A 42 0) (0) rfl rfl (hC.f.k 28 rfl) rfl hC.ground.1 rfl (fun _ _ => ?_)
  refine aw_if (p' := 16) rfl ⟨by omega, by omega⟩ rfl rfl (fun c1 => ?_) (fun c1 => ?_)
  · dsimp only [zc] at c1
    refine aw_iconst rfl rfl ?_
    refine aw_reti rfl ?_
    refine ⟨?_, rfl⟩
    first | rfl | omega
  · dsimp only [zc] at c1
    refine aw_iload_n rfl rfl rfl ?_
    refine aw_aload_n rfl rfl rfl ?_
    refine aw_gk (v := A 42 0) (0) rfl rfl (hC.f.k 28 rfl) rfl hC.ground.1 rfl (fun _ _ => ?_)
    refine aw_idiv rfl (by omega) (by omega) (by omega) (by omega) rfl ?_
    refine aw_goto (p' := 17) rfl rfl ?_
    refine aw_reti rfl ?_
    refine ⟨?_, rfl⟩
    first | rfl | omega
def gAt (A : Nat → Int → Int) (x y : Int) : Int := if (0 ≤ x ∧ x < A 42 0) ∧ (0 ≤ y ∧ y < A 42 1) then y * A 42 0 + x else -1
theorem gAt_r {sz : Nat} {A : Nat → Int → Int} (hI : MI sz A) (x y : Int) : -1 ≤ gAt A x y ∧ gAt A x y < A 42 2 := by
  have hw := hI.wide
  have hh := hI.high
  have hce := hI.cells
  unfold gAt
  split
  · rename_i h
    have := grid_b (w := A 42 0) (h := A 42 1) h.1.1 (by omega) h.2.1 (by omega)
    omega
  · omega
def gSteps (A : Nat → Int → Int) (c e : Int) : Int := (if c % A 42 0 - e % A 42 0 < 0 then -(c % A 42 0 - e % A 42 0) else c % A 42 0 - e % A 42 0) + (if c / A 42 0 - e / A 42 0 < 0 then -(c / A 42 0 - e / A 42 0) else c / A 42 0 - e / A 42 0)
set_option maxRecDepth 10000 in
set_option maxHeartbeats 2000000 in
theorem c_cellAt {d : Nat} {sz : Nat} {κ : Nat × (Nat → Int32) × Option Nat} {A : Nat → Int → Int} {g : Nat → Nat} {σ : az_S} (hC : CR sz κ A g σ) (hI : MI sz A) {x y : Int} (hx0 : -1000 ≤ x) (hx1 : x ≤ 1000) (hy0 : -1000 ≤ y) (hy1 : y ≤ 1000) : fn (d + 1) 8 [.ref 28, .int (iI x), .int (iI y)] σ (.int (iI (gAt A x y))) := by
  have hw := hI.wide
  have hh := hI.high
  have hce := hI.cells
  refine fn_of (M := (yX1_cellAt, cX1_cellAt, 3, (some .int))) (cd := k_X1_cellAt) (L := [some (.ref 28), some (.int (iI x)), some (.int (iI y))]) rfl (Nat.le_of_ble_eq_true rfl) rfl rfl ?_
  refine aw_iload_n rfl rfl rfl ?_
  refine aw_if (p' := 35) rfl ⟨by omega, by omega⟩ rfl rfl (fun c1 => ?_) (fun c1 => ?_)
  · dsimp only [zc] at c1
    refine aw_iconst rfl rfl ?_
    refine aw_reti rfl ?_
    refine ⟨?_, rfl⟩
    unfold gAt
    first | rw [if_pos (by omega)] | rw [if_neg (by omega)]
  · dsimp only [zc] at c1
    refine aw_iload_n rfl rfl rfl ?_
    refine aw_aload_n rfl rfl rfl ?_
    refine aw_gk (v := A 42 0) (0) rfl rfl (hC.f.k 28 rfl) rfl hC.ground.1 rfl (fun _ _ => ?_)
    refine aw_icmp (p' := 35) rfl ⟨by omega, by omega⟩ ⟨by omega, by omega⟩ rfl rfl (fun c2 => ?_) (fun c2 => ?_)
    · dsimp only [zc] at c2
      refine aw_iconst rfl rfl ?_
      refine aw_reti rfl ?_
      refine ⟨?_, rfl⟩
      unfold gAt
      first | rw [if_pos (by omega)] | rw [if_neg (by omega)]
    · dsimp only [zc] at c2
      refine aw_iload_n rfl rfl rfl ?_
      refine aw_if (p' := 35) rfl ⟨by omega, by omega⟩ rfl rfl (fun c3 => ?_) (fun c3 => ?_)
      · dsimp only [zc] at c3
        refine aw_iconst rfl rfl ?_
        refine aw_reti rfl ?_
        refine ⟨?_, rfl⟩
        unfold gAt
        first | rw [if_pos (by omega)] | rw [if_neg (by omega)]
      · dsimp only [zc] at c3
        refine aw_iload_n rfl rfl rfl ?_
        refine aw_aload_n rfl rfl rfl ?_
        refine aw_gk (v := A 42 1) (1) rfl rfl (hC.f.k 28 rfl) rfl hC.ground.2.1 rfl (fun _ _ => ?_)
        refine aw_icmp (p' := 35) rfl ⟨by omega, by omega⟩ ⟨by omega, by omega⟩ rfl rfl (fun c4 => ?_) (fun c4 => ?_)
        · dsimp only [zc] at c4
          refine aw_iconst rfl rfl ?_
          refine aw_reti rfl ?_
          refine ⟨?_, rfl⟩
          unfold gAt
          first | rw [if_pos (by omega)] | rw [if_neg (by omega)]
        · dsimp only [zc] at c4
          refine aw_iload_n rfl rfl rfl ?_
          refine aw_aload_n rfl rfl rfl ?_
          refine aw_gk (v := A 42 0) (0) rfl rfl (hC.f.k 28 rfl) rfl hC.ground.1 rfl (fun _ _ => ?_)
          refine aw_imul rfl rfl ?_
          refine aw_iload_n rfl rfl rfl ?_
          refine aw_iadd rfl rfl ?_
          refine aw_goto (p' := 36) rfl rfl ?_
          refine aw_reti rfl ?_
          refine ⟨?_, rfl⟩
          unfold gAt
          first | rw [if_pos (by omega)] | rw [if_neg (by omega)]
set_option maxRecDepth 10000 in
set_option maxHeartbeats 2000000 in
theorem c_steps {d : Nat} {sz : Nat} {κ : Nat × (Nat → Int32) × Option Nat} {A : Nat → Int → Int} {g : Nat → Nat} {σ : az_S} (hC : CR sz κ A g σ) (hI : MI sz A) {c e : Int} (hc0 : 0 ≤ c) (hc1 : c < A 42 2) (he0 : 0 ≤ e) (he1 : e < A 42 2) : fn (d + 2) 9 [.ref 28, .int (iI c), .int (iI e)] σ (.int (iI (gSteps A c e))) := by
  have hw := hI.wide
  have hh := hI.high
  have hce := hI.cells
  have r1 := rem_b (a := c) (g := A 42 0) (by omega)
  have r2 := rem_b (a := e) (g := A 42 0) (by omega)
  have r3 := div_b (a := c) (g := A 42 0) hc0 (by omega)
  have r4 := div_b (a := e) (g := A 42 0) he0 (by omega)
  refine fn_of (M := (yX1_stepsBetween, cX1_stepsBetween, 3, (some .int))) (cd := k_X1_stepsBetween) (L := [some (.ref 28), some (.int (iI c)), some (.int (iI e))]) rfl (Nat.le_of_ble_eq_true rfl) rfl rfl ?_
  refine aw_aload_n rfl rfl rfl ?_
  refine aw_iload_n rfl rfl rfl ?_
  refine aw_fnc (c_col hC hI (by omega) (by omega)) rfl rfl rfl (Nat.le_of_ble_eq_true rfl) (Or.inr ⟨_, rfl, (hC.f.k 28 rfl)⟩) rfl ?_
  refine aw_aload_n rfl rfl rfl ?_
  refine aw_iload_n rfl rfl rfl ?_
  refine aw_fnc (c_col hC hI (by omega) (by omega)) rfl rfl rfl (Nat.le_of_ble_eq_true rfl) (Or.inr ⟨_, rfl, (hC.f.k 28 rfl)⟩) rfl ?_
  refine aw_isub rfl rfl ?_
  refine aw_fnc (j_abs (by omega) (by omega)) rfl rfl rfl (Nat.le_of_ble_eq_true rfl) (Or.inl rfl) rfl ?_
  refine aw_aload_n rfl rfl rfl ?_
  refine aw_iload_n rfl rfl rfl ?_
  refine aw_fnc (c_row hC hI (by omega) (by omega)) rfl rfl rfl (Nat.le_of_ble_eq_true rfl) (Or.inr ⟨_, rfl, (hC.f.k 28 rfl)⟩) rfl ?_
  refine aw_aload_n rfl rfl rfl ?_
  refine aw_iload_n rfl rfl rfl ?_
  refine aw_fnc (c_row hC hI (by omega) (by omega)) rfl rfl rfl (Nat.le_of_ble_eq_true rfl) (Or.inr ⟨_, rfl, (hC.f.k 28 rfl)⟩) rfl ?_
  refine aw_isub rfl rfl ?_
  refine aw_fnc (j_abs (by omega) (by omega)) rfl rfl rfl (Nat.le_of_ble_eq_true rfl) (Or.inl rfl) rfl ?_
  refine aw_iadd rfl rfl ?_
  refine aw_reti rfl ?_
  exact ⟨rfl, rfl⟩
set_option maxRecDepth 10000 in
set_option maxHeartbeats 2000000 in
theorem c_sunX {d : Nat} {sz : Nat} {κ : Nat × (Nat → Int32) × Option Nat} {A : Nat → Int → Int} {g : Nat → Nat} {σ : az_S} (hC : CR sz κ A g σ) (hI : MI sz A) {x h : Int} (hx0 : 0 ≤ x) (hx1 : x ≤ 3599) (hh0 : 0 ≤ h) (hh1 : h ≤ 11) : fn (d + 2) 48 [.ref 1, .int (iI x), .int (iI h)] σ (.int (iI (A 43 (12 * (x % 360 / 30) + h)))) := by
  have hsl : 0 ≤ x % 360 / 30 * 12 + h ∧ x % 360 / 30 * 12 + h < 144 := by omega
  have hsu := hI.sun (x % 360 / 30 * 12 + h) (by omega) (by omega)
  refine fn_of (M := (yX6_sunX, cX6_sunX, 4, (some .int))) (cd := k_X6_sunX) (L := [some (.ref 1), some (.int (iI x)), some (.int (iI h)), none]) rfl (Nat.le_of_ble_eq_true rfl) rfl rfl ?_
  refine aw_iload_n rfl rfl rfl ?_
  refine aw_fnc (c_monthOf (by omega) (by omega)) rfl rfl rfl (Nat.le_of_ble_eq_true rfl) (Or.inl rfl) rfl ?_
  refine aw_bipush rfl rfl rfl ?_
  refine aw_imul rfl rfl ?_
  refine aw_iload_n rfl rfl rfl ?_
  refine aw_iadd rfl rfl ?_
  refine aw_istore_n rfl (Nat.le_of_ble_eq_true rfl) rfl rfl ?_
  change aw _ _ _ _ 10 [some (.ref 1), some (.int (iI _)), some (.int (iI _)), some (.int (iI _))] _ _
  refine aw_iload_n rfl rfl rfl ?_
  refine aw_if (p' := 32) rfl ⟨by omega, by omega⟩ rfl rfl (fun c1 => ?_) (fun c1 => ?_)
  · dsimp only [zc] at c1
    refine aw_iconst rfl rfl ?_
    refine aw_reti rfl ?_
    refine ⟨?_, rfl⟩
    first | omega | (congr 4; omega)
  · dsimp only [zc] at c1
    refine aw_iload_n rfl rfl rfl ?_
    refine aw_aload_n rfl rfl rfl ?_
    refine aw_getr (b := 2) rfl rfl (hC.f.k 1 rfl) (hC.f.r 1 0 2 rfl) rfl ?_
    refine aw_alen (N := 144) rfl (hC.f.s 2 rfl) (by decide) rfl ?_
    refine aw_icmp (p' := 32) rfl ⟨by omega, by omega⟩ ⟨by omega, by omega⟩ rfl rfl (fun c2 => ?_) (fun c2 => ?_)
    · dsimp only [zc] at c2
      refine aw_iconst rfl rfl ?_
      refine aw_reti rfl ?_
      refine ⟨?_, rfl⟩
      first | omega | (congr 4; omega)
    · dsimp only [zc] at c2
      refine aw_aload_n rfl rfl rfl ?_
      refine aw_getr (b := 2) rfl rfl (hC.f.k 1 rfl) (hC.f.r 1 0 2 rfl) rfl ?_
      refine aw_iload_n rfl rfl rfl ?_
      refine aw_ak (v := (A 43 (((x % 360 / 30) * 12) + h))) (N := 144) rfl (hC.f.s 2 rfl) (by omega) (by omega) (by omega) (hC.sun _ (by omega) (by omega)).1 rfl (fun _ _ => ?_)
      refine aw_goto (p' := 33) rfl rfl ?_
      refine aw_reti rfl ?_
      refine ⟨?_, rfl⟩
      first | omega | (congr 4; omega)
set_option maxRecDepth 10000 in
set_option maxHeartbeats 2000000 in
theorem c_sunY {d : Nat} {sz : Nat} {κ : Nat × (Nat → Int32) × Option Nat} {A : Nat → Int → Int} {g : Nat → Nat} {σ : az_S} (hC : CR sz κ A g σ) (hI : MI sz A) {x h : Int} (hx0 : 0 ≤ x) (hx1 : x ≤ 3599) (hh0 : 0 ≤ h) (hh1 : h ≤ 11) : fn (d + 2) 49 [.ref 1, .int (iI x), .int (iI h)] σ (.int (iI (A 44 (12 * (x % 360 / 30) + h)))) := by
  have hsl : 0 ≤ x % 360 / 30 * 12 + h ∧ x % 360 / 30 * 12 + h < 144 := by omega
  have hsu := hI.sun (x % 360 / 30 * 12 + h) (by omega) (by omega)
  refine fn_of (M := (yX6_sunY, cX6_sunY, 4, (some .int))) (cd := k_X6_sunY) (L := [some (.ref 1), some (.int (iI x)), some (.int (iI h)), none]) rfl (Nat.le_of_ble_eq_true rfl) rfl rfl ?_
  refine aw_iload_n rfl rfl rfl ?_
  refine aw_fnc (c_monthOf (by omega) (by omega)) rfl rfl rfl (Nat.le_of_ble_eq_true rfl) (Or.inl rfl) rfl ?_
  refine aw_bipush rfl rfl rfl ?_
  refine aw_imul rfl rfl ?_
  refine aw_iload_n rfl rfl rfl ?_
  refine aw_iadd rfl rfl ?_
  refine aw_istore_n rfl (Nat.le_of_ble_eq_true rfl) rfl rfl ?_
  change aw _ _ _ _ 10 [some (.ref 1), some (.int (iI _)), some (.int (iI _)), some (.int (iI _))] _ _
  refine aw_iload_n rfl rfl rfl ?_
  refine aw_if (p' := 32) rfl ⟨by omega, by omega⟩ rfl rfl (fun c1 => ?_) (fun c1 => ?_)
  · dsimp only [zc] at c1
    refine aw_iconst rfl rfl ?_
    refine aw_reti rfl ?_
    refine ⟨?_, rfl⟩
    first | omega | (congr 4; omega)
  · dsimp only [zc] at c1
    refine aw_iload_n rfl rfl rfl ?_
    refine aw_aload_n rfl rfl rfl ?_
    refine aw_getr (b := 3) rfl rfl (hC.f.k 1 rfl) (hC.f.r 1 1 3 rfl) rfl ?_
    refine aw_alen (N := 144) rfl (hC.f.s 3 rfl) (by decide) rfl ?_
    refine aw_icmp (p' := 32) rfl ⟨by omega, by omega⟩ ⟨by omega, by omega⟩ rfl rfl (fun c2 => ?_) (fun c2 => ?_)
    · dsimp only [zc] at c2
      refine aw_iconst rfl rfl ?_
      refine aw_reti rfl ?_
      refine ⟨?_, rfl⟩
      first | omega | (congr 4; omega)
    · dsimp only [zc] at c2
      refine aw_aload_n rfl rfl rfl ?_
      refine aw_getr (b := 3) rfl rfl (hC.f.k 1 rfl) (hC.f.r 1 1 3 rfl) rfl ?_
      refine aw_iload_n rfl rfl rfl ?_
      refine aw_ak (v := (A 44 (((x % 360 / 30) * 12) + h))) (N := 144) rfl (hC.f.s 3 rfl) (by omega) (by omega) (by omega) (hC.sun _ (by omega) (by omega)).2 rfl (fun _ _ => ?_)
      refine aw_goto (p' := 33) rfl rfl ?_
      refine aw_reti rfl ?_
      refine ⟨?_, rfl⟩
      first | omega | (congr 4; omega)
set_option maxRecDepth 10000 in
set_option maxHeartbeats 2000000 in
theorem c_isClouded_l2 {d : Nat} {sz : Nat} {κ : Nat × (Nat → Int32) × Option Nat} {A : Nat → Int → Int} {g : Nat → Nat} {σ : az_S} (hC : CR sz κ A g σ) (hI : MI sz A) {x h : Int} (hx0 : 0 ≤ x) (hx1 : x ≤ 3599) (hh0 : 0 ≤ h) (hh1 : h ≤ 11) : ∀ (n : Nat) (k : Int), (A 42 6 - k).toNat = n → 0 ≤ k → k ≤ A 42 6 → ¬ mCloudTo A x h k → aw (d) k_X6_isClouded (some .boolean) (fun r τ => r = some (.int (iI (bI (mCloud A x h)))) ∧ τ = σ) 2 [some (.ref 1), some (.int (iI x)), some (.int (iI h)), some (.int (iI k))] [] σ := by
  intro n
  induction n using Nat.strongRecOn with
  | ind n ih =>
    intro k hn hk0 hk1 hb
    have hcl := hI.clouds
    have hs := mCloudTo_s (A := A) (x := x) (y := h) hk0
    have hcd := fun q => hI.cloud k hk0 q
    refine aw_iload_n rfl rfl rfl ?_
    refine aw_aload_n rfl rfl rfl ?_
    refine aw_gk (v := A 42 6) (3) rfl rfl (hC.f.k 1 rfl) rfl hC.clouds rfl (fun _ _ => ?_)
    refine aw_icmp (p' := 42) rfl ⟨by omega, by omega⟩ ⟨by omega, by omega⟩ rfl rfl (fun c1 => ?_) (fun c1 => ?_)
    · dsimp only [zc] at c1
      refine aw_iconst rfl rfl ?_
      refine aw_retn rfl rfl ?_
      refine ⟨?_, rfl⟩
      have ek : k = A 42 6 := by omega
      rw [bI_f (fun q => hb (by rw [ek]; exact q))]
    · dsimp only [zc] at c1
      refine aw_iload_n rfl rfl rfl ?_
      refine aw_aload_n rfl rfl rfl ?_
      refine aw_getr (b := 4) rfl rfl (hC.f.k 1 rfl) (hC.f.r 1 2 4 rfl) rfl ?_
      refine aw_alen (N := 60) rfl (hC.f.s 4 rfl) (by decide) rfl ?_
      refine aw_icmp (p' := 42) rfl ⟨by omega, by omega⟩ ⟨by omega, by omega⟩ rfl rfl (fun c2 => ?_) (fun c2 => ?_)
      · dsimp only [zc] at c2
        refine aw_iconst rfl rfl ?_
        refine aw_retn rfl rfl ?_
        refine ⟨?_, rfl⟩
        have ek : k = A 42 6 := by omega
        rw [bI_f (fun q => hb (by rw [ek]; exact q))]
      · dsimp only [zc] at c2
        have hcd := hcd (by omega)
        refine aw_aload_n rfl rfl rfl ?_
        refine aw_getr (b := 4) rfl rfl (hC.f.k 1 rfl) (hC.f.r 1 2 4 rfl) rfl ?_
        refine aw_iload_n rfl rfl rfl ?_
        refine aw_ak (v := (12 * A 45 k + A 46 k)) (N := 60) rfl (hC.f.s 4 rfl) (by omega) (by omega) (by omega) (hC.cld _ (by omega) (by omega)) rfl (fun _ _ => ?_)
        refine aw_iload_n rfl rfl rfl ?_
        refine aw_bipush rfl rfl rfl ?_
        refine aw_imul rfl rfl ?_
        refine aw_iload_n rfl rfl rfl ?_
        refine aw_iadd rfl rfl ?_
        refine aw_icmp (p' := 36) rfl ⟨by omega, by omega⟩ ⟨by omega, by omega⟩ rfl rfl (fun c3 => ?_) (fun c3 => ?_)
        · dsimp only [zc] at c3
          refine aw_iinc rfl rfl rfl rfl ?_
          change aw _ _ _ _ 39 [some (.ref 1), some (.int (iI _)), some (.int (iI _)), some (.int (iI _))] _ _
          refine aw_goto (p' := 2) rfl rfl ?_
          exact ih _ (by omega) _ rfl (by omega) (by omega) (by rw [hs]; rintro (q | q); exact hb q; omega)
        · dsimp only [zc] at c3
          refine aw_iconst rfl rfl ?_
          refine aw_retn rfl rfl ?_
          refine ⟨?_, rfl⟩
          rw [bI_t ⟨k, hk0, by omega, by omega, by omega⟩]
set_option maxRecDepth 10000 in
set_option maxHeartbeats 2000000 in
theorem c_isClouded {d : Nat} {sz : Nat} {κ : Nat × (Nat → Int32) × Option Nat} {A : Nat → Int → Int} {g : Nat → Nat} {σ : az_S} (hC : CR sz κ A g σ) (hI : MI sz A) {x h : Int} (hx0 : 0 ≤ x) (hx1 : x ≤ 3599) (hh0 : 0 ≤ h) (hh1 : h ≤ 11) : fn (d + 1) 50 [.ref 1, .int (iI x), .int (iI h)] σ (.int (iI (bI (mCloud A x h)))) := by
  have hcl := hI.clouds
  refine fn_of (M := (yX6_isClouded, cX6_isClouded, 4, (some .boolean))) (cd := k_X6_isClouded) (L := [some (.ref 1), some (.int (iI x)), some (.int (iI h)), none]) rfl (Nat.le_of_ble_eq_true rfl) rfl rfl ?_
  refine aw_iconst rfl rfl ?_
  refine aw_istore_n rfl (Nat.le_of_ble_eq_true rfl) rfl rfl ?_
  change aw _ _ _ _ 2 [some (.ref 1), some (.int (iI _)), some (.int (iI _)), some (.int (iI _))] _ _
  exact c_isClouded_l2 hC hI hx0 hx1 hh0 hh1 _ 0 rfl (by omega) (by omega) (by rintro ⟨j, h1, h2, -⟩; omega)
set_option maxRecDepth 10000 in
set_option maxHeartbeats 2000000 in
theorem c_isPerson {d : Nat} {sz : Nat} {κ : Nat × (Nat → Int32) × Option Nat} {A : Nat → Int → Int} {g : Nat → Nat} {σ : az_S} (hC : CR sz κ A g σ) (hI : MI sz A) {z : Int} (hz : inI z) : fn (d + 2) 138 [.ref 0, .int (iI z)] σ (.int (iI (bI (0 ≤ z ∧ z < A 42 9)))) := by
  obtain ⟨hz1, hz2⟩ := hz
  have hn := hI.people
  refine fn_of (M := (yX11_isPerson, cX11_isPerson, 2, (some .boolean))) (cd := k_X11_isPerson) (L := [some (.ref 0), some (.int (iI z))]) rfl (Nat.le_of_ble_eq_true rfl) rfl rfl ?_
  refine aw_iload_n rfl rfl rfl ?_
  refine aw_if (p' := 19) rfl ⟨by omega, by omega⟩ rfl rfl (fun c1 => ?_) (fun c1 => ?_)
  · dsimp only [zc] at c1
    refine aw_iconst rfl rfl ?_
    refine aw_retn rfl (by first | rfl | exact bI_nar _) ?_
    refine ⟨?_, rfl⟩
    first | (rw [bI_t (by omega)]; done) | (rw [bI_f (by omega)]; done)
  · dsimp only [zc] at c1
    refine aw_iload_n rfl rfl rfl ?_
    refine aw_aload_n rfl rfl rfl ?_
    refine aw_getr (b := 5) rfl rfl (hC.f.k 0 rfl) (hC.f.r 0 2 5 rfl) rfl ?_
    refine aw_fnc (c_size (hC.f.k 5 rfl) hC.lP.1) rfl rfl rfl (Nat.le_of_ble_eq_true rfl) (Or.inr ⟨_, rfl, (hC.f.k 5 rfl)⟩) rfl ?_
    refine aw_icmp (p' := 19) rfl ⟨by omega, by omega⟩ ⟨by omega, by omega⟩ rfl rfl (fun c2 => ?_) (fun c2 => ?_)
    · dsimp only [zc] at c2
      refine aw_iconst rfl rfl ?_
      refine aw_retn rfl (by first | rfl | exact bI_nar _) ?_
      refine ⟨?_, rfl⟩
      first | (rw [bI_t (by omega)]; done) | (rw [bI_f (by omega)]; done)
    · dsimp only [zc] at c2
      refine aw_iconst rfl rfl ?_
      refine aw_goto (p' := 20) rfl rfl ?_
      refine aw_retn rfl (by first | rfl | exact bI_nar _) ?_
      refine ⟨?_, rfl⟩
      first | (rw [bI_t (by omega)]; done) | (rw [bI_f (by omega)]; done)
set_option maxRecDepth 10000 in
set_option maxHeartbeats 2000000 in
theorem c_isThing {d : Nat} {sz : Nat} {κ : Nat × (Nat → Int32) × Option Nat} {A : Nat → Int → Int} {g : Nat → Nat} {σ : az_S} (hC : CR sz κ A g σ) (hI : MI sz A) {z : Int} (hz : inI z) : fn (d + 2) 139 [.ref 0, .int (iI z)] σ (.int (iI (bI (0 ≤ z ∧ z < A 42 12)))) := by
  obtain ⟨hz1, hz2⟩ := hz
  have hn := hI.things
  refine fn_of (M := (yX11_isThing, cX11_isThing, 2, (some .boolean))) (cd := k_X11_isThing) (L := [some (.ref 0), some (.int (iI z))]) rfl (Nat.le_of_ble_eq_true rfl) rfl rfl ?_
  refine aw_iload_n rfl rfl rfl ?_
  refine aw_if (p' := 19) rfl ⟨by omega, by omega⟩ rfl rfl (fun c1 => ?_) (fun c1 => ?_)
  · dsimp only [zc] at c1
    refine aw_iconst rfl rfl ?_
    refine aw_retn rfl (by first | rfl | exact bI_nar _) ?_
    refine ⟨?_, rfl⟩
    first | (rw [bI_t (by omega)]; done) | (rw [bI_f (by omega)]; done)
  · dsimp only [zc] at c1
    refine aw_iload_n rfl rfl rfl ?_
    refine aw_aload_n rfl rfl rfl ?_
    refine aw_getr (b := 6) rfl rfl (hC.f.k 0 rfl) (hC.f.r 0 3 6 rfl) rfl ?_
    refine aw_fnc (c_size (hC.f.k 6 rfl) hC.lT.1) rfl rfl rfl (Nat.le_of_ble_eq_true rfl) (Or.inr ⟨_, rfl, (hC.f.k 6 rfl)⟩) rfl ?_
    refine aw_icmp (p' := 19) rfl ⟨by omega, by omega⟩ ⟨by omega, by omega⟩ rfl rfl (fun c2 => ?_) (fun c2 => ?_)
    · dsimp only [zc] at c2
      refine aw_iconst rfl rfl ?_
      refine aw_retn rfl (by first | rfl | exact bI_nar _) ?_
      refine ⟨?_, rfl⟩
      first | (rw [bI_t (by omega)]; done) | (rw [bI_f (by omega)]; done)
    · dsimp only [zc] at c2
      refine aw_iconst rfl rfl ?_
      refine aw_goto (p' := 20) rfl rfl ?_
      refine aw_retn rfl (by first | rfl | exact bI_nar _) ?_
      refine ⟨?_, rfl⟩
      first | (rw [bI_t (by omega)]; done) | (rw [bI_f (by omega)]; done)
set_option maxRecDepth 10000 in
set_option maxHeartbeats 2000000 in
theorem c_isStall {d : Nat} {sz : Nat} {κ : Nat × (Nat → Int32) × Option Nat} {A : Nat → Int → Int} {g : Nat → Nat} {σ : az_S} (hC : CR sz κ A g σ) (hI : MI sz A) {z : Int} (hz : inI z) : fn (d + 2) 140 [.ref 0, .int (iI z)] σ (.int (iI (bI (0 ≤ z ∧ z < A 42 66)))) := by
  obtain ⟨hz1, hz2⟩ := hz
  have hn := hI.stalls
  refine fn_of (M := (yX11_isStall, cX11_isStall, 2, (some .boolean))) (cd := k_X11_isStall) (L := [some (.ref 0), some (.int (iI z))]) rfl (Nat.le_of_ble_eq_true rfl) rfl rfl ?_
  refine aw_iload_n rfl rfl rfl ?_
  refine aw_if (p' := 19) rfl ⟨by omega, by omega⟩ rfl rfl (fun c1 => ?_) (fun c1 => ?_)
  · dsimp only [zc] at c1
    refine aw_iconst rfl rfl ?_
    refine aw_retn rfl (by first | rfl | exact bI_nar _) ?_
    refine ⟨?_, rfl⟩
    first | (rw [bI_t (by omega)]; done) | (rw [bI_f (by omega)]; done)
  · dsimp only [zc] at c1
    refine aw_iload_n rfl rfl rfl ?_
    refine aw_aload_n rfl rfl rfl ?_
    refine aw_getr (b := 8) rfl rfl (hC.f.k 0 rfl) (hC.f.r 0 5 8 rfl) rfl ?_
    refine aw_fnc (c_size (hC.f.k 8 rfl) hC.lS.1) rfl rfl rfl (Nat.le_of_ble_eq_true rfl) (Or.inr ⟨_, rfl, (hC.f.k 8 rfl)⟩) rfl ?_
    refine aw_icmp (p' := 19) rfl ⟨by omega, by omega⟩ ⟨by omega, by omega⟩ rfl rfl (fun c2 => ?_) (fun c2 => ?_)
    · dsimp only [zc] at c2
      refine aw_iconst rfl rfl ?_
      refine aw_retn rfl (by first | rfl | exact bI_nar _) ?_
      refine ⟨?_, rfl⟩
      first | (rw [bI_t (by omega)]; done) | (rw [bI_f (by omega)]; done)
    · dsimp only [zc] at c2
      refine aw_iconst rfl rfl ?_
      refine aw_goto (p' := 20) rfl rfl ?_
      refine aw_retn rfl (by first | rfl | exact bI_nar _) ?_
      refine ⟨?_, rfl⟩
      first | (rw [bI_t (by omega)]; done) | (rw [bI_f (by omega)]; done)
set_option maxRecDepth 10000 in
set_option maxHeartbeats 2000000 in
theorem c_wasDead {d : Nat} {sz : Nat} {κ : Nat × (Nat → Int32) × Option Nat} {A : Nat → Int → Int} {g : Nat → Nat} {σ : az_S} (hC : CR sz κ A g σ) (hI : MI sz A) {p : Int} (hp0 : 0 ≤ p) (hp1 : p < A 42 9) {x y : Int} (hx0 : 0 ≤ x) (hx1 : x ≤ 3599) (hy0 : 0 ≤ y) (hy1 : y ≤ 3599) : fn (d + 1) 25 [.ref (gP g p), .int (iI x), .int (iI y)] σ (.int (iI (bI (0 ≤ A 47 p ∧ A 48 p ≤ y ∧ A 47 p ≤ x)))) := by
  have hpe := hI.person p hp0 hp1
  have hcl := hI.clock
  refine fn_of (M := (yX3_wasDead, cX3_wasDead, 3, (some .boolean))) (cd := k_X3_wasDead) (L := [some (.ref (gP g p)), some (.int (iI x)), some (.int (iI y))]) rfl (Nat.le_of_ble_eq_true rfl) rfl rfl ?_
  refine aw_aload_n rfl rfl rfl ?_
  refine aw_gk (v := (A 47 p)) (0) rfl rfl (hC.kP (by omega) (by omega)) rfl (hC.P0 (by omega) (by omega)) rfl (fun _ _ => ?_)
  refine aw_iconst rfl rfl ?_
  refine aw_icmp (p' := 28) rfl ⟨by omega, by omega⟩ ⟨by omega, by omega⟩ rfl rfl (fun c1 => ?_) (fun c1 => ?_)
  · dsimp only [zc] at c1
    refine aw_iconst rfl rfl ?_
    refine aw_retn rfl (by first | rfl | exact bI_nar _) ?_
    refine ⟨?_, rfl⟩
    first | (rw [bI_t (by omega)]; done) | (rw [bI_f (by omega)]; done)
  · dsimp only [zc] at c1
    refine aw_aload_n rfl rfl rfl ?_
    refine aw_gk (v := (A 47 p)) (0) rfl rfl (hC.kP (by omega) (by omega)) rfl (hC.P0 (by omega) (by omega)) rfl (fun _ _ => ?_)
    refine aw_iload_n rfl rfl rfl ?_
    refine aw_icmp (p' := 28) rfl ⟨by omega, by omega⟩ ⟨by omega, by omega⟩ rfl rfl (fun c2 => ?_) (fun c2 => ?_)
    · dsimp only [zc] at c2
      refine aw_iconst rfl rfl ?_
      refine aw_retn rfl (by first | rfl | exact bI_nar _) ?_
      refine ⟨?_, rfl⟩
      first | (rw [bI_t (by omega)]; done) | (rw [bI_f (by omega)]; done)
    · dsimp only [zc] at c2
      refine aw_aload_n rfl rfl rfl ?_
      refine aw_gk (v := (A 48 p)) (1) rfl rfl (hC.kP (by omega) (by omega)) rfl (hC.P1 (by omega) (by omega) (by omega)) rfl (fun _ _ => ?_)
      refine aw_iload_n rfl rfl rfl ?_
      refine aw_icmp (p' := 28) rfl ⟨by omega, by omega⟩ ⟨by omega, by omega⟩ rfl rfl (fun c3 => ?_) (fun c3 => ?_)
      · dsimp only [zc] at c3
        refine aw_iconst rfl rfl ?_
        refine aw_retn rfl (by first | rfl | exact bI_nar _) ?_
        refine ⟨?_, rfl⟩
        first | (rw [bI_t (by omega)]; done) | (rw [bI_f (by omega)]; done)
      · dsimp only [zc] at c3
        refine aw_iconst rfl rfl ?_
        refine aw_goto (p' := 29) rfl rfl ?_
        refine aw_retn rfl (by first | rfl | exact bI_nar _) ?_
        refine ⟨?_, rfl⟩
        first | (rw [bI_t (by omega)]; done) | (rw [bI_f (by omega)]; done)
set_option maxRecDepth 10000 in
set_option maxHeartbeats 2000000 in
theorem c_isOn {d : Nat} {sz : Nat} {κ : Nat × (Nat → Int32) × Option Nat} {A : Nat → Int → Int} {g : Nat → Nat} {σ : az_S} (hC : CR sz κ A g σ) (hI : MI sz A) {s : Int} (hs0 : 0 ≤ s) (hs1 : s < A 42 66) {x : Int} (hx : inI x) : fn (d + 1) 53 [.ref (gS g s), .int (iI x)] σ (.int (iI (bI (A 85 s ≤ x ∧ x ≤ A 86 s)))) := by
  have hst := hI.stalls
  obtain ⟨hS1, hS2⟩ := hI.stall s hs0 hs1
  obtain ⟨hx1, hx2⟩ := hx
  refine fn_of (M := (yX7_isOn, cX7_isOn, 2, (some .boolean))) (cd := k_X7_isOn) (L := [some (.ref (gS g s)), some (.int (iI x))]) rfl (Nat.le_of_ble_eq_true rfl) rfl rfl ?_
  refine aw_iload_n rfl rfl rfl ?_
  refine aw_aload_n rfl rfl rfl ?_
  refine aw_gk (v := (A 85 s)) (0) rfl rfl (hC.kS (by omega) (by omega)) rfl (hC.S0 (by omega) (by omega)) rfl (fun _ _ => ?_)
  refine aw_icmp (p' := 20) rfl ⟨by omega, by omega⟩ ⟨by omega, by omega⟩ rfl rfl (fun c1 => ?_) (fun c1 => ?_)
  · dsimp only [zc] at c1
    refine aw_iconst rfl rfl ?_
    refine aw_retn rfl (by first | rfl | exact bI_nar _) ?_
    refine ⟨?_, rfl⟩
    first | (rw [bI_t (by omega)]; done) | (rw [bI_f (by omega)]; done)
  · dsimp only [zc] at c1
    refine aw_iload_n rfl rfl rfl ?_
    refine aw_aload_n rfl rfl rfl ?_
    refine aw_gk (v := (A 86 s)) (1) rfl rfl (hC.kS (by omega) (by omega)) rfl (hC.S1 (by omega) (by omega)) rfl (fun _ _ => ?_)
    refine aw_icmp (p' := 20) rfl ⟨by omega, by omega⟩ ⟨by omega, by omega⟩ rfl rfl (fun c2 => ?_) (fun c2 => ?_)
    · dsimp only [zc] at c2
      refine aw_iconst rfl rfl ?_
      refine aw_retn rfl (by first | rfl | exact bI_nar _) ?_
      refine ⟨?_, rfl⟩
      first | (rw [bI_t (by omega)]; done) | (rw [bI_f (by omega)]; done)
    · dsimp only [zc] at c2
      refine aw_iconst rfl rfl ?_
      refine aw_goto (p' := 21) rfl rfl ?_
      refine aw_retn rfl (by first | rfl | exact bI_nar _) ?_
      refine ⟨?_, rfl⟩
      first | (rw [bI_t (by omega)]; done) | (rw [bI_f (by omega)]; done)
set_option maxRecDepth 10000 in
set_option maxHeartbeats 2000000 in
theorem c_cellIn {d : Nat} {sz : Nat} {κ : Nat × (Nat → Int32) × Option Nat} {A : Nat → Int → Int} {g : Nat → Nat} {σ : az_S} (hC : CR sz κ A g σ) (hI : MI sz A) {s : Int} (hs0 : 0 ≤ s) (hs1 : s < A 42 66) {h : Int} (hh : inI h) : fn (d + 1) 55 [.ref (gS g s), .int (iI h)] σ (.int (iI (zit (0 ≤ h ∧ h ≤ 11) (A 87 (12 * s + h)) (-1)))) := by
  have hst := hI.stalls
  obtain ⟨hS1, hS2⟩ := hI.stall s hs0 hs1
  obtain ⟨hh1, hh2⟩ := hh
  refine fn_of (M := (yX7_cellIn, cX7_cellIn, 2, (some .int))) (cd := k_X7_cellIn) (L := [some (.ref (gS g s)), some (.int (iI h))]) rfl (Nat.le_of_ble_eq_true rfl) rfl rfl ?_
  refine aw_iload_n rfl rfl rfl ?_
  refine aw_if (p' := 22) rfl ⟨by omega, by omega⟩ rfl rfl (fun c1 => ?_) (fun c1 => ?_)
  · dsimp only [zc] at c1
    refine aw_iconst rfl rfl ?_
    refine aw_reti rfl ?_
    refine ⟨?_, rfl⟩
    first | rw [zit_t (by omega)] | rw [zit_f (by omega)]
  · dsimp only [zc] at c1
    refine aw_iload_n rfl rfl rfl ?_
    refine aw_aload_n rfl rfl rfl ?_
    refine aw_getr (b := (gSp g s)) rfl rfl (hC.kS (by omega) (by omega)) (hC.rSp (by omega) (by omega)) rfl ?_
    refine aw_alen (N := 12) rfl (hC.sSp (by omega) (by omega)) (by decide) rfl ?_
    refine aw_icmp (p' := 22) rfl ⟨by omega, by omega⟩ ⟨by omega, by omega⟩ rfl rfl (fun c2 => ?_) (fun c2 => ?_)
    · dsimp only [zc] at c2
      refine aw_iconst rfl rfl ?_
      refine aw_reti rfl ?_
      refine ⟨?_, rfl⟩
      first | rw [zit_t (by omega)] | rw [zit_f (by omega)]
    · dsimp only [zc] at c2
      refine aw_aload_n rfl rfl rfl ?_
      refine aw_getr (b := (gSp g s)) rfl rfl (hC.kS (by omega) (by omega)) (hC.rSp (by omega) (by omega)) rfl ?_
      refine aw_iload_n rfl rfl rfl ?_
      refine aw_ak (v := (A 87 (12 * s + h))) (N := 12) rfl (hC.sSp (by omega) (by omega)) (by omega) (by omega) (by omega) (hC.vSp (by omega) (by omega) (by omega) (by omega)) rfl (fun _ _ => ?_)
      refine aw_goto (p' := 23) rfl rfl ?_
      refine aw_reti rfl ?_
      refine ⟨?_, rfl⟩
      first | rw [zit_t (by omega)] | rw [zit_f (by omega)]
set_option maxRecDepth 10000 in
set_option maxHeartbeats 2000000 in
theorem c_hasCell_l2 {d : Nat} {sz : Nat} {κ : Nat × (Nat → Int32) × Option Nat} {A : Nat → Int → Int} {g : Nat → Nat} {σ : az_S} (hC : CR sz κ A g σ) (hI : MI sz A) {s : Int} (hs0 : 0 ≤ s) (hs1 : s < A 42 66) {c : Int} (hc : inI c) : ∀ (n : Nat) (k : Int), (12 - k).toNat = n → 0 ≤ k → k ≤ 12 → (∀ e : Int, 0 ≤ e → e < k → A 87 (12 * s + e) ≠ c) → aw (d) k_X7_hasCell (some .boolean) (fun r τ => r = some (.int (iI (bI (∃ h : Int, 0 ≤ h ∧ h < 12 ∧ A 87 (12 * s + h) = c)))) ∧ τ = σ) 2 [some (.ref (gS g s)), some (.int (iI c)), some (.int (iI k))] [] σ := by
  intro n
  induction n using Nat.strongRecOn with
  | ind n ih =>
    intro k hn hk0 hk1 hb
    have hst := hI.stalls
    obtain ⟨hS1, hS2⟩ := hI.stall s hs0 hs1
    obtain ⟨hc1, hc2⟩ := hc
    have hS3 := fun q => hS2 k hk0 q
    refine aw_iload_n rfl rfl rfl ?_
    refine aw_aload_n rfl rfl rfl ?_
    refine aw_getr (b := (gSp g s)) rfl rfl (hC.kS (by omega) (by omega)) (hC.rSp (by omega) (by omega)) rfl ?_
    refine aw_alen (N := 12) rfl (hC.sSp (by omega) (by omega)) (by decide) rfl ?_
    refine aw_icmp (p' := 29) rfl ⟨by omega, by omega⟩ ⟨by omega, by omega⟩ rfl rfl (fun c1 => ?_) (fun c1 => ?_)
    · dsimp only [zc] at c1
      refine aw_iconst rfl rfl ?_
      refine aw_retn rfl rfl ?_
      refine ⟨?_, rfl⟩
      rw [bI_f (by rintro ⟨e, e0, e1, e2⟩; exact hb e e0 (by omega) e2)]
    · dsimp only [zc] at c1
      have hS3 := hS3 (by omega)
      refine aw_aload_n rfl rfl rfl ?_
      refine aw_getr (b := (gSp g s)) rfl rfl (hC.kS (by omega) (by omega)) (hC.rSp (by omega) (by omega)) rfl ?_
      refine aw_iload_n rfl rfl rfl ?_
      refine aw_ak (v := (A 87 (12 * s + k))) (N := 12) rfl (hC.sSp (by omega) (by omega)) (by omega) (by omega) (by omega) (hC.vSp (by omega) (by omega) (by omega) (by omega)) rfl (fun _ _ => ?_)
      refine aw_iload_n rfl rfl rfl ?_
      refine aw_icmp (p' := 23) rfl ⟨by omega, by omega⟩ ⟨by omega, by omega⟩ rfl rfl (fun c2 => ?_) (fun c2 => ?_)
      · dsimp only [zc] at c2
        refine aw_iinc rfl rfl rfl rfl ?_
        change aw _ _ _ _ 26 [some (.ref (gS g s)), some (.int (iI _)), some (.int (iI _))] _ _
        refine aw_goto (p' := 2) rfl rfl ?_
        exact ih _ (by omega) _ rfl (by omega) (by omega) (fun e q1 q2 => by by_cases ee : e = k; (rw [ee]; omega); exact hb e q1 (by omega))
      · dsimp only [zc] at c2
        refine aw_iconst rfl rfl ?_
        refine aw_retn rfl rfl ?_
        refine ⟨?_, rfl⟩
        rw [bI_t ⟨k, hk0, by omega, by omega⟩]
set_option maxRecDepth 10000 in
set_option maxHeartbeats 2000000 in
theorem c_hasCell {d : Nat} {sz : Nat} {κ : Nat × (Nat → Int32) × Option Nat} {A : Nat → Int → Int} {g : Nat → Nat} {σ : az_S} (hC : CR sz κ A g σ) (hI : MI sz A) {s : Int} (hs0 : 0 ≤ s) (hs1 : s < A 42 66) {c : Int} (hc : inI c) : fn (d + 1) 56 [.ref (gS g s), .int (iI c)] σ (.int (iI (bI (∃ h : Int, 0 ≤ h ∧ h < 12 ∧ A 87 (12 * s + h) = c)))) := by
  have hst := hI.stalls
  obtain ⟨hS1, hS2⟩ := hI.stall s hs0 hs1
  obtain ⟨hc1, hc2⟩ := hc
  refine fn_of (M := (yX7_hasCell, cX7_hasCell, 3, (some .boolean))) (cd := k_X7_hasCell) (L := [some (.ref (gS g s)), some (.int (iI c)), none]) rfl (Nat.le_of_ble_eq_true rfl) rfl rfl ?_
  refine aw_iconst rfl rfl ?_
  refine aw_istore_n rfl (Nat.le_of_ble_eq_true rfl) rfl rfl ?_
  change aw _ _ _ _ 2 [some (.ref (gS g s)), some (.int (iI _)), some (.int (iI _))] _ _
  exact c_hasCell_l2 hC hI hs0 hs1 ⟨hc1, hc2⟩ _ 0 rfl (by omega) (by omega) (fun e _ _ => by omega)
set_option maxRecDepth 10000 in
set_option maxHeartbeats 2000000 in
theorem c_hasFallen {d : Nat} {sz : Nat} {κ : Nat × (Nat → Int32) × Option Nat} {A : Nat → Int → Int} {g : Nat → Nat} {σ : az_S} (hC : CR sz κ A g σ) (hI : MI sz A) {t : Int} (ht0 : 0 ≤ t) (ht1 : t < A 42 12) : fn (d + 1) 89 [.ref (gT g t)] σ (.int (iI (bI (0 ≤ A 60 t)))) := by
  have hth := hI.things
  have hTI := hI.thing t ht0 ht1
  obtain ⟨⟨he1, he2⟩, ⟨he3, he4⟩, hTe, hkg, hTc, hTo, hTs, hTl, hTf, hTm⟩ := hTI
  refine fn_of (M := (yX10_hasFallen, cX10_hasFallen, 1, (some .boolean))) (cd := k_X10_hasFallen) (L := [some (.ref (gT g t))]) rfl (Nat.le_of_ble_eq_true rfl) rfl rfl ?_
  refine aw_aload_n rfl rfl rfl ?_
  refine aw_gk (v := (A 60 t)) (11) rfl rfl (hC.kT (by omega) (by omega)) rfl (hC.T11 (by omega) (by omega)) rfl (fun _ _ => ?_)
  refine aw_iconst rfl rfl ?_
  refine aw_icmp (p' := 12) rfl ⟨by omega, by omega⟩ ⟨by omega, by omega⟩ rfl rfl (fun c1 => ?_) (fun c1 => ?_)
  · dsimp only [zc] at c1
    refine aw_iconst rfl rfl ?_
    refine aw_retn rfl (by first | rfl | exact bI_nar _) ?_
    refine ⟨?_, rfl⟩
    first | (rw [bI_t (by omega)]; done) | (rw [bI_f (by omega)]; done)
  · dsimp only [zc] at c1
    refine aw_iconst rfl rfl ?_
    refine aw_goto (p' := 13) rfl rfl ?_
    refine aw_retn rfl (by first | rfl | exact bI_nar _) ?_
    refine ⟨?_, rfl⟩
    first | (rw [bI_t (by omega)]; done) | (rw [bI_f (by omega)]; done)
set_option maxRecDepth 10000 in
set_option maxHeartbeats 2000000 in
theorem c_grown {d : Nat} {sz : Nat} {κ : Nat × (Nat → Int32) × Option Nat} {A : Nat → Int → Int} {g : Nat → Nat} {σ : az_S} (hC : CR sz κ A g σ) (hI : MI sz A) {t : Int} (ht0 : 0 ≤ t) (ht1 : t < A 42 12) {a b : Int} (ha0 : 0 ≤ a) (hab : a ≤ b) (hb1 : b ≤ 3600) : fn (d + 1) 92 [.ref (gT g t), .int (iI a), .int (iI b)] σ (.int (iI (if A 49 t = 1 then (b - a) / A 53 t else 0))) := by
  have hth := hI.things
  have hTI := hI.thing t ht0 ht1
  obtain ⟨⟨he1, he2⟩, ⟨he3, he4⟩, hTe, hkg, hTc, hTo, hTs, hTl, hTf, hTm⟩ := hTI
  refine fn_of (M := (yX10_grownBetween, cX10_grownBetween, 3, (some .int))) (cd := k_X10_grownBetween) (L := [some (.ref (gT g t)), some (.int (iI a)), some (.int (iI b))]) rfl (Nat.le_of_ble_eq_true rfl) rfl rfl ?_
  refine aw_aload_n rfl rfl rfl ?_
  refine aw_gk (v := (A 53 t)) (4) rfl rfl (hC.kT (by omega) (by omega)) rfl (hC.T4 (by omega) (by omega)) rfl (fun _ _ => ?_)
  refine aw_if (p' := 18) rfl ⟨by omega, by omega⟩ rfl rfl (fun c1 => ?_) (fun c1 => ?_)
  · dsimp only [zc] at c1
    refine aw_iconst rfl rfl ?_
    refine aw_reti rfl ?_
    refine ⟨?_, rfl⟩
    first | rfl | rw [if_pos (by omega)] | rw [if_neg (by omega)]
  · dsimp only [zc] at c1
    refine aw_iload_n rfl rfl rfl ?_
    refine aw_iload_n rfl rfl rfl ?_
    refine aw_isub rfl rfl ?_
    refine aw_aload_n rfl rfl rfl ?_
    refine aw_gk (v := (A 53 t)) (4) rfl rfl (hC.kT (by omega) (by omega)) rfl (hC.T4 (by omega) (by omega)) rfl (fun _ _ => ?_)
    refine aw_idiv rfl (by omega) (by omega) (by omega) (by omega) rfl ?_
    refine aw_goto (p' := 19) rfl rfl ?_
    refine aw_reti rfl ?_
    refine ⟨?_, rfl⟩
    first | rfl | rw [if_pos (by omega)] | rw [if_neg (by omega)]
theorem bestE_s (ed et : Int → Int) (d k : Int) (j : Nat) {f l : Int} (hf : f = bestE ed et d k j) (hl : l = if f < 0 then -1 else ed f) (h0 : 0 ≤ ed j) (hp : 0 ≤ f → 0 ≤ ed f) : ((et j ≤ k ∧ ed j ≤ d ∧ l ≤ ed j) → bestE ed et d k (j + 1) = j) ∧ (¬ (et j ≤ k ∧ ed j ≤ d ∧ l ≤ ed j) → bestE ed et d k (j + 1) = f) := by
  subst hf
  have e : (bestE ed et d k j < 0 ∨ ed (bestE ed et d k j) ≤ ed j) ↔ l ≤ ed j := by
    rw [hl]
    split <;> omega
  have e2 : bestE ed et d k (j + 1) = if (et j ≤ k ∧ ed j ≤ d ∧ (bestE ed et d k j < 0 ∨ ed (bestE ed et d k j) ≤ ed j)) then (j : Int) else bestE ed et d k j := rfl
  rw [e2]
  exact ⟨fun h => if_pos ⟨h.1, h.2.1, e.mpr h.2.2⟩, fun h => if_neg (fun q => h ⟨q.1, q.2.1, e.mp q.2.2⟩)⟩
set_option maxRecDepth 10000 in
set_option maxHeartbeats 2000000 in
theorem c_entryFor_l8 {d : Nat} {sz : Nat} {κ : Nat × (Nat → Int32) × Option Nat} {A : Nat → Int → Int} {g : Nat → Nat} {σ : az_S} (hC : CR sz κ A g σ) (hI : MI sz A) {t : Int} (ht0 : 0 ≤ t) (ht1 : t < A 42 12) {x y : Int} (hx : inI x) (hy : inI y) : ∀ (n : Nat) (i f l : Int) (j : Nat), (A 56 t - j).toNat = n → i = j → (j : Int) ≤ A 56 t → f = mBn A t x y j → l = (if f < 0 then -1 else meD A t f) → aw (d) k_X10_entryFor (some .int) (fun r τ => r = some (.int (iI (mB A t x y))) ∧ τ = σ) 8 [some (.ref (gT g t)), some (.int (iI x)), some (.int (iI y)), some (.int (iI f)), some (.int (iI l)), some (.int (iI i))] [] σ := by
  intro n
  induction n using Nat.strongRecOn with
  | ind n ih =>
    intro i f l j hn hi hj hf hl
    have hth := hI.things
    have hTI := hI.thing t ht0 ht1
    obtain ⟨⟨he1, he2⟩, ⟨he3, he4⟩, hTe, hkg, hTc, hTo, hTs, hTl, hTf, hTm⟩ := hTI
    obtain ⟨hx1, hx2⟩ := hx
    obtain ⟨hy1, hy2⟩ := hy
    have hr : -1 ≤ mBn A t x y j ∧ mBn A t x y j < j := bestE_lo _ _ x y j
    rw [← hf] at hr
    have hp : 0 ≤ f → 0 ≤ meD A t f ∧ meD A t f ≤ 3599 := fun q => (hTe f q (by omega)).1
    have hlr : -1 ≤ l ∧ l ≤ 3599 := by rw [hl]; split <;> omega
    have hTj := fun q => hTe i (by omega) q
    have hstep := fun q => bestE_s (meD A t) (meT A t) x y j hf hl q (fun w => (hp w).1)
    simp only [meD, meT] at hstep
    rw [← hi] at hstep
    refine aw_iload rfl rfl rfl ?_
    refine aw_aload_n rfl rfl rfl ?_
    refine aw_gk (v := (A 56 t)) (10) rfl rfl (hC.kT (by omega) (by omega)) rfl (hC.T10 (by omega) (by omega)) rfl (fun _ _ => ?_)
    refine aw_icmp (p' := 79) rfl ⟨by omega, by omega⟩ ⟨by omega, by omega⟩ rfl rfl (fun c1 => ?_) (fun c1 => ?_)
    · dsimp only [zc] at c1
      refine aw_iload_n rfl rfl rfl ?_
      refine aw_reti rfl ?_
      refine ⟨?_, rfl⟩
      rw [hf, show j = (A 56 t).toNat by omega]
    · dsimp only [zc] at c1
      refine aw_iload rfl rfl rfl ?_
      refine aw_aload_n rfl rfl rfl ?_
      refine aw_getr (b := (gTd g t)) rfl rfl (hC.kT (by omega) (by omega)) (hC.rTd (by omega) (by omega)) rfl ?_
      refine aw_alen (N := 41) rfl (hC.sTd (by omega) (by omega)) (by decide) rfl ?_
      refine aw_icmp (p' := 79) rfl ⟨by omega, by omega⟩ ⟨by omega, by omega⟩ rfl rfl (fun c2 => ?_) (fun c2 => ?_)
      · dsimp only [zc] at c2
        refine aw_iload_n rfl rfl rfl ?_
        refine aw_reti rfl ?_
        refine ⟨?_, rfl⟩
        rw [hf, show j = (A 56 t).toNat by omega]
      · dsimp only [zc] at c2
        have hTj := hTj (by omega)
        refine aw_aload_n rfl rfl rfl ?_
        refine aw_getr (b := (gTt g t)) rfl rfl (hC.kT (by omega) (by omega)) (hC.rTt (by omega) (by omega)) rfl ?_
        refine aw_iload rfl rfl rfl ?_
        refine aw_ak (v := (A 59 (41 * t + i))) (N := 41) rfl (hC.sTt (by omega) (by omega)) (by omega) (by omega) (by omega) (hC.vTt (by omega) (by omega) (by omega) (by omega)) rfl (fun _ _ => ?_)
        refine aw_iload_n rfl rfl rfl ?_
        refine aw_icmp (p' := 73) rfl ⟨by omega, by omega⟩ ⟨by omega, by omega⟩ rfl rfl (fun c3 => ?_) (fun c3 => ?_)
        · dsimp only [zc] at c3
          refine aw_iinc rfl rfl rfl rfl ?_
          change aw _ _ _ _ 76 [some (.ref (gT g t)), some (.int (iI _)), some (.int (iI _)), some (.int (iI _)), some (.int (iI _)), some (.int (iI _))] _ _
          refine aw_goto (p' := 8) rfl rfl ?_
          have hst := hstep (by omega)
          first | exact ih _ (by omega) _ _ _ (j + 1) rfl (by omega) (by omega) ((hst.1 ⟨by omega, by omega, by omega⟩).symm) (by rw [if_neg (by omega)]) | exact ih _ (by omega) _ _ _ (j + 1) rfl (by omega) (by omega) ((hst.2 (by omega)).symm) hl
        · dsimp only [zc] at c3
          refine aw_aload_n rfl rfl rfl ?_
          refine aw_getr (b := (gTd g t)) rfl rfl (hC.kT (by omega) (by omega)) (hC.rTd (by omega) (by omega)) rfl ?_
          refine aw_iload rfl rfl rfl ?_
          refine aw_ak (v := (A 57 (41 * t + i))) (N := 41) rfl (hC.sTd (by omega) (by omega)) (by omega) (by omega) (by omega) (hC.vTd (by omega) (by omega) (by omega) (by omega)) rfl (fun _ _ => ?_)
          refine aw_iload_n rfl rfl rfl ?_
          refine aw_icmp (p' := 73) rfl ⟨by omega, by omega⟩ ⟨by omega, by omega⟩ rfl rfl (fun c4 => ?_) (fun c4 => ?_)
          · dsimp only [zc] at c4
            refine aw_iinc rfl rfl rfl rfl ?_
            change aw _ _ _ _ 76 [some (.ref (gT g t)), some (.int (iI _)), some (.int (iI _)), some (.int (iI _)), some (.int (iI _)), some (.int (iI _))] _ _
            refine aw_goto (p' := 8) rfl rfl ?_
            have hst := hstep (by omega)
            first | exact ih _ (by omega) _ _ _ (j + 1) rfl (by omega) (by omega) ((hst.1 ⟨by omega, by omega, by omega⟩).symm) (by rw [if_neg (by omega)]) | exact ih _ (by omega) _ _ _ (j + 1) rfl (by omega) (by omega) ((hst.2 (by omega)).symm) hl
          · dsimp only [zc] at c4
            refine aw_aload_n rfl rfl rfl ?_
            refine aw_getr (b := (gTd g t)) rfl rfl (hC.kT (by omega) (by omega)) (hC.rTd (by omega) (by omega)) rfl ?_
            refine aw_iload rfl rfl rfl ?_
            refine aw_ak (v := (A 57 (41 * t + i))) (N := 41) rfl (hC.sTd (by omega) (by omega)) (by omega) (by omega) (by omega) (hC.vTd (by omega) (by omega) (by omega) (by omega)) rfl (fun _ _ => ?_)
            refine aw_iload rfl rfl rfl ?_
            refine aw_icmp (p' := 73) rfl ⟨by omega, by omega⟩ ⟨by omega, by omega⟩ rfl rfl (fun c5 => ?_) (fun c5 => ?_)
            · dsimp only [zc] at c5
              refine aw_iinc rfl rfl rfl rfl ?_
              change aw _ _ _ _ 76 [some (.ref (gT g t)), some (.int (iI _)), some (.int (iI _)), some (.int (iI _)), some (.int (iI _)), some (.int (iI _))] _ _
              refine aw_goto (p' := 8) rfl rfl ?_
              have hst := hstep (by omega)
              first | exact ih _ (by omega) _ _ _ (j + 1) rfl (by omega) (by omega) ((hst.1 ⟨by omega, by omega, by omega⟩).symm) (by rw [if_neg (by omega)]) | exact ih _ (by omega) _ _ _ (j + 1) rfl (by omega) (by omega) ((hst.2 (by omega)).symm) hl
            · dsimp only [zc] at c5
              refine aw_iload rfl rfl rfl ?_
              refine aw_istore_n rfl (Nat.le_of_ble_eq_true rfl) rfl rfl ?_
              change aw _ _ _ _ 64 [some (.ref (gT g t)), some (.int (iI _)), some (.int (iI _)), some (.int (iI _)), some (.int (iI _)), some (.int (iI _))] _ _
              refine aw_aload_n rfl rfl rfl ?_
              refine aw_getr (b := (gTd g t)) rfl rfl (hC.kT (by omega) (by omega)) (hC.rTd (by omega) (by omega)) rfl ?_
              refine aw_iload rfl rfl rfl ?_
              refine aw_ak (v := (A 57 (41 * t + i))) (N := 41) rfl (hC.sTd (by omega) (by omega)) (by omega) (by omega) (by omega) (hC.vTd (by omega) (by omega) (by omega) (by omega)) rfl (fun _ _ => ?_)
              refine aw_istore rfl (Nat.le_of_ble_eq_true rfl) rfl rfl ?_
              change aw _ _ _ _ 73 [some (.ref (gT g t)), some (.int (iI _)), some (.int (iI _)), some (.int (iI _)), some (.int (iI _)), some (.int (iI _))] _ _
              refine aw_iinc rfl rfl rfl rfl ?_
              change aw _ _ _ _ 76 [some (.ref (gT g t)), some (.int (iI _)), some (.int (iI _)), some (.int (iI _)), some (.int (iI _)), some (.int (iI _))] _ _
              refine aw_goto (p' := 8) rfl rfl ?_
              have hst := hstep (by omega)
              first | exact ih _ (by omega) _ _ _ (j + 1) rfl (by omega) (by omega) ((hst.1 ⟨by omega, by omega, by omega⟩).symm) (by rw [if_neg (by omega)]) | exact ih _ (by omega) _ _ _ (j + 1) rfl (by omega) (by omega) ((hst.2 (by omega)).symm) hl
set_option maxRecDepth 10000 in
set_option maxHeartbeats 2000000 in
theorem c_entryFor {d : Nat} {sz : Nat} {κ : Nat × (Nat → Int32) × Option Nat} {A : Nat → Int → Int} {g : Nat → Nat} {σ : az_S} (hC : CR sz κ A g σ) (hI : MI sz A) {t : Int} (ht0 : 0 ≤ t) (ht1 : t < A 42 12) {x y : Int} (hx : inI x) (hy : inI y) : fn (d + 1) 91 [.ref (gT g t), .int (iI x), .int (iI y)] σ (.int (iI (mB A t x y))) := by
  have hth := hI.things
  have hTI := hI.thing t ht0 ht1
  obtain ⟨⟨he1, he2⟩, ⟨he3, he4⟩, hTe, hkg, hTc, hTo, hTs, hTl, hTf, hTm⟩ := hTI
  obtain ⟨hx1, hx2⟩ := hx
  obtain ⟨hy1, hy2⟩ := hy
  refine fn_of (M := (yX10_entryFor, cX10_entryFor, 6, (some .int))) (cd := k_X10_entryFor) (L := [some (.ref (gT g t)), some (.int (iI x)), some (.int (iI y)), none, none, none]) rfl (Nat.le_of_ble_eq_true rfl) rfl rfl ?_
  refine aw_iconst rfl rfl ?_
  refine aw_istore_n rfl (Nat.le_of_ble_eq_true rfl) rfl rfl ?_
  change aw _ _ _ _ 2 [some (.ref (gT g t)), some (.int (iI _)), some (.int (iI _)), some (.int (iI _)), none, none] _ _
  refine aw_iconst rfl rfl ?_
  refine aw_istore rfl (Nat.le_of_ble_eq_true rfl) rfl rfl ?_
  change aw _ _ _ _ 5 [some (.ref (gT g t)), some (.int (iI _)), some (.int (iI _)), some (.int (iI _)), some (.int (iI _)), none] _ _
  refine aw_iconst rfl rfl ?_
  refine aw_istore rfl (Nat.le_of_ble_eq_true rfl) rfl rfl ?_
  change aw _ _ _ _ 8 [some (.ref (gT g t)), some (.int (iI _)), some (.int (iI _)), some (.int (iI _)), some (.int (iI _)), some (.int (iI _))] _ _
  exact c_entryFor_l8 hC hI ht0 ht1 ⟨hx1, hx2⟩ ⟨hy1, hy2⟩ _ 0 (-1) (-1) 0 rfl (by omega) (by omega) rfl rfl
set_option maxRecDepth 10000 in
set_option maxHeartbeats 2000000 in
theorem c_heightOn_l51 {d : Nat} {sz : Nat} {κ : Nat × (Nat → Int32) × Option Nat} {A : Nat → Int → Int} {g : Nat → Nat} {σ : az_S} (hC : CR sz κ A g σ) (hI : MI sz A) {t : Int} (ht0 : 0 ≤ t) (ht1 : t < A 42 12) {x y : Int} (hx0 : 0 ≤ x) (hx1 : x ≤ 3599) (hy0 : 0 ≤ y) (hy1 : y ≤ 3599) : ∀ (v : Int) (hng : ¬ mGone A t x y),  aw (d + 1) k_X10_heightOn (some .int) (fun r τ => r = some (.int (iI (mH A t x y))) ∧ τ = σ) 51 [some (.ref (gT g t)), some (.int (iI x)), some (.int (iI y)), some (.int (iI v)), none] [] σ := by
  intro v hng
  have hcl := hI.clock
  obtain ⟨b1, b2, b3, b4, b5, b6⟩ := mB_facts (d := x) (k := y) (hI.thing t ht0 ht1) hng
  have hth := hI.things
  have hTI := hI.thing t ht0 ht1
  obtain ⟨⟨he1, he2⟩, ⟨he3, he4⟩, hTe, hkg, hTc, hTo, hTs, hTl, hTf, hTm⟩ := hTI
  refine aw_aload_n rfl rfl rfl ?_
  refine aw_iload_n rfl rfl rfl ?_
  refine aw_iload_n rfl rfl rfl ?_
  refine aw_fnc (c_entryFor hC hI (by omega) (by omega) ⟨by omega, by omega⟩ ⟨by omega, by omega⟩) rfl rfl rfl (Nat.le_of_ble_eq_true rfl) (Or.inr ⟨_, rfl, (hC.kT (by omega) (by omega))⟩) rfl ?_
  refine aw_istore rfl (Nat.le_of_ble_eq_true rfl) rfl rfl ?_
  change aw _ _ _ _ 59 [some (.ref (gT g t)), some (.int (iI _)), some (.int (iI _)), some (.int (iI _)), some (.int (iI _))] _ _
  refine aw_iload rfl rfl rfl ?_
  refine aw_if (p' := 74) rfl ⟨by omega, by omega⟩ rfl rfl (fun c1 => ?_) (fun c1 => ?_)
  · dsimp only [zc] at c1
    refine aw_iconst rfl rfl ?_
    refine aw_reti rfl ?_
    refine ⟨?_, rfl⟩
    omega
  · dsimp only [zc] at c1
    refine aw_iload rfl rfl rfl ?_
    refine aw_aload_n rfl rfl rfl ?_
    refine aw_getr (b := (gTd g t)) rfl rfl (hC.kT (by omega) (by omega)) (hC.rTd (by omega) (by omega)) rfl ?_
    refine aw_alen (N := 41) rfl (hC.sTd (by omega) (by omega)) (by decide) rfl ?_
    refine aw_icmp (p' := 76) rfl ⟨by omega, by omega⟩ ⟨by omega, by omega⟩ rfl rfl (fun c2 => ?_) (fun c2 => ?_)
    · dsimp only [zc] at c2
      refine aw_bipush rfl rfl rfl ?_
      refine aw_aload_n rfl rfl rfl ?_
      refine aw_getr (b := (gTh g t)) rfl rfl (hC.kT (by omega) (by omega)) (hC.rTh (by omega) (by omega)) rfl ?_
      refine aw_iload rfl rfl rfl ?_
      refine aw_ak (v := (A 58 (41 * t + (mB A t x y)))) (N := 41) rfl (hC.sTh (by omega) (by omega)) (by omega) (by omega) (by omega) (hC.vTh (by omega) (by omega) (by omega) (by omega)) rfl (fun _ _ => ?_)
      refine aw_aload_n rfl rfl rfl ?_
      refine aw_aload_n rfl rfl rfl ?_
      refine aw_getr (b := (gTd g t)) rfl rfl (hC.kT (by omega) (by omega)) (hC.rTd (by omega) (by omega)) rfl ?_
      refine aw_iload rfl rfl rfl ?_
      refine aw_ak (v := (A 57 (41 * t + (mB A t x y)))) (N := 41) rfl (hC.sTd (by omega) (by omega)) (by omega) (by omega) (by omega) (hC.vTd (by omega) (by omega) (by omega) (by omega)) rfl (fun _ _ => ?_)
      refine aw_iload_n rfl rfl rfl ?_
      refine aw_fnc (c_grown hC hI (by omega) (by omega) (by omega) (by omega) (by omega)) rfl rfl rfl (Nat.le_of_ble_eq_true rfl) (Or.inr ⟨_, rfl, (hC.kT (by omega) (by omega))⟩) rfl ?_
      have hq : 0 ≤ (if A 49 t = 1 then (x - A 57 (41 * t + mB A t x y)) / A 53 t else 0) ∧ (if A 49 t = 1 then (x - A 57 (41 * t + mB A t x y)) / A 53 t else 0) ≤ 3599 := by
        split
        · have := div_b (a := x - A 57 (41 * t + mB A t x y)) (g := A 53 t) (by omega) (by omega)
          omega
        · omega
      refine aw_iadd rfl rfl ?_
      refine aw_fnc (j_min ⟨by omega, by omega⟩ ⟨by omega, by omega⟩) rfl rfl rfl (Nat.le_of_ble_eq_true rfl) (Or.inl rfl) rfl ?_
      refine aw_reti rfl ?_
      refine ⟨?_, rfl⟩
      rw [mH_up hng]
      unfold mRaw
      have hmn : ∀ z : Int, (if z < 60 then z else 60) = (if 60 < z then 60 else z) := fun z => by split <;> split <;> omega
      rw [hmn]
    · dsimp only [zc] at c2
      refine aw_iconst rfl rfl ?_
      refine aw_reti rfl ?_
      refine ⟨?_, rfl⟩
      omega
set_option maxRecDepth 10000 in
set_option maxHeartbeats 2000000 in
theorem c_heightOn_l29 {d : Nat} {sz : Nat} {κ : Nat × (Nat → Int32) × Option Nat} {A : Nat → Int → Int} {g : Nat → Nat} {σ : az_S} (hC : CR sz κ A g σ) (hI : MI sz A) {t : Int} (ht0 : 0 ≤ t) (ht1 : t < A 42 12) {x y : Int} (hx0 : 0 ≤ x) (hx1 : x ≤ 3599) (hy0 : 0 ≤ y) (hy1 : y ≤ 3599) : ∀ (v : Int) (hv : v = bI (0 ≤ A 60 t ∧ A 60 t ≤ x ∧ A 61 t ≤ y)),  aw (d + 1) k_X10_heightOn (some .int) (fun r τ => r = some (.int (iI (mH A t x y))) ∧ τ = σ) 29 [some (.ref (gT g t)), some (.int (iI x)), some (.int (iI y)), some (.int (iI v)), none] [] σ := by
  intro v hv
  have hcl := hI.clock
  have hvr := bI_r (0 ≤ A 60 t ∧ A 60 t ≤ x ∧ A 61 t ≤ y)
  have hvz := bI_zero (0 ≤ A 60 t ∧ A 60 t ≤ x ∧ A 61 t ≤ y)
  rw [← hv] at hvr hvz
  have hth := hI.things
  have hTI := hI.thing t ht0 ht1
  obtain ⟨⟨he1, he2⟩, ⟨he3, he4⟩, hTe, hkg, hTc, hTo, hTs, hTl, hTf, hTm⟩ := hTI
  refine aw_aload_n rfl rfl rfl ?_
  refine aw_gk (v := (A 52 t)) (3) rfl rfl (hC.kT (by omega) (by omega)) rfl (hC.T3 (by omega) (by omega)) rfl (fun _ _ => ?_)
  refine aw_iload_n rfl rfl rfl ?_
  refine aw_icmp (p' := 49) rfl ⟨by omega, by omega⟩ ⟨by omega, by omega⟩ rfl rfl (fun c3 => ?_) (fun c3 => ?_)
  · dsimp only [zc] at c3
    refine aw_iconst rfl rfl ?_
    refine aw_reti rfl ?_
    refine ⟨?_, rfl⟩
    rw [mH_gone (by unfold mGone; omega)]
  · dsimp only [zc] at c3
    refine aw_aload_n rfl rfl rfl ?_
    refine aw_gk (v := (A 52 t)) (3) rfl rfl (hC.kT (by omega) (by omega)) rfl (hC.T3 (by omega) (by omega)) rfl (fun _ _ => ?_)
    refine aw_iload_n rfl rfl rfl ?_
    refine aw_icmp (p' := 49) rfl ⟨by omega, by omega⟩ ⟨by omega, by omega⟩ rfl rfl (fun c4 => ?_) (fun c4 => ?_)
    · dsimp only [zc] at c4
      refine aw_iconst rfl rfl ?_
      refine aw_reti rfl ?_
      refine ⟨?_, rfl⟩
      rw [mH_gone (by unfold mGone; omega)]
    · dsimp only [zc] at c4
      refine aw_iload_n rfl rfl rfl ?_
      refine aw_if (p' := 51) rfl ⟨by omega, by omega⟩ rfl rfl (fun c5 => ?_) (fun c5 => ?_)
      · dsimp only [zc] at c5
        exact c_heightOn_l51 hC hI ht0 ht1 hx0 hx1 hy0 hy1 _ (by unfold mGone; omega)
      · dsimp only [zc] at c5
        refine aw_iconst rfl rfl ?_
        refine aw_reti rfl ?_
        refine ⟨?_, rfl⟩
        rw [mH_gone (by unfold mGone; omega)]
set_option maxRecDepth 10000 in
set_option maxHeartbeats 2000000 in
theorem c_heightOn {d : Nat} {sz : Nat} {κ : Nat × (Nat → Int32) × Option Nat} {A : Nat → Int → Int} {g : Nat → Nat} {σ : az_S} (hC : CR sz κ A g σ) (hI : MI sz A) {t : Int} (ht0 : 0 ≤ t) (ht1 : t < A 42 12) {x y : Int} (hx0 : 0 ≤ x) (hx1 : x ≤ 3599) (hy0 : 0 ≤ y) (hy1 : y ≤ 3599) : fn (d + 2) 90 [.ref (gT g t), .int (iI x), .int (iI y)] σ (.int (iI (mH A t x y))) := by
  have hcl := hI.clock
  have hbf := mB_facts (d := x) (k := y) (hI.thing t ht0 ht1)
  have hth := hI.things
  have hTI := hI.thing t ht0 ht1
  obtain ⟨⟨he1, he2⟩, ⟨he3, he4⟩, hTe, hkg, hTc, hTo, hTs, hTl, hTf, hTm⟩ := hTI
  refine fn_of (M := (yX10_heightOn, cX10_heightOn, 5, (some .int))) (cd := k_X10_heightOn) (L := [some (.ref (gT g t)), some (.int (iI x)), some (.int (iI y)), none, none]) rfl (Nat.le_of_ble_eq_true rfl) rfl rfl ?_
  refine aw_aload_n rfl rfl rfl ?_
  refine aw_fnc (c_hasFallen hC hI (by omega) (by omega)) rfl rfl rfl (Nat.le_of_ble_eq_true rfl) (Or.inr ⟨_, rfl, (hC.kT (by omega) (by omega))⟩) rfl ?_
  refine aw_ifeqb (p' := 27) rfl rfl rfl (fun c6 => ?_) (fun c6 => ?_)
  · refine aw_iconst rfl rfl ?_
    refine aw_istore_n rfl (Nat.le_of_ble_eq_true rfl) rfl rfl ?_
    change aw _ _ _ _ 29 [some (.ref (gT g t)), some (.int (iI _)), some (.int (iI _)), some (.int (iI _)), none] _ _
    exact c_heightOn_l29 hC hI ht0 ht1 hx0 hx1 hy0 hy1 _ (by first | rw [bI_t ⟨by omega, by omega, by omega⟩] | rw [bI_f (by omega)])
  · refine aw_aload_n rfl rfl rfl ?_
    refine aw_gk (v := (A 60 t)) (11) rfl rfl (hC.kT (by omega) (by omega)) rfl (hC.T11 (by omega) (by omega)) rfl (fun _ _ => ?_)
    refine aw_iload_n rfl rfl rfl ?_
    refine aw_icmp (p' := 27) rfl ⟨by omega, by omega⟩ ⟨by omega, by omega⟩ rfl rfl (fun c7 => ?_) (fun c7 => ?_)
    · dsimp only [zc] at c7
      refine aw_iconst rfl rfl ?_
      refine aw_istore_n rfl (Nat.le_of_ble_eq_true rfl) rfl rfl ?_
      change aw _ _ _ _ 29 [some (.ref (gT g t)), some (.int (iI _)), some (.int (iI _)), some (.int (iI _)), none] _ _
      exact c_heightOn_l29 hC hI ht0 ht1 hx0 hx1 hy0 hy1 _ (by first | rw [bI_t ⟨by omega, by omega, by omega⟩] | rw [bI_f (by omega)])
    · dsimp only [zc] at c7
      refine aw_aload_n rfl rfl rfl ?_
      refine aw_gk (v := (A 61 t)) (12) rfl rfl (hC.kT (by omega) (by omega)) rfl (hC.T12 (by omega) (by omega) (by omega)) rfl (fun _ _ => ?_)
      refine aw_iload_n rfl rfl rfl ?_
      refine aw_icmp (p' := 27) rfl ⟨by omega, by omega⟩ ⟨by omega, by omega⟩ rfl rfl (fun c8 => ?_) (fun c8 => ?_)
      · dsimp only [zc] at c8
        refine aw_iconst rfl rfl ?_
        refine aw_istore_n rfl (Nat.le_of_ble_eq_true rfl) rfl rfl ?_
        change aw _ _ _ _ 29 [some (.ref (gT g t)), some (.int (iI _)), some (.int (iI _)), some (.int (iI _)), none] _ _
        exact c_heightOn_l29 hC hI ht0 ht1 hx0 hx1 hy0 hy1 _ (by first | rw [bI_t ⟨by omega, by omega, by omega⟩] | rw [bI_f (by omega)])
      · dsimp only [zc] at c8
        refine aw_iconst rfl rfl ?_
        refine aw_goto (p' := 28) rfl rfl ?_
        refine aw_istore_n rfl (Nat.le_of_ble_eq_true rfl) rfl rfl ?_
        change aw _ _ _ _ 29 [some (.ref (gT g t)), some (.int (iI _)), some (.int (iI _)), some (.int (iI _)), none] _ _
        exact c_heightOn_l29 hC hI ht0 ht1 hx0 hx1 hy0 hy1 _ (by first | rw [bI_t ⟨by omega, by omega, by omega⟩] | rw [bI_f (by omega)])
set_option maxRecDepth 10000 in
set_option maxHeartbeats 2000000 in
theorem c_entryValue {d : Nat} {sz : Nat} {κ : Nat × (Nat → Int32) × Option Nat} {A : Nat → Int → Int} {g : Nat → Nat} {σ : az_S} (hC : CR sz κ A g σ) (hI : MI sz A) {t : Int} (ht0 : 0 ≤ t) (ht1 : t < A 42 12) {i : Int} (hi : inI i) {w : Int} (hw : inI w) : fn (d + 1) 88 [.ref (gT g t), .int (iI i), .int (iI w)] σ (.int (iI (zit (0 ≤ i ∧ i ≤ A 56 t - 1) (if w = 0 then A 57 (41 * t + i) else if w = 1 then A 58 (41 * t + i) else if w = 2 then A 59 (41 * t + i) else -1) (-1)))) := by
  have hth := hI.things
  have hTI := hI.thing t ht0 ht1
  obtain ⟨⟨he1, he2⟩, ⟨he3, he4⟩, hTe, hkg, hTc, hTo, hTs, hTl, hTf, hTm⟩ := hTI
  obtain ⟨hi1, hi2⟩ := hi
  obtain ⟨hw1, hw2⟩ := hw
  refine fn_of (M := (yX10_entryValue, cX10_entryValue, 3, (some .int))) (cd := k_X10_entryValue) (L := [some (.ref (gT g t)), some (.int (iI i)), some (.int (iI w))]) rfl (Nat.le_of_ble_eq_true rfl) rfl rfl ?_
  refine aw_iload_n rfl rfl rfl ?_
  refine aw_if (p' := 21) rfl ⟨by omega, by omega⟩ rfl rfl (fun c1 => ?_) (fun c1 => ?_)
  · dsimp only [zc] at c1
    refine aw_iconst rfl rfl ?_
    refine aw_reti rfl ?_
    refine ⟨?_, rfl⟩
    first | rw [zit_f (by omega)] | (rw [zit_t (by omega)]; (repeat (first | rw [if_pos (by omega)] | rw [if_neg (by omega)])))
  · dsimp only [zc] at c1
    refine aw_iload_n rfl rfl rfl ?_
    refine aw_aload_n rfl rfl rfl ?_
    refine aw_gk (v := (A 56 t)) (10) rfl rfl (hC.kT (by omega) (by omega)) rfl (hC.T10 (by omega) (by omega)) rfl (fun _ _ => ?_)
    refine aw_icmp (p' := 21) rfl ⟨by omega, by omega⟩ ⟨by omega, by omega⟩ rfl rfl (fun c2 => ?_) (fun c2 => ?_)
    · dsimp only [zc] at c2
      refine aw_iconst rfl rfl ?_
      refine aw_reti rfl ?_
      refine ⟨?_, rfl⟩
      first | rw [zit_f (by omega)] | (rw [zit_t (by omega)]; (repeat (first | rw [if_pos (by omega)] | rw [if_neg (by omega)])))
    · dsimp only [zc] at c2
      refine aw_iload_n rfl rfl rfl ?_
      refine aw_aload_n rfl rfl rfl ?_
      refine aw_getr (b := (gTd g t)) rfl rfl (hC.kT (by omega) (by omega)) (hC.rTd (by omega) (by omega)) rfl ?_
      refine aw_alen (N := 41) rfl (hC.sTd (by omega) (by omega)) (by decide) rfl ?_
      refine aw_icmp (p' := 23) rfl ⟨by omega, by omega⟩ ⟨by omega, by omega⟩ rfl rfl (fun c3 => ?_) (fun c3 => ?_)
      · dsimp only [zc] at c3
        refine aw_iload_n rfl rfl rfl ?_
        refine aw_tsb (p' := 52) 0 rfl rfl ⟨by omega, by omega⟩ (by omega) rfl (fun c4 => ?_) (fun c4 => ?_)
        · refine aw_aload_n rfl rfl rfl ?_
          refine aw_getr (b := (gTd g t)) rfl rfl (hC.kT (by omega) (by omega)) (hC.rTd (by omega) (by omega)) rfl ?_
          refine aw_iload_n rfl rfl rfl ?_
          refine aw_ak (v := (A 57 (41 * t + i))) (N := 41) rfl (hC.sTd (by omega) (by omega)) (by omega) (by omega) (by omega) (hC.vTd (by omega) (by omega) (by omega) (by omega)) rfl (fun _ _ => ?_)
          refine aw_reti rfl ?_
          refine ⟨?_, rfl⟩
          first | rw [zit_f (by omega)] | (rw [zit_t (by omega)]; (repeat (first | rw [if_pos (by omega)] | rw [if_neg (by omega)])))
        refine aw_tsb (p' := 59) 1 rfl rfl ⟨by omega, by omega⟩ (by omega) rfl (fun c5 => ?_) (fun c5 => ?_)
        · refine aw_aload_n rfl rfl rfl ?_
          refine aw_getr (b := (gTh g t)) rfl rfl (hC.kT (by omega) (by omega)) (hC.rTh (by omega) (by omega)) rfl ?_
          refine aw_iload_n rfl rfl rfl ?_
          refine aw_ak (v := (A 58 (41 * t + i))) (N := 41) rfl (hC.sTh (by omega) (by omega)) (by omega) (by omega) (by omega) (hC.vTh (by omega) (by omega) (by omega) (by omega)) rfl (fun _ _ => ?_)
          refine aw_reti rfl ?_
          refine ⟨?_, rfl⟩
          first | rw [zit_f (by omega)] | (rw [zit_t (by omega)]; (repeat (first | rw [if_pos (by omega)] | rw [if_neg (by omega)])))
        refine aw_tsb (p' := 66) 2 rfl rfl ⟨by omega, by omega⟩ (by omega) rfl (fun c6 => ?_) (fun c6 => ?_)
        · refine aw_aload_n rfl rfl rfl ?_
          refine aw_getr (b := (gTt g t)) rfl rfl (hC.kT (by omega) (by omega)) (hC.rTt (by omega) (by omega)) rfl ?_
          refine aw_iload_n rfl rfl rfl ?_
          refine aw_ak (v := (A 59 (41 * t + i))) (N := 41) rfl (hC.sTt (by omega) (by omega)) (by omega) (by omega) (by omega) (hC.vTt (by omega) (by omega) (by omega) (by omega)) rfl (fun _ _ => ?_)
          refine aw_reti rfl ?_
          refine ⟨?_, rfl⟩
          first | rw [zit_f (by omega)] | (rw [zit_t (by omega)]; (repeat (first | rw [if_pos (by omega)] | rw [if_neg (by omega)])))
        refine aw_tsd (p' := 73) rfl ⟨by omega, by omega⟩ (by omega) rfl ?_
        refine aw_iconst rfl rfl ?_
        refine aw_reti rfl ?_
        refine ⟨?_, rfl⟩
        first | rw [zit_f (by omega)] | (rw [zit_t (by omega)]; (repeat (first | rw [if_pos (by omega)] | rw [if_neg (by omega)])))
      · dsimp only [zc] at c3
        refine aw_iconst rfl rfl ?_
        refine aw_reti rfl ?_
        refine ⟨?_, rfl⟩
        first | rw [zit_f (by omega)] | (rw [zit_t (by omega)]; (repeat (first | rw [if_pos (by omega)] | rw [if_neg (by omega)])))
set_option maxRecDepth 10000 in
set_option maxHeartbeats 2000000 in
theorem c_covers {d : Nat} {sz : Nat} {κ : Nat × (Nat → Int32) × Option Nat} {A : Nat → Int → Int} {g : Nat → Nat} {σ : az_S} (hC : CR sz κ A g σ) (hI : MI sz A) {j : Int} (hj0 : 0 ≤ j) (hj1 : j < A 42 27) {x h : Int} (hx0 : 0 ≤ x) (hx1 : x ≤ 3599) (hh0 : 0 ≤ h) (hh1 : h ≤ 11) : fn (d + 2) 2 [.ref (gG g j), .int (iI x), .int (iI h)] σ (.int (iI (bI ((A 66 j ≤ h ∧ h ≤ A 67 j) ∧ mMon A j (x % 360 / 30))))) := by
  have hgr := hI.grants
  have hcl := hI.clock
  obtain ⟨hG1, hG2, hG3, hG4, hG5, hG6, hG7, hG8⟩ := hI.grant j hj0 hj1
  refine fn_of (M := (yX0_covers, cX0_covers, 4, (some .boolean))) (cd := k_X0_covers) (L := [some (.ref (gG g j)), some (.int (iI x)), some (.int (iI h)), none]) rfl (Nat.le_of_ble_eq_true rfl) rfl rfl ?_
  refine aw_iload_n rfl rfl rfl ?_
  refine aw_aload_n rfl rfl rfl ?_
  refine aw_gk (v := (A 66 j)) (6) rfl rfl (hC.kG (by omega) (by omega)) rfl (hC.G6 (by omega) (by omega)) rfl (fun _ _ => ?_)
  refine aw_icmp (p' := 16) rfl ⟨by omega, by omega⟩ ⟨by omega, by omega⟩ rfl rfl (fun c1 => ?_) (fun c1 => ?_)
  · dsimp only [zc] at c1
    refine aw_iconst rfl rfl ?_
    refine aw_retn rfl (by first | rfl | exact bI_nar _) ?_
    refine ⟨?_, rfl⟩
    unfold mMon
    first | rw [bI_t (by omega)] | rw [bI_f (by omega)]
  · dsimp only [zc] at c1
    refine aw_iload_n rfl rfl rfl ?_
    refine aw_aload_n rfl rfl rfl ?_
    refine aw_gk (v := (A 67 j)) (7) rfl rfl (hC.kG (by omega) (by omega)) rfl (hC.G7 (by omega) (by omega)) rfl (fun _ _ => ?_)
    refine aw_icmp (p' := 18) rfl ⟨by omega, by omega⟩ ⟨by omega, by omega⟩ rfl rfl (fun c2 => ?_) (fun c2 => ?_)
    · dsimp only [zc] at c2
      refine aw_iload_n rfl rfl rfl ?_
      refine aw_fnc (c_monthOf (by omega) (by omega)) rfl rfl rfl (Nat.le_of_ble_eq_true rfl) (Or.inl rfl) rfl ?_
      refine aw_istore_n rfl (Nat.le_of_ble_eq_true rfl) rfl rfl ?_
      change aw _ _ _ _ 23 [some (.ref (gG g j)), some (.int (iI _)), some (.int (iI _)), some (.int (iI _))] _ _
      refine aw_aload_n rfl rfl rfl ?_
      refine aw_gk (v := (A 68 j)) (8) rfl rfl (hC.kG (by omega) (by omega)) rfl (hC.G8 (by omega) (by omega)) rfl (fun _ _ => ?_)
      refine aw_aload_n rfl rfl rfl ?_
      refine aw_gk (v := (A 69 j)) (9) rfl rfl (hC.kG (by omega) (by omega)) rfl (hC.G9 (by omega) (by omega)) rfl (fun _ _ => ?_)
      refine aw_icmp (p' := 56) rfl ⟨by omega, by omega⟩ ⟨by omega, by omega⟩ rfl rfl (fun c3 => ?_) (fun c3 => ?_)
      · dsimp only [zc] at c3
        refine aw_iload_n rfl rfl rfl ?_
        refine aw_aload_n rfl rfl rfl ?_
        refine aw_gk (v := (A 68 j)) (8) rfl rfl (hC.kG (by omega) (by omega)) rfl (hC.G8 (by omega) (by omega)) rfl (fun _ _ => ?_)
        refine aw_icmp (p' := 72) rfl ⟨by omega, by omega⟩ ⟨by omega, by omega⟩ rfl rfl (fun c4 => ?_) (fun c4 => ?_)
        · dsimp only [zc] at c4
          refine aw_iconst rfl rfl ?_
          refine aw_goto (p' := 77) rfl rfl ?_
          refine aw_retn rfl (by first | rfl | exact bI_nar _) ?_
          refine ⟨?_, rfl⟩
          unfold mMon
          first | rw [bI_t (by omega)] | rw [bI_f (by omega)]
        · dsimp only [zc] at c4
          refine aw_iload_n rfl rfl rfl ?_
          refine aw_aload_n rfl rfl rfl ?_
          refine aw_gk (v := (A 69 j)) (9) rfl rfl (hC.kG (by omega) (by omega)) rfl (hC.G9 (by omega) (by omega)) rfl (fun _ _ => ?_)
          refine aw_icmp (p' := 76) rfl ⟨by omega, by omega⟩ ⟨by omega, by omega⟩ rfl rfl (fun c5 => ?_) (fun c5 => ?_)
          · dsimp only [zc] at c5
            refine aw_iconst rfl rfl ?_
            refine aw_retn rfl (by first | rfl | exact bI_nar _) ?_
            refine ⟨?_, rfl⟩
            unfold mMon
            first | rw [bI_t (by omega)] | rw [bI_f (by omega)]
          · dsimp only [zc] at c5
            refine aw_iconst rfl rfl ?_
            refine aw_goto (p' := 77) rfl rfl ?_
            refine aw_retn rfl (by first | rfl | exact bI_nar _) ?_
            refine ⟨?_, rfl⟩
            unfold mMon
            first | rw [bI_t (by omega)] | rw [bI_f (by omega)]
      · dsimp only [zc] at c3
        refine aw_iload_n rfl rfl rfl ?_
        refine aw_aload_n rfl rfl rfl ?_
        refine aw_gk (v := (A 68 j)) (8) rfl rfl (hC.kG (by omega) (by omega)) rfl (hC.G8 (by omega) (by omega)) rfl (fun _ _ => ?_)
        refine aw_icmp (p' := 54) rfl ⟨by omega, by omega⟩ ⟨by omega, by omega⟩ rfl rfl (fun c6 => ?_) (fun c6 => ?_)
        · dsimp only [zc] at c6
          refine aw_iconst rfl rfl ?_
          refine aw_retn rfl (by first | rfl | exact bI_nar _) ?_
          refine ⟨?_, rfl⟩
          unfold mMon
          first | rw [bI_t (by omega)] | rw [bI_f (by omega)]
        · dsimp only [zc] at c6
          refine aw_iload_n rfl rfl rfl ?_
          refine aw_aload_n rfl rfl rfl ?_
          refine aw_gk (v := (A 69 j)) (9) rfl rfl (hC.kG (by omega) (by omega)) rfl (hC.G9 (by omega) (by omega)) rfl (fun _ _ => ?_)
          refine aw_icmp (p' := 54) rfl ⟨by omega, by omega⟩ ⟨by omega, by omega⟩ rfl rfl (fun c7 => ?_) (fun c7 => ?_)
          · dsimp only [zc] at c7
            refine aw_iconst rfl rfl ?_
            refine aw_retn rfl (by first | rfl | exact bI_nar _) ?_
            refine ⟨?_, rfl⟩
            unfold mMon
            first | rw [bI_t (by omega)] | rw [bI_f (by omega)]
          · dsimp only [zc] at c7
            refine aw_iconst rfl rfl ?_
            refine aw_goto (p' := 55) rfl rfl ?_
            refine aw_retn rfl (by first | rfl | exact bI_nar _) ?_
            refine ⟨?_, rfl⟩
            unfold mMon
            first | rw [bI_t (by omega)] | rw [bI_f (by omega)]
    · dsimp only [zc] at c2
      refine aw_iconst rfl rfl ?_
      refine aw_retn rfl (by first | rfl | exact bI_nar _) ?_
      refine ⟨?_, rfl⟩
      unfold mMon
      first | rw [bI_t (by omega)] | rw [bI_f (by omega)]
set_option maxRecDepth 10000 in
set_option maxHeartbeats 2000000 in
theorem c_holdsOn {d : Nat} {sz : Nat} {κ : Nat × (Nat → Int32) × Option Nat} {A : Nat → Int → Int} {g : Nat → Nat} {σ : az_S} (hC : CR sz κ A g σ) (hI : MI sz A) {j : Int} (hj0 : 0 ≤ j) (hj1 : j < A 42 27) {x y : Int} (hx0 : 0 ≤ x) (hx1 : x ≤ 3599) (hy0 : 0 ≤ y) (hy1 : y ≤ 3599) : fn (d + 2) 3 [.ref (gG g j), .int (iI x), .int (iI y)] σ (.int (iI (bI ((A 72 j = 0 ∧ A 70 j ≤ x) ∨ (A 72 j = 1 ∧ A 70 j ≤ x ∧ x ≤ A 71 j) ∨ (A 72 j = 2 ∧ 0 ≤ A 47 (A 63 j) ∧ A 48 (A 63 j) ≤ y ∧ A 47 (A 63 j) ≤ x))))) := by
  have hgr := hI.grants
  have hcl := hI.clock
  obtain ⟨hG1, hG2, hG3, hG4, hG5, hG6, hG7, hG8⟩ := hI.grant j hj0 hj1
  have hpe := hI.people
  refine fn_of (M := (yX0_holdsOn, cX0_holdsOn, 3, (some .boolean))) (cd := k_X0_holdsOn) (L := [some (.ref (gG g j)), some (.int (iI x)), some (.int (iI y))]) rfl (Nat.le_of_ble_eq_true rfl) rfl rfl ?_
  refine aw_aload_n rfl rfl rfl ?_
  refine aw_gk (v := (A 72 j)) (4) rfl rfl (hC.kG (by omega) (by omega)) rfl (hC.G4 (by omega) (by omega)) rfl (fun _ _ => ?_)
  refine aw_tsb (p' := 32) 0 rfl rfl ⟨by omega, by omega⟩ (by omega) rfl (fun c1 => ?_) (fun c1 => ?_)
  · refine aw_iload_n rfl rfl rfl ?_
    refine aw_aload_n rfl rfl rfl ?_
    refine aw_gk (v := (A 70 j)) (10) rfl rfl (hC.kG (by omega) (by omega)) rfl (hC.G10 (by omega) (by omega)) rfl (fun _ _ => ?_)
    refine aw_icmp (p' := 44) rfl ⟨by omega, by omega⟩ ⟨by omega, by omega⟩ rfl rfl (fun c2 => ?_) (fun c2 => ?_)
    · dsimp only [zc] at c2
      refine aw_iconst rfl rfl ?_
      refine aw_retn rfl (by first | rfl | exact bI_nar _) ?_
      refine ⟨?_, rfl⟩
      first | (rw [bI_t (by omega)]; done) | (rw [bI_f (by omega)]; done)
    · dsimp only [zc] at c2
      refine aw_iconst rfl rfl ?_
      refine aw_goto (p' := 45) rfl rfl ?_
      refine aw_retn rfl (by first | rfl | exact bI_nar _) ?_
      refine ⟨?_, rfl⟩
      first | (rw [bI_t (by omega)]; done) | (rw [bI_f (by omega)]; done)
  refine aw_tsb (p' := 46) 1 rfl rfl ⟨by omega, by omega⟩ (by omega) rfl (fun c3 => ?_) (fun c3 => ?_)
  · refine aw_iload_n rfl rfl rfl ?_
    refine aw_aload_n rfl rfl rfl ?_
    refine aw_gk (v := (A 70 j)) (10) rfl rfl (hC.kG (by omega) (by omega)) rfl (hC.G10 (by omega) (by omega)) rfl (fun _ _ => ?_)
    refine aw_icmp (p' := 66) rfl ⟨by omega, by omega⟩ ⟨by omega, by omega⟩ rfl rfl (fun c4 => ?_) (fun c4 => ?_)
    · dsimp only [zc] at c4
      refine aw_iconst rfl rfl ?_
      refine aw_retn rfl (by first | rfl | exact bI_nar _) ?_
      refine ⟨?_, rfl⟩
      first | (rw [bI_t (by omega)]; done) | (rw [bI_f (by omega)]; done)
    · dsimp only [zc] at c4
      refine aw_iload_n rfl rfl rfl ?_
      refine aw_aload_n rfl rfl rfl ?_
      refine aw_gk (v := (A 71 j)) (11) rfl rfl (hC.kG (by omega) (by omega)) rfl (hC.G11 (by omega) (by omega)) rfl (fun _ _ => ?_)
      refine aw_icmp (p' := 66) rfl ⟨by omega, by omega⟩ ⟨by omega, by omega⟩ rfl rfl (fun c5 => ?_) (fun c5 => ?_)
      · dsimp only [zc] at c5
        refine aw_iconst rfl rfl ?_
        refine aw_retn rfl (by first | rfl | exact bI_nar _) ?_
        refine ⟨?_, rfl⟩
        first | (rw [bI_t (by omega)]; done) | (rw [bI_f (by omega)]; done)
      · dsimp only [zc] at c5
        refine aw_iconst rfl rfl ?_
        refine aw_goto (p' := 67) rfl rfl ?_
        refine aw_retn rfl (by first | rfl | exact bI_nar _) ?_
        refine ⟨?_, rfl⟩
        first | (rw [bI_t (by omega)]; done) | (rw [bI_f (by omega)]; done)
  refine aw_tsb (p' := 68) 2 rfl rfl ⟨by omega, by omega⟩ (by omega) rfl (fun c6 => ?_) (fun c6 => ?_)
  · refine aw_aload_n rfl rfl rfl ?_
    refine aw_getr (b := (gP g (A 63 j))) rfl rfl (hC.kG (by omega) (by omega)) (hC.rG hj0 hj1) rfl ?_
    refine aw_ifnn rfl rfl ?_
    refine aw_aload_n rfl rfl rfl ?_
    refine aw_getr (b := (gP g (A 63 j))) rfl rfl (hC.kG (by omega) (by omega)) (hC.rG hj0 hj1) rfl ?_
    refine aw_iload_n rfl rfl rfl ?_
    refine aw_iload_n rfl rfl rfl ?_
    refine aw_fnc (c_wasDead hC hI (by omega) (by omega) (by omega) (by omega) (by omega) (by omega)) rfl rfl rfl (Nat.le_of_ble_eq_true rfl) (Or.inr ⟨_, rfl, (hC.kP (by omega) (by omega))⟩) rfl ?_
    refine aw_ifeqb (p' := 91) rfl rfl rfl (fun c7 => ?_) (fun c7 => ?_)
    · refine aw_iconst rfl rfl ?_
      refine aw_retn rfl (by first | rfl | exact bI_nar _) ?_
      refine ⟨?_, rfl⟩
      first | (rw [bI_t (by omega)]; done) | (rw [bI_f (by omega)]; done)
    · refine aw_iconst rfl rfl ?_
      refine aw_goto (p' := 92) rfl rfl ?_
      refine aw_retn rfl (by first | rfl | exact bI_nar _) ?_
      refine ⟨?_, rfl⟩
      first | (rw [bI_t (by omega)]; done) | (rw [bI_f (by omega)]; done)
  refine aw_tsd (p' := 93) rfl ⟨by omega, by omega⟩ (by omega) rfl ?_
  refine aw_iconst rfl rfl ?_
  refine aw_retn rfl (by first | rfl | exact bI_nar _) ?_
  refine ⟨?_, rfl⟩
  first | (rw [bI_t (by omega)]; done) | (rw [bI_f (by omega)]; done)
