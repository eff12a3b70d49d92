theorem CR.sP {sz : Nat} {κ : Nat × (Nat → Int32) × Option Nat} {A : Nat → Int → Int} {g : Nat → Nat} {σ : az_S} (h : CR sz κ A g σ) {t : Int} (h0 : 0 ≤ t) (h1 : t < A 42 9) : az_sh σ (gP g t) = (4, 2) := (h.person t h0 h1).1
theorem CR.kP {sz : Nat} {κ : Nat × (Nat → Int32) × Option Nat} {A : Nat → Int → Int} {g : Nat → Nat} {σ : az_S} (h : CR sz κ A g σ) {t : Int} (h0 : 0 ≤ t) (h1 : t < A 42 9) : (az_sh σ (gP g t)).1 = 4 := by rw [h.sP h0 h1]
theorem CR.P0 {sz : Nat} {κ : Nat × (Nat → Int32) × Option Nat} {A : Nat → Int → Int} {g : Nat → Nat} {σ : az_S} (h : CR sz κ A g σ) {t : Int} (h0 : 0 ≤ t) (h1 : t < A 42 9) : zx σ (gP g t) 0 = A 47 t := (h.person t h0 h1).2.1
theorem CR.P1 {sz : Nat} {κ : Nat × (Nat → Int32) × Option Nat} {A : Nat → Int → Int} {g : Nat → Nat} {σ : az_S} (h : CR sz κ A g σ) {t : Int} (h0 : 0 ≤ t) (h1 : t < A 42 9) (hx : 0 ≤ A 47 t) : zx σ (gP g t) 1 = A 48 t := (h.person t h0 h1).2.2 hx
theorem CR.sT {sz : Nat} {κ : Nat × (Nat → Int32) × Option Nat} {A : Nat → Int → Int} {g : Nat → Nat} {σ : az_S} (h : CR sz κ A g σ) {t : Int} (h0 : 0 ≤ t) (h1 : t < A 42 12) : az_sh σ (gT g t) = (11, 14) := (h.thing t h0 h1).1.1
theorem CR.sTd {sz : Nat} {κ : Nat × (Nat → Int32) × Option Nat} {A : Nat → Int → Int} {g : Nat → Nat} {σ : az_S} (h : CR sz κ A g σ) {t : Int} (h0 : 0 ≤ t) (h1 : t < A 42 12) : az_sh σ (gTd g t) = (100, 41) := (h.thing t h0 h1).1.2.1
theorem CR.sTh {sz : Nat} {κ : Nat × (Nat → Int32) × Option Nat} {A : Nat → Int → Int} {g : Nat → Nat} {σ : az_S} (h : CR sz κ A g σ) {t : Int} (h0 : 0 ≤ t) (h1 : t < A 42 12) : az_sh σ (gTh g t) = (100, 41) := (h.thing t h0 h1).1.2.2.1
theorem CR.sTt {sz : Nat} {κ : Nat × (Nat → Int32) × Option Nat} {A : Nat → Int → Int} {g : Nat → Nat} {σ : az_S} (h : CR sz κ A g σ) {t : Int} (h0 : 0 ≤ t) (h1 : t < A 42 12) : az_sh σ (gTt g t) = (100, 41) := (h.thing t h0 h1).1.2.2.2
theorem CR.kT {sz : Nat} {κ : Nat × (Nat → Int32) × Option Nat} {A : Nat → Int → Int} {g : Nat → Nat} {σ : az_S} (h : CR sz κ A g σ) {t : Int} (h0 : 0 ≤ t) (h1 : t < A 42 12) : (az_sh σ (gT g t)).1 = 11 := by rw [h.sT h0 h1]
theorem CR.rTd {sz : Nat} {κ : Nat × (Nat → Int32) × Option Nat} {A : Nat → Int → Int} {g : Nat → Nat} {σ : az_S} (h : CR sz κ A g σ) {t : Int} (h0 : 0 ≤ t) (h1 : t < A 42 12) : az_r σ (gT g t) 7 = some (gTd g t) := (h.thing t h0 h1).2.1.1
theorem CR.rTh {sz : Nat} {κ : Nat × (Nat → Int32) × Option Nat} {A : Nat → Int → Int} {g : Nat → Nat} {σ : az_S} (h : CR sz κ A g σ) {t : Int} (h0 : 0 ≤ t) (h1 : t < A 42 12) : az_r σ (gT g t) 8 = some (gTh g t) := (h.thing t h0 h1).2.1.2.1
theorem CR.rTt {sz : Nat} {κ : Nat × (Nat → Int32) × Option Nat} {A : Nat → Int → Int} {g : Nat → Nat} {σ : az_S} (h : CR sz κ A g σ) {t : Int} (h0 : 0 ≤ t) (h1 : t < A 42 12) : az_r σ (gT g t) 9 = some (gTt g t) := (h.thing t h0 h1).2.1.2.2
theorem CR.T0 {sz : Nat} {κ : Nat × (Nat → Int32) × Option Nat} {A : Nat → Int → Int} {g : Nat → Nat} {σ : az_S} (h : CR sz κ A g σ) {t : Int} (h0 : 0 ≤ t) (h1 : t < A 42 12) : zx σ (gT g t) 0 = A 49 t := (h.thing t h0 h1).2.2.1.1
theorem CR.T1 {sz : Nat} {κ : Nat × (Nat → Int32) × Option Nat} {A : Nat → Int → Int} {g : Nat → Nat} {σ : az_S} (h : CR sz κ A g σ) {t : Int} (h0 : 0 ≤ t) (h1 : t < A 42 12) : zx σ (gT g t) 1 = A 50 t := (h.thing t h0 h1).2.2.1.2.1
theorem CR.T2 {sz : Nat} {κ : Nat × (Nat → Int32) × Option Nat} {A : Nat → Int → Int} {g : Nat → Nat} {σ : az_S} (h : CR sz κ A g σ) {t : Int} (h0 : 0 ≤ t) (h1 : t < A 42 12) : zx σ (gT g t) 2 = A 51 t := (h.thing t h0 h1).2.2.1.2.2.1
theorem CR.T3 {sz : Nat} {κ : Nat × (Nat → Int32) × Option Nat} {A : Nat → Int → Int} {g : Nat → Nat} {σ : az_S} (h : CR sz κ A g σ) {t : Int} (h0 : 0 ≤ t) (h1 : t < A 42 12) : zx σ (gT g t) 3 = A 52 t := (h.thing t h0 h1).2.2.1.2.2.2.1
theorem CR.T4 {sz : Nat} {κ : Nat × (Nat → Int32) × Option Nat} {A : Nat → Int → Int} {g : Nat → Nat} {σ : az_S} (h : CR sz κ A g σ) {t : Int} (h0 : 0 ≤ t) (h1 : t < A 42 12) : zx σ (gT g t) 4 = A 53 t := (h.thing t h0 h1).2.2.1.2.2.2.2.1
theorem CR.T5 {sz : Nat} {κ : Nat × (Nat → Int32) × Option Nat} {A : Nat → Int → Int} {g : Nat → Nat} {σ : az_S} (h : CR sz κ A g σ) {t : Int} (h0 : 0 ≤ t) (h1 : t < A 42 12) : zx σ (gT g t) 5 = A 54 t := (h.thing t h0 h1).2.2.1.2.2.2.2.2.1
theorem CR.T6 {sz : Nat} {κ : Nat × (Nat → Int32) × Option Nat} {A : Nat → Int → Int} {g : Nat → Nat} {σ : az_S} (h : CR sz κ A g σ) {t : Int} (h0 : 0 ≤ t) (h1 : t < A 42 12) : zx σ (gT g t) 6 = A 55 t := (h.thing t h0 h1).2.2.1.2.2.2.2.2.2.1
theorem CR.T10 {sz : Nat} {κ : Nat × (Nat → Int32) × Option Nat} {A : Nat → Int → Int} {g : Nat → Nat} {σ : az_S} (h : CR sz κ A g σ) {t : Int} (h0 : 0 ≤ t) (h1 : t < A 42 12) : zx σ (gT g t) 10 = A 56 t := (h.thing t h0 h1).2.2.1.2.2.2.2.2.2.2.1
theorem CR.T11 {sz : Nat} {κ : Nat × (Nat → Int32) × Option Nat} {A : Nat → Int → Int} {g : Nat → Nat} {σ : az_S} (h : CR sz κ A g σ) {t : Int} (h0 : 0 ≤ t) (h1 : t < A 42 12) : zx σ (gT g t) 11 = A 60 t := (h.thing t h0 h1).2.2.1.2.2.2.2.2.2.2.2.1
theorem CR.T12 {sz : Nat} {κ : Nat × (Nat → Int32) × Option Nat} {A : Nat → Int → Int} {g : Nat → Nat} {σ : az_S} (h : CR sz κ A g σ) {t : Int} (h0 : 0 ≤ t) (h1 : t < A 42 12) (hx : 0 ≤ A 60 t) : zx σ (gT g t) 12 = A 61 t := (h.thing t h0 h1).2.2.1.2.2.2.2.2.2.2.2.2.1 hx
theorem CR.T13 {sz : Nat} {κ : Nat × (Nat → Int32) × Option Nat} {A : Nat → Int → Int} {g : Nat → Nat} {σ : az_S} (h : CR sz κ A g σ) {t : Int} (h0 : 0 ≤ t) (h1 : t < A 42 12) : zx σ (gT g t) 13 = A 62 t := (h.thing t h0 h1).2.2.1.2.2.2.2.2.2.2.2.2.2
theorem CR.vTd {sz : Nat} {κ : Nat × (Nat → Int32) × Option Nat} {A : Nat → Int → Int} {g : Nat → Nat} {σ : az_S} (h : CR sz κ A g σ) {t : Int} (h0 : 0 ≤ t) (h1 : t < A 42 12) {i : Int} (i0 : 0 ≤ i) (i1 : i < A 56 t) : zx σ (gTd g t) i = A 57 (41 * t + i) := ((h.thing t h0 h1).2.2.2 i i0 i1).1
theorem CR.vTh {sz : Nat} {κ : Nat × (Nat → Int32) × Option Nat} {A : Nat → Int → Int} {g : Nat → Nat} {σ : az_S} (h : CR sz κ A g σ) {t : Int} (h0 : 0 ≤ t) (h1 : t < A 42 12) {i : Int} (i0 : 0 ≤ i) (i1 : i < A 56 t) : zx σ (gTh g t) i = A 58 (41 * t + i) := ((h.thing t h0 h1).2.2.2 i i0 i1).2.1
theorem CR.vTt {sz : Nat} {κ : Nat × (Nat → Int32) × Option Nat} {A : Nat → Int → Int} {g : Nat → Nat} {σ : az_S} (h : CR sz κ A g σ) {t : Int} (h0 : 0 ≤ t) (h1 : t < A 42 12) {i : Int} (i0 : 0 ≤ i) (i1 : i < A 56 t) : zx σ (gTt g t) i = A 59 (41 * t + i) := ((h.thing t h0 h1).2.2.2 i i0 i1).2.2
theorem CR.sG {sz : Nat} {κ : Nat × (Nat → Int32) × Option Nat} {A : Nat → Int → Int} {g : Nat → Nat} {σ : az_S} (h : CR sz κ A g σ) {t : Int} (h0 : 0 ≤ t) (h1 : t < A 42 27) : az_sh σ (gG g t) = (1, 12) := (h.grant t h0 h1).1
theorem CR.kG {sz : Nat} {κ : Nat × (Nat → Int32) × Option Nat} {A : Nat → Int → Int} {g : Nat → Nat} {σ : az_S} (h : CR sz κ A g σ) {t : Int} (h0 : 0 ≤ t) (h1 : t < A 42 27) : (az_sh σ (gG g t)).1 = 1 := by rw [h.sG h0 h1]
theorem CR.rG {sz : Nat} {κ : Nat × (Nat → Int32) × Option Nat} {A : Nat → Int → Int} {g : Nat → Nat} {σ : az_S} (h : CR sz κ A g σ) {t : Int} (h0 : 0 ≤ t) (h1 : t < A 42 27) : az_r σ (gG g t) 1 = some (gP g (A 63 t)) := (h.grant t h0 h1).2.1
theorem CR.G0 {sz : Nat} {κ : Nat × (Nat → Int32) × Option Nat} {A : Nat → Int → Int} {g : Nat → Nat} {σ : az_S} (h : CR sz κ A g σ) {t : Int} (h0 : 0 ≤ t) (h1 : t < A 42 27) : zx σ (gG g t) 0 = A 63 t := (h.grant t h0 h1).2.2.1
theorem CR.G2 {sz : Nat} {κ : Nat × (Nat → Int32) × Option Nat} {A : Nat → Int → Int} {g : Nat → Nat} {σ : az_S} (h : CR sz κ A g σ) {t : Int} (h0 : 0 ≤ t) (h1 : t < A 42 27) : zx σ (gG g t) 2 = A 64 t := (h.grant t h0 h1).2.2.2.1
theorem CR.G3 {sz : Nat} {κ : Nat × (Nat → Int32) × Option Nat} {A : Nat → Int → Int} {g : Nat → Nat} {σ : az_S} (h : CR sz κ A g σ) {t : Int} (h0 : 0 ≤ t) (h1 : t < A 42 27) : zx σ (gG g t) 3 = A 65 t := (h.grant t h0 h1).2.2.2.2.1
theorem CR.G4 {sz : Nat} {κ : Nat × (Nat → Int32) × Option Nat} {A : Nat → Int → Int} {g : Nat → Nat} {σ : az_S} (h : CR sz κ A g σ) {t : Int} (h0 : 0 ≤ t) (h1 : t < A 42 27) : zx σ (gG g t) 4 = A 72 t := (h.grant t h0 h1).2.2.2.2.2.1
theorem CR.G5 {sz : Nat} {κ : Nat × (Nat → Int32) × Option Nat} {A : Nat → Int → Int} {g : Nat → Nat} {σ : az_S} (h : CR sz κ A g σ) {t : Int} (h0 : 0 ≤ t) (h1 : t < A 42 27) : zx σ (gG g t) 5 = A 73 t := (h.grant t h0 h1).2.2.2.2.2.2.1
theorem CR.G6 {sz : Nat} {κ : Nat × (Nat → Int32) × Option Nat} {A : Nat → Int → Int} {g : Nat → Nat} {σ : az_S} (h : CR sz κ A g σ) {t : Int} (h0 : 0 ≤ t) (h1 : t < A 42 27) : zx σ (gG g t) 6 = A 66 t := (h.grant t h0 h1).2.2.2.2.2.2.2.1
theorem CR.G7 {sz : Nat} {κ : Nat × (Nat → Int32) × Option Nat} {A : Nat → Int → Int} {g : Nat → Nat} {σ : az_S} (h : CR sz κ A g σ) {t : Int} (h0 : 0 ≤ t) (h1 : t < A 42 27) : zx σ (gG g t) 7 = A 67 t := (h.grant t h0 h1).2.2.2.2.2.2.2.2.1
theorem CR.G8 {sz : Nat} {κ : Nat × (Nat → Int32) × Option Nat} {A : Nat → Int → Int} {g : Nat → Nat} {σ : az_S} (h : CR sz κ A g σ) {t : Int} (h0 : 0 ≤ t) (h1 : t < A 42 27) : zx σ (gG g t) 8 = A 68 t := (h.grant t h0 h1).2.2.2.2.2.2.2.2.2.1
theorem CR.G9 {sz : Nat} {κ : Nat × (Nat → Int32) × Option Nat} {A : Nat → Int → Int} {g : Nat → Nat} {σ : az_S} (h : CR sz κ A g σ) {t : Int} (h0 : 0 ≤ t) (h1 : t < A 42 27) : zx σ (gG g t) 9 = A 69 t := (h.grant t h0 h1).2.2.2.2.2.2.2.2.2.2.1
theorem CR.G10 {sz : Nat} {κ : Nat × (Nat → Int32) × Option Nat} {A : Nat → Int → Int} {g : Nat → Nat} {σ : az_S} (h : CR sz κ A g σ) {t : Int} (h0 : 0 ≤ t) (h1 : t < A 42 27) : zx σ (gG g t) 10 = A 70 t := (h.grant t h0 h1).2.2.2.2.2.2.2.2.2.2.2.1
theorem CR.G11 {sz : Nat} {κ : Nat × (Nat → Int32) × Option Nat} {A : Nat → Int → Int} {g : Nat → Nat} {σ : az_S} (h : CR sz κ A g σ) {t : Int} (h0 : 0 ≤ t) (h1 : t < A 42 27) : zx σ (gG g t) 11 = A 71 t := (h.grant t h0 h1).2.2.2.2.2.2.2.2.2.2.2.2
theorem CR.sS {sz : Nat} {κ : Nat × (Nat → Int32) × Option Nat} {A : Nat → Int → Int} {g : Nat → Nat} {σ : az_S} (h : CR sz κ A g σ) {t : Int} (h0 : 0 ≤ t) (h1 : t < A 42 66) : az_sh σ (gS g t) = (8, 3) := (h.stall t h0 h1).1
theorem CR.kS {sz : Nat} {κ : Nat × (Nat → Int32) × Option Nat} {A : Nat → Int → Int} {g : Nat → Nat} {σ : az_S} (h : CR sz κ A g σ) {t : Int} (h0 : 0 ≤ t) (h1 : t < A 42 66) : (az_sh σ (gS g t)).1 = 8 := by rw [h.sS h0 h1]
theorem CR.sSp {sz : Nat} {κ : Nat × (Nat → Int32) × Option Nat} {A : Nat → Int → Int} {g : Nat → Nat} {σ : az_S} (h : CR sz κ A g σ) {t : Int} (h0 : 0 ≤ t) (h1 : t < A 42 66) : az_sh σ (gSp g t) = (100, 12) := (h.stall t h0 h1).2.1
theorem CR.rSp {sz : Nat} {κ : Nat × (Nat → Int32) × Option Nat} {A : Nat → Int → Int} {g : Nat → Nat} {σ : az_S} (h : CR sz κ A g σ) {t : Int} (h0 : 0 ≤ t) (h1 : t < A 42 66) : az_r σ (gS g t) 2 = some (gSp g t) := (h.stall t h0 h1).2.2.1
theorem CR.S0 {sz : Nat} {κ : Nat × (Nat → Int32) × Option Nat} {A : Nat → Int → Int} {g : Nat → Nat} {σ : az_S} (h : CR sz κ A g σ) {t : Int} (h0 : 0 ≤ t) (h1 : t < A 42 66) : zx σ (gS g t) 0 = A 85 t := (h.stall t h0 h1).2.2.2.1
theorem CR.S1 {sz : Nat} {κ : Nat × (Nat → Int32) × Option Nat} {A : Nat → Int → Int} {g : Nat → Nat} {σ : az_S} (h : CR sz κ A g σ) {t : Int} (h0 : 0 ≤ t) (h1 : t < A 42 66) : zx σ (gS g t) 1 = A 86 t := (h.stall t h0 h1).2.2.2.2.1
theorem CR.vSp {sz : Nat} {κ : Nat × (Nat → Int32) × Option Nat} {A : Nat → Int → Int} {g : Nat → Nat} {σ : az_S} (h : CR sz κ A g σ) {t : Int} (h0 : 0 ≤ t) (h1 : t < A 42 66) {i : Int} (i0 : 0 ≤ i) (i1 : i < 12) : zx σ (gSp g t) i = A 87 (12 * t + i) := (h.stall t h0 h1).2.2.2.2.2 i i0 i1
theorem CR.st0 {sz : Nat} {κ : Nat × (Nat → Int32) × Option Nat} {A : Nat → Int → Int} {g : Nat → Nat} {σ : az_S} (h : CR sz κ A g σ) : az_r σ 1000007 0 = some 1000001 := by rw [(h.k 1000007 (by decide)).2.2]; rfl
theorem CR.st1 {sz : Nat} {κ : Nat × (Nat → Int32) × Option Nat} {A : Nat → Int → Int} {g : Nat → Nat} {σ : az_S} (h : CR sz κ A g σ) : az_r σ 1000007 1 = some 1000002 := by rw [(h.k 1000007 (by decide)).2.2]; rfl
theorem CR.st2 {sz : Nat} {κ : Nat × (Nat → Int32) × Option Nat} {A : Nat → Int → Int} {g : Nat → Nat} {σ : az_S} (h : CR sz κ A g σ) : az_r σ 1000007 2 = some 1000003 := by rw [(h.k 1000007 (by decide)).2.2]; rfl
theorem CR.st4 {sz : Nat} {κ : Nat × (Nat → Int32) × Option Nat} {A : Nat → Int → Int} {g : Nat → Nat} {σ : az_S} (h : CR sz κ A g σ) : az_i σ 1000007 4 = iI 1 := by rw [(h.k 1000007 (by decide)).2.1]; rfl
set_option maxRecDepth 10000 in
set_option maxHeartbeats 2000000 in
theorem j_abs {d : Nat} {σ : az_S} {a : Int} (ha1 : -1000000000 ≤ a) (ha2 : a ≤ 1000000000) : fn (d + 1) 254 [.int (iI a)] σ (.int (iI (if a < 0 then -a else a))) := by
  refine fn_of (M := (yJ9_abs_0f7a4, cJ9_abs_0f7a4, 1, (some .int))) (cd := k_J9_abs_0f7a4) (L := [some (.int (iI a))]) rfl (Nat.le_of_ble_eq_true rfl) rfl rfl ?_
  refine aw_iload_n rfl rfl rfl ?_
  refine aw_if (p' := 9) rfl ⟨by omega, by omega⟩ rfl rfl (fun c1 => ?_) (fun c1 => ?_)
  · dsimp only [zc] at c1
    refine aw_iload_n rfl rfl rfl ?_
    refine aw_reti rfl ?_
    refine ⟨?_, rfl⟩
    first | rw [if_pos (by omega)] | rw [if_neg (by omega)]
  · dsimp only [zc] at c1
    refine aw_iload_n rfl rfl rfl ?_
    refine aw_ineg rfl rfl ?_
    refine aw_goto (p' := 10) rfl rfl ?_
    refine aw_reti rfl ?_
    refine ⟨?_, rfl⟩
    first | rw [if_pos (by omega)] | rw [if_neg (by omega)]
set_option maxRecDepth 10000 in
set_option maxHeartbeats 2000000 in
theorem j_max {d : Nat} {σ : az_S} {a b : Int} (ha : inI a) (hb : inI b) : fn (d + 1) 255 [.int (iI a), .int (iI b)] σ (.int (iI (if a < b then b else a))) := by
  obtain ⟨ha1, ha2⟩ := ha
  obtain ⟨hb1, hb2⟩ := hb
  refine fn_of (M := (yJ9_max_7cf53, cJ9_max_7cf53, 2, (some .int))) (cd := k_J9_max_7cf53) (L := [some (.int (iI a)), some (.int (iI b))]) rfl (Nat.le_of_ble_eq_true rfl) rfl rfl ?_
  refine aw_iload_n rfl rfl rfl ?_
  refine aw_iload_n rfl rfl rfl ?_
  refine aw_icmp (p' := 9) rfl ⟨by omega, by omega⟩ ⟨by omega, by omega⟩ rfl rfl (fun c1 => ?_) (fun c1 => ?_)
  · dsimp only [zc] at c1
    refine aw_iload_n rfl rfl rfl ?_
    refine aw_reti rfl ?_
    refine ⟨?_, rfl⟩
    first | rw [if_pos (by omega)] | rw [if_neg (by omega)]
  · dsimp only [zc] at c1
    refine aw_iload_n rfl rfl rfl ?_
    refine aw_goto (p' := 10) rfl rfl ?_
    refine aw_reti rfl ?_
    refine ⟨?_, rfl⟩
    first | rw [if_pos (by omega)] | rw [if_neg (by omega)]
set_option maxRecDepth 10000 in
set_option maxHeartbeats 2000000 in
theorem j_min {d : Nat} {σ : az_S} {a b : Int} (ha : inI a) (hb : inI b) : fn (d + 1) 257 [.int (iI a), .int (iI b)] σ (.int (iI (if b < a then b else a))) := by
  obtain ⟨ha1, ha2⟩ := ha
  obtain ⟨hb1, hb2⟩ := hb
  refine fn_of (M := (yJ9_min_7cf53, cJ9_min_7cf53, 2, (some .int))) (cd := k_J9_min_7cf53) (L := [some (.int (iI a)), some (.int (iI b))]) rfl (Nat.le_of_ble_eq_true rfl) rfl rfl ?_
  refine aw_iload_n rfl rfl rfl ?_
  refine aw_iload_n rfl rfl rfl ?_
  refine aw_icmp (p' := 9) rfl ⟨by omega, by omega⟩ ⟨by omega, by omega⟩ rfl rfl (fun c1 => ?_) (fun c1 => ?_)
  · dsimp only [zc] at c1
    refine aw_iload_n rfl rfl rfl ?_
    refine aw_reti rfl ?_
    refine ⟨?_, rfl⟩
    first | rw [if_pos (by omega)] | rw [if_neg (by omega)]
  · dsimp only [zc] at c1
    refine aw_iload_n rfl rfl rfl ?_
    refine aw_goto (p' := 10) rfl rfl ?_
    refine aw_reti rfl ?_
    refine ⟨?_, rfl⟩
    first | rw [if_pos (by omega)] | rw [if_neg (by omega)]
set_option maxRecDepth 10000 in
set_option maxHeartbeats 2000000 in
theorem j_lmax {d : Nat} {σ : az_S} {a b : Int} (ha1 : -9223372036854775808 ≤ a) (ha2 : a < 9223372036854775808) (hb1 : -9223372036854775808 ≤ b) (hb2 : b < 9223372036854775808) : fn (d + 1) 256 [.long (lI a), .long (lI b)] σ (.long (lI (if a < b then b else a))) := by
  refine fn_of (M := (yJ9_max_f86c9, cJ9_max_f86c9, 4, (some .long))) (cd := k_J9_max_f86c9) (L := [some (.long (lI a)), none, some (.long (lI b)), none]) rfl (Nat.le_of_ble_eq_true rfl) rfl rfl ?_
  refine aw_lload_n rfl rfl rfl ?_
  refine aw_lload_n rfl rfl rfl ?_
  refine aw_lcif (p' := 10) rfl rfl (by omega) (by omega) (by omega) (by omega) rfl rfl (fun c1 => ?_) (fun c1 => ?_)
  · dsimp only [zc] at c1
    refine aw_lload_n rfl rfl rfl ?_
    refine aw_retl rfl ?_
    refine ⟨?_, rfl⟩
    first | rw [if_pos (by omega)] | rw [if_neg (by omega)]
  · dsimp only [zc] at c1
    refine aw_lload_n rfl rfl rfl ?_
    refine aw_goto (p' := 11) rfl rfl ?_
    refine aw_retl rfl ?_
    refine ⟨?_, rfl⟩
    first | rw [if_pos (by omega)] | rw [if_neg (by omega)]
set_option maxRecDepth 10000 in
set_option maxHeartbeats 2000000 in
theorem j_lmin {d : Nat} {σ : az_S} {a b : Int} (ha1 : -9223372036854775808 ≤ a) (ha2 : a < 9223372036854775808) (hb1 : -9223372036854775808 ≤ b) (hb2 : b < 9223372036854775808) : fn (d + 1) 258 [.long (lI a), .long (lI b)] σ (.long (lI (if b < a then b else a))) := by
  refine fn_of (M := (yJ9_min_f86c9, cJ9_min_f86c9, 4, (some .long))) (cd := k_J9_min_f86c9) (L := [some (.long (lI a)), none, some (.long (lI b)), none]) rfl (Nat.le_of_ble_eq_true rfl) rfl rfl ?_
  refine aw_lload_n rfl rfl rfl ?_
  refine aw_lload_n rfl rfl rfl ?_
  refine aw_lcif (p' := 10) rfl rfl (by omega) (by omega) (by omega) (by omega) rfl rfl (fun c1 => ?_) (fun c1 => ?_)
  · dsimp only [zc] at c1
    refine aw_lload_n rfl rfl rfl ?_
    refine aw_retl rfl ?_
    refine ⟨?_, rfl⟩
    first | rw [if_pos (by omega)] | rw [if_neg (by omega)]
  · dsimp only [zc] at c1
    refine aw_lload_n rfl rfl rfl ?_
    refine aw_goto (p' := 11) rfl rfl ?_
    refine aw_retl rfl ?_
    refine ⟨?_, rfl⟩
    first | rw [if_pos (by omega)] | rw [if_neg (by omega)]
set_option maxRecDepth 10000 in
theorem j_check {d : Nat} {σ : az_S} {i n : Int} {o : Option Nat} (h0 : 0 ≤ i) (h1 : i < n) (hn : n ≤ 100000) : fn (d + 1) 280 [.int (iI i), .int (iI n), va_rf o] σ (.int (iI i)) := by
  refine fn_of (M := (yJ3_checkIndex_8e157, cJ3_checkIndex_8e157, 3, some .int)) (cd := k_J3_checkIndex_8e157) (L := [some (.int (iI i)), some (.int (iI n)), some (va_rf o)]) rfl (by cases o <;> exact Nat.le_of_ble_eq_true rfl) rfl (by cases o <;> rfl) ?_
  refine aw_iload_n rfl rfl rfl ?_
  refine aw_if (p' := 9) rfl ⟨by omega, by omega⟩ rfl rfl (fun c => ?_) (fun c => ?_)
  · dsimp only [zc] at c; omega
  · refine aw_iload_n rfl rfl rfl ?_
    refine aw_iload_n rfl rfl rfl ?_
    refine aw_icmp (p' := 16) rfl ⟨by omega, by omega⟩ ⟨by omega, by omega⟩ rfl rfl (fun c2 => ?_) (fun c2 => ?_)
    · refine aw_iload_n rfl rfl rfl ?_
      exact aw_reti rfl ⟨rfl, rfl⟩
    · dsimp only [zc] at c2; omega
set_option maxRecDepth 10000 in
theorem j_check2 {d : Nat} {σ : az_S} {i n : Int} (h0 : 0 ≤ i) (h1 : i < n) (hn : n ≤ 100000) : fn (d + 2) 278 [.int (iI i), .int (iI n)] σ (.int (iI i)) := by
  refine fn_of (M := (yJ15_checkIndex_7cf53, cJ15_checkIndex_7cf53, 2, some .int)) (cd := k_J15_checkIndex_7cf53) (L := [some (.int (iI i)), some (.int (iI n))]) rfl (Nat.le_of_ble_eq_true rfl) rfl rfl ?_
  refine aw_iload_n rfl rfl rfl ?_
  refine aw_iload_n rfl rfl rfl ?_
  refine aw_null rfl rfl ?_
  refine aw_fnc (j_check (o := none) h0 h1 hn) rfl rfl rfl (Nat.le_of_ble_eq_true rfl) (Or.inl rfl) rfl ?_
  exact aw_reti rfl ⟨rfl, rfl⟩
set_option maxRecDepth 10000 in
theorem c_size {d : Nat} {σ : az_S} {a : Nat} {n : Int} (hk : (az_sh σ a).1 = 0) (hn : zx σ a 2 = n) : fn (d + 1) 270 [.ref a] σ (.int (iI n)) := by
  refine fn_of (M := (yJx4a65c_size_8abf5, cJx4a65c_size_8abf5, 1, some .int)) (cd := k_Jx4a65c_size_8abf5) (L := [some (.ref a)]) rfl (Nat.le_of_ble_eq_true rfl) rfl rfl ?_
  refine aw_aload_n rfl rfl rfl ?_
  refine aw_gk (v := n) (2) rfl rfl hk rfl hn rfl (fun _ _ => ?_)
  exact aw_reti rfl ⟨rfl, rfl⟩
set_option maxRecDepth 10000 in
theorem c_elem {d : Nat} {σ : az_S} {a q : Nat} {n : Int} {el : Int → Nat} (hk : (az_sh σ a).1 = 0) (hl : cLS σ a n q el) {i : Int} (h0 : 0 ≤ i) (h1 : i < n) (hn : n ≤ 200) : fn (d + 1) 271 [.ref a, .int (iI i)] σ (.ref (el i)) := by
  obtain ⟨hl1, hl2, hl3⟩ := hl
  rcases hl3 with ⟨e, -⟩ | ⟨-, -, cap, e1, e2, e3, e4⟩
  · omega
  refine fn_of (M := (yJx4a65c_elementData_915e3, cJx4a65c_elementData_915e3, 2, some (.object "java/lang/Object"))) (cd := k_Jx4a65c_elementData_915e3) (L := [some (.ref a), some (.int (iI i))]) rfl (Nat.le_of_ble_eq_true rfl) rfl rfl ?_
  refine aw_aload_n rfl rfl rfl ?_
  refine aw_getr (b := q) rfl rfl hk hl2 rfl ?_
  refine aw_iload_n rfl rfl rfl ?_
  refine aw_aaload (b := el i) rfl e1 (by omega) h0 (by omega) (e4 i h0 h1) rfl ?_
  exact aw_retr (o := some _) rfl (Or.inl ⟨_, rfl⟩) ⟨rfl, rfl⟩
set_option maxRecDepth 10000 in
theorem c_get {d : Nat} {σ : az_S} {a q : Nat} {n : Int} {el : Int → Nat} (hk : (az_sh σ a).1 = 0) (hl : cLS σ a n q el) {i : Int} (h0 : 0 ≤ i) (h1 : i < n) (hn : n ≤ 200) : fn (d + 3) 272 [.ref a, .int (iI i)] σ (.ref (el i)) := by
  refine fn_of (M := (yJx4a65c_get_915e3, cJx4a65c_get_915e3, 2, some (.object "java/lang/Object"))) (cd := k_Jx4a65c_get_915e3) (L := [some (.ref a), some (.int (iI i))]) rfl (Nat.le_of_ble_eq_true rfl) rfl rfl ?_
  refine aw_iload_n rfl rfl rfl ?_
  refine aw_aload_n rfl rfl rfl ?_
  refine aw_gk (v := n) (2) rfl rfl hk rfl hl.1 rfl (fun _ _ => ?_)
  refine aw_fnc (j_check2 h0 h1 (by omega)) rfl rfl rfl (Nat.le_of_ble_eq_true rfl) (Or.inl rfl) rfl ?_
  refine aw_pop rfl rfl rfl ?_
  refine aw_aload_n rfl rfl rfl ?_
  refine aw_iload_n rfl rfl rfl ?_
  refine aw_fnc (c_elem hk hl h0 h1 hn) rfl rfl rfl (Nat.le_of_ble_eq_true rfl) (Or.inr ⟨_, rfl, hk⟩) rfl ?_
  exact aw_retr (o := some _) rfl (Or.inl ⟨_, rfl⟩) ⟨rfl, rfl⟩
set_option maxRecDepth 10000 in
theorem j_fill_l5 {d : Nat} {σ : az_S} {a N : Nat} {x : Int} (hN : N ≤ 10000) (hx : inI x) : ∀ (n : Nat) (τ : az_S) (k : Int), ((N : Int) - k).toNat = n → az_sh τ a = (100, N) → Mod σ τ [a] → 0 ≤ k → k ≤ N → (∀ w : Int, zx τ a w = if 0 ≤ w ∧ w < k then x else zx σ a w) → aw d k_J7_fill_53178 none (fun r τ => r = none ∧ Mod σ τ [a] ∧ ∀ w : Int, zx τ a w = if 0 ≤ w ∧ w < N then x else zx σ a w) 5 [some (.ref a), some (.int (iI x)), some (.int (iI k)), some (.int (iI (N : Int)))] [] τ := by
  intro n
  induction n using Nat.strongRecOn with
  | ind n ih =>
    intro τ k hn hs hD h0 h1 hU
    refine aw_iload_n rfl rfl rfl ?_
    refine aw_iload_n rfl rfl rfl ?_
    refine aw_icmp (p' := 20) rfl ⟨by omega, by omega⟩ ⟨by omega, by omega⟩ rfl rfl (fun c => ?_) (fun c => ?_)
    · dsimp only [zc] at c
      have e : k = N := by omega
      rw [e] at hU
      exact aw_retv rfl ⟨rfl, hD, hU⟩
    · dsimp only [zc] at c
      refine aw_aload_n rfl rfl rfl ?_
      refine aw_iload_n rfl rfl rfl ?_
      refine aw_iload_n rfl rfl rfl ?_
      refine aw_sz rfl hs hN h0 (by omega) rfl ?_
      refine aw_iinc rfl rfl rfl rfl ?_
      refine aw_goto (p' := 5) rfl rfl ?_
      refine ih _ (by omega) _ (k + 1) rfl hs (hD.tr (Mod_pi (by simp))) (by omega) (by omega) (fun w => ?_)
      rw [zx_pi h0 hx, hU w]
      split
      · rw [if_pos (by omega)]
      · split
        · rw [if_pos (by omega)]
        · rw [if_neg (by omega)]
set_option maxRecDepth 10000 in
theorem j_fill {d : Nat} {σ : az_S} {a N : Nat} {x : Int} (hs : az_sh σ a = (100, N)) (hN : N ≤ 10000) (hx : inI x) : cal (d + 1) 275 [.ref a, .int (iI x)] σ (fun r τ => r = none ∧ Mod σ τ [a] ∧ ∀ w : Int, zx τ a w = if 0 ≤ w ∧ w < N then x else zx σ a w) := by
  refine cal_of (M := (yJ7_fill_53178, cJ7_fill_53178, 4, none)) (cd := k_J7_fill_53178) (L := [some (.ref a), some (.int (iI x)), none, none]) rfl (Nat.le_of_ble_eq_true rfl) rfl rfl ?_
  refine aw_iconst rfl rfl ?_
  refine aw_istore_n rfl (Nat.le_of_ble_eq_true rfl) rfl rfl ?_
  refine aw_aload_n rfl rfl rfl ?_
  refine aw_alen (N := N) rfl hs (Or.inl ⟨by decide, by decide⟩) rfl ?_
  refine aw_istore_n rfl (Nat.le_of_ble_eq_true rfl) rfl rfl ?_
  change aw _ _ _ _ 5 [some (.ref a), some (.int (iI x)), some (.int (iI 0)), some (.int (iI (N : Int)))] _ _
  exact j_fill_l5 hN hx _ σ 0 rfl hs Mod.rf (by omega) (by omega) (fun w => by rw [if_neg (by omega)])
/-- division of numbers below 0 -/
theorem iI_tdiv {a b : Int} (ha : -1000000000 ≤ a) (ha2 : a ≤ 1000000000) (hb : 0 < b) (hb2 : b < 2147483648) : iI a / iI b = iI (a.tdiv b) := by
  rw [← Int32.toInt_inj, Int32.toInt_div, iI_toInt ⟨by omega, by omega⟩, iI_toInt ⟨by omega, by omega⟩]
  have h1 : -1000000000 ≤ a.tdiv b ∧ a.tdiv b ≤ 1000000000 := by
    rcases Int.lt_or_le a 0 with h | h
    · obtain ⟨n, hn⟩ := Int.eq_ofNat_of_zero_le (show 0 ≤ -a by omega)
      obtain rfl : a = -(n : Int) := by omega
      rw [Int.neg_tdiv, Int.tdiv_eq_ediv_of_nonneg (by omega)]
      have := div_b (a := (n : Int)) (g := b) (by omega) (by omega)
      omega
    · rw [Int.tdiv_eq_ediv_of_nonneg h]
      have := div_b (a := a) (g := b) h (by omega)
      omega
  rw [iI_toInt ⟨by omega, by omega⟩]
  exact Int.bmod_eq_of_le (by omega) (by omega)
theorem iI_xor (a b : Int) (ha : inI a) (hb : inI b) : ∃ c : Int, inI c ∧ iI a ^^^ iI b = iI c ∧ (c < 0 ↔ ¬ (a < 0 ↔ b < 0)) := by
  obtain ⟨c, hc, e⟩ := iI_of (iI a ^^^ iI b)
  refine ⟨c, hc, e, ?_⟩
  have m : ∀ z : Int, inI z → ((iI z).toBitVec.msb = true ↔ z < 0) := by
    intro z hz
    have h1 : (iI z).toBitVec.toInt = z := iI_toInt hz
    rw [BitVec.msb_eq_toInt, h1]
    simp
  have e2 : (iI c).toBitVec.msb = ((iI a).toBitVec.msb ^^ (iI b).toBitVec.msb) := by
    rw [← e, Int32.toBitVec_xor, BitVec.msb_xor]
  have ma := m a ha
  have mb := m b hb
  have mc := m c hc
  cases h1 : (iI a).toBitVec.msb <;> cases h2 : (iI b).toBitVec.msb <;> cases h3 : (iI c).toBitVec.msb <;> simp_all <;> omega
set_option maxRecDepth 10000 in
theorem j_floorDiv {d : Nat} {σ : az_S} {a : Int} (ha1 : -100000000 ≤ a) (ha2 : a ≤ 100000000) : fn (d + 1) 253 [.int (iI a), .int (iI 100)] σ (.int (iI (a / 100))) := by
  refine fn_of (M := (yJ9_floorDiv_7cf53, cJ9_floorDiv_7cf53, 3, some .int)) (cd := k_J9_floorDiv_7cf53) (L := [some (.int (iI a)), some (.int (iI 100)), none]) rfl (Nat.le_of_ble_eq_true rfl) rfl rfl ?_
  refine aw_iload_n rfl rfl rfl ?_
  refine aw_iload_n rfl rfl rfl ?_
  refine aw_nx (F := (3, _, .int (iI (a.tdiv 100)) :: [], σ)) rfl (Nat.le_of_ble_eq_true rfl) ⟨_, _, [], rfl, iI_ne0 ⟨by decide, by decide⟩ (by decide), by rw [iI_tdiv (by omega) (by omega) (by decide) (by decide)]⟩ ?_
  refine aw_istore_n rfl (Nat.le_of_ble_eq_true rfl) rfl rfl ?_
  change aw _ _ _ _ 4 [some (.int (iI a)), some (.int (iI 100)), some (.int (iI (a.tdiv 100)))] _ _
  refine aw_iload_n rfl rfl rfl ?_
  refine aw_iload_n rfl rfl rfl ?_
  obtain ⟨c, hc, e, hs⟩ := iI_xor a 100 ⟨by omega, by omega⟩ ⟨by decide, by decide⟩
  obtain ⟨hc1, hc2⟩ := hc
  refine aw_nx (F := (7, _, .int (iI c) :: [], σ)) rfl (Nat.le_of_ble_eq_true rfl) ⟨_, _, [], rfl, by rw [e]⟩ ?_
  have hq : a.tdiv 100 = if 0 ≤ a then a / 100 else -((-a) / 100) := by
    split
    · rw [Int.tdiv_eq_ediv_of_nonneg (by omega)]
    · rw [show a = -(-a) by omega, Int.neg_tdiv, Int.tdiv_eq_ediv_of_nonneg (by omega)]
      simp
  refine aw_if (p' := 21) rfl ⟨by omega, by omega⟩ rfl rfl (fun c1 => ?_) (fun c1 => ?_)
  · dsimp only [zc] at c1
    refine aw_iload_n rfl rfl rfl ?_
    refine aw_reti rfl ⟨?_, rfl⟩
    rw [hq, if_pos (by omega)]
  · dsimp only [zc] at c1
    refine aw_iload_n rfl rfl rfl ?_
    refine aw_iload_n rfl rfl rfl ?_
    refine aw_imul rfl rfl ?_
    refine aw_iload_n rfl rfl rfl ?_
    rw [if_neg (by omega)] at hq
    refine aw_icmp (p' := 21) rfl ⟨by omega, by omega⟩ ⟨by omega, by omega⟩ rfl rfl (fun c2 => ?_) (fun c2 => ?_)
    · dsimp only [zc] at c2
      refine aw_iload_n rfl rfl rfl ?_
      refine aw_reti rfl ⟨?_, rfl⟩
      rw [hq] at c2 ⊢
      congr 3
      omega
    · dsimp only [zc] at c2
      refine aw_iload_n rfl rfl rfl ?_
      refine aw_iconst rfl rfl ?_
      refine aw_isub rfl rfl ?_
      refine aw_reti rfl ⟨?_, rfl⟩
      rw [hq] at c2 ⊢
      congr 3
      omega
