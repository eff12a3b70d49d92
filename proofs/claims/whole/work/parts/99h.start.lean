/-! BOTH OBJECTS, JOINT -/
def Z0 : Nat → Int → Int := fun _ _ => 0
def I3 (w h : Int) : Nat → Int → Int := sI (up (up (up (up (up (up (up (up (up (up (up (up (up (up (sI Z0 2 3 144) 5 0 0) 6 0 0) 7 0 0) 8 0 0) 0 16 (-1)) 0 17 (-1)) 28 0 (cW w)) 28 1 (cH h)) 28 2 (cW w * cH h)) 42 48 (-1)) 42 49 (-1)) 42 0 (cW w)) 42 1 (cH h)) 42 2 (cW w * cH h)) 43 44 144
def Q3 : Nat → Int → Int := up Z0 33 8 (-1)
/-- the class and the reference show the same -/
def JJ (sz : Nat) (κ : Nat × (Nat → Int32) × Option Nat) (A : Nat → Int → Int) (g : Nat → Nat) (R : tRules) (σ : az_S) : Prop := MV sz A σ ∧ CR sz κ A g σ ∧ MI sz A ∧ (∀ t : Int, 0 ≤ t → t < A 42 12 → A 56 t ≤ 40) ∧ PW R ∧ mTar A R ∧ cTar σ (g 700) R
def g3 : Nat → Nat := fun c => if c = 700 then 16 else if c = 701 then 0 else 1000001
theorem rlM_in : fxl.all (fun q => rlM.contains q) = true := by decide +kernel
theorem BX.fx {sz : Nat} {κ : Nat × (Nat → Int32) × Option Nat} {I Q : Nat → Int → Int} {σ : az_S} (h : BX sz κ 103 rlM I Q σ) : FX sz σ := by
  refine ⟨h.1, fun a ha => h.s ha, fun a k b hb => ?_⟩
  have hm : (a, k, b) ∈ fxl := by
    unfold fxq at hb
    rw [Option.map_eq_some_iff] at hb
    obtain ⟨q, hq, he⟩ := hb
    have h1 := List.find?_some hq
    have h2 := List.mem_of_find?_eq_some hq
    simp only [Bool.and_eq_true, beq_iff_eq] at h1
    have : q = (a, k, b) := by
      obtain ⟨q1, q2, q3⟩ := q
      simp only at h1 he
      rw [h1.1, h1.2, he]
    rw [← this]; exact h2
  exact h.r a k b (List.contains_iff_mem.mp (List.all_eq_true.mp rlM_in _ hm))
theorem I3_42 (w h : Int) : I3 w h 42 0 = cW w ∧ I3 w h 42 1 = cH h ∧ I3 w h 42 2 = cW w * cH h ∧ I3 w h 42 3 = 0 ∧ I3 w h 42 6 = 0 ∧ I3 w h 42 9 = 0 ∧ I3 w h 42 12 = 0 ∧ I3 w h 42 27 = 0 ∧ I3 w h 42 40 = 0 ∧ I3 w h 42 48 = -1 ∧ I3 w h 42 49 = -1 ∧ I3 w h 42 54 = 0 ∧ I3 w h 42 55 = 0 ∧ I3 w h 42 66 = 0 ∧ I3 w h 42 85 = 0 := by
  simp [I3, sI, up, Z0]
theorem I3_c (w h : Int) : I3 w h 0 15 = 0 ∧ I3 w h 0 16 = -1 ∧ I3 w h 0 17 = -1 ∧ I3 w h 28 0 = cW w ∧ I3 w h 28 1 = cH h ∧ I3 w h 28 2 = cW w * cH h ∧ I3 w h 1 3 = 0 ∧ I3 w h 9 1 = 0 ∧ I3 w h 33 7 = 0 ∧ I3 w h 5 2 = 0 ∧ I3 w h 6 2 = 0 ∧ I3 w h 7 2 = 0 ∧ I3 w h 8 2 = 0 ∧ I3 w h 16 5 = 0 ∧ I3 w h 16 6 = 0 ∧ ∀ z, I3 w h 74 z = 0 := by
  simp [I3, sI, up, Z0]
theorem I3_sun (w h : Int) {j : Int} (h0 : 0 ≤ j) (h1 : j < 144) : (I3 w h 2 j = sunX j ∧ I3 w h 3 j = sunY j) ∧ I3 w h 43 j = sunX j ∧ I3 w h 44 j = sunY j := by
  simp [I3, sI, up, Z0, h0, h1]
theorem sun_b {j : Int} (h0 : 0 ≤ j) (h1 : j < 144) : (-300 ≤ sunX j ∧ sunX j ≤ 300) ∧ (-300 ≤ sunY j ∧ sunY j ≤ 300) := by
  unfold sunX sunY
  split <;> omega
set_option maxHeartbeats 2000000 in
theorem JJ_0 {sz : Nat} {κ : Nat × (Nat → Int32) × Option Nat} {σ : az_S} {w h : Int} (hB : BX sz κ 103 rlM (I3 w h) Q3 σ) (hz : cW w * cH h = (sz : Int)) : JJ sz κ (V σ) g3 [] σ := by
  have hf := hB.fx
  have i42 : zx σ 42 = I3 w h 42 := hB.i (by decide)
  obtain ⟨a0, a1, a2, a3, a6, a9, a12, a27, a40, a48, a49, a54, a55, a66, a85⟩ := I3_42 w h
  obtain ⟨c15, c16, c17, c0, c1, c2, c13, c91, c337, c5, c6, c7, c8, c165, c166, c74⟩ := I3_c w h
  have v : ∀ k : Int, V σ 42 k = zx σ 42 k → V σ 42 k = I3 w h 42 k := fun k q => by rw [q, i42]
  have v0 : V σ 42 0 = cW w := (v 0 rfl).trans a0
  have v1 : V σ 42 1 = cH h := (v 1 rfl).trans a1
  have v2 : V σ 42 2 = cW w * cH h := (v 2 rfl).trans a2
  have v3 : V σ 42 3 = 0 := (v 3 rfl).trans a3
  have v6 : V σ 42 6 = 0 := (v 6 rfl).trans a6
  have v9 : V σ 42 9 = 0 := (v 9 rfl).trans a9
  have v12 : V σ 42 12 = 0 := (v 12 rfl).trans a12
  have v27 : V σ 42 27 = 0 := (v 27 rfl).trans a27
  have v40 : V σ 42 40 = 0 := (v 40 rfl).trans a40
  have v48 : V σ 42 48 = -1 := (v 48 rfl).trans a48
  have v49 : V σ 42 49 = -1 := (v 49 rfl).trans a49
  have v54 : V σ 42 54 = 0 := (v 54 rfl).trans a54
  have v55 : V σ 42 55 = 0 := (v 55 rfl).trans a55
  have v66 : V σ 42 66 = 0 := (v 66 rfl).trans a66
  have v85 : V σ 42 85 = 0 := (v 85 rfl).trans a85
  have w43 : ∀ j, V σ 43 j = I3 w h 43 j := fun j => by show zx σ 43 j = _; rw [hB.i (by decide)]
  have w44 : ∀ j, V σ 44 j = I3 w h 44 j := fun j => by show zx σ 44 j = _; rw [hB.i (by decide)]
  have w74 : ∀ j, V σ 74 j = 0 := fun j => by show zx σ 74 j = _; rw [hB.i (by decide)]; exact c74 j
  have bw := cW_b w
  have bh := cH_b h
  have bz := wh_b w h
  have hn : az_n σ = 103 := hB.2.1
  have hl0 : ∀ c, ¬ live (V σ) c := by
    intro c q
    unfold live at q
    rw [v9, v12, v27, v66] at q
    have e : (0 : Int).toNat = 0 := rfl
    rw [e] at q
    omega
  have hI : MI sz (V σ) := by
    refine ⟨by rw [v0]; omega, by rw [v1]; omega, by rw [v2, v0, v1]; exact ⟨rfl, hz, by omega, by omega⟩, by rw [v3]; omega, fun j h0 h1 => ?_, by rw [v6]; omega, fun j h0 h1 => by rw [v6] at h1; omega, by rw [v9]; omega, fun j h0 h1 => by rw [v9] at h1; omega, by rw [v12]; omega, fun j h0 h1 => by rw [v12] at h1; omega, by rw [v27]; omega, fun j h0 h1 => by rw [v27] at h1; omega, by rw [v40]; omega, fun j h0 h1 => by rw [w74]; omega, by rw [v66]; omega, fun j h0 h1 => by rw [v66] at h1; omega, by rw [v85]; omega⟩
    have s := I3_sun w h h0 h1
    rw [w43, w44, s.2.1, s.2.2]
    exact sun_b h0 h1
  refine ⟨⟨hf, rfl⟩, ?_, hI, fun t h0 h1 => by rw [v12] at h1; omega, ⟨by decide, by decide, fun p hp => by cases hp⟩, ⟨by rw [v54]; rfl, by rw [v55]; rfl, trivial⟩, ⟨by show zx σ 16 5 = 0; rw [hB.i (by decide)]; exact c165, by show zx σ 16 6 = 0; rw [hB.i (by decide)]; exact c166, trivial⟩⟩
  have ls : ∀ a el, a = 5 ∨ a = 6 ∨ a = 7 ∨ a = 8 → cLS σ a 0 1000001 el := by
    intro a el ha
    rcases ha with rfl | rfl | rfl | rfl
    · exact ⟨by rw [hB.i (by decide)]; exact c5, hB.r 5 1 1000001 (by decide), Or.inl ⟨rfl, rfl⟩⟩
    · exact ⟨by rw [hB.i (by decide)]; exact c6, hB.r 6 1 1000001 (by decide), Or.inl ⟨rfl, rfl⟩⟩
    · exact ⟨by rw [hB.i (by decide)]; exact c7, hB.r 7 1 1000001 (by decide), Or.inl ⟨rfl, rfl⟩⟩
    · exact ⟨by rw [hB.i (by decide)]; exact c8, hB.r 8 1 1000001 (by decide), Or.inl ⟨rfl, rfl⟩⟩
  refine ⟨hf, hB.2.2.2.2.1, by omega, ?_, ?_, ?_, fun j h0 h1 => ?_, fun j h0 h1 => by rw [v6] at h1; omega, ?_, ?_, ?_, ⟨Or.inl rfl, hB.r 33 3 36 (by decide), hB.r 33 4 37 (by decide), hB.r 33 5 38 (by decide), hB.r 33 6 39 (by decide)⟩, ⟨Or.inl rfl, hB.r 0 13 16 (by decide), hB.r 0 14 22 (by decide)⟩, ?_, ?_, ?_, ?_, fun c hc => absurd hc (hl0 c), fun c c' hc => absurd hc (hl0 c), fun c c' h1 h2 h3 h4 e e2 => ?_, fun j h0 h1 => by rw [v9] at h1; omega, fun j h0 h1 => by rw [v12] at h1; omega, fun j h0 h1 => by rw [v27] at h1; omega, fun j h0 h1 => by rw [v66] at h1; omega, by omega⟩
  · rw [hB.i (by decide), c15, v3]
  · rw [hB.i (by decide), c0, c1, c2, v0, v1, v2]; exact ⟨rfl, rfl, rfl⟩
  · rw [hB.i (by decide), c13, v6]
  · have s := I3_sun w h h0 h1
    rw [hB.i (by decide), hB.i (by decide), w43, w44, s.1.1, s.1.2, s.2.1, s.2.2]
    exact ⟨rfl, rfl⟩
  · rw [hB.i (by decide), c16, c17, v48, v49]; exact ⟨rfl, rfl⟩
  · exact ⟨by rw [hB.i (by decide), c91, v40], fun j h0 h1 => by rw [v40] at h1; omega⟩
  · refine ⟨by rw [hB.i (by decide), c337, v85], ?_, fun j h0 h1 => by rw [v85] at h1; omega⟩
    rw [v85, if_neg (by omega), hB.2.2.2.2.2.2.2.1 33 (by decide)]
    simp [Q3, up]
  · rw [v9]; exact ls 5 _ (by decide)
  · rw [v12]; exact ls 6 _ (by decide)
  · rw [v27]; exact ls 7 _ (by decide)
  · rw [v66]; exact ls 8 _ (by decide)
  · exfalso
    have : g3 c = 1000001 := by unfold g3; rw [if_neg (by omega), if_neg (by omega)]
    omega
