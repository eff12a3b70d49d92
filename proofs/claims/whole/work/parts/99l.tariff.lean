theorem CR.cgA {sz : Nat} {κ : Nat × (Nat → Int32) × Option Nat} {A A' : Nat → Int → Int} {g : Nat → Nat} {σ : az_S} (h : CR sz κ A g σ) (hI : MI sz A) (e : ∀ (a : Nat) (z : Int), a ≠ 77 → a ≠ 78 → (a ≠ 42 ∨ (z ≠ 54 ∧ z ≠ 55)) → A' a z = A a z) : CR sz κ A' g σ := by
  have r : ∀ a : Nat, a ≠ 77 → a ≠ 78 → a ≠ 42 → A' a = A a := fun a h1 h2 h3 => funext fun z => e a z h1 h2 (Or.inl h3)
  have s : ∀ z : Int, z ≠ 54 → z ≠ 55 → A' 42 z = A 42 z := fun z h1 h2 => e 42 z (by decide) (by decide) (Or.inr ⟨h1, h2⟩)
  refine h.chF (S := []) hI Mod.rf rfl (fun a z q => e a z (by omega) (by omega) (by omega)) ⟨s 9 (by decide) (by decide), s 12 (by decide) (by decide), s 27 (by decide) (by decide), s 66 (by decide) (by decide)⟩ ?_
  obtain ⟨h1, h2, h3, h4, h5, h6, h7, h8⟩ := h.fix
  unfold cFix
  rw [s 3 (by decide) (by decide), s 0 (by decide) (by decide), s 1 (by decide) (by decide), s 2 (by decide) (by decide), s 6 (by decide) (by decide), s 48 (by decide) (by decide), s 49 (by decide) (by decide), s 40 (by decide) (by decide), s 85 (by decide) (by decide), s 86 (by decide) (by decide), r 43 (by decide) (by decide) (by decide), r 44 (by decide) (by decide) (by decide), r 45 (by decide) (by decide) (by decide), r 46 (by decide) (by decide) (by decide), r 74 (by decide) (by decide) (by decide), r 101 (by decide) (by decide) (by decide)]
  exact ⟨h1, h2, h3, h4, h5, h6, h7, h8⟩
set_option maxRecDepth 20000 in
set_option maxHeartbeats 4000000 in
theorem la_tariff {sz : Nat} {κ : Nat × (Nat → Int32) × Option Nat} {A : Nat → Int → Int} {g : Nat → Nat} {R : tRules} {σ : az_S} (hJ : JJ sz κ A g R σ) (hL : κ.1 ≤ 4610) {i : Int} (hi0 : 2 ≤ i) (hi1 : i + 8 < κ.1) {P : Option Value → az_S → Prop} (hP : ∀ τ, (∃ A' g' R', JJ sz κ A' g' R' τ) → az_n τ ≤ az_n σ + 10 → az_sl τ ≤ az_sl σ + 500 → aw 1049 k_L_law (some .boolean) P 1725 [some (.ref 1000000), some (.ref 0), some (.ref 42), some (.int (iI i))] [] τ) : aw 1049 k_L_law (some .boolean) P 1275 [some (.ref 1000000), some (.ref 0), some (.ref 42), some (.int (iI i))] [] σ := by
  obtain ⟨j1, j2, j3, j4, j5, j6, j7⟩ := id hJ
  have hb := j2.force.1
  refine aw_aload_n rfl rfl rfl ?_
  refine aw_calc ((c_tariff j2 j3).mono (d' := 1049) (Nat.le_of_ble_eq_true rfl)) rfl rfl rfl (Nat.le_of_ble_eq_true rfl) (Or.inr ⟨_, rfl, (j2.f.k 0 rfl)⟩) rfl ?_
  rintro r τ ⟨K, V', S, E, T, hTk, hkr, hcs⟩
  have hse : ∀ a, a ∈ [42, 75, 76, 77, 78, 79, 80, 81, 94, 95] → 42 ≤ a := by decide
  rcases hcs with ⟨R', hR', rfl, hch, hC1, hT1⟩ | ⟨f, x, rfl, hf, ⟨e, he, hwr, hwa⟩, hfi, hxi, hC1, hT1⟩
  · have hM1 := j1.kr hC1.f hkr.1
    change aw _ _ _ _ 1279 [some (.ref 1000000), some (.ref 0), some (.ref 42), some (.int (iI i))] [.int _] _
    refine aw_aload_n rfl rfl rfl ?_
    have hK0 : K T = 0 := (hTk.2.2 T hTk.2.1.1 (Int.le_refl _)).2.mpr rfl
    refine aw_calc ((m_tariff (d := 0) hM1 j3 hTk hch (Or.inr ⟨rfl, hK0⟩)).mono (d' := 1049) (Nat.le_of_ble_eq_true rfl)) rfl rfl rfl (Nat.le_of_ble_eq_true rfl) (Or.inr ⟨_, rfl, (hC1.f.k 42 rfl)⟩) rfl ?_
    rintro r υ ⟨hD, hcs⟩
    rcases hcs with ⟨_, rfl, A', hM2, hA', h54, h55, hmc⟩ | ⟨h0, _⟩
    · change aw _ _ _ _ 1283 [some (.ref 1000000), some (.ref 0), some (.ref 42), some (.int (iI i))] [.int _, .int _] _
      refine aw_ieq rfl rfl ?_
      have hIt : MI sz (tA A 0 (-1)) := j3.tar
      have eA : ∀ (a : Nat) (z : Int), a ≠ 77 → a ≠ 78 → (a ≠ 42 ∨ (z ≠ 54 ∧ z ≠ 55)) → A' a z = tA A 0 (-1) a z := hA'
      have hI' : MI sz A' := by
        refine hIt.cg (fun a z h1 h2 h3 h4 => eA a z h2 h3 (by omega)) ?_
        rw [eA 42 85 (by decide) (by decide) (by decide)]
        exact hIt.walks
      have hC2 := (hC1.mod hIt hD rfl).cgA hIt eA
      have hT2 : cTar υ (38 - g 700) R' := hT1.mod hD (fun a ha => by have := hse a ha; omega)
      have e12 : A' 42 12 = A 42 12 := by rw [eA 42 12 (by decide) (by decide) (by decide)]; simp [tA, up]
      have e56 : A' 56 = A 56 := by funext z; rw [eA 56 z (by decide) (by decide) (Or.inl (by decide))]; simp [tA, up]
      refine hP υ ⟨A', _, R', hM2, hC2, hI', fun t h0 h1 => ?_, hR', ⟨h54, h55, hmc⟩, ?_⟩ ?_ ?_
      · rw [e56]; rw [e12] at h1; exact j4 t h0 h1
      · rw [gs7_s]; exact hT2
      · have e1 : az_n υ = az_n τ := hD.1
        have := hkr.2.1
        omega
      · have e1 : az_sl υ = az_sl τ := hD.2.1
        have := hkr.2.2
        omega
    · exact absurd (show (0 : Int) < 0 from h0) (by decide)
  · have hM1 := j1.kr hC1.f hkr.1
    change aw _ _ _ _ 1279 [some (.ref 1000000), some (.ref 0), some (.ref 42), some (.int (iI i))] [.int _] _
    refine aw_aload_n rfl rfl rfl ?_
    refine aw_calc ((m_tariff (d := 0) hM1 j3 hTk he (Or.inl (by rw [hwr]; exact hf))).mono (d' := 1049) (Nat.le_of_ble_eq_true rfl)) rfl rfl rfl (Nat.le_of_ble_eq_true rfl) (Or.inr ⟨_, rfl, (hC1.f.k 42 rfl)⟩) rfl ?_
    rintro r υ ⟨hD, hcs⟩
    rcases hcs with ⟨h0, _⟩ | ⟨_, rfl, hM2⟩
    · exact absurd (hwr.symm.trans h0) hf
    · change aw _ _ _ _ 1283 [some (.ref 1000000), some (.ref 0), some (.ref 42), some (.int (iI i))] [.int _, .int _] _
      refine aw_ieq rfl rfl ?_
      rw [hwr, hwa] at hM2
      have hIt : MI sz (tA A f x) := j3.tar
      have hC2 := hC1.mod hIt hD rfl
      have hT2 : cTar υ (g 700) R := (hT1 R j7).mod hD (fun a ha => by have := hse a ha; omega)
      refine hP υ ⟨_, _, R, hM2, hC2, hIt, fun t h0 h1 => ?_, j5, mTar_cg j6 ?_ ?_ ?_ ?_, hT2⟩ ?_ ?_
      · have e12 : tA A f x 42 12 = A 42 12 := by simp [tA, up]
        have e56 : tA A f x 56 = A 56 := by funext z; simp [tA, up]
        rw [e56]; rw [e12] at h1; exact j4 t h0 h1
      · simp [tA, up]
      · simp [tA, up]
      · funext z; simp [tA, up]
      · funext z; simp [tA, up]
      · have e1 : az_n υ = az_n τ := hD.1
        have := hkr.2.1
        omega
      · have e1 : az_sl υ = az_sl τ := hD.2.1
        have := hkr.2.2
        omega
