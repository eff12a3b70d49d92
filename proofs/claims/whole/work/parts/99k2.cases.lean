set_option maxRecDepth 20000 in
set_option maxHeartbeats 4000000 in
theorem la_fell {sz : Nat} {κ : Nat × (Nat → Int32) × Option Nat} {A : Nat → Int → Int} {g : Nat → Nat} {R : tRules} {σ : az_S} (hJ : JJ sz κ A g R σ) (hlim : az_n σ ≤ 890000) (hL : κ.1 ≤ 4610) {i : Int} (hi0 : 2 ≤ i) (hi1 : i + 8 < κ.1) {P : Option Value → az_S → Prop} (hP : ∀ τ, (∃ A' g' R', JJ sz κ A' g' R' τ) → az_n τ ≤ az_n σ + 10 → az_sl τ ≤ az_sl σ + 500 → aw 1049 k_L_law (some .boolean) P 1725 [some (.ref 1000000), some (.ref 0), some (.ref 42), some (.int (iI i))] [] τ) : aw 1049 k_L_law (some .boolean) P 565 [some (.ref 1000000), some (.ref 0), some (.ref 42), some (.int (iI i))] [] σ := by
  obtain ⟨j1, j2, j3, j4, j5, j6, j7⟩ := id hJ
  have hG := hJ.ga
  refine aw_aload_n rfl rfl rfl ?_
  refine aw_aload_n rfl rfl rfl ?_
  refine aw_iload_n rfl rfl rfl ?_
  refine aw_iconst rfl rfl ?_
  refine aw_iadd rfl rfl ?_
  refine aw_scr j2.scr (by omega) (by omega) hL rfl rfl ?_
  refine aw_aload_n rfl rfl rfl ?_
  refine aw_iload_n rfl rfl rfl ?_
  refine aw_iconst rfl rfl ?_
  refine aw_iadd rfl rfl ?_
  refine aw_scr j2.scr (by omega) (by omega) hL rfl rfl ?_
  refine aw_calc (cf_or (Nat.le_of_ble_eq_true rfl) (c_fell (d := 0) j2 j3 (sx_b _ _) (sx_b _ _)) (fun q1 q2 => kp_T1 j2 j3 q1 q2)) rfl rfl rfl (Nat.le_of_ble_eq_true rfl) (Or.inr ⟨_, rfl, (j2.f.k 0 rfl)⟩) rfl ?_
  rintro _ τ ⟨rfl, g', hC1, hg, hK⟩
  have hM1 := j1.kr hC1.f hK.kr
  change aw _ _ _ _ 579 [some (.ref 1000000), some (.ref 0), some (.ref 42), some (.int (iI i))] [.int _] _
  refine aw_aload_n rfl rfl rfl ?_
  refine aw_aload_n rfl rfl rfl ?_
  refine aw_iload_n rfl rfl rfl ?_
  refine aw_iconst rfl rfl ?_
  refine aw_iadd rfl rfl ?_
  refine aw_scr hC1.scr (by omega) (by omega) hL rfl rfl ?_
  refine aw_aload_n rfl rfl rfl ?_
  refine aw_iload_n rfl rfl rfl ?_
  refine aw_iconst rfl rfl ?_
  refine aw_iadd rfl rfl ?_
  refine aw_scr hC1.scr (by omega) (by omega) hL rfl rfl ?_
  refine aw_calc (mf_mod (Nat.le_of_ble_eq_true rfl) (m_fell (d := 0) hM1 j3 (sx_b _ _) (sx_b _ _)) rfl) rfl rfl rfl (Nat.le_of_ble_eq_true rfl) (Or.inr ⟨_, rfl, (hC1.f.k 42 rfl)⟩) rfl ?_
  rintro _ υ ⟨rfl, hM2, S, hD, hS⟩
  change aw _ _ _ _ 593 [some (.ref 1000000), some (.ref 0), some (.ref 42), some (.int (iI i))] [.int _, .int _] _
  refine aw_ieq rfl rfl ?_
  obtain ⟨h1, h2, h3⟩ := JJ_next hJ (g_fell hG) hC1 hg hK hM2 hD hS
  exact hP υ ⟨_, _, _, h1⟩ h2 h3
set_option maxRecDepth 20000 in
set_option maxHeartbeats 4000000 in
theorem la_height {sz : Nat} {κ : Nat × (Nat → Int32) × Option Nat} {A : Nat → Int → Int} {g : Nat → Nat} {R : tRules} {σ : az_S} (hJ : JJ sz κ A g R σ) (hlim : az_n σ ≤ 890000) (hL : κ.1 ≤ 4610) {i : Int} (hi0 : 2 ≤ i) (hi1 : i + 8 < κ.1) {P : Option Value → az_S → Prop} (hP : ∀ τ, (∃ A' g' R', JJ sz κ A' g' R' τ) → az_n τ ≤ az_n σ + 10 → az_sl τ ≤ az_sl σ + 500 → aw 1049 k_L_law (some .boolean) P 1725 [some (.ref 1000000), some (.ref 0), some (.ref 42), some (.int (iI i))] [] τ) : aw 1049 k_L_law (some .boolean) P 598 [some (.ref 1000000), some (.ref 0), some (.ref 42), some (.int (iI i))] [] σ := by
  obtain ⟨j1, j2, j3, j4, j5, j6, j7⟩ := id hJ
  have hG := hJ.ga
  refine aw_aload_n rfl rfl rfl ?_
  refine aw_aload_n rfl rfl rfl ?_
  refine aw_iload_n rfl rfl rfl ?_
  refine aw_iconst rfl rfl ?_
  refine aw_iadd rfl rfl ?_
  refine aw_scr j2.scr (by omega) (by omega) hL rfl rfl ?_
  refine aw_aload_n rfl rfl rfl ?_
  refine aw_iload_n rfl rfl rfl ?_
  refine aw_iconst rfl rfl ?_
  refine aw_iadd rfl rfl ?_
  refine aw_scr j2.scr (by omega) (by omega) hL rfl rfl ?_
  refine aw_aload_n rfl rfl rfl ?_
  refine aw_iload_n rfl rfl rfl ?_
  refine aw_iconst rfl rfl ?_
  refine aw_iadd rfl rfl ?_
  refine aw_scr j2.scr (by omega) (by omega) hL rfl rfl ?_
  refine aw_calc (cf_fn j2 (Nat.le_of_ble_eq_true rfl) (c_height (d := 0) j2 j3 (sx_b _ _) (sx_b _ _) (sx_b _ _))) rfl rfl rfl (Nat.le_of_ble_eq_true rfl) (Or.inr ⟨_, rfl, (j2.f.k 0 rfl)⟩) rfl ?_
  rintro _ τ ⟨rfl, g', hC1, hg, hK⟩
  have hM1 := j1.kr hC1.f hK.kr
  change aw _ _ _ _ 617 [some (.ref 1000000), some (.ref 0), some (.ref 42), some (.int (iI i))] [.int _] _
  refine aw_aload_n rfl rfl rfl ?_
  refine aw_aload_n rfl rfl rfl ?_
  refine aw_iload_n rfl rfl rfl ?_
  refine aw_iconst rfl rfl ?_
  refine aw_iadd rfl rfl ?_
  refine aw_scr hC1.scr (by omega) (by omega) hL rfl rfl ?_
  refine aw_aload_n rfl rfl rfl ?_
  refine aw_iload_n rfl rfl rfl ?_
  refine aw_iconst rfl rfl ?_
  refine aw_iadd rfl rfl ?_
  refine aw_scr hC1.scr (by omega) (by omega) hL rfl rfl ?_
  refine aw_aload_n rfl rfl rfl ?_
  refine aw_iload_n rfl rfl rfl ?_
  refine aw_iconst rfl rfl ?_
  refine aw_iadd rfl rfl ?_
  refine aw_scr hC1.scr (by omega) (by omega) hL rfl rfl ?_
  refine aw_calc (mf_fn hM1 (Nat.le_of_ble_eq_true rfl) (m_height (d := 0) hM1 j3 (sx_b _ _) (sx_b _ _) (sx_b _ _))) rfl rfl rfl (Nat.le_of_ble_eq_true rfl) (Or.inr ⟨_, rfl, (hC1.f.k 42 rfl)⟩) rfl ?_
  rintro _ υ ⟨rfl, hM2, S, hD, hS⟩
  change aw _ _ _ _ 636 [some (.ref 1000000), some (.ref 0), some (.ref 42), some (.int (iI i))] [.int _, .int _] _
  refine aw_ieq rfl rfl ?_
  obtain ⟨h1, h2, h3⟩ := JJ_next hJ hG hC1 hg hK hM2 hD hS
  exact hP υ ⟨_, _, _, h1⟩ h2 h3
set_option maxRecDepth 20000 in
set_option maxHeartbeats 4000000 in
theorem la_measure {sz : Nat} {κ : Nat × (Nat → Int32) × Option Nat} {A : Nat → Int → Int} {g : Nat → Nat} {R : tRules} {σ : az_S} (hJ : JJ sz κ A g R σ) (hlim : az_n σ ≤ 890000) (hL : κ.1 ≤ 4610) {i : Int} (hi0 : 2 ≤ i) (hi1 : i + 8 < κ.1) {P : Option Value → az_S → Prop} (hP : ∀ τ, (∃ A' g' R', JJ sz κ A' g' R' τ) → az_n τ ≤ az_n σ + 10 → az_sl τ ≤ az_sl σ + 500 → aw 1049 k_L_law (some .boolean) P 1725 [some (.ref 1000000), some (.ref 0), some (.ref 42), some (.int (iI i))] [] τ) : aw 1049 k_L_law (some .boolean) P 641 [some (.ref 1000000), some (.ref 0), some (.ref 42), some (.int (iI i))] [] σ := by
  obtain ⟨j1, j2, j3, j4, j5, j6, j7⟩ := id hJ
  have hG := hJ.ga
  refine aw_aload_n rfl rfl rfl ?_
  refine aw_aload_n rfl rfl rfl ?_
  refine aw_iload_n rfl rfl rfl ?_
  refine aw_iconst rfl rfl ?_
  refine aw_iadd rfl rfl ?_
  refine aw_scr j2.scr (by omega) (by omega) hL rfl rfl ?_
  refine aw_aload_n rfl rfl rfl ?_
  refine aw_iload_n rfl rfl rfl ?_
  refine aw_iconst rfl rfl ?_
  refine aw_iadd rfl rfl ?_
  refine aw_scr j2.scr (by omega) (by omega) hL rfl rfl ?_
  refine aw_aload_n rfl rfl rfl ?_
  refine aw_iload_n rfl rfl rfl ?_
  refine aw_iconst rfl rfl ?_
  refine aw_iadd rfl rfl ?_
  refine aw_scr j2.scr (by omega) (by omega) hL rfl rfl ?_
  refine aw_calc (cf_or (Nat.le_of_ble_eq_true rfl) (c_measure (d := 0) j2 j3 (sx_b _ _) (sx_b _ _) (sx_b _ _) j4) (fun q1 q2 => kp_T j2 j3 q1 q2)) rfl rfl rfl (Nat.le_of_ble_eq_true rfl) (Or.inr ⟨_, rfl, (j2.f.k 0 rfl)⟩) rfl ?_
  rintro _ τ ⟨rfl, g', hC1, hg, hK⟩
  have hM1 := j1.kr hC1.f hK.kr
  change aw _ _ _ _ 660 [some (.ref 1000000), some (.ref 0), some (.ref 42), some (.int (iI i))] [.int _] _
  refine aw_aload_n rfl rfl rfl ?_
  refine aw_aload_n rfl rfl rfl ?_
  refine aw_iload_n rfl rfl rfl ?_
  refine aw_iconst rfl rfl ?_
  refine aw_iadd rfl rfl ?_
  refine aw_scr hC1.scr (by omega) (by omega) hL rfl rfl ?_
  refine aw_aload_n rfl rfl rfl ?_
  refine aw_iload_n rfl rfl rfl ?_
  refine aw_iconst rfl rfl ?_
  refine aw_iadd rfl rfl ?_
  refine aw_scr hC1.scr (by omega) (by omega) hL rfl rfl ?_
  refine aw_aload_n rfl rfl rfl ?_
  refine aw_iload_n rfl rfl rfl ?_
  refine aw_iconst rfl rfl ?_
  refine aw_iadd rfl rfl ?_
  refine aw_scr hC1.scr (by omega) (by omega) hL rfl rfl ?_
  refine aw_calc (mf_mod (Nat.le_of_ble_eq_true rfl) (m_measure (d := 0) hM1 j3 (sx_b _ _) (sx_b _ _) (sx_b _ _) j4) rfl) rfl rfl rfl (Nat.le_of_ble_eq_true rfl) (Or.inr ⟨_, rfl, (hC1.f.k 42 rfl)⟩) rfl ?_
  rintro _ υ ⟨rfl, hM2, S, hD, hS⟩
  change aw _ _ _ _ 679 [some (.ref 1000000), some (.ref 0), some (.ref 42), some (.int (iI i))] [.int _, .int _] _
  refine aw_ieq rfl rfl ?_
  obtain ⟨h1, h2, h3⟩ := JJ_next hJ (g_measure hG) hC1 hg hK hM2 hD hS
  exact hP υ ⟨_, _, _, h1⟩ h2 h3
set_option maxRecDepth 20000 in
set_option maxHeartbeats 4000000 in
theorem la_thing {sz : Nat} {κ : Nat × (Nat → Int32) × Option Nat} {A : Nat → Int → Int} {g : Nat → Nat} {R : tRules} {σ : az_S} (hJ : JJ sz κ A g R σ) (hlim : az_n σ ≤ 890000) (hL : κ.1 ≤ 4610) {i : Int} (hi0 : 2 ≤ i) (hi1 : i + 8 < κ.1) {P : Option Value → az_S → Prop} (hP : ∀ τ, (∃ A' g' R', JJ sz κ A' g' R' τ) → az_n τ ≤ az_n σ + 10 → az_sl τ ≤ az_sl σ + 500 → aw 1049 k_L_law (some .boolean) P 1725 [some (.ref 1000000), some (.ref 0), some (.ref 42), some (.int (iI i))] [] τ) : aw 1049 k_L_law (some .boolean) P 684 [some (.ref 1000000), some (.ref 0), some (.ref 42), some (.int (iI i))] [] σ := by
  obtain ⟨j1, j2, j3, j4, j5, j6, j7⟩ := id hJ
  have hG := hJ.ga
  refine aw_aload_n rfl rfl rfl ?_
  refine aw_aload_n rfl rfl rfl ?_
  refine aw_iload_n rfl rfl rfl ?_
  refine aw_iconst rfl rfl ?_
  refine aw_iadd rfl rfl ?_
  refine aw_scr j2.scr (by omega) (by omega) hL rfl rfl ?_
  refine aw_aload_n rfl rfl rfl ?_
  refine aw_iload_n rfl rfl rfl ?_
  refine aw_iconst rfl rfl ?_
  refine aw_iadd rfl rfl ?_
  refine aw_scr j2.scr (by omega) (by omega) hL rfl rfl ?_
  refine aw_calc (cf_fn j2 (Nat.le_of_ble_eq_true rfl) (c_thing (d := 0) j2 j3 (sx_b _ _) (sx_b _ _))) rfl rfl rfl (Nat.le_of_ble_eq_true rfl) (Or.inr ⟨_, rfl, (j2.f.k 0 rfl)⟩) rfl ?_
  rintro _ τ ⟨rfl, g', hC1, hg, hK⟩
  have hM1 := j1.kr hC1.f hK.kr
  change aw _ _ _ _ 698 [some (.ref 1000000), some (.ref 0), some (.ref 42), some (.int (iI i))] [.int _] _
  refine aw_aload_n rfl rfl rfl ?_
  refine aw_aload_n rfl rfl rfl ?_
  refine aw_iload_n rfl rfl rfl ?_
  refine aw_iconst rfl rfl ?_
  refine aw_iadd rfl rfl ?_
  refine aw_scr hC1.scr (by omega) (by omega) hL rfl rfl ?_
  refine aw_aload_n rfl rfl rfl ?_
  refine aw_iload_n rfl rfl rfl ?_
  refine aw_iconst rfl rfl ?_
  refine aw_iadd rfl rfl ?_
  refine aw_scr hC1.scr (by omega) (by omega) hL rfl rfl ?_
  refine aw_calc (mf_fn hM1 (Nat.le_of_ble_eq_true rfl) (m_thing (d := 0) hM1 j3 (sx_b _ _) (sx_b _ _))) rfl rfl rfl (Nat.le_of_ble_eq_true rfl) (Or.inr ⟨_, rfl, (hC1.f.k 42 rfl)⟩) rfl ?_
  rintro _ υ ⟨rfl, hM2, S, hD, hS⟩
  change aw _ _ _ _ 712 [some (.ref 1000000), some (.ref 0), some (.ref 42), some (.int (iI i))] [.int _, .int _] _
  refine aw_ieq rfl rfl ?_
  obtain ⟨h1, h2, h3⟩ := JJ_next hJ hG hC1 hg hK hM2 hD hS
  exact hP υ ⟨_, _, _, h1⟩ h2 h3
set_option maxRecDepth 20000 in
set_option maxHeartbeats 4000000 in
theorem la_entry {sz : Nat} {κ : Nat × (Nat → Int32) × Option Nat} {A : Nat → Int → Int} {g : Nat → Nat} {R : tRules} {σ : az_S} (hJ : JJ sz κ A g R σ) (hlim : az_n σ ≤ 890000) (hL : κ.1 ≤ 4610) {i : Int} (hi0 : 2 ≤ i) (hi1 : i + 8 < κ.1) {P : Option Value → az_S → Prop} (hP : ∀ τ, (∃ A' g' R', JJ sz κ A' g' R' τ) → az_n τ ≤ az_n σ + 10 → az_sl τ ≤ az_sl σ + 500 → aw 1049 k_L_law (some .boolean) P 1725 [some (.ref 1000000), some (.ref 0), some (.ref 42), some (.int (iI i))] [] τ) : aw 1049 k_L_law (some .boolean) P 717 [some (.ref 1000000), some (.ref 0), some (.ref 42), some (.int (iI i))] [] σ := by
  obtain ⟨j1, j2, j3, j4, j5, j6, j7⟩ := id hJ
  have hG := hJ.ga
  refine aw_aload_n rfl rfl rfl ?_
  refine aw_aload_n rfl rfl rfl ?_
  refine aw_iload_n rfl rfl rfl ?_
  refine aw_iconst rfl rfl ?_
  refine aw_iadd rfl rfl ?_
  refine aw_scr j2.scr (by omega) (by omega) hL rfl rfl ?_
  refine aw_aload_n rfl rfl rfl ?_
  refine aw_iload_n rfl rfl rfl ?_
  refine aw_iconst rfl rfl ?_
  refine aw_iadd rfl rfl ?_
  refine aw_scr j2.scr (by omega) (by omega) hL rfl rfl ?_
  refine aw_aload_n rfl rfl rfl ?_
  refine aw_iload_n rfl rfl rfl ?_
  refine aw_iconst rfl rfl ?_
  refine aw_iadd rfl rfl ?_
  refine aw_scr j2.scr (by omega) (by omega) hL rfl rfl ?_
  refine aw_calc (cf_fn j2 (Nat.le_of_ble_eq_true rfl) (c_entry (d := 0) j2 j3 (sx_b _ _) (sx_b _ _) (sx_b _ _))) rfl rfl rfl (Nat.le_of_ble_eq_true rfl) (Or.inr ⟨_, rfl, (j2.f.k 0 rfl)⟩) rfl ?_
  rintro _ τ ⟨rfl, g', hC1, hg, hK⟩
  have hM1 := j1.kr hC1.f hK.kr
  change aw _ _ _ _ 736 [some (.ref 1000000), some (.ref 0), some (.ref 42), some (.int (iI i))] [.int _] _
  refine aw_aload_n rfl rfl rfl ?_
  refine aw_aload_n rfl rfl rfl ?_
  refine aw_iload_n rfl rfl rfl ?_
  refine aw_iconst rfl rfl ?_
  refine aw_iadd rfl rfl ?_
  refine aw_scr hC1.scr (by omega) (by omega) hL rfl rfl ?_
  refine aw_aload_n rfl rfl rfl ?_
  refine aw_iload_n rfl rfl rfl ?_
  refine aw_iconst rfl rfl ?_
  refine aw_iadd rfl rfl ?_
  refine aw_scr hC1.scr (by omega) (by omega) hL rfl rfl ?_
  refine aw_aload_n rfl rfl rfl ?_
  refine aw_iload_n rfl rfl rfl ?_
  refine aw_iconst rfl rfl ?_
  refine aw_iadd rfl rfl ?_
  refine aw_scr hC1.scr (by omega) (by omega) hL rfl rfl ?_
  refine aw_calc (mf_fn hM1 (Nat.le_of_ble_eq_true rfl) (m_entry (d := 0) hM1 j3 (sx_b _ _) (sx_b _ _) (sx_b _ _))) rfl rfl rfl (Nat.le_of_ble_eq_true rfl) (Or.inr ⟨_, rfl, (hC1.f.k 42 rfl)⟩) rfl ?_
  rintro _ υ ⟨rfl, hM2, S, hD, hS⟩
  change aw _ _ _ _ 755 [some (.ref 1000000), some (.ref 0), some (.ref 42), some (.int (iI i))] [.int _, .int _] _
  refine aw_ieq rfl rfl ?_
  obtain ⟨h1, h2, h3⟩ := JJ_next hJ hG hC1 hg hK hM2 hD hS
  exact hP υ ⟨_, _, _, h1⟩ h2 h3
set_option maxRecDepth 20000 in
set_option maxHeartbeats 4000000 in
theorem la_grant {sz : Nat} {κ : Nat × (Nat → Int32) × Option Nat} {A : Nat → Int → Int} {g : Nat → Nat} {R : tRules} {σ : az_S} (hJ : JJ sz κ A g R σ) (hlim : az_n σ ≤ 890000) (hL : κ.1 ≤ 4610) {i : Int} (hi0 : 2 ≤ i) (hi1 : i + 8 < κ.1) {P : Option Value → az_S → Prop} (hP : ∀ τ, (∃ A' g' R', JJ sz κ A' g' R' τ) → az_n τ ≤ az_n σ + 10 → az_sl τ ≤ az_sl σ + 500 → aw 1049 k_L_law (some .boolean) P 1725 [some (.ref 1000000), some (.ref 0), some (.ref 42), some (.int (iI i))] [] τ) : aw 1049 k_L_law (some .boolean) P 760 [some (.ref 1000000), some (.ref 0), some (.ref 42), some (.int (iI i))] [] σ := by
  obtain ⟨j1, j2, j3, j4, j5, j6, j7⟩ := id hJ
  have hG := hJ.ga
  refine aw_aload_n rfl rfl rfl ?_
  refine aw_aload_n rfl rfl rfl ?_
  refine aw_iload_n rfl rfl rfl ?_
  refine aw_iconst rfl rfl ?_
  refine aw_iadd rfl rfl ?_
  refine aw_scr j2.scr (by omega) (by omega) hL rfl rfl ?_
  refine aw_aload_n rfl rfl rfl ?_
  refine aw_iload_n rfl rfl rfl ?_
  refine aw_iconst rfl rfl ?_
  refine aw_iadd rfl rfl ?_
  refine aw_scr j2.scr (by omega) (by omega) hL rfl rfl ?_
  refine aw_aload_n rfl rfl rfl ?_
  refine aw_iload_n rfl rfl rfl ?_
  refine aw_iconst rfl rfl ?_
  refine aw_iadd rfl rfl ?_
  refine aw_scr j2.scr (by omega) (by omega) hL rfl rfl ?_
  refine aw_aload_n rfl rfl rfl ?_
  refine aw_iload_n rfl rfl rfl ?_
  refine aw_iconst rfl rfl ?_
  refine aw_iadd rfl rfl ?_
  refine aw_scr j2.scr (by omega) (by omega) hL rfl rfl ?_
  refine aw_aload_n rfl rfl rfl ?_
  refine aw_iload_n rfl rfl rfl ?_
  refine aw_iconst rfl rfl ?_
  refine aw_iadd rfl rfl ?_
  refine aw_scr j2.scr (by omega) (by omega) hL rfl rfl ?_
  refine aw_aload_n rfl rfl rfl ?_
  refine aw_iload_n rfl rfl rfl ?_
  refine aw_bipush rfl rfl rfl ?_
  refine aw_iadd rfl rfl ?_
  refine aw_scr j2.scr (by omega) (by omega) hL rfl rfl ?_
  refine aw_aload_n rfl rfl rfl ?_
  refine aw_iload_n rfl rfl rfl ?_
  refine aw_bipush rfl rfl rfl ?_
  refine aw_iadd rfl rfl ?_
  refine aw_scr j2.scr (by omega) (by omega) hL rfl rfl ?_
  refine aw_aload_n rfl rfl rfl ?_
  refine aw_iload_n rfl rfl rfl ?_
  refine aw_bipush rfl rfl rfl ?_
  refine aw_iadd rfl rfl ?_
  refine aw_scr j2.scr (by omega) (by omega) hL rfl rfl ?_
  refine aw_calc (cal.mono (c_grant (d := 0) j2 j3 hlim (sx_b _ _) (sx_b _ _) (sx_b _ _) (sx_b _ _) (sx_b _ _) (sx_b _ _) (sx_b _ _) (sx_b _ _)) (Nat.le_of_ble_eq_true rfl)) rfl rfl rfl (Nat.le_of_ble_eq_true rfl) (Or.inr ⟨_, rfl, (j2.f.k 0 rfl)⟩) rfl ?_
  rintro _ τ ⟨rfl, g', hC1, hg, hK⟩
  have hM1 := j1.kr hC1.f hK.kr
  change aw _ _ _ _ 807 [some (.ref 1000000), some (.ref 0), some (.ref 42), some (.int (iI i))] [.int _] _
  refine aw_aload_n rfl rfl rfl ?_
  refine aw_aload_n rfl rfl rfl ?_
  refine aw_iload_n rfl rfl rfl ?_
  refine aw_iconst rfl rfl ?_
  refine aw_iadd rfl rfl ?_
  refine aw_scr hC1.scr (by omega) (by omega) hL rfl rfl ?_
  refine aw_aload_n rfl rfl rfl ?_
  refine aw_iload_n rfl rfl rfl ?_
  refine aw_iconst rfl rfl ?_
  refine aw_iadd rfl rfl ?_
  refine aw_scr hC1.scr (by omega) (by omega) hL rfl rfl ?_
  refine aw_aload_n rfl rfl rfl ?_
  refine aw_iload_n rfl rfl rfl ?_
  refine aw_iconst rfl rfl ?_
  refine aw_iadd rfl rfl ?_
  refine aw_scr hC1.scr (by omega) (by omega) hL rfl rfl ?_
  refine aw_aload_n rfl rfl rfl ?_
  refine aw_iload_n rfl rfl rfl ?_
  refine aw_iconst rfl rfl ?_
  refine aw_iadd rfl rfl ?_
  refine aw_scr hC1.scr (by omega) (by omega) hL rfl rfl ?_
  refine aw_aload_n rfl rfl rfl ?_
  refine aw_iload_n rfl rfl rfl ?_
  refine aw_iconst rfl rfl ?_
  refine aw_iadd rfl rfl ?_
  refine aw_scr hC1.scr (by omega) (by omega) hL rfl rfl ?_
  refine aw_aload_n rfl rfl rfl ?_
  refine aw_iload_n rfl rfl rfl ?_
  refine aw_bipush rfl rfl rfl ?_
  refine aw_iadd rfl rfl ?_
  refine aw_scr hC1.scr (by omega) (by omega) hL rfl rfl ?_
  refine aw_aload_n rfl rfl rfl ?_
  refine aw_iload_n rfl rfl rfl ?_
  refine aw_bipush rfl rfl rfl ?_
  refine aw_iadd rfl rfl ?_
  refine aw_scr hC1.scr (by omega) (by omega) hL rfl rfl ?_
  refine aw_aload_n rfl rfl rfl ?_
  refine aw_iload_n rfl rfl rfl ?_
  refine aw_bipush rfl rfl rfl ?_
  refine aw_iadd rfl rfl ?_
  refine aw_scr hC1.scr (by omega) (by omega) hL rfl rfl ?_
  refine aw_calc (mf_mod (Nat.le_of_ble_eq_true rfl) (m_grant (d := 0) hM1 j3 (sx_b _ _) (sx_b _ _) (sx_b _ _) (sx_b _ _) (sx_b _ _) (sx_b _ _) (sx_b _ _) (sx_b _ _)) rfl) rfl rfl rfl (Nat.le_of_ble_eq_true rfl) (Or.inr ⟨_, rfl, (hC1.f.k 42 rfl)⟩) rfl ?_
  rintro _ υ ⟨rfl, hM2, S, hD, hS⟩
  change aw _ _ _ _ 854 [some (.ref 1000000), some (.ref 0), some (.ref 42), some (.int (iI i))] [.int _, .int _] _
  refine aw_ieq rfl rfl ?_
  obtain ⟨h1, h2, h3⟩ := JJ_next hJ (g_grant hG) hC1 hg hK hM2 hD hS
  exact hP υ ⟨_, _, _, h1⟩ h2 h3
set_option maxRecDepth 20000 in
set_option maxHeartbeats 4000000 in
theorem la_holder {sz : Nat} {κ : Nat × (Nat → Int32) × Option Nat} {A : Nat → Int → Int} {g : Nat → Nat} {R : tRules} {σ : az_S} (hJ : JJ sz κ A g R σ) (hlim : az_n σ ≤ 890000) (hL : κ.1 ≤ 4610) {i : Int} (hi0 : 2 ≤ i) (hi1 : i + 8 < κ.1) {P : Option Value → az_S → Prop} (hP : ∀ τ, (∃ A' g' R', JJ sz κ A' g' R' τ) → az_n τ ≤ az_n σ + 10 → az_sl τ ≤ az_sl σ + 500 → aw 1049 k_L_law (some .boolean) P 1725 [some (.ref 1000000), some (.ref 0), some (.ref 42), some (.int (iI i))] [] τ) : aw 1049 k_L_law (some .boolean) P 859 [some (.ref 1000000), some (.ref 0), some (.ref 42), some (.int (iI i))] [] σ := by
  obtain ⟨j1, j2, j3, j4, j5, j6, j7⟩ := id hJ
  have hG := hJ.ga
  refine aw_aload_n rfl rfl rfl ?_
  refine aw_aload_n rfl rfl rfl ?_
  refine aw_iload_n rfl rfl rfl ?_
  refine aw_iconst rfl rfl ?_
  refine aw_iadd rfl rfl ?_
  refine aw_scr j2.scr (by omega) (by omega) hL rfl rfl ?_
  refine aw_aload_n rfl rfl rfl ?_
  refine aw_iload_n rfl rfl rfl ?_
  refine aw_iconst rfl rfl ?_
  refine aw_iadd rfl rfl ?_
  refine aw_scr j2.scr (by omega) (by omega) hL rfl rfl ?_
  refine aw_aload_n rfl rfl rfl ?_
  refine aw_iload_n rfl rfl rfl ?_
  refine aw_iconst rfl rfl ?_
  refine aw_iadd rfl rfl ?_
  refine aw_scr j2.scr (by omega) (by omega) hL rfl rfl ?_
  refine aw_aload_n rfl rfl rfl ?_
  refine aw_iload_n rfl rfl rfl ?_
  refine aw_iconst rfl rfl ?_
  refine aw_iadd rfl rfl ?_
  refine aw_scr j2.scr (by omega) (by omega) hL rfl rfl ?_
  refine aw_calc (cf_mod (Nat.le_of_ble_eq_true rfl) (c_holder (d := 0) j2 j3 (sx_b _ _) (sx_b _ _) (sx_b _ _) (sx_b _ _)) (kp_c rfl)) rfl rfl rfl (Nat.le_of_ble_eq_true rfl) (Or.inr ⟨_, rfl, (j2.f.k 0 rfl)⟩) rfl ?_
  rintro _ τ ⟨rfl, g', hC1, hg, hK⟩
  have hM1 := j1.kr hC1.f hK.kr
  change aw _ _ _ _ 883 [some (.ref 1000000), some (.ref 0), some (.ref 42), some (.int (iI i))] [.int _] _
  refine aw_aload_n rfl rfl rfl ?_
  refine aw_aload_n rfl rfl rfl ?_
  refine aw_iload_n rfl rfl rfl ?_
  refine aw_iconst rfl rfl ?_
  refine aw_iadd rfl rfl ?_
  refine aw_scr hC1.scr (by omega) (by omega) hL rfl rfl ?_
  refine aw_aload_n rfl rfl rfl ?_
  refine aw_iload_n rfl rfl rfl ?_
  refine aw_iconst rfl rfl ?_
  refine aw_iadd rfl rfl ?_
  refine aw_scr hC1.scr (by omega) (by omega) hL rfl rfl ?_
  refine aw_aload_n rfl rfl rfl ?_
  refine aw_iload_n rfl rfl rfl ?_
  refine aw_iconst rfl rfl ?_
  refine aw_iadd rfl rfl ?_
  refine aw_scr hC1.scr (by omega) (by omega) hL rfl rfl ?_
  refine aw_aload_n rfl rfl rfl ?_
  refine aw_iload_n rfl rfl rfl ?_
  refine aw_iconst rfl rfl ?_
  refine aw_iadd rfl rfl ?_
  refine aw_scr hC1.scr (by omega) (by omega) hL rfl rfl ?_
  refine aw_calc (mf_fn hM1 (Nat.le_of_ble_eq_true rfl) (m_holder (d := 0) hM1 j3 (sx_b _ _) (sx_b _ _) (sx_b _ _) (sx_b _ _))) rfl rfl rfl (Nat.le_of_ble_eq_true rfl) (Or.inr ⟨_, rfl, (hC1.f.k 42 rfl)⟩) rfl ?_
  rintro _ υ ⟨rfl, hM2, S, hD, hS⟩
  change aw _ _ _ _ 907 [some (.ref 1000000), some (.ref 0), some (.ref 42), some (.int (iI i))] [.int _, .int _] _
  refine aw_ieq rfl rfl ?_
  obtain ⟨h1, h2, h3⟩ := JJ_next hJ hG hC1 hg hK hM2 hD hS
  exact hP υ ⟨_, _, _, h1⟩ h2 h3
set_option maxRecDepth 20000 in
set_option maxHeartbeats 4000000 in
theorem la_shaded {sz : Nat} {κ : Nat × (Nat → Int32) × Option Nat} {A : Nat → Int → Int} {g : Nat → Nat} {R : tRules} {σ : az_S} (hJ : JJ sz κ A g R σ) (hlim : az_n σ ≤ 890000) (hL : κ.1 ≤ 4610) {i : Int} (hi0 : 2 ≤ i) (hi1 : i + 8 < κ.1) {P : Option Value → az_S → Prop} (hP : ∀ τ, (∃ A' g' R', JJ sz κ A' g' R' τ) → az_n τ ≤ az_n σ + 10 → az_sl τ ≤ az_sl σ + 500 → aw 1049 k_L_law (some .boolean) P 1725 [some (.ref 1000000), some (.ref 0), some (.ref 42), some (.int (iI i))] [] τ) : aw 1049 k_L_law (some .boolean) P 912 [some (.ref 1000000), some (.ref 0), some (.ref 42), some (.int (iI i))] [] σ := by
  obtain ⟨j1, j2, j3, j4, j5, j6, j7⟩ := id hJ
  have hG := hJ.ga
  refine aw_aload_n rfl rfl rfl ?_
  refine aw_aload_n rfl rfl rfl ?_
  refine aw_iload_n rfl rfl rfl ?_
  refine aw_iconst rfl rfl ?_
  refine aw_iadd rfl rfl ?_
  refine aw_scr j2.scr (by omega) (by omega) hL rfl rfl ?_
  refine aw_aload_n rfl rfl rfl ?_
  refine aw_iload_n rfl rfl rfl ?_
  refine aw_iconst rfl rfl ?_
  refine aw_iadd rfl rfl ?_
  refine aw_scr j2.scr (by omega) (by omega) hL rfl rfl ?_
  refine aw_aload_n rfl rfl rfl ?_
  refine aw_iload_n rfl rfl rfl ?_
  refine aw_iconst rfl rfl ?_
  refine aw_iadd rfl rfl ?_
  refine aw_scr j2.scr (by omega) (by omega) hL rfl rfl ?_
  refine aw_aload_n rfl rfl rfl ?_
  refine aw_iload_n rfl rfl rfl ?_
  refine aw_iconst rfl rfl ?_
  refine aw_iadd rfl rfl ?_
  refine aw_scr j2.scr (by omega) (by omega) hL rfl rfl ?_
  refine aw_calc (cf_mod (Nat.le_of_ble_eq_true rfl) (c_shaded (d := 0) j2 j3 (sx_b _ _) (sx_b _ _) (sx_b _ _) (sx_b _ _)) (kp_c rfl)) rfl rfl rfl (Nat.le_of_ble_eq_true rfl) (Or.inr ⟨_, rfl, (j2.f.k 0 rfl)⟩) rfl ?_
  rintro _ τ ⟨rfl, g', hC1, hg, hK⟩
  have hM1 := j1.kr hC1.f hK.kr
  change aw _ _ _ _ 936 [some (.ref 1000000), some (.ref 0), some (.ref 42), some (.int (iI i))] [.int _] _
  refine aw_aload_n rfl rfl rfl ?_
  refine aw_aload_n rfl rfl rfl ?_
  refine aw_iload_n rfl rfl rfl ?_
  refine aw_iconst rfl rfl ?_
  refine aw_iadd rfl rfl ?_
  refine aw_scr hC1.scr (by omega) (by omega) hL rfl rfl ?_
  refine aw_aload_n rfl rfl rfl ?_
  refine aw_iload_n rfl rfl rfl ?_
  refine aw_iconst rfl rfl ?_
  refine aw_iadd rfl rfl ?_
  refine aw_scr hC1.scr (by omega) (by omega) hL rfl rfl ?_
  refine aw_aload_n rfl rfl rfl ?_
  refine aw_iload_n rfl rfl rfl ?_
  refine aw_iconst rfl rfl ?_
  refine aw_iadd rfl rfl ?_
  refine aw_scr hC1.scr (by omega) (by omega) hL rfl rfl ?_
  refine aw_aload_n rfl rfl rfl ?_
  refine aw_iload_n rfl rfl rfl ?_
  refine aw_iconst rfl rfl ?_
  refine aw_iadd rfl rfl ?_
  refine aw_scr hC1.scr (by omega) (by omega) hL rfl rfl ?_
  refine aw_calc (mf_mod (Nat.le_of_ble_eq_true rfl) (m_shaded (d := 0) hM1 j3 (sx_b _ _) (sx_b _ _) (sx_b _ _) (sx_b _ _)) rfl) rfl rfl rfl (Nat.le_of_ble_eq_true rfl) (Or.inr ⟨_, rfl, (hC1.f.k 42 rfl)⟩) rfl ?_
  rintro _ υ ⟨rfl, hM2, S, hD, hS⟩
  change aw _ _ _ _ 960 [some (.ref 1000000), some (.ref 0), some (.ref 42), some (.int (iI i))] [.int _, .int _] _
  refine aw_ieq rfl rfl ?_
  obtain ⟨h1, h2, h3⟩ := JJ_next hJ hG hC1 hg hK hM2 hD hS
  exact hP υ ⟨_, _, _, h1⟩ h2 h3
