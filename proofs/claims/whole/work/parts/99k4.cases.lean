set_option maxRecDepth 20000 in
set_option maxHeartbeats 4000000 in
theorem la_place {sz : Nat} {κ : Nat × (Nat → Int32) × Option Nat} {A : Nat → Int → Int} {g : Nat → Nat} {R : tRules} {σ : az_S} (hJ : JJ sz κ A g R σ) (hlim : az_n σ ≤ 890000) (hL : κ.1 ≤ 4610) {i : Int} (hi0 : 2 ≤ i) (hi1 : i + 8 < κ.1) {P : Option Value → az_S → Prop} (hP : ∀ τ, (∃ A' g' R', JJ sz κ A' g' R' τ) → az_n τ ≤ az_n σ + 10 → az_sl τ ≤ az_sl σ + 500 → aw 1049 k_L_law (some .boolean) P 1725 [some (.ref 1000000), some (.ref 0), some (.ref 42), some (.int (iI i))] [] τ) : aw 1049 k_L_law (some .boolean) P 1429 [some (.ref 1000000), some (.ref 0), some (.ref 42), some (.int (iI i))] [] σ := by
  obtain ⟨j1, j2, j3, j4, j5, j6, j7⟩ := id hJ
  have hG := hJ.ga
  refine aw_aload_n rfl rfl rfl ?_
  refine aw_aload_n rfl rfl rfl ?_
  refine aw_iload_n rfl rfl rfl ?_
  refine aw_iconst rfl rfl ?_
  refine aw_iadd rfl rfl ?_
  refine aw_scr j2.scr (by omega) (by omega) hL rfl rfl ?_
  refine aw_aload_n rfl rfl rfl ?_
  refine aw_iload_n rfl rfl rfl ?_
  refine aw_iconst rfl rfl ?_
  refine aw_iadd rfl rfl ?_
  refine aw_scr j2.scr (by omega) (by omega) hL rfl rfl ?_
  refine aw_aload_n rfl rfl rfl ?_
  refine aw_iload_n rfl rfl rfl ?_
  refine aw_iconst rfl rfl ?_
  refine aw_iadd rfl rfl ?_
  refine aw_scr j2.scr (by omega) (by omega) hL rfl rfl ?_
  refine aw_calc (cf_or (Nat.le_of_ble_eq_true rfl) (c_place (d := 0) j2 j3 (sx_b _ _) (sx_b _ _) (sx_b _ _)) (fun q1 q2 => kp_S j2 j3 q1 q2)) rfl rfl rfl (Nat.le_of_ble_eq_true rfl) (Or.inr ⟨_, rfl, (j2.f.k 0 rfl)⟩) rfl ?_
  rintro _ τ ⟨rfl, g', hC1, hg, hK⟩
  have hM1 := j1.kr hC1.f hK.kr
  change aw _ _ _ _ 1448 [some (.ref 1000000), some (.ref 0), some (.ref 42), some (.int (iI i))] [.int _] _
  refine aw_aload_n rfl rfl rfl ?_
  refine aw_aload_n rfl rfl rfl ?_
  refine aw_iload_n rfl rfl rfl ?_
  refine aw_iconst rfl rfl ?_
  refine aw_iadd rfl rfl ?_
  refine aw_scr hC1.scr (by omega) (by omega) hL rfl rfl ?_
  refine aw_aload_n rfl rfl rfl ?_
  refine aw_iload_n rfl rfl rfl ?_
  refine aw_iconst rfl rfl ?_
  refine aw_iadd rfl rfl ?_
  refine aw_scr hC1.scr (by omega) (by omega) hL rfl rfl ?_
  refine aw_aload_n rfl rfl rfl ?_
  refine aw_iload_n rfl rfl rfl ?_
  refine aw_iconst rfl rfl ?_
  refine aw_iadd rfl rfl ?_
  refine aw_scr hC1.scr (by omega) (by omega) hL rfl rfl ?_
  refine aw_calc (mf_mod (Nat.le_of_ble_eq_true rfl) (m_place (d := 0) hM1 j3 (sx_b _ _) (sx_b _ _) (sx_b _ _)) rfl) rfl rfl rfl (Nat.le_of_ble_eq_true rfl) (Or.inr ⟨_, rfl, (hC1.f.k 42 rfl)⟩) rfl ?_
  rintro _ υ ⟨rfl, hM2, S, hD, hS⟩
  change aw _ _ _ _ 1467 [some (.ref 1000000), some (.ref 0), some (.ref 42), some (.int (iI i))] [.int _, .int _] _
  refine aw_ieq rfl rfl ?_
  obtain ⟨h1, h2, h3⟩ := JJ_next hJ (g_place hG) hC1 hg hK hM2 hD hS
  exact hP υ ⟨_, _, _, h1⟩ h2 h3
set_option maxRecDepth 20000 in
set_option maxHeartbeats 4000000 in
theorem la_placeOf {sz : Nat} {κ : Nat × (Nat → Int32) × Option Nat} {A : Nat → Int → Int} {g : Nat → Nat} {R : tRules} {σ : az_S} (hJ : JJ sz κ A g R σ) (hlim : az_n σ ≤ 890000) (hL : κ.1 ≤ 4610) {i : Int} (hi0 : 2 ≤ i) (hi1 : i + 8 < κ.1) {P : Option Value → az_S → Prop} (hP : ∀ τ, (∃ A' g' R', JJ sz κ A' g' R' τ) → az_n τ ≤ az_n σ + 10 → az_sl τ ≤ az_sl σ + 500 → aw 1049 k_L_law (some .boolean) P 1725 [some (.ref 1000000), some (.ref 0), some (.ref 42), some (.int (iI i))] [] τ) : aw 1049 k_L_law (some .boolean) P 1472 [some (.ref 1000000), some (.ref 0), some (.ref 42), some (.int (iI i))] [] σ := by
  obtain ⟨j1, j2, j3, j4, j5, j6, j7⟩ := id hJ
  have hG := hJ.ga
  refine aw_aload_n rfl rfl rfl ?_
  refine aw_aload_n rfl rfl rfl ?_
  refine aw_iload_n rfl rfl rfl ?_
  refine aw_iconst rfl rfl ?_
  refine aw_iadd rfl rfl ?_
  refine aw_scr j2.scr (by omega) (by omega) hL rfl rfl ?_
  refine aw_aload_n rfl rfl rfl ?_
  refine aw_iload_n rfl rfl rfl ?_
  refine aw_iconst rfl rfl ?_
  refine aw_iadd rfl rfl ?_
  refine aw_scr j2.scr (by omega) (by omega) hL rfl rfl ?_
  refine aw_calc (cf_fn j2 (Nat.le_of_ble_eq_true rfl) (c_placeOf (d := 0) j2 j3 (sx_b _ _) (sx_b _ _))) rfl rfl rfl (Nat.le_of_ble_eq_true rfl) (Or.inr ⟨_, rfl, (j2.f.k 0 rfl)⟩) rfl ?_
  rintro _ τ ⟨rfl, g', hC1, hg, hK⟩
  have hM1 := j1.kr hC1.f hK.kr
  change aw _ _ _ _ 1486 [some (.ref 1000000), some (.ref 0), some (.ref 42), some (.int (iI i))] [.int _] _
  refine aw_aload_n rfl rfl rfl ?_
  refine aw_aload_n rfl rfl rfl ?_
  refine aw_iload_n rfl rfl rfl ?_
  refine aw_iconst rfl rfl ?_
  refine aw_iadd rfl rfl ?_
  refine aw_scr hC1.scr (by omega) (by omega) hL rfl rfl ?_
  refine aw_aload_n rfl rfl rfl ?_
  refine aw_iload_n rfl rfl rfl ?_
  refine aw_iconst rfl rfl ?_
  refine aw_iadd rfl rfl ?_
  refine aw_scr hC1.scr (by omega) (by omega) hL rfl rfl ?_
  refine aw_calc (mf_fn hM1 (Nat.le_of_ble_eq_true rfl) (m_placeOf (d := 0) hM1 j3 (sx_b _ _) (sx_b _ _))) rfl rfl rfl (Nat.le_of_ble_eq_true rfl) (Or.inr ⟨_, rfl, (hC1.f.k 42 rfl)⟩) rfl ?_
  rintro _ υ ⟨rfl, hM2, S, hD, hS⟩
  change aw _ _ _ _ 1500 [some (.ref 1000000), some (.ref 0), some (.ref 42), some (.int (iI i))] [.int _, .int _] _
  refine aw_ieq rfl rfl ?_
  obtain ⟨h1, h2, h3⟩ := JJ_next hJ hG hC1 hg hK hM2 hD hS
  exact hP υ ⟨_, _, _, h1⟩ h2 h3
set_option maxRecDepth 20000 in
set_option maxHeartbeats 4000000 in
theorem la_fees {sz : Nat} {κ : Nat × (Nat → Int32) × Option Nat} {A : Nat → Int → Int} {g : Nat → Nat} {R : tRules} {σ : az_S} (hJ : JJ sz κ A g R σ) (hlim : az_n σ ≤ 890000) (hL : κ.1 ≤ 4610) {i : Int} (hi0 : 2 ≤ i) (hi1 : i + 8 < κ.1) {P : Option Value → az_S → Prop} (hP : ∀ τ, (∃ A' g' R', JJ sz κ A' g' R' τ) → az_n τ ≤ az_n σ + 10 → az_sl τ ≤ az_sl σ + 500 → aw 1049 k_L_law (some .boolean) P 1725 [some (.ref 1000000), some (.ref 0), some (.ref 42), some (.int (iI i))] [] τ) : aw 1049 k_L_law (some .boolean) P 1505 [some (.ref 1000000), some (.ref 0), some (.ref 42), some (.int (iI i))] [] σ := by
  obtain ⟨j1, j2, j3, j4, j5, j6, j7⟩ := id hJ
  have hG := hJ.ga
  refine aw_aload_n rfl rfl rfl ?_
  refine aw_aload_n rfl rfl rfl ?_
  refine aw_iload_n rfl rfl rfl ?_
  refine aw_iconst rfl rfl ?_
  refine aw_iadd rfl rfl ?_
  refine aw_scr j2.scr (by omega) (by omega) hL rfl rfl ?_
  refine aw_aload_n rfl rfl rfl ?_
  refine aw_iload_n rfl rfl rfl ?_
  refine aw_iconst rfl rfl ?_
  refine aw_iadd rfl rfl ?_
  refine aw_scr j2.scr (by omega) (by omega) hL rfl rfl ?_
  refine aw_aload_n rfl rfl rfl ?_
  refine aw_iload_n rfl rfl rfl ?_
  refine aw_iconst rfl rfl ?_
  refine aw_iadd rfl rfl ?_
  refine aw_scr j2.scr (by omega) (by omega) hL rfl rfl ?_
  refine aw_calc (cf_mod (Nat.le_of_ble_eq_true rfl) (c_fees (d := 0) j2 j3 j5 j7 (sx_b _ _) (sx_b _ _) (sx_b _ _)) (kp_c rfl)) rfl rfl rfl (Nat.le_of_ble_eq_true rfl) (Or.inr ⟨_, rfl, (j2.f.k 0 rfl)⟩) rfl ?_
  rintro _ τ ⟨rfl, g', hC1, hg, hK⟩
  have hM1 := j1.kr hC1.f hK.kr
  change aw _ _ _ _ 1524 [some (.ref 1000000), some (.ref 0), some (.ref 42), some (.int (iI i))] [.long _] _
  refine aw_aload_n rfl rfl rfl ?_
  refine aw_aload_n rfl rfl rfl ?_
  refine aw_iload_n rfl rfl rfl ?_
  refine aw_iconst rfl rfl ?_
  refine aw_iadd rfl rfl ?_
  refine aw_scr hC1.scr (by omega) (by omega) hL rfl rfl ?_
  refine aw_aload_n rfl rfl rfl ?_
  refine aw_iload_n rfl rfl rfl ?_
  refine aw_iconst rfl rfl ?_
  refine aw_iadd rfl rfl ?_
  refine aw_scr hC1.scr (by omega) (by omega) hL rfl rfl ?_
  refine aw_aload_n rfl rfl rfl ?_
  refine aw_iload_n rfl rfl rfl ?_
  refine aw_iconst rfl rfl ?_
  refine aw_iadd rfl rfl ?_
  refine aw_scr hC1.scr (by omega) (by omega) hL rfl rfl ?_
  refine aw_calc (mf_mod (Nat.le_of_ble_eq_true rfl) (m_fees (d := 0) hM1 j3 j5 j6 (sx_b _ _) (sx_b _ _) (sx_b _ _)) rfl) rfl rfl rfl (Nat.le_of_ble_eq_true rfl) (Or.inr ⟨_, rfl, (hC1.f.k 42 rfl)⟩) rfl ?_
  rintro _ υ ⟨rfl, hM2, S, hD, hS⟩
  change aw _ _ _ _ 1543 [some (.ref 1000000), some (.ref 0), some (.ref 42), some (.int (iI i))] [.long _, .long _] _
  refine aw_leq rfl rfl rfl ?_
  obtain ⟨h1, h2, h3⟩ := JJ_next hJ hG hC1 hg hK hM2 hD hS
  exact hP υ ⟨_, _, _, h1⟩ h2 h3
set_option maxRecDepth 20000 in
set_option maxHeartbeats 4000000 in
theorem la_walk {sz : Nat} {κ : Nat × (Nat → Int32) × Option Nat} {A : Nat → Int → Int} {g : Nat → Nat} {R : tRules} {σ : az_S} (hJ : JJ sz κ A g R σ) (hlim : az_n σ ≤ 890000) (hL : κ.1 ≤ 4610) {i : Int} (hi0 : 2 ≤ i) (hi1 : i + 8 < κ.1) {P : Option Value → az_S → Prop} (hP : ∀ τ, (∃ A' g' R', JJ sz κ A' g' R' τ) → az_n τ ≤ az_n σ + 10 → az_sl τ ≤ az_sl σ + 500 → aw 1049 k_L_law (some .boolean) P 1725 [some (.ref 1000000), some (.ref 0), some (.ref 42), some (.int (iI i))] [] τ) : aw 1049 k_L_law (some .boolean) P 1549 [some (.ref 1000000), some (.ref 0), some (.ref 42), some (.int (iI i))] [] σ := by
  obtain ⟨j1, j2, j3, j4, j5, j6, j7⟩ := id hJ
  have hG := hJ.ga
  refine aw_aload_n rfl rfl rfl ?_
  refine aw_aload_n rfl rfl rfl ?_
  refine aw_iload_n rfl rfl rfl ?_
  refine aw_iconst rfl rfl ?_
  refine aw_iadd rfl rfl ?_
  refine aw_scr j2.scr (by omega) (by omega) hL rfl rfl ?_
  refine aw_aload_n rfl rfl rfl ?_
  refine aw_iload_n rfl rfl rfl ?_
  refine aw_iconst rfl rfl ?_
  refine aw_iadd rfl rfl ?_
  refine aw_scr j2.scr (by omega) (by omega) hL rfl rfl ?_
  refine aw_aload_n rfl rfl rfl ?_
  refine aw_iload_n rfl rfl rfl ?_
  refine aw_iconst rfl rfl ?_
  refine aw_iadd rfl rfl ?_
  refine aw_scr j2.scr (by omega) (by omega) hL rfl rfl ?_
  refine aw_aload_n rfl rfl rfl ?_
  refine aw_iload_n rfl rfl rfl ?_
  refine aw_iconst rfl rfl ?_
  refine aw_iadd rfl rfl ?_
  refine aw_scr j2.scr (by omega) (by omega) hL rfl rfl ?_
  refine aw_aload_n rfl rfl rfl ?_
  refine aw_iload_n rfl rfl rfl ?_
  refine aw_iconst rfl rfl ?_
  refine aw_iadd rfl rfl ?_
  refine aw_scr j2.scr (by omega) (by omega) hL rfl rfl ?_
  refine aw_calc (cal.mono (c_walk (d := 0) j2 j3 j5 j7 (sx_b _ _) (sx_b _ _) (sx_b _ _) (sx_b _ _) (sx_b _ _)) (Nat.le_of_ble_eq_true rfl)) rfl rfl rfl (Nat.le_of_ble_eq_true rfl) (Or.inr ⟨_, rfl, (j2.f.k 0 rfl)⟩) rfl ?_
  rintro _ τ ⟨rfl, g', hC1, hg, hK⟩
  have hM1 := j1.kr hC1.f hK.kr
  change aw _ _ _ _ 1578 [some (.ref 1000000), some (.ref 0), some (.ref 42), some (.int (iI i))] [.int _] _
  refine aw_aload_n rfl rfl rfl ?_
  refine aw_aload_n rfl rfl rfl ?_
  refine aw_iload_n rfl rfl rfl ?_
  refine aw_iconst rfl rfl ?_
  refine aw_iadd rfl rfl ?_
  refine aw_scr hC1.scr (by omega) (by omega) hL rfl rfl ?_
  refine aw_aload_n rfl rfl rfl ?_
  refine aw_iload_n rfl rfl rfl ?_
  refine aw_iconst rfl rfl ?_
  refine aw_iadd rfl rfl ?_
  refine aw_scr hC1.scr (by omega) (by omega) hL rfl rfl ?_
  refine aw_aload_n rfl rfl rfl ?_
  refine aw_iload_n rfl rfl rfl ?_
  refine aw_iconst rfl rfl ?_
  refine aw_iadd rfl rfl ?_
  refine aw_scr hC1.scr (by omega) (by omega) hL rfl rfl ?_
  refine aw_aload_n rfl rfl rfl ?_
  refine aw_iload_n rfl rfl rfl ?_
  refine aw_iconst rfl rfl ?_
  refine aw_iadd rfl rfl ?_
  refine aw_scr hC1.scr (by omega) (by omega) hL rfl rfl ?_
  refine aw_aload_n rfl rfl rfl ?_
  refine aw_iload_n rfl rfl rfl ?_
  refine aw_iconst rfl rfl ?_
  refine aw_iadd rfl rfl ?_
  refine aw_scr hC1.scr (by omega) (by omega) hL rfl rfl ?_
  refine aw_calc (mf_mod (Nat.le_of_ble_eq_true rfl) (m_walk (d := 0) hM1 j3 j5 j6 (sx_b _ _) (sx_b _ _) (sx_b _ _) (sx_b _ _) (sx_b _ _)) rfl) rfl rfl rfl (Nat.le_of_ble_eq_true rfl) (Or.inr ⟨_, rfl, (hC1.f.k 42 rfl)⟩) rfl ?_
  rintro _ υ ⟨rfl, hM2, S, hD, hS⟩
  change aw _ _ _ _ 1607 [some (.ref 1000000), some (.ref 0), some (.ref 42), some (.int (iI i))] [.int _, .int _] _
  refine aw_ieq rfl rfl ?_
  obtain ⟨h1, h2, h3⟩ := JJ_next hJ (g_walk hG) hC1 hg hK hM2 hD hS
  exact hP υ ⟨_, _, _, h1⟩ h2 h3
set_option maxRecDepth 20000 in
set_option maxHeartbeats 4000000 in
theorem la_walked {sz : Nat} {κ : Nat × (Nat → Int32) × Option Nat} {A : Nat → Int → Int} {g : Nat → Nat} {R : tRules} {σ : az_S} (hJ : JJ sz κ A g R σ) (hlim : az_n σ ≤ 890000) (hL : κ.1 ≤ 4610) {i : Int} (hi0 : 2 ≤ i) (hi1 : i + 8 < κ.1) {P : Option Value → az_S → Prop} (hP : ∀ τ, (∃ A' g' R', JJ sz κ A' g' R' τ) → az_n τ ≤ az_n σ + 10 → az_sl τ ≤ az_sl σ + 500 → aw 1049 k_L_law (some .boolean) P 1725 [some (.ref 1000000), some (.ref 0), some (.ref 42), some (.int (iI i))] [] τ) : aw 1049 k_L_law (some .boolean) P 1612 [some (.ref 1000000), some (.ref 0), some (.ref 42), some (.int (iI i))] [] σ := by
  obtain ⟨j1, j2, j3, j4, j5, j6, j7⟩ := id hJ
  have hG := hJ.ga
  refine aw_aload_n rfl rfl rfl ?_
  refine aw_aload_n rfl rfl rfl ?_
  refine aw_iload_n rfl rfl rfl ?_
  refine aw_iconst rfl rfl ?_
  refine aw_iadd rfl rfl ?_
  refine aw_scr j2.scr (by omega) (by omega) hL rfl rfl ?_
  refine aw_calc (cf_fn j2 (Nat.le_of_ble_eq_true rfl) (c_walked (d := 0) j2 j3 (sx_b _ _))) rfl rfl rfl (Nat.le_of_ble_eq_true rfl) (Or.inr ⟨_, rfl, (j2.f.k 0 rfl)⟩) rfl ?_
  rintro _ τ ⟨rfl, g', hC1, hg, hK⟩
  have hM1 := j1.kr hC1.f hK.kr
  change aw _ _ _ _ 1621 [some (.ref 1000000), some (.ref 0), some (.ref 42), some (.int (iI i))] [.long _] _
  refine aw_aload_n rfl rfl rfl ?_
  refine aw_aload_n rfl rfl rfl ?_
  refine aw_iload_n rfl rfl rfl ?_
  refine aw_iconst rfl rfl ?_
  refine aw_iadd rfl rfl ?_
  refine aw_scr hC1.scr (by omega) (by omega) hL rfl rfl ?_
  refine aw_calc (mf_fn hM1 (Nat.le_of_ble_eq_true rfl) (m_walked (d := 0) hM1 j3 (sx_b _ _))) rfl rfl rfl (Nat.le_of_ble_eq_true rfl) (Or.inr ⟨_, rfl, (hC1.f.k 42 rfl)⟩) rfl ?_
  rintro _ υ ⟨rfl, hM2, S, hD, hS⟩
  change aw _ _ _ _ 1630 [some (.ref 1000000), some (.ref 0), some (.ref 42), some (.int (iI i))] [.long _, .long _] _
  refine aw_leq rfl rfl rfl ?_
  obtain ⟨h1, h2, h3⟩ := JJ_next hJ hG hC1 hg hK hM2 hD hS
  exact hP υ ⟨_, _, _, h1⟩ h2 h3
set_option maxRecDepth 20000 in
set_option maxHeartbeats 4000000 in
theorem la_best {sz : Nat} {κ : Nat × (Nat → Int32) × Option Nat} {A : Nat → Int → Int} {g : Nat → Nat} {R : tRules} {σ : az_S} (hJ : JJ sz κ A g R σ) (hlim : az_n σ ≤ 890000) (hL : κ.1 ≤ 4610) {i : Int} (hi0 : 2 ≤ i) (hi1 : i + 8 < κ.1) {P : Option Value → az_S → Prop} (hP : ∀ τ, (∃ A' g' R', JJ sz κ A' g' R' τ) → az_n τ ≤ az_n σ + 10 → az_sl τ ≤ az_sl σ + 500 → aw 1049 k_L_law (some .boolean) P 1725 [some (.ref 1000000), some (.ref 0), some (.ref 42), some (.int (iI i))] [] τ) : aw 1049 k_L_law (some .boolean) P 1636 [some (.ref 1000000), some (.ref 0), some (.ref 42), some (.int (iI i))] [] σ := by
  obtain ⟨j1, j2, j3, j4, j5, j6, j7⟩ := id hJ
  have hG := hJ.ga
  refine aw_aload_n rfl rfl rfl ?_
  refine aw_aload_n rfl rfl rfl ?_
  refine aw_iload_n rfl rfl rfl ?_
  refine aw_iconst rfl rfl ?_
  refine aw_iadd rfl rfl ?_
  refine aw_scr j2.scr (by omega) (by omega) hL rfl rfl ?_
  refine aw_aload_n rfl rfl rfl ?_
  refine aw_iload_n rfl rfl rfl ?_
  refine aw_iconst rfl rfl ?_
  refine aw_iadd rfl rfl ?_
  refine aw_scr j2.scr (by omega) (by omega) hL rfl rfl ?_
  refine aw_calc (cf_mod (Nat.le_of_ble_eq_true rfl) (c_best (d := 0) j2 j3 (sx_b _ _) (sx_b _ _)) (kp_c rfl)) rfl rfl rfl (Nat.le_of_ble_eq_true rfl) (Or.inr ⟨_, rfl, (j2.f.k 0 rfl)⟩) rfl ?_
  rintro _ τ ⟨rfl, g', hC1, hg, hK⟩
  have hM1 := j1.kr hC1.f hK.kr
  change aw _ _ _ _ 1650 [some (.ref 1000000), some (.ref 0), some (.ref 42), some (.int (iI i))] [.int _] _
  refine aw_aload_n rfl rfl rfl ?_
  refine aw_aload_n rfl rfl rfl ?_
  refine aw_iload_n rfl rfl rfl ?_
  refine aw_iconst rfl rfl ?_
  refine aw_iadd rfl rfl ?_
  refine aw_scr hC1.scr (by omega) (by omega) hL rfl rfl ?_
  refine aw_aload_n rfl rfl rfl ?_
  refine aw_iload_n rfl rfl rfl ?_
  refine aw_iconst rfl rfl ?_
  refine aw_iadd rfl rfl ?_
  refine aw_scr hC1.scr (by omega) (by omega) hL rfl rfl ?_
  refine aw_calc (mf_mod (Nat.le_of_ble_eq_true rfl) (m_best (d := 0) hM1 j3 (sx_b _ _) (sx_b _ _)) rfl) rfl rfl rfl (Nat.le_of_ble_eq_true rfl) (Or.inr ⟨_, rfl, (hC1.f.k 42 rfl)⟩) rfl ?_
  rintro _ υ ⟨rfl, hM2, S, hD, hS⟩
  change aw _ _ _ _ 1664 [some (.ref 1000000), some (.ref 0), some (.ref 42), some (.int (iI i))] [.int _, .int _] _
  refine aw_ieq rfl rfl ?_
  obtain ⟨h1, h2, h3⟩ := JJ_next hJ hG hC1 hg hK hM2 hD hS
  exact hP υ ⟨_, _, _, h1⟩ h2 h3
set_option maxRecDepth 20000 in
set_option maxHeartbeats 4000000 in
theorem la_serves {sz : Nat} {κ : Nat × (Nat → Int32) × Option Nat} {A : Nat → Int → Int} {g : Nat → Nat} {R : tRules} {σ : az_S} (hJ : JJ sz κ A g R σ) (hlim : az_n σ ≤ 890000) (hL : κ.1 ≤ 4610) {i : Int} (hi0 : 2 ≤ i) (hi1 : i + 8 < κ.1) {P : Option Value → az_S → Prop} (hP : ∀ τ, (∃ A' g' R', JJ sz κ A' g' R' τ) → az_n τ ≤ az_n σ + 10 → az_sl τ ≤ az_sl σ + 500 → aw 1049 k_L_law (some .boolean) P 1725 [some (.ref 1000000), some (.ref 0), some (.ref 42), some (.int (iI i))] [] τ) : aw 1049 k_L_law (some .boolean) P 1669 [some (.ref 1000000), some (.ref 0), some (.ref 42), some (.int (iI i))] [] σ := by
  obtain ⟨j1, j2, j3, j4, j5, j6, j7⟩ := id hJ
  have hG := hJ.ga
  refine aw_aload_n rfl rfl rfl ?_
  refine aw_aload_n rfl rfl rfl ?_
  refine aw_iload_n rfl rfl rfl ?_
  refine aw_iconst rfl rfl ?_
  refine aw_iadd rfl rfl ?_
  refine aw_scr j2.scr (by omega) (by omega) hL rfl rfl ?_
  refine aw_aload_n rfl rfl rfl ?_
  refine aw_iload_n rfl rfl rfl ?_
  refine aw_iconst rfl rfl ?_
  refine aw_iadd rfl rfl ?_
  refine aw_scr j2.scr (by omega) (by omega) hL rfl rfl ?_
  refine aw_calc (cf_mod (Nat.le_of_ble_eq_true rfl) (c_serves (d := 0) j2 j3 (sx_b _ _) (sx_b _ _)) (kp_c rfl)) rfl rfl rfl (Nat.le_of_ble_eq_true rfl) (Or.inr ⟨_, rfl, (j2.f.k 0 rfl)⟩) rfl ?_
  rintro _ τ ⟨rfl, g', hC1, hg, hK⟩
  have hM1 := j1.kr hC1.f hK.kr
  change aw _ _ _ _ 1683 [some (.ref 1000000), some (.ref 0), some (.ref 42), some (.int (iI i))] [.int _] _
  refine aw_aload_n rfl rfl rfl ?_
  refine aw_aload_n rfl rfl rfl ?_
  refine aw_iload_n rfl rfl rfl ?_
  refine aw_iconst rfl rfl ?_
  refine aw_iadd rfl rfl ?_
  refine aw_scr hC1.scr (by omega) (by omega) hL rfl rfl ?_
  refine aw_aload_n rfl rfl rfl ?_
  refine aw_iload_n rfl rfl rfl ?_
  refine aw_iconst rfl rfl ?_
  refine aw_iadd rfl rfl ?_
  refine aw_scr hC1.scr (by omega) (by omega) hL rfl rfl ?_
  refine aw_calc (mf_mod (Nat.le_of_ble_eq_true rfl) (m_serves (d := 0) hM1 j3 (sx_b _ _) (sx_b _ _)) rfl) rfl rfl rfl (Nat.le_of_ble_eq_true rfl) (Or.inr ⟨_, rfl, (hC1.f.k 42 rfl)⟩) rfl ?_
  rintro _ υ ⟨rfl, hM2, S, hD, hS⟩
  change aw _ _ _ _ 1697 [some (.ref 1000000), some (.ref 0), some (.ref 42), some (.int (iI i))] [.int _, .int _] _
  refine aw_ieq rfl rfl ?_
  obtain ⟨h1, h2, h3⟩ := JJ_next hJ hG hC1 hg hK hM2 hD hS
  exact hP υ ⟨_, _, _, h1⟩ h2 h3
set_option maxRecDepth 20000 in
set_option maxHeartbeats 4000000 in
theorem la_about {sz : Nat} {κ : Nat × (Nat → Int32) × Option Nat} {A : Nat → Int → Int} {g : Nat → Nat} {R : tRules} {σ : az_S} (hJ : JJ sz κ A g R σ) (hlim : az_n σ ≤ 890000) (hL : κ.1 ≤ 4610) {i : Int} (hi0 : 2 ≤ i) (hi1 : i + 8 < κ.1) {P : Option Value → az_S → Prop} (hP : ∀ τ, (∃ A' g' R', JJ sz κ A' g' R' τ) → az_n τ ≤ az_n σ + 10 → az_sl τ ≤ az_sl σ + 500 → aw 1049 k_L_law (some .boolean) P 1725 [some (.ref 1000000), some (.ref 0), some (.ref 42), some (.int (iI i))] [] τ) : aw 1049 k_L_law (some .boolean) P 1702 [some (.ref 1000000), some (.ref 0), some (.ref 42), some (.int (iI i))] [] σ := by
  obtain ⟨j1, j2, j3, j4, j5, j6, j7⟩ := id hJ
  have hG := hJ.ga
  refine aw_aload_n rfl rfl rfl ?_
  refine aw_aload_n rfl rfl rfl ?_
  refine aw_iload_n rfl rfl rfl ?_
  refine aw_iconst rfl rfl ?_
  refine aw_iadd rfl rfl ?_
  refine aw_scr j2.scr (by omega) (by omega) hL rfl rfl ?_
  refine aw_calc (cf_fn j2 (Nat.le_of_ble_eq_true rfl) (c_about (d := 0) j2 j3 (sx_b _ _) (by rw [j7.2.1, j6.2.1]))) rfl rfl rfl (Nat.le_of_ble_eq_true rfl) (Or.inr ⟨_, rfl, (j2.f.k 0 rfl)⟩) rfl ?_
  rintro _ τ ⟨rfl, g', hC1, hg, hK⟩
  have hM1 := j1.kr hC1.f hK.kr
  change aw _ _ _ _ 1711 [some (.ref 1000000), some (.ref 0), some (.ref 42), some (.int (iI i))] [.int _] _
  refine aw_aload_n rfl rfl rfl ?_
  refine aw_aload_n rfl rfl rfl ?_
  refine aw_iload_n rfl rfl rfl ?_
  refine aw_iconst rfl rfl ?_
  refine aw_iadd rfl rfl ?_
  refine aw_scr hC1.scr (by omega) (by omega) hL rfl rfl ?_
  refine aw_calc (mf_fn hM1 (Nat.le_of_ble_eq_true rfl) (m_about (d := 0) hM1 j3 (sx_b _ _))) rfl rfl rfl (Nat.le_of_ble_eq_true rfl) (Or.inr ⟨_, rfl, (hC1.f.k 42 rfl)⟩) rfl ?_
  rintro _ υ ⟨rfl, hM2, S, hD, hS⟩
  change aw _ _ _ _ 1720 [some (.ref 1000000), some (.ref 0), some (.ref 42), some (.int (iI i))] [.int _, .int _] _
  refine aw_ieq rfl rfl ?_
  obtain ⟨h1, h2, h3⟩ := JJ_next hJ hG hC1 hg hK hM2 hD hS
  exact hP υ ⟨_, _, _, h1⟩ h2 h3
