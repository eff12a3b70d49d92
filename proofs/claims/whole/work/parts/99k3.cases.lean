set_option maxRecDepth 20000 in
set_option maxHeartbeats 4000000 in
theorem la_parts {sz : Nat} {κ : Nat × (Nat → Int32) × Option Nat} {A : Nat → Int → Int} {g : Nat → Nat} {R : tRules} {σ : az_S} (hJ : JJ sz κ A g R σ) (hlim : az_n σ ≤ 890000) (hL : κ.1 ≤ 4610) {i : Int} (hi0 : 2 ≤ i) (hi1 : i + 8 < κ.1) {P : Option Value → az_S → Prop} (hP : ∀ τ, (∃ A' g' R', JJ sz κ A' g' R' τ) → az_n τ ≤ az_n σ + 10 → az_sl τ ≤ az_sl σ + 500 → aw 1049 k_L_law (some .boolean) P 1725 [some (.ref 1000000), some (.ref 0), some (.ref 42), some (.int (iI i))] [] τ) : aw 1049 k_L_law (some .boolean) P 965 [some (.ref 1000000), some (.ref 0), some (.ref 42), some (.int (iI i))] [] σ := by
  obtain ⟨j1, j2, j3, j4, j5, j6, j7⟩ := id hJ
  have hG := hJ.ga
  refine aw_aload_n rfl rfl rfl ?_
  refine aw_aload_n rfl rfl rfl ?_
  refine aw_iload_n rfl rfl rfl ?_
  refine aw_iconst rfl rfl ?_
  refine aw_iadd rfl rfl ?_
  refine aw_scr j2.scr (by omega) (by omega) hL rfl rfl ?_
  refine aw_aload_n rfl rfl rfl ?_
  refine aw_iload_n rfl rfl rfl ?_
  refine aw_iconst rfl rfl ?_
  refine aw_iadd rfl rfl ?_
  refine aw_scr j2.scr (by omega) (by omega) hL rfl rfl ?_
  refine aw_aload_n rfl rfl rfl ?_
  refine aw_iload_n rfl rfl rfl ?_
  refine aw_iconst rfl rfl ?_
  refine aw_iadd rfl rfl ?_
  refine aw_scr j2.scr (by omega) (by omega) hL rfl rfl ?_
  refine aw_aload_n rfl rfl rfl ?_
  refine aw_iload_n rfl rfl rfl ?_
  refine aw_iconst rfl rfl ?_
  refine aw_iadd rfl rfl ?_
  refine aw_scr j2.scr (by omega) (by omega) hL rfl rfl ?_
  refine aw_aload_n rfl rfl rfl ?_
  refine aw_iload_n rfl rfl rfl ?_
  refine aw_iconst rfl rfl ?_
  refine aw_iadd rfl rfl ?_
  refine aw_scr j2.scr (by omega) (by omega) hL rfl rfl ?_
  refine aw_calc (cf_mod (Nat.le_of_ble_eq_true rfl) (c_parts (d := 0) j2 j3 (sx_b _ _) (sx_b _ _) (sx_b _ _) (sx_b _ _) (sx_b _ _)) (kp_c rfl)) rfl rfl rfl (Nat.le_of_ble_eq_true rfl) (Or.inr ⟨_, rfl, (j2.f.k 0 rfl)⟩) rfl ?_
  rintro _ τ ⟨rfl, g', hC1, hg, hK⟩
  have hM1 := j1.kr hC1.f hK.kr
  change aw _ _ _ _ 994 [some (.ref 1000000), some (.ref 0), some (.ref 42), some (.int (iI i))] [.int _] _
  refine aw_aload_n rfl rfl rfl ?_
  refine aw_aload_n rfl rfl rfl ?_
  refine aw_iload_n rfl rfl rfl ?_
  refine aw_iconst rfl rfl ?_
  refine aw_iadd rfl rfl ?_
  refine aw_scr hC1.scr (by omega) (by omega) hL rfl rfl ?_
  refine aw_aload_n rfl rfl rfl ?_
  refine aw_iload_n rfl rfl rfl ?_
  refine aw_iconst rfl rfl ?_
  refine aw_iadd rfl rfl ?_
  refine aw_scr hC1.scr (by omega) (by omega) hL rfl rfl ?_
  refine aw_aload_n rfl rfl rfl ?_
  refine aw_iload_n rfl rfl rfl ?_
  refine aw_iconst rfl rfl ?_
  refine aw_iadd rfl rfl ?_
  refine aw_scr hC1.scr (by omega) (by omega) hL rfl rfl ?_
  refine aw_aload_n rfl rfl rfl ?_
  refine aw_iload_n rfl rfl rfl ?_
  refine aw_iconst rfl rfl ?_
  refine aw_iadd rfl rfl ?_
  refine aw_scr hC1.scr (by omega) (by omega) hL rfl rfl ?_
  refine aw_aload_n rfl rfl rfl ?_
  refine aw_iload_n rfl rfl rfl ?_
  refine aw_iconst rfl rfl ?_
  refine aw_iadd rfl rfl ?_
  refine aw_scr hC1.scr (by omega) (by omega) hL rfl rfl ?_
  refine aw_calc (mf_mod (Nat.le_of_ble_eq_true rfl) (m_parts (d := 0) hM1 j3 (sx_b _ _) (sx_b _ _) (sx_b _ _) (sx_b _ _) (sx_b _ _)) rfl) rfl rfl rfl (Nat.le_of_ble_eq_true rfl) (Or.inr ⟨_, rfl, (hC1.f.k 42 rfl)⟩) rfl ?_
  rintro _ υ ⟨rfl, hM2, S, hD, hS⟩
  change aw _ _ _ _ 1023 [some (.ref 1000000), some (.ref 0), some (.ref 42), some (.int (iI i))] [.int _, .int _] _
  refine aw_ieq rfl rfl ?_
  obtain ⟨h1, h2, h3⟩ := JJ_next hJ hG hC1 hg hK hM2 hD hS
  exact hP υ ⟨_, _, _, h1⟩ h2 h3
set_option maxRecDepth 20000 in
set_option maxHeartbeats 4000000 in
theorem la_shadow {sz : Nat} {κ : Nat × (Nat → Int32) × Option Nat} {A : Nat → Int → Int} {g : Nat → Nat} {R : tRules} {σ : az_S} (hJ : JJ sz κ A g R σ) (hlim : az_n σ ≤ 890000) (hL : κ.1 ≤ 4610) {i : Int} (hi0 : 2 ≤ i) (hi1 : i + 8 < κ.1) {P : Option Value → az_S → Prop} (hP : ∀ τ, (∃ A' g' R', JJ sz κ A' g' R' τ) → az_n τ ≤ az_n σ + 10 → az_sl τ ≤ az_sl σ + 500 → aw 1049 k_L_law (some .boolean) P 1725 [some (.ref 1000000), some (.ref 0), some (.ref 42), some (.int (iI i))] [] τ) : aw 1049 k_L_law (some .boolean) P 1028 [some (.ref 1000000), some (.ref 0), some (.ref 42), some (.int (iI i))] [] σ := by
  obtain ⟨j1, j2, j3, j4, j5, j6, j7⟩ := id hJ
  have hG := hJ.ga
  refine aw_aload_n rfl rfl rfl ?_
  refine aw_aload_n rfl rfl rfl ?_
  refine aw_iload_n rfl rfl rfl ?_
  refine aw_iconst rfl rfl ?_
  refine aw_iadd rfl rfl ?_
  refine aw_scr j2.scr (by omega) (by omega) hL rfl rfl ?_
  refine aw_aload_n rfl rfl rfl ?_
  refine aw_iload_n rfl rfl rfl ?_
  refine aw_iconst rfl rfl ?_
  refine aw_iadd rfl rfl ?_
  refine aw_scr j2.scr (by omega) (by omega) hL rfl rfl ?_
  refine aw_aload_n rfl rfl rfl ?_
  refine aw_iload_n rfl rfl rfl ?_
  refine aw_iconst rfl rfl ?_
  refine aw_iadd rfl rfl ?_
  refine aw_scr j2.scr (by omega) (by omega) hL rfl rfl ?_
  refine aw_aload_n rfl rfl rfl ?_
  refine aw_iload_n rfl rfl rfl ?_
  refine aw_iconst rfl rfl ?_
  refine aw_iadd rfl rfl ?_
  refine aw_scr j2.scr (by omega) (by omega) hL rfl rfl ?_
  refine aw_calc (cf_mod (Nat.le_of_ble_eq_true rfl) (c_shadow (d := 0) j2 j3 (sx_b _ _) (sx_b _ _) (sx_b _ _) (sx_b _ _)) (kp_c rfl)) rfl rfl rfl (Nat.le_of_ble_eq_true rfl) (Or.inr ⟨_, rfl, (j2.f.k 0 rfl)⟩) rfl ?_
  rintro _ τ ⟨rfl, g', hC1, hg, hK⟩
  have hM1 := j1.kr hC1.f hK.kr
  change aw _ _ _ _ 1052 [some (.ref 1000000), some (.ref 0), some (.ref 42), some (.int (iI i))] [.int _] _
  refine aw_aload_n rfl rfl rfl ?_
  refine aw_aload_n rfl rfl rfl ?_
  refine aw_iload_n rfl rfl rfl ?_
  refine aw_iconst rfl rfl ?_
  refine aw_iadd rfl rfl ?_
  refine aw_scr hC1.scr (by omega) (by omega) hL rfl rfl ?_
  refine aw_aload_n rfl rfl rfl ?_
  refine aw_iload_n rfl rfl rfl ?_
  refine aw_iconst rfl rfl ?_
  refine aw_iadd rfl rfl ?_
  refine aw_scr hC1.scr (by omega) (by omega) hL rfl rfl ?_
  refine aw_aload_n rfl rfl rfl ?_
  refine aw_iload_n rfl rfl rfl ?_
  refine aw_iconst rfl rfl ?_
  refine aw_iadd rfl rfl ?_
  refine aw_scr hC1.scr (by omega) (by omega) hL rfl rfl ?_
  refine aw_aload_n rfl rfl rfl ?_
  refine aw_iload_n rfl rfl rfl ?_
  refine aw_iconst rfl rfl ?_
  refine aw_iadd rfl rfl ?_
  refine aw_scr hC1.scr (by omega) (by omega) hL rfl rfl ?_
  refine aw_calc (mf_mod (Nat.le_of_ble_eq_true rfl) (m_shadow (d := 0) hM1 j3 (sx_b _ _) (sx_b _ _) (sx_b _ _) (sx_b _ _)) rfl) rfl rfl rfl (Nat.le_of_ble_eq_true rfl) (Or.inr ⟨_, rfl, (hC1.f.k 42 rfl)⟩) rfl ?_
  rintro _ υ ⟨rfl, hM2, S, hD, hS⟩
  change aw _ _ _ _ 1076 [some (.ref 1000000), some (.ref 0), some (.ref 42), some (.int (iI i))] [.int _, .int _] _
  refine aw_ieq rfl rfl ?_
  obtain ⟨h1, h2, h3⟩ := JJ_next hJ hG hC1 hg hK hM2 hD hS
  exact hP υ ⟨_, _, _, h1⟩ h2 h3
set_option maxRecDepth 20000 in
set_option maxHeartbeats 4000000 in
theorem la_account {sz : Nat} {κ : Nat × (Nat → Int32) × Option Nat} {A : Nat → Int → Int} {g : Nat → Nat} {R : tRules} {σ : az_S} (hJ : JJ sz κ A g R σ) (hlim : az_n σ ≤ 890000) (hL : κ.1 ≤ 4610) {i : Int} (hi0 : 2 ≤ i) (hi1 : i + 8 < κ.1) {P : Option Value → az_S → Prop} (hP : ∀ τ, (∃ A' g' R', JJ sz κ A' g' R' τ) → az_n τ ≤ az_n σ + 10 → az_sl τ ≤ az_sl σ + 500 → aw 1049 k_L_law (some .boolean) P 1725 [some (.ref 1000000), some (.ref 0), some (.ref 42), some (.int (iI i))] [] τ) : aw 1049 k_L_law (some .boolean) P 1081 [some (.ref 1000000), some (.ref 0), some (.ref 42), some (.int (iI i))] [] σ := by
  obtain ⟨j1, j2, j3, j4, j5, j6, j7⟩ := id hJ
  have hG := hJ.ga
  refine aw_aload_n rfl rfl rfl ?_
  refine aw_aload_n rfl rfl rfl ?_
  refine aw_iload_n rfl rfl rfl ?_
  refine aw_iconst rfl rfl ?_
  refine aw_iadd rfl rfl ?_
  refine aw_scr j2.scr (by omega) (by omega) hL rfl rfl ?_
  refine aw_aload_n rfl rfl rfl ?_
  refine aw_iload_n rfl rfl rfl ?_
  refine aw_iconst rfl rfl ?_
  refine aw_iadd rfl rfl ?_
  refine aw_scr j2.scr (by omega) (by omega) hL rfl rfl ?_
  refine aw_aload_n rfl rfl rfl ?_
  refine aw_iload_n rfl rfl rfl ?_
  refine aw_iconst rfl rfl ?_
  refine aw_iadd rfl rfl ?_
  refine aw_scr j2.scr (by omega) (by omega) hL rfl rfl ?_
  refine aw_aload_n rfl rfl rfl ?_
  refine aw_iload_n rfl rfl rfl ?_
  refine aw_iconst rfl rfl ?_
  refine aw_iadd rfl rfl ?_
  refine aw_scr j2.scr (by omega) (by omega) hL rfl rfl ?_
  refine aw_calc (cf_mod (Nat.le_of_ble_eq_true rfl) (c_account (d := 0) j2 j3 (sx_b _ _) (sx_b _ _) (sx_b _ _) (sx_b _ _)) (kp_c rfl)) rfl rfl rfl (Nat.le_of_ble_eq_true rfl) (Or.inr ⟨_, rfl, (j2.f.k 0 rfl)⟩) rfl ?_
  rintro _ τ ⟨rfl, g', hC1, hg, hK⟩
  have hM1 := j1.kr hC1.f hK.kr
  change aw _ _ _ _ 1105 [some (.ref 1000000), some (.ref 0), some (.ref 42), some (.int (iI i))] [.long _] _
  refine aw_aload_n rfl rfl rfl ?_
  refine aw_aload_n rfl rfl rfl ?_
  refine aw_iload_n rfl rfl rfl ?_
  refine aw_iconst rfl rfl ?_
  refine aw_iadd rfl rfl ?_
  refine aw_scr hC1.scr (by omega) (by omega) hL rfl rfl ?_
  refine aw_aload_n rfl rfl rfl ?_
  refine aw_iload_n rfl rfl rfl ?_
  refine aw_iconst rfl rfl ?_
  refine aw_iadd rfl rfl ?_
  refine aw_scr hC1.scr (by omega) (by omega) hL rfl rfl ?_
  refine aw_aload_n rfl rfl rfl ?_
  refine aw_iload_n rfl rfl rfl ?_
  refine aw_iconst rfl rfl ?_
  refine aw_iadd rfl rfl ?_
  refine aw_scr hC1.scr (by omega) (by omega) hL rfl rfl ?_
  refine aw_aload_n rfl rfl rfl ?_
  refine aw_iload_n rfl rfl rfl ?_
  refine aw_iconst rfl rfl ?_
  refine aw_iadd rfl rfl ?_
  refine aw_scr hC1.scr (by omega) (by omega) hL rfl rfl ?_
  refine aw_calc (mf_mod (Nat.le_of_ble_eq_true rfl) (m_account (d := 0) hM1 j3 (sx_b _ _) (sx_b _ _) (sx_b _ _) (sx_b _ _)) rfl) rfl rfl rfl (Nat.le_of_ble_eq_true rfl) (Or.inr ⟨_, rfl, (hC1.f.k 42 rfl)⟩) rfl ?_
  rintro _ υ ⟨rfl, hM2, S, hD, hS⟩
  change aw _ _ _ _ 1129 [some (.ref 1000000), some (.ref 0), some (.ref 42), some (.int (iI i))] [.long _, .long _] _
  refine aw_leq rfl rfl rfl ?_
  obtain ⟨h1, h2, h3⟩ := JJ_next hJ hG hC1 hg hK hM2 hD hS
  exact hP υ ⟨_, _, _, h1⟩ h2 h3
set_option maxRecDepth 20000 in
set_option maxHeartbeats 4000000 in
theorem la_bill {sz : Nat} {κ : Nat × (Nat → Int32) × Option Nat} {A : Nat → Int → Int} {g : Nat → Nat} {R : tRules} {σ : az_S} (hJ : JJ sz κ A g R σ) (hlim : az_n σ ≤ 890000) (hL : κ.1 ≤ 4610) {i : Int} (hi0 : 2 ≤ i) (hi1 : i + 8 < κ.1) {P : Option Value → az_S → Prop} (hP : ∀ τ, (∃ A' g' R', JJ sz κ A' g' R' τ) → az_n τ ≤ az_n σ + 10 → az_sl τ ≤ az_sl σ + 500 → aw 1049 k_L_law (some .boolean) P 1725 [some (.ref 1000000), some (.ref 0), some (.ref 42), some (.int (iI i))] [] τ) : aw 1049 k_L_law (some .boolean) P 1135 [some (.ref 1000000), some (.ref 0), some (.ref 42), some (.int (iI i))] [] σ := by
  obtain ⟨j1, j2, j3, j4, j5, j6, j7⟩ := id hJ
  have hG := hJ.ga
  refine aw_aload_n rfl rfl rfl ?_
  refine aw_aload_n rfl rfl rfl ?_
  refine aw_iload_n rfl rfl rfl ?_
  refine aw_iconst rfl rfl ?_
  refine aw_iadd rfl rfl ?_
  refine aw_scr j2.scr (by omega) (by omega) hL rfl rfl ?_
  refine aw_aload_n rfl rfl rfl ?_
  refine aw_iload_n rfl rfl rfl ?_
  refine aw_iconst rfl rfl ?_
  refine aw_iadd rfl rfl ?_
  refine aw_scr j2.scr (by omega) (by omega) hL rfl rfl ?_
  refine aw_aload_n rfl rfl rfl ?_
  refine aw_iload_n rfl rfl rfl ?_
  refine aw_iconst rfl rfl ?_
  refine aw_iadd rfl rfl ?_
  refine aw_scr j2.scr (by omega) (by omega) hL rfl rfl ?_
  refine aw_aload_n rfl rfl rfl ?_
  refine aw_iload_n rfl rfl rfl ?_
  refine aw_iconst rfl rfl ?_
  refine aw_iadd rfl rfl ?_
  refine aw_scr j2.scr (by omega) (by omega) hL rfl rfl ?_
  refine aw_calc (cf_or (Nat.le_of_ble_eq_true rfl) (c_bill (d := 0) j2 j3 (sx_b _ _) (sx_b _ _) (sx_b _ _) (sx_b _ _) j4) (fun q1 q2 => kp_Tb j2 j3 q1 q2)) rfl rfl rfl (Nat.le_of_ble_eq_true rfl) (Or.inr ⟨_, rfl, (j2.f.k 0 rfl)⟩) rfl ?_
  rintro _ τ ⟨rfl, g', hC1, hg, hK⟩
  have hM1 := j1.kr hC1.f hK.kr
  change aw _ _ _ _ 1159 [some (.ref 1000000), some (.ref 0), some (.ref 42), some (.int (iI i))] [.long _] _
  refine aw_aload_n rfl rfl rfl ?_
  refine aw_aload_n rfl rfl rfl ?_
  refine aw_iload_n rfl rfl rfl ?_
  refine aw_iconst rfl rfl ?_
  refine aw_iadd rfl rfl ?_
  refine aw_scr hC1.scr (by omega) (by omega) hL rfl rfl ?_
  refine aw_aload_n rfl rfl rfl ?_
  refine aw_iload_n rfl rfl rfl ?_
  refine aw_iconst rfl rfl ?_
  refine aw_iadd rfl rfl ?_
  refine aw_scr hC1.scr (by omega) (by omega) hL rfl rfl ?_
  refine aw_aload_n rfl rfl rfl ?_
  refine aw_iload_n rfl rfl rfl ?_
  refine aw_iconst rfl rfl ?_
  refine aw_iadd rfl rfl ?_
  refine aw_scr hC1.scr (by omega) (by omega) hL rfl rfl ?_
  refine aw_aload_n rfl rfl rfl ?_
  refine aw_iload_n rfl rfl rfl ?_
  refine aw_iconst rfl rfl ?_
  refine aw_iadd rfl rfl ?_
  refine aw_scr hC1.scr (by omega) (by omega) hL rfl rfl ?_
  refine aw_calc (mf_mod (Nat.le_of_ble_eq_true rfl) (m_bill (d := 0) hM1 j3 (sx_b _ _) (sx_b _ _) (sx_b _ _) (sx_b _ _) j4) rfl) rfl rfl rfl (Nat.le_of_ble_eq_true rfl) (Or.inr ⟨_, rfl, (hC1.f.k 42 rfl)⟩) rfl ?_
  rintro _ υ ⟨rfl, hM2, S, hD, hS⟩
  change aw _ _ _ _ 1183 [some (.ref 1000000), some (.ref 0), some (.ref 42), some (.int (iI i))] [.long _, .long _] _
  refine aw_leq rfl rfl rfl ?_
  obtain ⟨h1, h2, h3⟩ := JJ_next hJ (g_bill hG) hC1 hg hK hM2 hD hS
  exact hP υ ⟨_, _, _, h1⟩ h2 h3
set_option maxRecDepth 20000 in
set_option maxHeartbeats 4000000 in
theorem la_feed {sz : Nat} {κ : Nat × (Nat → Int32) × Option Nat} {A : Nat → Int → Int} {g : Nat → Nat} {R : tRules} {σ : az_S} (hJ : JJ sz κ A g R σ) (hlim : az_n σ ≤ 890000) (hL : κ.1 ≤ 4610) {i : Int} (hi0 : 2 ≤ i) (hi1 : i + 8 < κ.1) {P : Option Value → az_S → Prop} (hP : ∀ τ, (∃ A' g' R', JJ sz κ A' g' R' τ) → az_n τ ≤ az_n σ + 10 → az_sl τ ≤ az_sl σ + 500 → aw 1049 k_L_law (some .boolean) P 1725 [some (.ref 1000000), some (.ref 0), some (.ref 42), some (.int (iI i))] [] τ) : aw 1049 k_L_law (some .boolean) P 1189 [some (.ref 1000000), some (.ref 0), some (.ref 42), some (.int (iI i))] [] σ := by
  obtain ⟨j1, j2, j3, j4, j5, j6, j7⟩ := id hJ
  have hG := hJ.ga
  refine aw_aload_n rfl rfl rfl ?_
  refine aw_aload_n rfl rfl rfl ?_
  refine aw_iload_n rfl rfl rfl ?_
  refine aw_iconst rfl rfl ?_
  refine aw_iadd rfl rfl ?_
  refine aw_scr j2.scr (by omega) (by omega) hL rfl rfl ?_
  refine aw_aload_n rfl rfl rfl ?_
  refine aw_iload_n rfl rfl rfl ?_
  refine aw_iconst rfl rfl ?_
  refine aw_iadd rfl rfl ?_
  refine aw_scr j2.scr (by omega) (by omega) hL rfl rfl ?_
  refine aw_aload_n rfl rfl rfl ?_
  refine aw_iload_n rfl rfl rfl ?_
  refine aw_iconst rfl rfl ?_
  refine aw_iadd rfl rfl ?_
  refine aw_scr j2.scr (by omega) (by omega) hL rfl rfl ?_
  refine aw_aload_n rfl rfl rfl ?_
  refine aw_iload_n rfl rfl rfl ?_
  refine aw_iconst rfl rfl ?_
  refine aw_iadd rfl rfl ?_
  refine aw_scr j2.scr (by omega) (by omega) hL rfl rfl ?_
  refine aw_aload_n rfl rfl rfl ?_
  refine aw_iload_n rfl rfl rfl ?_
  refine aw_iconst rfl rfl ?_
  refine aw_iadd rfl rfl ?_
  refine aw_scr j2.scr (by omega) (by omega) hL rfl rfl ?_
  refine aw_calc (cf_mod (Nat.le_of_ble_eq_true rfl) (c_feed (d := 0) j2 j3 (sx_b _ _) (sx_b _ _) (sx_b _ _) (sx_b _ _) (sx_b _ _)) (kp_c rfl)) rfl rfl rfl (Nat.le_of_ble_eq_true rfl) (Or.inr ⟨_, rfl, (j2.f.k 0 rfl)⟩) rfl ?_
  rintro _ τ ⟨rfl, g', hC1, hg, hK⟩
  have hM1 := j1.kr hC1.f hK.kr
  change aw _ _ _ _ 1218 [some (.ref 1000000), some (.ref 0), some (.ref 42), some (.int (iI i))] [.int _] _
  refine aw_aload_n rfl rfl rfl ?_
  refine aw_aload_n rfl rfl rfl ?_
  refine aw_iload_n rfl rfl rfl ?_
  refine aw_iconst rfl rfl ?_
  refine aw_iadd rfl rfl ?_
  refine aw_scr hC1.scr (by omega) (by omega) hL rfl rfl ?_
  refine aw_aload_n rfl rfl rfl ?_
  refine aw_iload_n rfl rfl rfl ?_
  refine aw_iconst rfl rfl ?_
  refine aw_iadd rfl rfl ?_
  refine aw_scr hC1.scr (by omega) (by omega) hL rfl rfl ?_
  refine aw_aload_n rfl rfl rfl ?_
  refine aw_iload_n rfl rfl rfl ?_
  refine aw_iconst rfl rfl ?_
  refine aw_iadd rfl rfl ?_
  refine aw_scr hC1.scr (by omega) (by omega) hL rfl rfl ?_
  refine aw_aload_n rfl rfl rfl ?_
  refine aw_iload_n rfl rfl rfl ?_
  refine aw_iconst rfl rfl ?_
  refine aw_iadd rfl rfl ?_
  refine aw_scr hC1.scr (by omega) (by omega) hL rfl rfl ?_
  refine aw_aload_n rfl rfl rfl ?_
  refine aw_iload_n rfl rfl rfl ?_
  refine aw_iconst rfl rfl ?_
  refine aw_iadd rfl rfl ?_
  refine aw_scr hC1.scr (by omega) (by omega) hL rfl rfl ?_
  refine aw_calc (mf_mod (Nat.le_of_ble_eq_true rfl) (m_feed (d := 0) hM1 j3 (sx_b _ _) (sx_b _ _) (sx_b _ _) (sx_b _ _) (sx_b _ _)) rfl) rfl rfl rfl (Nat.le_of_ble_eq_true rfl) (Or.inr ⟨_, rfl, (hC1.f.k 42 rfl)⟩) rfl ?_
  rintro _ υ ⟨rfl, hM2, S, hD, hS⟩
  change aw _ _ _ _ 1247 [some (.ref 1000000), some (.ref 0), some (.ref 42), some (.int (iI i))] [.int _, .int _] _
  refine aw_ieq rfl rfl ?_
  obtain ⟨h1, h2, h3⟩ := JJ_next hJ (g_feed hG) hC1 hg hK hM2 hD hS
  exact hP υ ⟨_, _, _, h1⟩ h2 h3
set_option maxRecDepth 20000 in
set_option maxHeartbeats 4000000 in
theorem la_end {sz : Nat} {κ : Nat × (Nat → Int32) × Option Nat} {A : Nat → Int → Int} {g : Nat → Nat} {R : tRules} {σ : az_S} (hJ : JJ sz κ A g R σ) (hlim : az_n σ ≤ 890000) (hL : κ.1 ≤ 4610) {i : Int} (hi0 : 2 ≤ i) (hi1 : i + 8 < κ.1) {P : Option Value → az_S → Prop} (hP : ∀ τ, (∃ A' g' R', JJ sz κ A' g' R' τ) → az_n τ ≤ az_n σ + 10 → az_sl τ ≤ az_sl σ + 500 → aw 1049 k_L_law (some .boolean) P 1725 [some (.ref 1000000), some (.ref 0), some (.ref 42), some (.int (iI i))] [] τ) : aw 1049 k_L_law (some .boolean) P 1252 [some (.ref 1000000), some (.ref 0), some (.ref 42), some (.int (iI i))] [] σ := by
  obtain ⟨j1, j2, j3, j4, j5, j6, j7⟩ := id hJ
  have hG := hJ.ga
  refine aw_aload_n rfl rfl rfl ?_
  refine aw_aload_n rfl rfl rfl ?_
  refine aw_iload_n rfl rfl rfl ?_
  refine aw_iconst rfl rfl ?_
  refine aw_iadd rfl rfl ?_
  refine aw_scr j2.scr (by omega) (by omega) hL rfl rfl ?_
  refine aw_calc (cf_mod (Nat.le_of_ble_eq_true rfl) (c_end (d := 0) j2 j3 (sx_b _ _)) (kp_c rfl)) rfl rfl rfl (Nat.le_of_ble_eq_true rfl) (Or.inr ⟨_, rfl, (j2.f.k 0 rfl)⟩) rfl ?_
  rintro _ τ ⟨rfl, g', hC1, hg, hK⟩
  have hM1 := j1.kr hC1.f hK.kr
  change aw _ _ _ _ 1261 [some (.ref 1000000), some (.ref 0), some (.ref 42), some (.int (iI i))] [.int _] _
  refine aw_aload_n rfl rfl rfl ?_
  refine aw_aload_n rfl rfl rfl ?_
  refine aw_iload_n rfl rfl rfl ?_
  refine aw_iconst rfl rfl ?_
  refine aw_iadd rfl rfl ?_
  refine aw_scr hC1.scr (by omega) (by omega) hL rfl rfl ?_
  refine aw_calc (mf_mod (Nat.le_of_ble_eq_true rfl) (m_end (d := 0) hM1 j3 (sx_b _ _)) rfl) rfl rfl rfl (Nat.le_of_ble_eq_true rfl) (Or.inr ⟨_, rfl, (hC1.f.k 42 rfl)⟩) rfl ?_
  rintro _ υ ⟨rfl, hM2, S, hD, hS⟩
  change aw _ _ _ _ 1270 [some (.ref 1000000), some (.ref 0), some (.ref 42), some (.int (iI i))] [.int _, .int _] _
  refine aw_ieq rfl rfl ?_
  obtain ⟨h1, h2, h3⟩ := JJ_next hJ (g_end hG) hC1 hg hK hM2 hD hS
  exact hP υ ⟨_, _, _, h1⟩ h2 h3
set_option maxRecDepth 20000 in
set_option maxHeartbeats 4000000 in
theorem la_fault {sz : Nat} {κ : Nat × (Nat → Int32) × Option Nat} {A : Nat → Int → Int} {g : Nat → Nat} {R : tRules} {σ : az_S} (hJ : JJ sz κ A g R σ) (hlim : az_n σ ≤ 890000) (hL : κ.1 ≤ 4610) {i : Int} (hi0 : 2 ≤ i) (hi1 : i + 8 < κ.1) {P : Option Value → az_S → Prop} (hP : ∀ τ, (∃ A' g' R', JJ sz κ A' g' R' τ) → az_n τ ≤ az_n σ + 10 → az_sl τ ≤ az_sl σ + 500 → aw 1049 k_L_law (some .boolean) P 1725 [some (.ref 1000000), some (.ref 0), some (.ref 42), some (.int (iI i))] [] τ) : aw 1049 k_L_law (some .boolean) P 1288 [some (.ref 1000000), some (.ref 0), some (.ref 42), some (.int (iI i))] [] σ := by
  obtain ⟨j1, j2, j3, j4, j5, j6, j7⟩ := id hJ
  have hG := hJ.ga
  refine aw_aload_n rfl rfl rfl ?_
  refine aw_aload_n rfl rfl rfl ?_
  refine aw_iload_n rfl rfl rfl ?_
  refine aw_iconst rfl rfl ?_
  refine aw_iadd rfl rfl ?_
  refine aw_scr j2.scr (by omega) (by omega) hL rfl rfl ?_
  refine aw_calc (cf_fn j2 (Nat.le_of_ble_eq_true rfl) (c_fault (d := 0) j2 j3 (sx_b _ _))) rfl rfl rfl (Nat.le_of_ble_eq_true rfl) (Or.inr ⟨_, rfl, (j2.f.k 0 rfl)⟩) rfl ?_
  rintro _ τ ⟨rfl, g', hC1, hg, hK⟩
  have hM1 := j1.kr hC1.f hK.kr
  change aw _ _ _ _ 1297 [some (.ref 1000000), some (.ref 0), some (.ref 42), some (.int (iI i))] [.int _] _
  refine aw_aload_n rfl rfl rfl ?_
  refine aw_aload_n rfl rfl rfl ?_
  refine aw_iload_n rfl rfl rfl ?_
  refine aw_iconst rfl rfl ?_
  refine aw_iadd rfl rfl ?_
  refine aw_scr hC1.scr (by omega) (by omega) hL rfl rfl ?_
  refine aw_calc (mf_fn hM1 (Nat.le_of_ble_eq_true rfl) (m_fault (d := 0) hM1 j3 (sx_b _ _))) rfl rfl rfl (Nat.le_of_ble_eq_true rfl) (Or.inr ⟨_, rfl, (hC1.f.k 42 rfl)⟩) rfl ?_
  rintro _ υ ⟨rfl, hM2, S, hD, hS⟩
  change aw _ _ _ _ 1306 [some (.ref 1000000), some (.ref 0), some (.ref 42), some (.int (iI i))] [.int _, .int _] _
  refine aw_ieq rfl rfl ?_
  obtain ⟨h1, h2, h3⟩ := JJ_next hJ hG hC1 hg hK hM2 hD hS
  exact hP υ ⟨_, _, _, h1⟩ h2 h3
set_option maxRecDepth 20000 in
set_option maxHeartbeats 4000000 in
theorem la_gives {sz : Nat} {κ : Nat × (Nat → Int32) × Option Nat} {A : Nat → Int → Int} {g : Nat → Nat} {R : tRules} {σ : az_S} (hJ : JJ sz κ A g R σ) (hlim : az_n σ ≤ 890000) (hL : κ.1 ≤ 4610) {i : Int} (hi0 : 2 ≤ i) (hi1 : i + 8 < κ.1) {P : Option Value → az_S → Prop} (hP : ∀ τ, (∃ A' g' R', JJ sz κ A' g' R' τ) → az_n τ ≤ az_n σ + 10 → az_sl τ ≤ az_sl σ + 500 → aw 1049 k_L_law (some .boolean) P 1725 [some (.ref 1000000), some (.ref 0), some (.ref 42), some (.int (iI i))] [] τ) : aw 1049 k_L_law (some .boolean) P 1311 [some (.ref 1000000), some (.ref 0), some (.ref 42), some (.int (iI i))] [] σ := by
  obtain ⟨j1, j2, j3, j4, j5, j6, j7⟩ := id hJ
  have hG := hJ.ga
  refine aw_aload_n rfl rfl rfl ?_
  refine aw_aload_n rfl rfl rfl ?_
  refine aw_iload_n rfl rfl rfl ?_
  refine aw_iconst rfl rfl ?_
  refine aw_iadd rfl rfl ?_
  refine aw_scr j2.scr (by omega) (by omega) hL rfl rfl ?_
  refine aw_aload_n rfl rfl rfl ?_
  refine aw_iload_n rfl rfl rfl ?_
  refine aw_iconst rfl rfl ?_
  refine aw_iadd rfl rfl ?_
  refine aw_scr j2.scr (by omega) (by omega) hL rfl rfl ?_
  refine aw_aload_n rfl rfl rfl ?_
  refine aw_iload_n rfl rfl rfl ?_
  refine aw_iconst rfl rfl ?_
  refine aw_iadd rfl rfl ?_
  refine aw_scr j2.scr (by omega) (by omega) hL rfl rfl ?_
  refine aw_aload_n rfl rfl rfl ?_
  refine aw_iload_n rfl rfl rfl ?_
  refine aw_iconst rfl rfl ?_
  refine aw_iadd rfl rfl ?_
  refine aw_scr j2.scr (by omega) (by omega) hL rfl rfl ?_
  refine aw_aload_n rfl rfl rfl ?_
  refine aw_iload_n rfl rfl rfl ?_
  refine aw_iconst rfl rfl ?_
  refine aw_iadd rfl rfl ?_
  refine aw_scr j2.scr (by omega) (by omega) hL rfl rfl ?_
  refine aw_aload_n rfl rfl rfl ?_
  refine aw_iload_n rfl rfl rfl ?_
  refine aw_bipush rfl rfl rfl ?_
  refine aw_iadd rfl rfl ?_
  refine aw_scr j2.scr (by omega) (by omega) hL rfl rfl ?_
  refine aw_calc (cf_mod (Nat.le_of_ble_eq_true rfl) (c_gives (d := 0) j2 j3 j5 j7 (sx_b _ _) (sx_b _ _) (sx_b _ _) (sx_b _ _) (sx_b _ _) (sx_b _ _)) (kp_c rfl)) rfl rfl rfl (Nat.le_of_ble_eq_true rfl) (Or.inr ⟨_, rfl, (j2.f.k 0 rfl)⟩) rfl ?_
  rintro _ τ ⟨rfl, g', hC1, hg, hK⟩
  have hM1 := j1.kr hC1.f hK.kr
  change aw _ _ _ _ 1346 [some (.ref 1000000), some (.ref 0), some (.ref 42), some (.int (iI i))] [.int _] _
  refine aw_aload_n rfl rfl rfl ?_
  refine aw_aload_n rfl rfl rfl ?_
  refine aw_iload_n rfl rfl rfl ?_
  refine aw_iconst rfl rfl ?_
  refine aw_iadd rfl rfl ?_
  refine aw_scr hC1.scr (by omega) (by omega) hL rfl rfl ?_
  refine aw_aload_n rfl rfl rfl ?_
  refine aw_iload_n rfl rfl rfl ?_
  refine aw_iconst rfl rfl ?_
  refine aw_iadd rfl rfl ?_
  refine aw_scr hC1.scr (by omega) (by omega) hL rfl rfl ?_
  refine aw_aload_n rfl rfl rfl ?_
  refine aw_iload_n rfl rfl rfl ?_
  refine aw_iconst rfl rfl ?_
  refine aw_iadd rfl rfl ?_
  refine aw_scr hC1.scr (by omega) (by omega) hL rfl rfl ?_
  refine aw_aload_n rfl rfl rfl ?_
  refine aw_iload_n rfl rfl rfl ?_
  refine aw_iconst rfl rfl ?_
  refine aw_iadd rfl rfl ?_
  refine aw_scr hC1.scr (by omega) (by omega) hL rfl rfl ?_
  refine aw_aload_n rfl rfl rfl ?_
  refine aw_iload_n rfl rfl rfl ?_
  refine aw_iconst rfl rfl ?_
  refine aw_iadd rfl rfl ?_
  refine aw_scr hC1.scr (by omega) (by omega) hL rfl rfl ?_
  refine aw_aload_n rfl rfl rfl ?_
  refine aw_iload_n rfl rfl rfl ?_
  refine aw_bipush rfl rfl rfl ?_
  refine aw_iadd rfl rfl ?_
  refine aw_scr hC1.scr (by omega) (by omega) hL rfl rfl ?_
  refine aw_calc (mf_mod (Nat.le_of_ble_eq_true rfl) (m_gives (d := 0) hM1 j5 j6 (sx_b _ _) (sx_b _ _) (sx_b _ _) (sx_b _ _) (sx_b _ _) (sx_b _ _)) rfl) rfl rfl rfl (Nat.le_of_ble_eq_true rfl) (Or.inr ⟨_, rfl, (hC1.f.k 42 rfl)⟩) rfl ?_
  rintro _ υ ⟨rfl, hM2, S, hD, hS⟩
  change aw _ _ _ _ 1381 [some (.ref 1000000), some (.ref 0), some (.ref 42), some (.int (iI i))] [.int _, .int _] _
  refine aw_ieq rfl rfl ?_
  obtain ⟨h1, h2, h3⟩ := JJ_next hJ hG hC1 hg hK hM2 hD hS
  exact hP υ ⟨_, _, _, h1⟩ h2 h3
set_option maxRecDepth 20000 in
set_option maxHeartbeats 4000000 in
theorem la_stall {sz : Nat} {κ : Nat × (Nat → Int32) × Option Nat} {A : Nat → Int → Int} {g : Nat → Nat} {R : tRules} {σ : az_S} (hJ : JJ sz κ A g R σ) (hlim : az_n σ ≤ 890000) (hL : κ.1 ≤ 4610) {i : Int} (hi0 : 2 ≤ i) (hi1 : i + 8 < κ.1) {P : Option Value → az_S → Prop} (hP : ∀ τ, (∃ A' g' R', JJ sz κ A' g' R' τ) → az_n τ ≤ az_n σ + 10 → az_sl τ ≤ az_sl σ + 500 → aw 1049 k_L_law (some .boolean) P 1725 [some (.ref 1000000), some (.ref 0), some (.ref 42), some (.int (iI i))] [] τ) : aw 1049 k_L_law (some .boolean) P 1386 [some (.ref 1000000), some (.ref 0), some (.ref 42), some (.int (iI i))] [] σ := by
  obtain ⟨j1, j2, j3, j4, j5, j6, j7⟩ := id hJ
  have hG := hJ.ga
  refine aw_aload_n rfl rfl rfl ?_
  refine aw_aload_n rfl rfl rfl ?_
  refine aw_iload_n rfl rfl rfl ?_
  refine aw_iconst rfl rfl ?_
  refine aw_iadd rfl rfl ?_
  refine aw_scr j2.scr (by omega) (by omega) hL rfl rfl ?_
  refine aw_aload_n rfl rfl rfl ?_
  refine aw_iload_n rfl rfl rfl ?_
  refine aw_iconst rfl rfl ?_
  refine aw_iadd rfl rfl ?_
  refine aw_scr j2.scr (by omega) (by omega) hL rfl rfl ?_
  refine aw_aload_n rfl rfl rfl ?_
  refine aw_iload_n rfl rfl rfl ?_
  refine aw_iconst rfl rfl ?_
  refine aw_iadd rfl rfl ?_
  refine aw_scr j2.scr (by omega) (by omega) hL rfl rfl ?_
  refine aw_calc (cal.mono (c_stall (d := 0) j2 j3 hlim (sx_b _ _) (sx_b _ _) (sx_b _ _)) (Nat.le_of_ble_eq_true rfl)) rfl rfl rfl (Nat.le_of_ble_eq_true rfl) (Or.inr ⟨_, rfl, (j2.f.k 0 rfl)⟩) rfl ?_
  rintro _ τ ⟨rfl, g', hC1, hg, hK⟩
  have hM1 := j1.kr hC1.f hK.kr
  change aw _ _ _ _ 1405 [some (.ref 1000000), some (.ref 0), some (.ref 42), some (.int (iI i))] [.int _] _
  refine aw_aload_n rfl rfl rfl ?_
  refine aw_aload_n rfl rfl rfl ?_
  refine aw_iload_n rfl rfl rfl ?_
  refine aw_iconst rfl rfl ?_
  refine aw_iadd rfl rfl ?_
  refine aw_scr hC1.scr (by omega) (by omega) hL rfl rfl ?_
  refine aw_aload_n rfl rfl rfl ?_
  refine aw_iload_n rfl rfl rfl ?_
  refine aw_iconst rfl rfl ?_
  refine aw_iadd rfl rfl ?_
  refine aw_scr hC1.scr (by omega) (by omega) hL rfl rfl ?_
  refine aw_aload_n rfl rfl rfl ?_
  refine aw_iload_n rfl rfl rfl ?_
  refine aw_iconst rfl rfl ?_
  refine aw_iadd rfl rfl ?_
  refine aw_scr hC1.scr (by omega) (by omega) hL rfl rfl ?_
  refine aw_calc (mf_mod (Nat.le_of_ble_eq_true rfl) (m_stall (d := 0) hM1 j3 (sx_b _ _) (sx_b _ _) (sx_b _ _)) rfl) rfl rfl rfl (Nat.le_of_ble_eq_true rfl) (Or.inr ⟨_, rfl, (hC1.f.k 42 rfl)⟩) rfl ?_
  rintro _ υ ⟨rfl, hM2, S, hD, hS⟩
  change aw _ _ _ _ 1424 [some (.ref 1000000), some (.ref 0), some (.ref 42), some (.int (iI i))] [.int _, .int _] _
  refine aw_ieq rfl rfl ?_
  obtain ⟨h1, h2, h3⟩ := JJ_next hJ (g_stall hG) hC1 hg hK hM2 hD hS
  exact hP υ ⟨_, _, _, h1⟩ h2 h3
