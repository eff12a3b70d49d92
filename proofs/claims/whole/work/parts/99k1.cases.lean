theorem kp_ge {S : List Nat} (h : ∀ a, a ∈ S → 103 ≤ a ∨ (a = 15 ∨ a = 29 ∨ a = 30 ∨ a = 31 ∨ a = 32)) : ∀ a, a ∈ S → ¬ kpl a := by
  intro a ha
  have := h a ha
  unfold kpl
  omega
theorem kp_P {sz : Nat} {κ : Nat × (Nat → Int32) × Option Nat} {A : Nat → Int → Int} {g : Nat → Nat} {σ : az_S} (hC : CR sz κ A g σ) (hI : MI sz A) {p : Int} (h0 : 0 ≤ p) (h1 : p < A 42 9) : ∀ a, a ∈ [gP g p] → ¬ kpl a := by
  have := (hC.lv hI).1 p h0 h1
  exact kp_ge (fun a ha => by simp at ha; omega)
theorem kp_T {sz : Nat} {κ : Nat × (Nat → Int32) × Option Nat} {A : Nat → Int → Int} {g : Nat → Nat} {σ : az_S} (hC : CR sz κ A g σ) (hI : MI sz A) {t : Int} (h0 : 0 ≤ t) (h1 : t < A 42 12) : ∀ a, a ∈ [gT g t, gTd g t, gTh g t, gTt g t] → ¬ kpl a := by
  have := (hC.lv hI).2.1 t h0 h1
  exact kp_ge (fun a ha => by simp at ha; omega)
theorem kp_T1 {sz : Nat} {κ : Nat × (Nat → Int32) × Option Nat} {A : Nat → Int → Int} {g : Nat → Nat} {σ : az_S} (hC : CR sz κ A g σ) (hI : MI sz A) {t : Int} (h0 : 0 ≤ t) (h1 : t < A 42 12) : ∀ a, a ∈ [gT g t] → ¬ kpl a := by
  have := (hC.lv hI).2.1 t h0 h1
  exact kp_ge (fun a ha => by simp at ha; omega)
theorem kp_Tb {sz : Nat} {κ : Nat × (Nat → Int32) × Option Nat} {A : Nat → Int → Int} {g : Nat → Nat} {σ : az_S} (hC : CR sz κ A g σ) (hI : MI sz A) {t : Int} (h0 : 0 ≤ t) (h1 : t < A 42 12) : ∀ a, a ∈ [15, 29, 30, 31, 32, gT g t, gTd g t, gTh g t, gTt g t] → ¬ kpl a := by
  have := (hC.lv hI).2.1 t h0 h1
  exact kp_ge (fun a ha => by simp at ha; omega)
theorem kp_S {sz : Nat} {κ : Nat × (Nat → Int32) × Option Nat} {A : Nat → Int → Int} {g : Nat → Nat} {σ : az_S} (hC : CR sz κ A g σ) (hI : MI sz A) {s : Int} (h0 : 0 ≤ s) (h1 : s < A 42 66) : ∀ a, a ∈ [gSp g s] → ¬ kpl a := by
  have := (hC.lv hI).2.2.2 s h0 h1
  exact kp_ge (fun a ha => by simp at ha; omega)
set_option maxRecDepth 20000 in
set_option maxHeartbeats 4000000 in
theorem la_days {sz : Nat} {κ : Nat × (Nat → Int32) × Option Nat} {A : Nat → Int → Int} {g : Nat → Nat} {R : tRules} {σ : az_S} (hJ : JJ sz κ A g R σ) (hlim : az_n σ ≤ 890000) (hL : κ.1 ≤ 4610) {i : Int} (hi0 : 2 ≤ i) (hi1 : i + 8 < κ.1) {P : Option Value → az_S → Prop} (hP : ∀ τ, (∃ A' g' R', JJ sz κ A' g' R' τ) → az_n τ ≤ az_n σ + 10 → az_sl τ ≤ az_sl σ + 500 → aw 1049 k_L_law (some .boolean) P 1725 [some (.ref 1000000), some (.ref 0), some (.ref 42), some (.int (iI i))] [] τ) : aw 1049 k_L_law (some .boolean) P 208 [some (.ref 1000000), some (.ref 0), some (.ref 42), some (.int (iI i))] [] σ := by
  obtain ⟨j1, j2, j3, j4, j5, j6, j7⟩ := id hJ
  have hG := hJ.ga
  refine aw_aload_n rfl rfl rfl ?_
  refine aw_aload_n rfl rfl rfl ?_
  refine aw_iload_n rfl rfl rfl ?_
  refine aw_iconst rfl rfl ?_
  refine aw_iadd rfl rfl ?_
  refine aw_scr j2.scr (by omega) (by omega) hL rfl rfl ?_
  refine aw_calc (cf_mod (Nat.le_of_ble_eq_true rfl) (c_days (d := 0) j2 j3 (sx_b _ _)) (kp_c rfl)) rfl rfl rfl (Nat.le_of_ble_eq_true rfl) (Or.inr ⟨_, rfl, (j2.f.k 0 rfl)⟩) rfl ?_
  rintro _ τ ⟨rfl, g', hC1, hg, hK⟩
  have hM1 := j1.kr hC1.f hK.kr
  change aw _ _ _ _ 217 [some (.ref 1000000), some (.ref 0), some (.ref 42), some (.int (iI i))] [.int _] _
  refine aw_aload_n rfl rfl rfl ?_
  refine aw_aload_n rfl rfl rfl ?_
  refine aw_iload_n rfl rfl rfl ?_
  refine aw_iconst rfl rfl ?_
  refine aw_iadd rfl rfl ?_
  refine aw_scr hC1.scr (by omega) (by omega) hL rfl rfl ?_
  refine aw_calc (mf_mod (Nat.le_of_ble_eq_true rfl) (m_days (d := 0) hM1 j3 (sx_b _ _)) rfl) rfl rfl rfl (Nat.le_of_ble_eq_true rfl) (Or.inr ⟨_, rfl, (hC1.f.k 42 rfl)⟩) rfl ?_
  rintro _ υ ⟨rfl, hM2, S, hD, hS⟩
  change aw _ _ _ _ 226 [some (.ref 1000000), some (.ref 0), some (.ref 42), some (.int (iI i))] [.int _, .int _] _
  refine aw_ieq rfl rfl ?_
  obtain ⟨h1, h2, h3⟩ := JJ_next hJ (g_days hG) hC1 hg hK hM2 hD hS
  exact hP υ ⟨_, _, _, h1⟩ h2 h3
set_option maxRecDepth 20000 in
set_option maxHeartbeats 4000000 in
theorem la_sun {sz : Nat} {κ : Nat × (Nat → Int32) × Option Nat} {A : Nat → Int → Int} {g : Nat → Nat} {R : tRules} {σ : az_S} (hJ : JJ sz κ A g R σ) (hlim : az_n σ ≤ 890000) (hL : κ.1 ≤ 4610) {i : Int} (hi0 : 2 ≤ i) (hi1 : i + 8 < κ.1) {P : Option Value → az_S → Prop} (hP : ∀ τ, (∃ A' g' R', JJ sz κ A' g' R' τ) → az_n τ ≤ az_n σ + 10 → az_sl τ ≤ az_sl σ + 500 → aw 1049 k_L_law (some .boolean) P 1725 [some (.ref 1000000), some (.ref 0), some (.ref 42), some (.int (iI i))] [] τ) : aw 1049 k_L_law (some .boolean) P 231 [some (.ref 1000000), some (.ref 0), some (.ref 42), some (.int (iI i))] [] σ := by
  obtain ⟨j1, j2, j3, j4, j5, j6, j7⟩ := id hJ
  have hG := hJ.ga
  refine aw_aload_n rfl rfl rfl ?_
  refine aw_aload_n rfl rfl rfl ?_
  refine aw_iload_n rfl rfl rfl ?_
  refine aw_iconst rfl rfl ?_
  refine aw_iadd rfl rfl ?_
  refine aw_scr j2.scr (by omega) (by omega) hL rfl rfl ?_
  refine aw_aload_n rfl rfl rfl ?_
  refine aw_iload_n rfl rfl rfl ?_
  refine aw_iconst rfl rfl ?_
  refine aw_iadd rfl rfl ?_
  refine aw_scr j2.scr (by omega) (by omega) hL rfl rfl ?_
  refine aw_aload_n rfl rfl rfl ?_
  refine aw_iload_n rfl rfl rfl ?_
  refine aw_iconst rfl rfl ?_
  refine aw_iadd rfl rfl ?_
  refine aw_scr j2.scr (by omega) (by omega) hL rfl rfl ?_
  refine aw_aload_n rfl rfl rfl ?_
  refine aw_iload_n rfl rfl rfl ?_
  refine aw_iconst rfl rfl ?_
  refine aw_iadd rfl rfl ?_
  refine aw_scr j2.scr (by omega) (by omega) hL rfl rfl ?_
  refine aw_calc (cf_mod (Nat.le_of_ble_eq_true rfl) (c_sun (d := 0) j2 j3 (sx_b _ _) (sx_b _ _) (sx_b _ _) (sx_b _ _)) (kp_c rfl)) rfl rfl rfl (Nat.le_of_ble_eq_true rfl) (Or.inr ⟨_, rfl, (j2.f.k 0 rfl)⟩) rfl ?_
  rintro _ τ ⟨rfl, g', hC1, hg, hK⟩
  have hM1 := j1.kr hC1.f hK.kr
  change aw _ _ _ _ 255 [some (.ref 1000000), some (.ref 0), some (.ref 42), some (.int (iI i))] [.int _] _
  refine aw_aload_n rfl rfl rfl ?_
  refine aw_aload_n rfl rfl rfl ?_
  refine aw_iload_n rfl rfl rfl ?_
  refine aw_iconst rfl rfl ?_
  refine aw_iadd rfl rfl ?_
  refine aw_scr hC1.scr (by omega) (by omega) hL rfl rfl ?_
  refine aw_aload_n rfl rfl rfl ?_
  refine aw_iload_n rfl rfl rfl ?_
  refine aw_iconst rfl rfl ?_
  refine aw_iadd rfl rfl ?_
  refine aw_scr hC1.scr (by omega) (by omega) hL rfl rfl ?_
  refine aw_aload_n rfl rfl rfl ?_
  refine aw_iload_n rfl rfl rfl ?_
  refine aw_iconst rfl rfl ?_
  refine aw_iadd rfl rfl ?_
  refine aw_scr hC1.scr (by omega) (by omega) hL rfl rfl ?_
  refine aw_aload_n rfl rfl rfl ?_
  refine aw_iload_n rfl rfl rfl ?_
  refine aw_iconst rfl rfl ?_
  refine aw_iadd rfl rfl ?_
  refine aw_scr hC1.scr (by omega) (by omega) hL rfl rfl ?_
  refine aw_calc (mf_mod (Nat.le_of_ble_eq_true rfl) (m_sun (d := 0) hM1 j3 (sx_b _ _) (sx_b _ _) (sx_b _ _) (sx_b _ _)) rfl) rfl rfl rfl (Nat.le_of_ble_eq_true rfl) (Or.inr ⟨_, rfl, (hC1.f.k 42 rfl)⟩) rfl ?_
  rintro _ υ ⟨rfl, hM2, S, hD, hS⟩
  change aw _ _ _ _ 279 [some (.ref 1000000), some (.ref 0), some (.ref 42), some (.int (iI i))] [.int _, .int _] _
  refine aw_ieq rfl rfl ?_
  obtain ⟨h1, h2, h3⟩ := JJ_next hJ (g_sun hG) hC1 hg hK hM2 hD hS
  exact hP υ ⟨_, _, _, h1⟩ h2 h3
set_option maxRecDepth 20000 in
set_option maxHeartbeats 4000000 in
theorem la_cloud {sz : Nat} {κ : Nat × (Nat → Int32) × Option Nat} {A : Nat → Int → Int} {g : Nat → Nat} {R : tRules} {σ : az_S} (hJ : JJ sz κ A g R σ) (hlim : az_n σ ≤ 890000) (hL : κ.1 ≤ 4610) {i : Int} (hi0 : 2 ≤ i) (hi1 : i + 8 < κ.1) {P : Option Value → az_S → Prop} (hP : ∀ τ, (∃ A' g' R', JJ sz κ A' g' R' τ) → az_n τ ≤ az_n σ + 10 → az_sl τ ≤ az_sl σ + 500 → aw 1049 k_L_law (some .boolean) P 1725 [some (.ref 1000000), some (.ref 0), some (.ref 42), some (.int (iI i))] [] τ) : aw 1049 k_L_law (some .boolean) P 284 [some (.ref 1000000), some (.ref 0), some (.ref 42), some (.int (iI i))] [] σ := by
  obtain ⟨j1, j2, j3, j4, j5, j6, j7⟩ := id hJ
  have hG := hJ.ga
  refine aw_aload_n rfl rfl rfl ?_
  refine aw_aload_n rfl rfl rfl ?_
  refine aw_iload_n rfl rfl rfl ?_
  refine aw_iconst rfl rfl ?_
  refine aw_iadd rfl rfl ?_
  refine aw_scr j2.scr (by omega) (by omega) hL rfl rfl ?_
  refine aw_aload_n rfl rfl rfl ?_
  refine aw_iload_n rfl rfl rfl ?_
  refine aw_iconst rfl rfl ?_
  refine aw_iadd rfl rfl ?_
  refine aw_scr j2.scr (by omega) (by omega) hL rfl rfl ?_
  refine aw_calc (cf_mod (Nat.le_of_ble_eq_true rfl) (c_cloud (d := 0) j2 j3 (sx_b _ _) (sx_b _ _)) (kp_c rfl)) rfl rfl rfl (Nat.le_of_ble_eq_true rfl) (Or.inr ⟨_, rfl, (j2.f.k 0 rfl)⟩) rfl ?_
  rintro _ τ ⟨rfl, g', hC1, hg, hK⟩
  have hM1 := j1.kr hC1.f hK.kr
  change aw _ _ _ _ 298 [some (.ref 1000000), some (.ref 0), some (.ref 42), some (.int (iI i))] [.int _] _
  refine aw_aload_n rfl rfl rfl ?_
  refine aw_aload_n rfl rfl rfl ?_
  refine aw_iload_n rfl rfl rfl ?_
  refine aw_iconst rfl rfl ?_
  refine aw_iadd rfl rfl ?_
  refine aw_scr hC1.scr (by omega) (by omega) hL rfl rfl ?_
  refine aw_aload_n rfl rfl rfl ?_
  refine aw_iload_n rfl rfl rfl ?_
  refine aw_iconst rfl rfl ?_
  refine aw_iadd rfl rfl ?_
  refine aw_scr hC1.scr (by omega) (by omega) hL rfl rfl ?_
  refine aw_calc (mf_mod (Nat.le_of_ble_eq_true rfl) (m_cloud (d := 0) hM1 j3 (sx_b _ _) (sx_b _ _)) rfl) rfl rfl rfl (Nat.le_of_ble_eq_true rfl) (Or.inr ⟨_, rfl, (hC1.f.k 42 rfl)⟩) rfl ?_
  rintro _ υ ⟨rfl, hM2, S, hD, hS⟩
  change aw _ _ _ _ 312 [some (.ref 1000000), some (.ref 0), some (.ref 42), some (.int (iI i))] [.int _, .int _] _
  refine aw_ieq rfl rfl ?_
  obtain ⟨h1, h2, h3⟩ := JJ_next hJ (g_cloud hG) hC1 hg hK hM2 hD hS
  exact hP υ ⟨_, _, _, h1⟩ h2 h3
set_option maxRecDepth 20000 in
set_option maxHeartbeats 4000000 in
theorem la_person {sz : Nat} {κ : Nat × (Nat → Int32) × Option Nat} {A : Nat → Int → Int} {g : Nat → Nat} {R : tRules} {σ : az_S} (hJ : JJ sz κ A g R σ) (hlim : az_n σ ≤ 890000) (hL : κ.1 ≤ 4610) {i : Int} (hi0 : 2 ≤ i) (hi1 : i + 8 < κ.1) {P : Option Value → az_S → Prop} (hP : ∀ τ, (∃ A' g' R', JJ sz κ A' g' R' τ) → az_n τ ≤ az_n σ + 10 → az_sl τ ≤ az_sl σ + 500 → aw 1049 k_L_law (some .boolean) P 1725 [some (.ref 1000000), some (.ref 0), some (.ref 42), some (.int (iI i))] [] τ) : aw 1049 k_L_law (some .boolean) P 317 [some (.ref 1000000), some (.ref 0), some (.ref 42), some (.int (iI i))] [] σ := by
  obtain ⟨j1, j2, j3, j4, j5, j6, j7⟩ := id hJ
  have hG := hJ.ga
  refine aw_aload_n rfl rfl rfl ?_
  refine aw_calc (cal.mono (c_person (d := 0) j2 j3 hlim ) (Nat.le_of_ble_eq_true rfl)) rfl rfl rfl (Nat.le_of_ble_eq_true rfl) (Or.inr ⟨_, rfl, (j2.f.k 0 rfl)⟩) rfl ?_
  rintro _ τ ⟨rfl, g', hC1, hg, hK⟩
  have hM1 := j1.kr hC1.f hK.kr
  change aw _ _ _ _ 321 [some (.ref 1000000), some (.ref 0), some (.ref 42), some (.int (iI i))] [.int _] _
  refine aw_aload_n rfl rfl rfl ?_
  refine aw_calc (mf_mod (Nat.le_of_ble_eq_true rfl) (m_person (d := 0) hM1 j3 ) rfl) rfl rfl rfl (Nat.le_of_ble_eq_true rfl) (Or.inr ⟨_, rfl, (hC1.f.k 42 rfl)⟩) rfl ?_
  rintro _ υ ⟨rfl, hM2, S, hD, hS⟩
  change aw _ _ _ _ 325 [some (.ref 1000000), some (.ref 0), some (.ref 42), some (.int (iI i))] [.int _, .int _] _
  refine aw_ieq rfl rfl ?_
  obtain ⟨h1, h2, h3⟩ := JJ_next hJ (g_person hG) hC1 hg hK hM2 hD hS
  exact hP υ ⟨_, _, _, h1⟩ h2 h3
set_option maxRecDepth 20000 in
set_option maxHeartbeats 4000000 in
theorem la_died {sz : Nat} {κ : Nat × (Nat → Int32) × Option Nat} {A : Nat → Int → Int} {g : Nat → Nat} {R : tRules} {σ : az_S} (hJ : JJ sz κ A g R σ) (hlim : az_n σ ≤ 890000) (hL : κ.1 ≤ 4610) {i : Int} (hi0 : 2 ≤ i) (hi1 : i + 8 < κ.1) {P : Option Value → az_S → Prop} (hP : ∀ τ, (∃ A' g' R', JJ sz κ A' g' R' τ) → az_n τ ≤ az_n σ + 10 → az_sl τ ≤ az_sl σ + 500 → aw 1049 k_L_law (some .boolean) P 1725 [some (.ref 1000000), some (.ref 0), some (.ref 42), some (.int (iI i))] [] τ) : aw 1049 k_L_law (some .boolean) P 330 [some (.ref 1000000), some (.ref 0), some (.ref 42), some (.int (iI i))] [] σ := by
  obtain ⟨j1, j2, j3, j4, j5, j6, j7⟩ := id hJ
  have hG := hJ.ga
  refine aw_aload_n rfl rfl rfl ?_
  refine aw_aload_n rfl rfl rfl ?_
  refine aw_iload_n rfl rfl rfl ?_
  refine aw_iconst rfl rfl ?_
  refine aw_iadd rfl rfl ?_
  refine aw_scr j2.scr (by omega) (by omega) hL rfl rfl ?_
  refine aw_aload_n rfl rfl rfl ?_
  refine aw_iload_n rfl rfl rfl ?_
  refine aw_iconst rfl rfl ?_
  refine aw_iadd rfl rfl ?_
  refine aw_scr j2.scr (by omega) (by omega) hL rfl rfl ?_
  refine aw_calc (cf_or (Nat.le_of_ble_eq_true rfl) (c_died (d := 0) j2 j3 (sx_b _ _) (sx_b _ _)) (fun q1 q2 => kp_P j2 j3 q1 q2)) rfl rfl rfl (Nat.le_of_ble_eq_true rfl) (Or.inr ⟨_, rfl, (j2.f.k 0 rfl)⟩) rfl ?_
  rintro _ τ ⟨rfl, g', hC1, hg, hK⟩
  have hM1 := j1.kr hC1.f hK.kr
  change aw _ _ _ _ 344 [some (.ref 1000000), some (.ref 0), some (.ref 42), some (.int (iI i))] [.int _] _
  refine aw_aload_n rfl rfl rfl ?_
  refine aw_aload_n rfl rfl rfl ?_
  refine aw_iload_n rfl rfl rfl ?_
  refine aw_iconst rfl rfl ?_
  refine aw_iadd rfl rfl ?_
  refine aw_scr hC1.scr (by omega) (by omega) hL rfl rfl ?_
  refine aw_aload_n rfl rfl rfl ?_
  refine aw_iload_n rfl rfl rfl ?_
  refine aw_iconst rfl rfl ?_
  refine aw_iadd rfl rfl ?_
  refine aw_scr hC1.scr (by omega) (by omega) hL rfl rfl ?_
  refine aw_calc (mf_mod (Nat.le_of_ble_eq_true rfl) (m_died (d := 0) hM1 j3 (sx_b _ _) (sx_b _ _)) rfl) rfl rfl rfl (Nat.le_of_ble_eq_true rfl) (Or.inr ⟨_, rfl, (hC1.f.k 42 rfl)⟩) rfl ?_
  rintro _ υ ⟨rfl, hM2, S, hD, hS⟩
  change aw _ _ _ _ 358 [some (.ref 1000000), some (.ref 0), some (.ref 42), some (.int (iI i))] [.int _, .int _] _
  refine aw_ieq rfl rfl ?_
  obtain ⟨h1, h2, h3⟩ := JJ_next hJ (g_died hG) hC1 hg hK hM2 hD hS
  exact hP υ ⟨_, _, _, h1⟩ h2 h3
set_option maxRecDepth 20000 in
set_option maxHeartbeats 4000000 in
theorem la_wall {sz : Nat} {κ : Nat × (Nat → Int32) × Option Nat} {A : Nat → Int → Int} {g : Nat → Nat} {R : tRules} {σ : az_S} (hJ : JJ sz κ A g R σ) (hlim : az_n σ ≤ 890000) (hL : κ.1 ≤ 4610) {i : Int} (hi0 : 2 ≤ i) (hi1 : i + 8 < κ.1) {P : Option Value → az_S → Prop} (hP : ∀ τ, (∃ A' g' R', JJ sz κ A' g' R' τ) → az_n τ ≤ az_n σ + 10 → az_sl τ ≤ az_sl σ + 500 → aw 1049 k_L_law (some .boolean) P 1725 [some (.ref 1000000), some (.ref 0), some (.ref 42), some (.int (iI i))] [] τ) : aw 1049 k_L_law (some .boolean) P 363 [some (.ref 1000000), some (.ref 0), some (.ref 42), some (.int (iI i))] [] σ := by
  obtain ⟨j1, j2, j3, j4, j5, j6, j7⟩ := id hJ
  have hG := hJ.ga
  refine aw_aload_n rfl rfl rfl ?_
  refine aw_aload_n rfl rfl rfl ?_
  refine aw_iload_n rfl rfl rfl ?_
  refine aw_iconst rfl rfl ?_
  refine aw_iadd rfl rfl ?_
  refine aw_scr j2.scr (by omega) (by omega) hL rfl rfl ?_
  refine aw_aload_n rfl rfl rfl ?_
  refine aw_iload_n rfl rfl rfl ?_
  refine aw_iconst rfl rfl ?_
  refine aw_iadd rfl rfl ?_
  refine aw_scr j2.scr (by omega) (by omega) hL rfl rfl ?_
  refine aw_aload_n rfl rfl rfl ?_
  refine aw_iload_n rfl rfl rfl ?_
  refine aw_iconst rfl rfl ?_
  refine aw_iadd rfl rfl ?_
  refine aw_scr j2.scr (by omega) (by omega) hL rfl rfl ?_
  refine aw_calc (cal.mono (c_wall (d := 0) j2 j3 hlim (sx_b _ _) (sx_b _ _) (sx_b _ _)) (Nat.le_of_ble_eq_true rfl)) rfl rfl rfl (Nat.le_of_ble_eq_true rfl) (Or.inr ⟨_, rfl, (j2.f.k 0 rfl)⟩) rfl ?_
  rintro _ τ ⟨rfl, g', hC1, hg, hK⟩
  have hM1 := j1.kr hC1.f hK.kr
  change aw _ _ _ _ 382 [some (.ref 1000000), some (.ref 0), some (.ref 42), some (.int (iI i))] [.int _] _
  refine aw_aload_n rfl rfl rfl ?_
  refine aw_aload_n rfl rfl rfl ?_
  refine aw_iload_n rfl rfl rfl ?_
  refine aw_iconst rfl rfl ?_
  refine aw_iadd rfl rfl ?_
  refine aw_scr hC1.scr (by omega) (by omega) hL rfl rfl ?_
  refine aw_aload_n rfl rfl rfl ?_
  refine aw_iload_n rfl rfl rfl ?_
  refine aw_iconst rfl rfl ?_
  refine aw_iadd rfl rfl ?_
  refine aw_scr hC1.scr (by omega) (by omega) hL rfl rfl ?_
  refine aw_aload_n rfl rfl rfl ?_
  refine aw_iload_n rfl rfl rfl ?_
  refine aw_iconst rfl rfl ?_
  refine aw_iadd rfl rfl ?_
  refine aw_scr hC1.scr (by omega) (by omega) hL rfl rfl ?_
  refine aw_calc (mf_mod (Nat.le_of_ble_eq_true rfl) (m_wall (d := 0) hM1 j3 (sx_b _ _) (sx_b _ _) (sx_b _ _)) rfl) rfl rfl rfl (Nat.le_of_ble_eq_true rfl) (Or.inr ⟨_, rfl, (hC1.f.k 42 rfl)⟩) rfl ?_
  rintro _ υ ⟨rfl, hM2, S, hD, hS⟩
  change aw _ _ _ _ 401 [some (.ref 1000000), some (.ref 0), some (.ref 42), some (.int (iI i))] [.int _, .int _] _
  refine aw_ieq rfl rfl ?_
  obtain ⟨h1, h2, h3⟩ := JJ_next hJ (g_wall hG) hC1 hg hK hM2 hD hS
  exact hP υ ⟨_, _, _, h1⟩ h2 h3
set_option maxRecDepth 20000 in
set_option maxHeartbeats 4000000 in
theorem la_tree {sz : Nat} {κ : Nat × (Nat → Int32) × Option Nat} {A : Nat → Int → Int} {g : Nat → Nat} {R : tRules} {σ : az_S} (hJ : JJ sz κ A g R σ) (hlim : az_n σ ≤ 890000) (hL : κ.1 ≤ 4610) {i : Int} (hi0 : 2 ≤ i) (hi1 : i + 8 < κ.1) {P : Option Value → az_S → Prop} (hP : ∀ τ, (∃ A' g' R', JJ sz κ A' g' R' τ) → az_n τ ≤ az_n σ + 10 → az_sl τ ≤ az_sl σ + 500 → aw 1049 k_L_law (some .boolean) P 1725 [some (.ref 1000000), some (.ref 0), some (.ref 42), some (.int (iI i))] [] τ) : aw 1049 k_L_law (some .boolean) P 406 [some (.ref 1000000), some (.ref 0), some (.ref 42), some (.int (iI i))] [] σ := by
  obtain ⟨j1, j2, j3, j4, j5, j6, j7⟩ := id hJ
  have hG := hJ.ga
  refine aw_aload_n rfl rfl rfl ?_
  refine aw_aload_n rfl rfl rfl ?_
  refine aw_iload_n rfl rfl rfl ?_
  refine aw_iconst rfl rfl ?_
  refine aw_iadd rfl rfl ?_
  refine aw_scr j2.scr (by omega) (by omega) hL rfl rfl ?_
  refine aw_aload_n rfl rfl rfl ?_
  refine aw_iload_n rfl rfl rfl ?_
  refine aw_iconst rfl rfl ?_
  refine aw_iadd rfl rfl ?_
  refine aw_scr j2.scr (by omega) (by omega) hL rfl rfl ?_
  refine aw_aload_n rfl rfl rfl ?_
  refine aw_iload_n rfl rfl rfl ?_
  refine aw_iconst rfl rfl ?_
  refine aw_iadd rfl rfl ?_
  refine aw_scr j2.scr (by omega) (by omega) hL rfl rfl ?_
  refine aw_aload_n rfl rfl rfl ?_
  refine aw_iload_n rfl rfl rfl ?_
  refine aw_iconst rfl rfl ?_
  refine aw_iadd rfl rfl ?_
  refine aw_scr j2.scr (by omega) (by omega) hL rfl rfl ?_
  refine aw_calc (cal.mono (c_tree (d := 0) j2 j3 hlim (sx_b _ _) (sx_b _ _) (sx_b _ _) (sx_b _ _)) (Nat.le_of_ble_eq_true rfl)) rfl rfl rfl (Nat.le_of_ble_eq_true rfl) (Or.inr ⟨_, rfl, (j2.f.k 0 rfl)⟩) rfl ?_
  rintro _ τ ⟨rfl, g', hC1, hg, hK⟩
  have hM1 := j1.kr hC1.f hK.kr
  change aw _ _ _ _ 430 [some (.ref 1000000), some (.ref 0), some (.ref 42), some (.int (iI i))] [.int _] _
  refine aw_aload_n rfl rfl rfl ?_
  refine aw_aload_n rfl rfl rfl ?_
  refine aw_iload_n rfl rfl rfl ?_
  refine aw_iconst rfl rfl ?_
  refine aw_iadd rfl rfl ?_
  refine aw_scr hC1.scr (by omega) (by omega) hL rfl rfl ?_
  refine aw_aload_n rfl rfl rfl ?_
  refine aw_iload_n rfl rfl rfl ?_
  refine aw_iconst rfl rfl ?_
  refine aw_iadd rfl rfl ?_
  refine aw_scr hC1.scr (by omega) (by omega) hL rfl rfl ?_
  refine aw_aload_n rfl rfl rfl ?_
  refine aw_iload_n rfl rfl rfl ?_
  refine aw_iconst rfl rfl ?_
  refine aw_iadd rfl rfl ?_
  refine aw_scr hC1.scr (by omega) (by omega) hL rfl rfl ?_
  refine aw_aload_n rfl rfl rfl ?_
  refine aw_iload_n rfl rfl rfl ?_
  refine aw_iconst rfl rfl ?_
  refine aw_iadd rfl rfl ?_
  refine aw_scr hC1.scr (by omega) (by omega) hL rfl rfl ?_
  refine aw_calc (mf_mod (Nat.le_of_ble_eq_true rfl) (m_tree (d := 0) hM1 j3 (sx_b _ _) (sx_b _ _) (sx_b _ _) (sx_b _ _)) rfl) rfl rfl rfl (Nat.le_of_ble_eq_true rfl) (Or.inr ⟨_, rfl, (hC1.f.k 42 rfl)⟩) rfl ?_
  rintro _ υ ⟨rfl, hM2, S, hD, hS⟩
  change aw _ _ _ _ 454 [some (.ref 1000000), some (.ref 0), some (.ref 42), some (.int (iI i))] [.int _, .int _] _
  refine aw_ieq rfl rfl ?_
  obtain ⟨h1, h2, h3⟩ := JJ_next hJ (g_tree hG) hC1 hg hK hM2 hD hS
  exact hP υ ⟨_, _, _, h1⟩ h2 h3
set_option maxRecDepth 20000 in
set_option maxHeartbeats 4000000 in
theorem la_pole {sz : Nat} {κ : Nat × (Nat → Int32) × Option Nat} {A : Nat → Int → Int} {g : Nat → Nat} {R : tRules} {σ : az_S} (hJ : JJ sz κ A g R σ) (hlim : az_n σ ≤ 890000) (hL : κ.1 ≤ 4610) {i : Int} (hi0 : 2 ≤ i) (hi1 : i + 8 < κ.1) {P : Option Value → az_S → Prop} (hP : ∀ τ, (∃ A' g' R', JJ sz κ A' g' R' τ) → az_n τ ≤ az_n σ + 10 → az_sl τ ≤ az_sl σ + 500 → aw 1049 k_L_law (some .boolean) P 1725 [some (.ref 1000000), some (.ref 0), some (.ref 42), some (.int (iI i))] [] τ) : aw 1049 k_L_law (some .boolean) P 459 [some (.ref 1000000), some (.ref 0), some (.ref 42), some (.int (iI i))] [] σ := by
  obtain ⟨j1, j2, j3, j4, j5, j6, j7⟩ := id hJ
  have hG := hJ.ga
  refine aw_aload_n rfl rfl rfl ?_
  refine aw_aload_n rfl rfl rfl ?_
  refine aw_iload_n rfl rfl rfl ?_
  refine aw_iconst rfl rfl ?_
  refine aw_iadd rfl rfl ?_
  refine aw_scr j2.scr (by omega) (by omega) hL rfl rfl ?_
  refine aw_aload_n rfl rfl rfl ?_
  refine aw_iload_n rfl rfl rfl ?_
  refine aw_iconst rfl rfl ?_
  refine aw_iadd rfl rfl ?_
  refine aw_scr j2.scr (by omega) (by omega) hL rfl rfl ?_
  refine aw_aload_n rfl rfl rfl ?_
  refine aw_iload_n rfl rfl rfl ?_
  refine aw_iconst rfl rfl ?_
  refine aw_iadd rfl rfl ?_
  refine aw_scr j2.scr (by omega) (by omega) hL rfl rfl ?_
  refine aw_aload_n rfl rfl rfl ?_
  refine aw_iload_n rfl rfl rfl ?_
  refine aw_iconst rfl rfl ?_
  refine aw_iadd rfl rfl ?_
  refine aw_scr j2.scr (by omega) (by omega) hL rfl rfl ?_
  refine aw_aload_n rfl rfl rfl ?_
  refine aw_iload_n rfl rfl rfl ?_
  refine aw_iconst rfl rfl ?_
  refine aw_iadd rfl rfl ?_
  refine aw_scr j2.scr (by omega) (by omega) hL rfl rfl ?_
  refine aw_calc (cal.mono (c_pole (d := 0) j2 j3 hlim (sx_b _ _) (sx_b _ _) (sx_b _ _) (sx_b _ _) (sx_b _ _)) (Nat.le_of_ble_eq_true rfl)) rfl rfl rfl (Nat.le_of_ble_eq_true rfl) (Or.inr ⟨_, rfl, (j2.f.k 0 rfl)⟩) rfl ?_
  rintro _ τ ⟨rfl, g', hC1, hg, hK⟩
  have hM1 := j1.kr hC1.f hK.kr
  change aw _ _ _ _ 488 [some (.ref 1000000), some (.ref 0), some (.ref 42), some (.int (iI i))] [.int _] _
  refine aw_aload_n rfl rfl rfl ?_
  refine aw_aload_n rfl rfl rfl ?_
  refine aw_iload_n rfl rfl rfl ?_
  refine aw_iconst rfl rfl ?_
  refine aw_iadd rfl rfl ?_
  refine aw_scr hC1.scr (by omega) (by omega) hL rfl rfl ?_
  refine aw_aload_n rfl rfl rfl ?_
  refine aw_iload_n rfl rfl rfl ?_
  refine aw_iconst rfl rfl ?_
  refine aw_iadd rfl rfl ?_
  refine aw_scr hC1.scr (by omega) (by omega) hL rfl rfl ?_
  refine aw_aload_n rfl rfl rfl ?_
  refine aw_iload_n rfl rfl rfl ?_
  refine aw_iconst rfl rfl ?_
  refine aw_iadd rfl rfl ?_
  refine aw_scr hC1.scr (by omega) (by omega) hL rfl rfl ?_
  refine aw_aload_n rfl rfl rfl ?_
  refine aw_iload_n rfl rfl rfl ?_
  refine aw_iconst rfl rfl ?_
  refine aw_iadd rfl rfl ?_
  refine aw_scr hC1.scr (by omega) (by omega) hL rfl rfl ?_
  refine aw_aload_n rfl rfl rfl ?_
  refine aw_iload_n rfl rfl rfl ?_
  refine aw_iconst rfl rfl ?_
  refine aw_iadd rfl rfl ?_
  refine aw_scr hC1.scr (by omega) (by omega) hL rfl rfl ?_
  refine aw_calc (mf_mod (Nat.le_of_ble_eq_true rfl) (m_pole (d := 0) hM1 j3 (sx_b _ _) (sx_b _ _) (sx_b _ _) (sx_b _ _) (sx_b _ _)) rfl) rfl rfl rfl (Nat.le_of_ble_eq_true rfl) (Or.inr ⟨_, rfl, (hC1.f.k 42 rfl)⟩) rfl ?_
  rintro _ υ ⟨rfl, hM2, S, hD, hS⟩
  change aw _ _ _ _ 517 [some (.ref 1000000), some (.ref 0), some (.ref 42), some (.int (iI i))] [.int _, .int _] _
  refine aw_ieq rfl rfl ?_
  obtain ⟨h1, h2, h3⟩ := JJ_next hJ (g_pole hG) hC1 hg hK hM2 hD hS
  exact hP υ ⟨_, _, _, h1⟩ h2 h3
set_option maxRecDepth 20000 in
set_option maxHeartbeats 4000000 in
theorem la_raise {sz : Nat} {κ : Nat × (Nat → Int32) × Option Nat} {A : Nat → Int → Int} {g : Nat → Nat} {R : tRules} {σ : az_S} (hJ : JJ sz κ A g R σ) (hlim : az_n σ ≤ 890000) (hL : κ.1 ≤ 4610) {i : Int} (hi0 : 2 ≤ i) (hi1 : i + 8 < κ.1) {P : Option Value → az_S → Prop} (hP : ∀ τ, (∃ A' g' R', JJ sz κ A' g' R' τ) → az_n τ ≤ az_n σ + 10 → az_sl τ ≤ az_sl σ + 500 → aw 1049 k_L_law (some .boolean) P 1725 [some (.ref 1000000), some (.ref 0), some (.ref 42), some (.int (iI i))] [] τ) : aw 1049 k_L_law (some .boolean) P 522 [some (.ref 1000000), some (.ref 0), some (.ref 42), some (.int (iI i))] [] σ := by
  obtain ⟨j1, j2, j3, j4, j5, j6, j7⟩ := id hJ
  have hG := hJ.ga
  refine aw_aload_n rfl rfl rfl ?_
  refine aw_aload_n rfl rfl rfl ?_
  refine aw_iload_n rfl rfl rfl ?_
  refine aw_iconst rfl rfl ?_
  refine aw_iadd rfl rfl ?_
  refine aw_scr j2.scr (by omega) (by omega) hL rfl rfl ?_
  refine aw_aload_n rfl rfl rfl ?_
  refine aw_iload_n rfl rfl rfl ?_
  refine aw_iconst rfl rfl ?_
  refine aw_iadd rfl rfl ?_
  refine aw_scr j2.scr (by omega) (by omega) hL rfl rfl ?_
  refine aw_aload_n rfl rfl rfl ?_
  refine aw_iload_n rfl rfl rfl ?_
  refine aw_iconst rfl rfl ?_
  refine aw_iadd rfl rfl ?_
  refine aw_scr j2.scr (by omega) (by omega) hL rfl rfl ?_
  refine aw_calc (cf_or (Nat.le_of_ble_eq_true rfl) (c_raise (d := 0) j2 j3 (sx_b _ _) (sx_b _ _) (sx_b _ _) j4) (fun q1 q2 => kp_T j2 j3 q1 q2)) rfl rfl rfl (Nat.le_of_ble_eq_true rfl) (Or.inr ⟨_, rfl, (j2.f.k 0 rfl)⟩) rfl ?_
  rintro _ τ ⟨rfl, g', hC1, hg, hK⟩
  have hM1 := j1.kr hC1.f hK.kr
  change aw _ _ _ _ 541 [some (.ref 1000000), some (.ref 0), some (.ref 42), some (.int (iI i))] [.int _] _
  refine aw_aload_n rfl rfl rfl ?_
  refine aw_aload_n rfl rfl rfl ?_
  refine aw_iload_n rfl rfl rfl ?_
  refine aw_iconst rfl rfl ?_
  refine aw_iadd rfl rfl ?_
  refine aw_scr hC1.scr (by omega) (by omega) hL rfl rfl ?_
  refine aw_aload_n rfl rfl rfl ?_
  refine aw_iload_n rfl rfl rfl ?_
  refine aw_iconst rfl rfl ?_
  refine aw_iadd rfl rfl ?_
  refine aw_scr hC1.scr (by omega) (by omega) hL rfl rfl ?_
  refine aw_aload_n rfl rfl rfl ?_
  refine aw_iload_n rfl rfl rfl ?_
  refine aw_iconst rfl rfl ?_
  refine aw_iadd rfl rfl ?_
  refine aw_scr hC1.scr (by omega) (by omega) hL rfl rfl ?_
  refine aw_calc (mf_mod (Nat.le_of_ble_eq_true rfl) (m_raise (d := 0) hM1 j3 (sx_b _ _) (sx_b _ _) (sx_b _ _) j4) rfl) rfl rfl rfl (Nat.le_of_ble_eq_true rfl) (Or.inr ⟨_, rfl, (hC1.f.k 42 rfl)⟩) rfl ?_
  rintro _ υ ⟨rfl, hM2, S, hD, hS⟩
  change aw _ _ _ _ 560 [some (.ref 1000000), some (.ref 0), some (.ref 42), some (.int (iI i))] [.int _, .int _] _
  refine aw_ieq rfl rfl ?_
  obtain ⟨h1, h2, h3⟩ := JJ_next hJ (g_raise hG) hC1 hg hK hM2 hD hS
  exact hP υ ⟨_, _, _, h1⟩ h2 h3
