set_option maxRecDepth 10000 in
theorem pb7 {d : Nat} {P : Option Value → az_S → Prop} {sz : Nat} {κ : Nat × (Nat → Int32) × Option Nat} {A : Nat → Int → Int} {g : Nat → Nat} {σ : az_S} (hC : CR sz κ A g σ) {x f p i : Int} (hq : BDp x f σ) (hi : inI i) {w : Option Value} (h : P none σ) : aw d k_X2_product none P 7 [some (.ref 40), some (.int (iI p)), some (.int (iI i)), w] [] σ := by
  obtain ⟨hi1, hi2⟩ := hi
  refine aw_iload_n rfl rfl rfl ?_
  refine aw_sipush rfl rfl rfl ?_
  refine aw_icmp (p' := 61) rfl ⟨by omega, by omega⟩ ⟨by omega, by omega⟩ rfl rfl (fun c => ?_) (fun c => ?_)
  · exact aw_retv rfl h
  · refine aw_aload_n rfl rfl rfl ?_
    refine aw_gk (v := 1) (3) rfl rfl (hC.f.k 40 rfl) rfl hq.2.1 rfl (fun _ _ => ?_)
    refine aw_bipush rfl rfl rfl ?_
    refine aw_icmp (p' := 32) rfl ⟨by omega, by omega⟩ ⟨by omega, by omega⟩ rfl rfl (fun c2 => ?_) (fun c2 => ?_)
    · dsimp only [zc] at c2; omega
    · refine aw_aload_n rfl rfl rfl ?_
      refine aw_gk (v := 1) (3) rfl rfl (hC.f.k 40 rfl) rfl hq.2.1 rfl (fun _ _ => ?_)
      refine aw_bipush rfl rfl rfl ?_
      refine aw_icmp (p' := 61) rfl ⟨by omega, by omega⟩ ⟨by omega, by omega⟩ rfl rfl (fun c3 => ?_) (fun c3 => ?_)
      · exact aw_retv rfl h
      · dsimp only [zc] at c3; omega
set_option maxRecDepth 10000 in
theorem pb46_16 {d : Nat} {P : Option Value → az_S → Prop} {sz : Nat} {κ : Nat × (Nat → Int32) × Option Nat} {A : Nat → Int → Int} {g : Nat → Nat} {σ : az_S} (hC : CR sz κ A g σ) (hI : MI sz A) (hrb : az_r σ 40 1 = some 16) {x f p i o : Int} (hq : BDp x f σ) (hl0 : 0 ≤ zx σ 16 5) (hl1 : zx σ 16 5 ≤ 400) (hi0 : 0 ≤ i) (hi1 : i < 1000) (ho : inI o) (h : ∀ τ, CR sz κ A g τ → Mod σ τ [16, 17, 18] → BDp x f τ → (0 ≤ zx τ 16 5 ∧ zx τ 16 5 ≤ 400) → zx τ 16 6 = zx σ 16 6 → P none τ) : aw (d + 1) k_X2_product none P 46 [some (.ref 40), some (.int (iI p)), some (.int (iI i)), some (.int (iI o))] [] σ := by
  refine aw_aload_n rfl rfl rfl ?_
  refine aw_getr (b := 16) rfl rfl (hC.f.k 40 rfl) hrb rfl ?_
  refine aw_iload_n rfl rfl rfl ?_
  refine aw_iconst rfl rfl ?_
  refine aw_calc (c_addb16 hC hI ho ⟨by omega, by omega⟩ rfl hl0 hl1) rfl rfl rfl (Nat.le_of_ble_eq_true rfl) (Or.inr ⟨_, rfl, (hC.f.k 16 rfl)⟩) rfl ?_
  rintro _ τ ⟨rfl, h1, h2, h3, h4⟩
  change aw _ _ _ _ 55 [some (.ref 40), some (.int (iI p)), some (.int (iI i)), some (.int (iI o))] [] _
  refine aw_iinc rfl rfl rfl rfl ?_
  change aw _ _ _ _ 58 [some (.ref 40), some (.int (iI p)), some (.int (iI (i + 1))), some (.int (iI o))] [] _
  refine aw_goto rfl rfl ?_
  exact pb7 h1 (hq.mod h2 rfl) ⟨by omega, by omega⟩ (h τ h1 h2 (hq.mod h2 rfl) h3 h4)
set_option maxRecDepth 10000 in
theorem pb46_22 {d : Nat} {P : Option Value → az_S → Prop} {sz : Nat} {κ : Nat × (Nat → Int32) × Option Nat} {A : Nat → Int → Int} {g : Nat → Nat} {σ : az_S} (hC : CR sz κ A g σ) (hI : MI sz A) (hrb : az_r σ 40 1 = some 22) {x f p i o : Int} (hq : BDp x f σ) (hl0 : 0 ≤ zx σ 22 5) (hl1 : zx σ 22 5 ≤ 400) (hi0 : 0 ≤ i) (hi1 : i < 1000) (ho : inI o) (h : ∀ τ, CR sz κ A g τ → Mod σ τ [22, 23, 24] → BDp x f τ → (0 ≤ zx τ 22 5 ∧ zx τ 22 5 ≤ 400) → zx τ 22 6 = zx σ 22 6 → P none τ) : aw (d + 1) k_X2_product none P 46 [some (.ref 40), some (.int (iI p)), some (.int (iI i)), some (.int (iI o))] [] σ := by
  refine aw_aload_n rfl rfl rfl ?_
  refine aw_getr (b := 22) rfl rfl (hC.f.k 40 rfl) hrb rfl ?_
  refine aw_iload_n rfl rfl rfl ?_
  refine aw_iconst rfl rfl ?_
  refine aw_calc (c_addb22 hC hI ho ⟨by omega, by omega⟩ rfl hl0 hl1) rfl rfl rfl (Nat.le_of_ble_eq_true rfl) (Or.inr ⟨_, rfl, (hC.f.k 22 rfl)⟩) rfl ?_
  rintro _ τ ⟨rfl, h1, h2, h3, h4⟩
  change aw _ _ _ _ 55 [some (.ref 40), some (.int (iI p)), some (.int (iI i)), some (.int (iI o))] [] _
  refine aw_iinc rfl rfl rfl rfl ?_
  change aw _ _ _ _ 58 [some (.ref 40), some (.int (iI p)), some (.int (iI (i + 1))), some (.int (iI o))] [] _
  refine aw_goto rfl rfl ?_
  exact pb7 h1 (hq.mod h2 rfl) ⟨by omega, by omega⟩ (h τ h1 h2 (hq.mod h2 rfl) h3 h4)
set_option maxRecDepth 10000 in
theorem sb7 {d : Nat} {P : Option Value → az_S → Prop} {sz : Nat} {κ : Nat × (Nat → Int32) × Option Nat} {A : Nat → Int → Int} {g : Nat → Nat} {σ : az_S} (hC : CR sz κ A g σ) {x f p i : Int} (hq : BDp x f σ) (hi : inI i) {w : Option Value} (h : P none σ) : aw d k_X2_sum none P 7 [some (.ref 40), some (.int (iI p)), some (.int (iI i)), w] [] σ := by
  obtain ⟨hi1, hi2⟩ := hi
  refine aw_iload_n rfl rfl rfl ?_
  refine aw_sipush rfl rfl rfl ?_
  refine aw_icmp (p' := 61) rfl ⟨by omega, by omega⟩ ⟨by omega, by omega⟩ rfl rfl (fun c => ?_) (fun c => ?_)
  · exact aw_retv rfl h
  · refine aw_aload_n rfl rfl rfl ?_
    refine aw_gk (v := 1) (3) rfl rfl (hC.f.k 40 rfl) rfl hq.2.1 rfl (fun _ _ => ?_)
    refine aw_bipush rfl rfl rfl ?_
    refine aw_icmp (p' := 32) rfl ⟨by omega, by omega⟩ ⟨by omega, by omega⟩ rfl rfl (fun c2 => ?_) (fun c2 => ?_)
    · dsimp only [zc] at c2; omega
    · refine aw_aload_n rfl rfl rfl ?_
      refine aw_gk (v := 1) (3) rfl rfl (hC.f.k 40 rfl) rfl hq.2.1 rfl (fun _ _ => ?_)
      refine aw_bipush rfl rfl rfl ?_
      refine aw_icmp (p' := 61) rfl ⟨by omega, by omega⟩ ⟨by omega, by omega⟩ rfl rfl (fun c3 => ?_) (fun c3 => ?_)
      · exact aw_retv rfl h
      · dsimp only [zc] at c3; omega
set_option maxRecDepth 10000 in
theorem sb46_16 {d : Nat} {P : Option Value → az_S → Prop} {sz : Nat} {κ : Nat × (Nat → Int32) × Option Nat} {A : Nat → Int → Int} {g : Nat → Nat} {σ : az_S} (hC : CR sz κ A g σ) (hI : MI sz A) (hrb : az_r σ 40 1 = some 16) {x f p i o : Int} (hq : BDp x f σ) (hl0 : 0 ≤ zx σ 16 5) (hl1 : zx σ 16 5 ≤ 400) (hi0 : 0 ≤ i) (hi1 : i < 1000) (ho : inI o) (h : ∀ τ, CR sz κ A g τ → Mod σ τ [16, 17, 18] → BDp x f τ → (0 ≤ zx τ 16 5 ∧ zx τ 16 5 ≤ 400) → zx τ 16 6 = zx σ 16 6 → P none τ) : aw (d + 1) k_X2_sum none P 46 [some (.ref 40), some (.int (iI p)), some (.int (iI i)), some (.int (iI o))] [] σ := by
  refine aw_aload_n rfl rfl rfl ?_
  refine aw_getr (b := 16) rfl rfl (hC.f.k 40 rfl) hrb rfl ?_
  refine aw_iload_n rfl rfl rfl ?_
  refine aw_iconst rfl rfl ?_
  refine aw_calc (c_addb16 hC hI ho ⟨by omega, by omega⟩ rfl hl0 hl1) rfl rfl rfl (Nat.le_of_ble_eq_true rfl) (Or.inr ⟨_, rfl, (hC.f.k 16 rfl)⟩) rfl ?_
  rintro _ τ ⟨rfl, h1, h2, h3, h4⟩
  change aw _ _ _ _ 55 [some (.ref 40), some (.int (iI p)), some (.int (iI i)), some (.int (iI o))] [] _
  refine aw_iinc rfl rfl rfl rfl ?_
  change aw _ _ _ _ 58 [some (.ref 40), some (.int (iI p)), some (.int (iI (i + 1))), some (.int (iI o))] [] _
  refine aw_goto rfl rfl ?_
  exact sb7 h1 (hq.mod h2 rfl) ⟨by omega, by omega⟩ (h τ h1 h2 (hq.mod h2 rfl) h3 h4)
set_option maxRecDepth 10000 in
theorem sb46_22 {d : Nat} {P : Option Value → az_S → Prop} {sz : Nat} {κ : Nat × (Nat → Int32) × Option Nat} {A : Nat → Int → Int} {g : Nat → Nat} {σ : az_S} (hC : CR sz κ A g σ) (hI : MI sz A) (hrb : az_r σ 40 1 = some 22) {x f p i o : Int} (hq : BDp x f σ) (hl0 : 0 ≤ zx σ 22 5) (hl1 : zx σ 22 5 ≤ 400) (hi0 : 0 ≤ i) (hi1 : i < 1000) (ho : inI o) (h : ∀ τ, CR sz κ A g τ → Mod σ τ [22, 23, 24] → BDp x f τ → (0 ≤ zx τ 22 5 ∧ zx τ 22 5 ≤ 400) → zx τ 22 6 = zx σ 22 6 → P none τ) : aw (d + 1) k_X2_sum none P 46 [some (.ref 40), some (.int (iI p)), some (.int (iI i)), some (.int (iI o))] [] σ := by
  refine aw_aload_n rfl rfl rfl ?_
  refine aw_getr (b := 22) rfl rfl (hC.f.k 40 rfl) hrb rfl ?_
  refine aw_iload_n rfl rfl rfl ?_
  refine aw_iconst rfl rfl ?_
  refine aw_calc (c_addb22 hC hI ho ⟨by omega, by omega⟩ rfl hl0 hl1) rfl rfl rfl (Nat.le_of_ble_eq_true rfl) (Or.inr ⟨_, rfl, (hC.f.k 22 rfl)⟩) rfl ?_
  rintro _ τ ⟨rfl, h1, h2, h3, h4⟩
  change aw _ _ _ _ 55 [some (.ref 40), some (.int (iI p)), some (.int (iI i)), some (.int (iI o))] [] _
  refine aw_iinc rfl rfl rfl rfl ?_
  change aw _ _ _ _ 58 [some (.ref 40), some (.int (iI p)), some (.int (iI (i + 1))), some (.int (iI o))] [] _
  refine aw_goto rfl rfl ?_
  exact sb7 h1 (hq.mod h2 rfl) ⟨by omega, by omega⟩ (h τ h1 h2 (hq.mod h2 rfl) h3 h4)
