set_option maxRecDepth 10000 in
theorem c_oneb {d : Nat} {sz : Nat} {κ : Nat × (Nat → Int32) × Option Nat} {A : Nat → Int → Int} {g : Nat → Nat} {σ : az_S} (hC : CR sz κ A g σ) (hI : MI sz A) {a f : Int} (hq : BDp a f σ) (hf : f ≠ 0) {p : Int} (hp : inI p) : cal (d + 2) 22 [.ref 40, .int (iI p)] σ (fun r τ => r = none ∧ τ = σ) := by
  refine cal_of (M := (yX2_one, cX2_one, 3, none)) (cd := k_X2_one) (L := [some (.ref 40), some (.int (iI p)), none]) rfl (Nat.le_of_ble_eq_true rfl) rfl rfl ?_
  refine aw_aload_n rfl rfl rfl ?_
  refine aw_gk (v := 1) (3) rfl rfl (hC.f.k 40 rfl) rfl hq.2.1 rfl (fun _ _ => ?_)
  refine aw_istore_n rfl (Nat.le_of_ble_eq_true rfl) rfl rfl ?_
  change aw _ _ _ _ 5 [some (.ref 40), some (.int (iI p)), some (.int (iI 1))] _ _
  refine aw_iload_n rfl rfl rfl ?_
  refine aw_tsd (p' := 215) rfl ⟨by omega, by omega⟩ (Or.inl (by omega)) rfl ?_
  refine aw_aload_n rfl rfl rfl ?_
  refine aw_iconst rfl rfl ?_
  refine aw_calc (c_failb hC hI hq hf ⟨by omega, by omega⟩) rfl rfl rfl (Nat.le_of_ble_eq_true rfl) (Or.inr ⟨_, rfl, (hC.f.k 40 rfl)⟩) rfl ?_
  rintro _ _ ⟨rfl, rfl⟩
  exact aw_retv rfl ⟨rfl, rfl⟩
set_option maxRecDepth 10000 in
set_option maxHeartbeats 2000000 in
theorem c_productb {d : Nat} {sz : Nat} {κ : Nat × (Nat → Int32) × Option Nat} {A : Nat → Int → Int} {g : Nat → Nat} {σ : az_S} (hC : CR sz κ A g σ) (hI : MI sz A) {a f : Int} (hq : BDp a f σ) (hf : f ≠ 0) {p : Int} (hp : inI p) : cal (d + 3) 21 [.ref 40, .int (iI p)] σ (fun r τ => r = none ∧ τ = σ) := by
  obtain ⟨hp1, hp2⟩ := hp
  refine cal_of (M := (yX2_product, cX2_product, 4, none)) (cd := k_X2_product) (L := [some (.ref 40), some (.int (iI p)), none, none]) rfl (Nat.le_of_ble_eq_true rfl) rfl rfl ?_
  refine aw_aload_n rfl rfl rfl ?_
  refine aw_iload_n rfl rfl rfl ?_
  refine aw_calc (c_oneb hC hI hq hf ⟨by omega, by omega⟩) rfl rfl rfl (Nat.le_of_ble_eq_true rfl) (Or.inr ⟨_, rfl, (hC.f.k 40 rfl)⟩) rfl ?_
  rintro _ _ ⟨rfl, rfl⟩
  change aw _ _ _ _ 5 [some (.ref 40), some (.int (iI _)), none, none] [] _
  refine aw_iconst rfl rfl ?_
  refine aw_istore_n rfl (Nat.le_of_ble_eq_true rfl) rfl rfl ?_
  change aw _ _ _ _ 7 [some (.ref 40), some (.int (iI _)), some (.int (iI _)), none] _ _
  refine aw_iload_n rfl rfl rfl ?_
  refine aw_sipush rfl rfl rfl ?_
  refine aw_icmp (p' := 61) rfl ⟨by omega, by omega⟩ ⟨by omega, by omega⟩ rfl rfl (fun c2 => ?_) (fun c2 => ?_)
  · dsimp only [zc] at c2
    omega
  · dsimp only [zc] at c2
    refine aw_aload_n rfl rfl rfl ?_
    refine aw_gk (v := 1) (3) rfl rfl (hC.f.k 40 rfl) rfl hq.2.1 rfl (fun _ _ => ?_)
    refine aw_bipush rfl rfl rfl ?_
    refine aw_icmp (p' := 32) rfl ⟨by omega, by omega⟩ ⟨by omega, by omega⟩ rfl rfl (fun c3 => ?_) (fun c3 => ?_)
    · dsimp only [zc] at c3
      omega
    · dsimp only [zc] at c3
      refine aw_aload_n rfl rfl rfl ?_
      refine aw_gk (v := 1) (3) rfl rfl (hC.f.k 40 rfl) rfl hq.2.1 rfl (fun _ _ => ?_)
      refine aw_bipush rfl rfl rfl ?_
      refine aw_icmp (p' := 61) rfl ⟨by omega, by omega⟩ ⟨by omega, by omega⟩ rfl rfl (fun c4 => ?_) (fun c4 => ?_)
      · dsimp only [zc] at c4
        refine aw_retv rfl ?_
        exact ⟨rfl, rfl⟩
      · dsimp only [zc] at c4
        omega
set_option maxRecDepth 10000 in
set_option maxHeartbeats 2000000 in
theorem c_sumb {d : Nat} {sz : Nat} {κ : Nat × (Nat → Int32) × Option Nat} {A : Nat → Int → Int} {g : Nat → Nat} {σ : az_S} (hC : CR sz κ A g σ) (hI : MI sz A) {a f : Int} (hq : BDp a f σ) (hf : f ≠ 0) {p : Int} (hp : inI p) : cal (d + 4) 20 [.ref 40, .int (iI p)] σ (fun r τ => r = none ∧ τ = σ) := by
  obtain ⟨hp1, hp2⟩ := hp
  refine cal_of (M := (yX2_sum, cX2_sum, 4, none)) (cd := k_X2_sum) (L := [some (.ref 40), some (.int (iI p)), none, none]) rfl (Nat.le_of_ble_eq_true rfl) rfl rfl ?_
  refine aw_aload_n rfl rfl rfl ?_
  refine aw_iload_n rfl rfl rfl ?_
  refine aw_calc (c_productb hC hI hq hf ⟨by omega, by omega⟩) rfl rfl rfl (Nat.le_of_ble_eq_true rfl) (Or.inr ⟨_, rfl, (hC.f.k 40 rfl)⟩) rfl ?_
  rintro _ _ ⟨rfl, rfl⟩
  change aw _ _ _ _ 5 [some (.ref 40), some (.int (iI _)), none, none] [] _
  refine aw_iconst rfl rfl ?_
  refine aw_istore_n rfl (Nat.le_of_ble_eq_true rfl) rfl rfl ?_
  change aw _ _ _ _ 7 [some (.ref 40), some (.int (iI _)), some (.int (iI _)), none] _ _
  refine aw_iload_n rfl rfl rfl ?_
  refine aw_sipush rfl rfl rfl ?_
  refine aw_icmp (p' := 61) rfl ⟨by omega, by omega⟩ ⟨by omega, by omega⟩ rfl rfl (fun c2 => ?_) (fun c2 => ?_)
  · dsimp only [zc] at c2
    omega
  · dsimp only [zc] at c2
    refine aw_aload_n rfl rfl rfl ?_
    refine aw_gk (v := 1) (3) rfl rfl (hC.f.k 40 rfl) rfl hq.2.1 rfl (fun _ _ => ?_)
    refine aw_bipush rfl rfl rfl ?_
    refine aw_icmp (p' := 32) rfl ⟨by omega, by omega⟩ ⟨by omega, by omega⟩ rfl rfl (fun c3 => ?_) (fun c3 => ?_)
    · dsimp only [zc] at c3
      omega
    · dsimp only [zc] at c3
      refine aw_aload_n rfl rfl rfl ?_
      refine aw_gk (v := 1) (3) rfl rfl (hC.f.k 40 rfl) rfl hq.2.1 rfl (fun _ _ => ?_)
      refine aw_bipush rfl rfl rfl ?_
      refine aw_icmp (p' := 61) rfl ⟨by omega, by omega⟩ ⟨by omega, by omega⟩ rfl rfl (fun c4 => ?_) (fun c4 => ?_)
      · dsimp only [zc] at c4
        refine aw_retv rfl ?_
        exact ⟨rfl, rfl⟩
      · dsimp only [zc] at c4
        omega
