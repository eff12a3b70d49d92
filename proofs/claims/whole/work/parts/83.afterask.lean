set_option maxRecDepth 10000 in
set_option maxHeartbeats 2000000 in
theorem c_askb {d : Nat} {sz : Nat} {κ : Nat × (Nat → Int32) × Option Nat} {A : Nat → Int → Int} {g : Nat → Nat} {σ : az_S} (hC : CR sz κ A g σ) (hI : MI sz A) {a f : Int} (hq : BDp a f σ) (hf : f ≠ 0) {p : Int} (hp : inI p) : cal (d + 5) 19 [.ref 40, .int (iI p)] σ (fun r τ => r = none ∧ τ = σ) := by
  obtain ⟨hp1, hp2⟩ := hp
  refine cal_of (M := (yX2_ask, cX2_ask, 3, none)) (cd := k_X2_ask) (L := [some (.ref 40), some (.int (iI p)), none]) rfl (Nat.le_of_ble_eq_true rfl) rfl rfl ?_
  refine aw_aload_n rfl rfl rfl ?_
  refine aw_gk (v := 1) (3) rfl rfl (hC.f.k 40 rfl) rfl hq.2.1 rfl (fun _ _ => ?_)
  refine aw_bipush rfl rfl rfl ?_
  refine aw_icmp (p' := 39) rfl ⟨by omega, by omega⟩ ⟨by omega, by omega⟩ rfl rfl (fun c1 => ?_) (fun c1 => ?_)
  · dsimp only [zc] at c1
    refine aw_aload_n rfl rfl rfl ?_
    refine aw_gk (v := 1) (3) rfl rfl (hC.f.k 40 rfl) rfl hq.2.1 rfl (fun _ _ => ?_)
    refine aw_bipush rfl rfl rfl ?_
    refine aw_icmp (p' := 74) rfl ⟨by omega, by omega⟩ ⟨by omega, by omega⟩ rfl rfl (fun c2 => ?_) (fun c2 => ?_)
    · dsimp only [zc] at c2
      refine aw_aload_n rfl rfl rfl ?_
      refine aw_iload_n rfl rfl rfl ?_
      refine aw_calc (c_sumb hC hI hq hf ⟨by omega, by omega⟩) rfl rfl rfl (Nat.le_of_ble_eq_true rfl) (Or.inr ⟨_, rfl, (hC.f.k 40 rfl)⟩) rfl ?_
      rintro _ _ ⟨rfl, rfl⟩
      change aw _ _ _ _ 79 [some (.ref 40), some (.int (iI _)), none] [] _
      refine aw_aload_n rfl rfl rfl ?_
      refine aw_gk (v := 1) (3) rfl rfl (hC.f.k 40 rfl) rfl hq.2.1 rfl (fun _ _ => ?_)
      refine aw_istore_n rfl (Nat.le_of_ble_eq_true rfl) rfl rfl ?_
      change aw _ _ _ _ 84 [some (.ref 40), some (.int (iI _)), some (.int (iI _))] _ _
      refine aw_iload_n rfl rfl rfl ?_
      refine aw_bipush rfl rfl rfl ?_
      refine aw_icmp (p' := 117) rfl ⟨by omega, by omega⟩ ⟨by omega, by omega⟩ rfl rfl (fun c4 => ?_) (fun c4 => ?_)
      · dsimp only [zc] at c4
        refine aw_aload_n rfl rfl rfl ?_
        refine aw_iconst rfl rfl ?_
        refine aw_calc (c_failb hC hI hq hf ⟨by omega, by omega⟩) rfl rfl rfl (Nat.le_of_ble_eq_true rfl) (Or.inr ⟨_, rfl, (hC.f.k 40 rfl)⟩) rfl ?_
        rintro _ _ ⟨rfl, rfl⟩
        change aw _ _ _ _ 122 [some (.ref 40), some (.int (iI _)), some (.int (iI _))] [] _
        refine aw_retv rfl ?_
        exact ⟨rfl, rfl⟩
      · dsimp only [zc] at c4
        omega
    · dsimp only [zc] at c2
      omega
  · dsimp only [zc] at c1
    omega
set_option maxRecDepth 10000 in
set_option maxHeartbeats 2000000 in
theorem c_bothb {d : Nat} {sz : Nat} {κ : Nat × (Nat → Int32) × Option Nat} {A : Nat → Int → Int} {g : Nat → Nat} {σ : az_S} (hC : CR sz κ A g σ) (hI : MI sz A) {a f : Int} (hq : BDp a f σ) (hf : f ≠ 0) {p : Int} (hp : inI p) : cal (d + 6) 18 [.ref 40, .int (iI p)] σ (fun r τ => r = none ∧ τ = σ) := by
  obtain ⟨hp1, hp2⟩ := hp
  refine cal_of (M := (yX2_both, cX2_both, 3, none)) (cd := k_X2_both) (L := [some (.ref 40), some (.int (iI p)), none]) rfl (Nat.le_of_ble_eq_true rfl) rfl rfl ?_
  refine aw_aload_n rfl rfl rfl ?_
  refine aw_iload_n rfl rfl rfl ?_
  refine aw_calc (c_askb hC hI hq hf ⟨by omega, by omega⟩) rfl rfl rfl (Nat.le_of_ble_eq_true rfl) (Or.inr ⟨_, rfl, (hC.f.k 40 rfl)⟩) rfl ?_
  rintro _ _ ⟨rfl, rfl⟩
  change aw _ _ _ _ 5 [some (.ref 40), some (.int (iI _)), none] [] _
  refine aw_iconst rfl rfl ?_
  refine aw_istore_n rfl (Nat.le_of_ble_eq_true rfl) rfl rfl ?_
  change aw _ _ _ _ 7 [some (.ref 40), some (.int (iI _)), some (.int (iI _))] _ _
  refine aw_iload_n rfl rfl rfl ?_
  refine aw_sipush rfl rfl rfl ?_
  refine aw_icmp (p' := 48) rfl ⟨by omega, by omega⟩ ⟨by omega, by omega⟩ rfl rfl (fun c2 => ?_) (fun c2 => ?_)
  · dsimp only [zc] at c2
    omega
  · dsimp only [zc] at c2
    refine aw_aload_n rfl rfl rfl ?_
    refine aw_gk (v := 1) (3) rfl rfl (hC.f.k 40 rfl) rfl hq.2.1 rfl (fun _ _ => ?_)
    refine aw_bipush rfl rfl rfl ?_
    refine aw_icmp (p' := 48) rfl ⟨by omega, by omega⟩ ⟨by omega, by omega⟩ rfl rfl (fun c3 => ?_) (fun c3 => ?_)
    · dsimp only [zc] at c3
      refine aw_retv rfl ?_
      exact ⟨rfl, rfl⟩
    · dsimp only [zc] at c3
      omega
set_option maxRecDepth 10000 in
set_option maxHeartbeats 2000000 in
theorem c_eitherb {d : Nat} {sz : Nat} {κ : Nat × (Nat → Int32) × Option Nat} {A : Nat → Int → Int} {g : Nat → Nat} {σ : az_S} (hC : CR sz κ A g σ) (hI : MI sz A) {a f : Int} (hq : BDp a f σ) (hf : f ≠ 0) {p : Int} (hp : inI p) : cal (d + 7) 17 [.ref 40, .int (iI p)] σ (fun r τ => r = none ∧ τ = σ) := by
  obtain ⟨hp1, hp2⟩ := hp
  refine cal_of (M := (yX2_either, cX2_either, 3, none)) (cd := k_X2_either) (L := [some (.ref 40), some (.int (iI p)), none]) rfl (Nat.le_of_ble_eq_true rfl) rfl rfl ?_
  refine aw_aload_n rfl rfl rfl ?_
  refine aw_iload_n rfl rfl rfl ?_
  refine aw_calc (c_bothb hC hI hq hf ⟨by omega, by omega⟩) rfl rfl rfl (Nat.le_of_ble_eq_true rfl) (Or.inr ⟨_, rfl, (hC.f.k 40 rfl)⟩) rfl ?_
  rintro _ _ ⟨rfl, rfl⟩
  change aw _ _ _ _ 5 [some (.ref 40), some (.int (iI _)), none] [] _
  refine aw_iconst rfl rfl ?_
  refine aw_istore_n rfl (Nat.le_of_ble_eq_true rfl) rfl rfl ?_
  change aw _ _ _ _ 7 [some (.ref 40), some (.int (iI _)), some (.int (iI _))] _ _
  refine aw_iload_n rfl rfl rfl ?_
  refine aw_sipush rfl rfl rfl ?_
  refine aw_icmp (p' := 48) rfl ⟨by omega, by omega⟩ ⟨by omega, by omega⟩ rfl rfl (fun c2 => ?_) (fun c2 => ?_)
  · dsimp only [zc] at c2
    omega
  · dsimp only [zc] at c2
    refine aw_aload_n rfl rfl rfl ?_
    refine aw_gk (v := 1) (3) rfl rfl (hC.f.k 40 rfl) rfl hq.2.1 rfl (fun _ _ => ?_)
    refine aw_bipush rfl rfl rfl ?_
    refine aw_icmp (p' := 48) rfl ⟨by omega, by omega⟩ ⟨by omega, by omega⟩ rfl rfl (fun c3 => ?_) (fun c3 => ?_)
    · dsimp only [zc] at c3
      refine aw_retv rfl ?_
      exact ⟨rfl, rfl⟩
    · dsimp only [zc] at c3
      omega
