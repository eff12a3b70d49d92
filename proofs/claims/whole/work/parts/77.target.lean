set_option maxRecDepth 10000 in
set_option maxHeartbeats 2000000 in
theorem c_pass {d : Nat} {sz : Nat} {κ : Nat × (Nat → Int32) × Option Nat} {A : Nat → Int → Int} {g : Nat → Nat} {σ : az_S} (hC : CR sz κ A g σ) (hI : MI sz A) {E : Int → Int} {T : Int} (hTS : TS A σ E T) {a : Int} (hq : OKp a σ) (ha0 : 0 ≤ a) (ha1 : a ≤ T) {w : Int} (hw : inI w) (hw0 : w ≠ 0) : cal (d + 3) 14 [.ref 40, .int (iI w)] σ (fun r τ => r = none ∧ CR sz κ A g τ ∧ Mod σ τ [40] ∧ ((zx σ 11 a) = w → OKp (a + 1) τ) ∧ ((zx σ 11 a) ≠ w → BDp a 1 τ)) := by
  have hTb := hTS.2.1
  have hke := (hTS.2.2.2 a (by omega) (by omega)).2
  have hkl := zx_lo σ 11 a
  have hkh := zx_hi σ 11 a
  have hq2 := hq.1
  have hq3 := hq.2.1
  have hq4 := hq.2.2
  obtain ⟨hw1, hw2⟩ := hw
  refine cal_of (M := (yX2_pass, cX2_pass, 2, none)) (cd := k_X2_pass) (L := [some (.ref 40), some (.int (iI w))]) rfl (Nat.le_of_ble_eq_true rfl) rfl rfl ?_
  refine aw_aload_n rfl rfl rfl ?_
  refine aw_gk (v := (zx σ 11 a)) (3) rfl rfl (hC.f.k 40 rfl) rfl hq3 rfl (fun _ _ => ?_)
  refine aw_iload_n rfl rfl rfl ?_
  refine aw_icmp (p' := 15) rfl ⟨by omega, by omega⟩ ⟨by omega, by omega⟩ rfl rfl (fun c1 => ?_) (fun c1 => ?_)
  · dsimp only [zc] at c1
    refine aw_aload_n rfl rfl rfl ?_
    refine aw_iconst rfl rfl ?_
    refine aw_calc (c_fail hC hI hq ⟨by omega, by omega⟩) rfl rfl rfl (Nat.le_of_ble_eq_true rfl) (Or.inr ⟨_, rfl, (hC.f.k 40 rfl)⟩) rfl ?_
    rintro _ τ2 ⟨rfl, hM2, hD2, hB2⟩
    change aw _ _ _ _ 20 [some (.ref 40), some (.int (iI _))] [] _
    refine aw_retv rfl ?_
    first | exact ⟨rfl, hM2, (hD2.su (T := [40]) rfl), fun _ => hO2, fun q => absurd (by omega) q⟩ | exact ⟨rfl, hM2, (hD2.su (T := [40]) rfl), fun q => absurd q (by omega), fun _ => hB2⟩
  · dsimp only [zc] at c1
    refine aw_aload_n rfl rfl rfl ?_
    refine aw_calc (c_advance hC hI hTS hq (by omega) (by omega)) rfl rfl rfl (Nat.le_of_ble_eq_true rfl) (Or.inr ⟨_, rfl, (hC.f.k 40 rfl)⟩) rfl ?_
    rintro _ τ3 ⟨rfl, hM3, hD3, hO3⟩
    change aw _ _ _ _ 12 [some (.ref 40), some (.int (iI _))] [] _
    refine aw_goto (p' := 20) rfl rfl ?_
    refine aw_retv rfl ?_
    first | exact ⟨rfl, hM3, (hD3.su (T := [40]) rfl), fun _ => hO3, fun q => absurd (by omega) q⟩ | exact ⟨rfl, hM3, (hD3.su (T := [40]) rfl), fun q => absurd q (by omega), fun _ => hB3⟩
set_option maxRecDepth 10000 in
set_option maxHeartbeats 2000000 in
theorem c_passb {d : Nat} {sz : Nat} {κ : Nat × (Nat → Int32) × Option Nat} {A : Nat → Int → Int} {g : Nat → Nat} {σ : az_S} (hC : CR sz κ A g σ) (hI : MI sz A) {a f : Int} (hq : BDp a f σ) (hf : f ≠ 0) {w : Int} (hw : inI w) (hw0 : w ≠ 1) : cal (d + 3) 14 [.ref 40, .int (iI w)] σ (fun r τ => r = none ∧ τ = σ) := by
  have hq3 := hq.2.1
  obtain ⟨hw1, hw2⟩ := hw
  refine cal_of (M := (yX2_pass, cX2_pass, 2, none)) (cd := k_X2_pass) (L := [some (.ref 40), some (.int (iI w))]) rfl (Nat.le_of_ble_eq_true rfl) rfl rfl ?_
  refine aw_aload_n rfl rfl rfl ?_
  refine aw_gk (v := 1) (3) rfl rfl (hC.f.k 40 rfl) rfl hq3 rfl (fun _ _ => ?_)
  refine aw_iload_n rfl rfl rfl ?_
  refine aw_icmp (p' := 15) rfl ⟨by omega, by omega⟩ ⟨by omega, by omega⟩ rfl rfl (fun c1 => ?_) (fun c1 => ?_)
  · dsimp only [zc] at c1
    refine aw_aload_n rfl rfl rfl ?_
    refine aw_iconst rfl rfl ?_
    refine aw_calc (c_failb hC hI hq hf ⟨by omega, by omega⟩) rfl rfl rfl (Nat.le_of_ble_eq_true rfl) (Or.inr ⟨_, rfl, (hC.f.k 40 rfl)⟩) rfl ?_
    rintro _ _ ⟨rfl, rfl⟩
    change aw _ _ _ _ 20 [some (.ref 40), some (.int (iI _))] [] _
    refine aw_retv rfl ?_
    exact ⟨rfl, rfl⟩
  · dsimp only [zc] at c1
    omega
set_option maxRecDepth 10000 in
set_option maxHeartbeats 2000000 in
theorem c_open {d : Nat} {sz : Nat} {κ : Nat × (Nat → Int32) × Option Nat} {A : Nat → Int → Int} {g : Nat → Nat} {σ : az_S} (hC : CR sz κ A g σ) (hI : MI sz A) {E : Int → Int} {T : Int} (hTS : TS A σ E T) {a : Int} (hq : OKp a σ) (ha0 : 0 ≤ a) (ha1 : a ≤ T) {w : Int} (hw : inI w) {p : Int} (hp : inI p) (hw0 : w ≠ 0) : cal (d + 3) 15 [.ref 40, .int (iI w), .int (iI p)] σ (fun r τ => CR sz κ A g τ ∧ Mod σ τ [40] ∧ (((zx σ 11 a) = w ∧ p < 10 → r = some (.int (iI 1)) ∧ OKp (a + 1) τ) ∧ ((zx σ 11 a) = w ∧ 10 ≤ p → r = some (.int (iI 0)) ∧ BDp a 3 τ) ∧ ((zx σ 11 a) ≠ w → r = some (.int (iI 0)) ∧ BDp a 1 τ))) := by
  have hTb := hTS.2.1
  have hke := (hTS.2.2.2 a (by omega) (by omega)).2
  have hkl := zx_lo σ 11 a
  have hkh := zx_hi σ 11 a
  have hq2 := hq.1
  have hq3 := hq.2.1
  have hq4 := hq.2.2
  obtain ⟨hw1, hw2⟩ := hw
  obtain ⟨hp1, hp2⟩ := hp
  refine cal_of (M := (yX2_open, cX2_open, 3, (some .boolean))) (cd := k_X2_open) (L := [some (.ref 40), some (.int (iI w)), some (.int (iI p))]) rfl (Nat.le_of_ble_eq_true rfl) rfl rfl ?_
  refine aw_aload_n rfl rfl rfl ?_
  refine aw_gk (v := (zx σ 11 a)) (3) rfl rfl (hC.f.k 40 rfl) rfl hq3 rfl (fun _ _ => ?_)
  refine aw_iload_n rfl rfl rfl ?_
  refine aw_icmp (p' := 20) rfl ⟨by omega, by omega⟩ ⟨by omega, by omega⟩ rfl rfl (fun c1 => ?_) (fun c1 => ?_)
  · dsimp only [zc] at c1
    refine aw_aload_n rfl rfl rfl ?_
    refine aw_aload_n rfl rfl rfl ?_
    refine aw_gk (v := (zx σ 11 a)) (3) rfl rfl (hC.f.k 40 rfl) rfl hq3 rfl (fun _ _ => ?_)
    refine aw_iload_n rfl rfl rfl ?_
    refine aw_icmp (p' := 33) rfl ⟨by omega, by omega⟩ ⟨by omega, by omega⟩ rfl rfl (fun c2 => ?_) (fun c2 => ?_)
    · dsimp only [zc] at c2
      refine aw_iconst rfl rfl ?_
      refine aw_calc (c_fail hC hI hq ⟨by omega, by omega⟩) rfl rfl rfl (Nat.le_of_ble_eq_true rfl) (Or.inr ⟨_, rfl, (hC.f.k 40 rfl)⟩) rfl ?_
      rintro _ τ3 ⟨rfl, hM3, hD3, hB3⟩
      change aw _ _ _ _ 37 [some (.ref 40), some (.int (iI _)), some (.int (iI _))] [] _
      refine aw_iconst rfl rfl ?_
      refine aw_retn rfl (by first | rfl | exact bI_nar _) ?_
      first | exact ⟨hM3, (hD3.su (T := [40]) rfl), fun _ => ⟨rfl, hO3⟩, fun q => by omega, fun q => absurd (by omega) q⟩ | exact ⟨hM3, (hD3.su (T := [40]) rfl), fun q => by omega, fun _ => ⟨rfl, hB3⟩, fun q => absurd (by omega) q⟩ | exact ⟨hM3, (hD3.su (T := [40]) rfl), fun q => absurd q.1 (by omega), fun q => absurd q.1 (by omega), fun _ => ⟨rfl, hB3⟩⟩
    · dsimp only [zc] at c2
      refine aw_iconst rfl rfl ?_
      refine aw_goto (p' := 34) rfl rfl ?_
      refine aw_calc (c_fail hC hI hq ⟨by omega, by omega⟩) rfl rfl rfl (Nat.le_of_ble_eq_true rfl) (Or.inr ⟨_, rfl, (hC.f.k 40 rfl)⟩) rfl ?_
      rintro _ τ4 ⟨rfl, hM4, hD4, hB4⟩
      change aw _ _ _ _ 37 [some (.ref 40), some (.int (iI _)), some (.int (iI _))] [] _
      refine aw_iconst rfl rfl ?_
      refine aw_retn rfl (by first | rfl | exact bI_nar _) ?_
      first | exact ⟨hM4, (hD4.su (T := [40]) rfl), fun _ => ⟨rfl, hO4⟩, fun q => by omega, fun q => absurd (by omega) q⟩ | exact ⟨hM4, (hD4.su (T := [40]) rfl), fun q => by omega, fun _ => ⟨rfl, hB4⟩, fun q => absurd (by omega) q⟩ | exact ⟨hM4, (hD4.su (T := [40]) rfl), fun q => absurd q.1 (by omega), fun q => absurd q.1 (by omega), fun _ => ⟨rfl, hB4⟩⟩
  · dsimp only [zc] at c1
    refine aw_iload_n rfl rfl rfl ?_
    refine aw_bipush rfl rfl rfl ?_
    refine aw_icmp (p' := 20) rfl ⟨by omega, by omega⟩ ⟨by omega, by omega⟩ rfl rfl (fun c5 => ?_) (fun c5 => ?_)
    · dsimp only [zc] at c5
      refine aw_aload_n rfl rfl rfl ?_
      refine aw_aload_n rfl rfl rfl ?_
      refine aw_gk (v := (zx σ 11 a)) (3) rfl rfl (hC.f.k 40 rfl) rfl hq3 rfl (fun _ _ => ?_)
      refine aw_iload_n rfl rfl rfl ?_
      refine aw_icmp (p' := 33) rfl ⟨by omega, by omega⟩ ⟨by omega, by omega⟩ rfl rfl (fun c6 => ?_) (fun c6 => ?_)
      · dsimp only [zc] at c6
        refine aw_iconst rfl rfl ?_
        refine aw_calc (c_fail hC hI hq ⟨by omega, by omega⟩) rfl rfl rfl (Nat.le_of_ble_eq_true rfl) (Or.inr ⟨_, rfl, (hC.f.k 40 rfl)⟩) rfl ?_
        rintro _ τ7 ⟨rfl, hM7, hD7, hB7⟩
        change aw _ _ _ _ 37 [some (.ref 40), some (.int (iI _)), some (.int (iI _))] [] _
        refine aw_iconst rfl rfl ?_
        refine aw_retn rfl (by first | rfl | exact bI_nar _) ?_
        first | exact ⟨hM7, (hD7.su (T := [40]) rfl), fun _ => ⟨rfl, hO7⟩, fun q => by omega, fun q => absurd (by omega) q⟩ | exact ⟨hM7, (hD7.su (T := [40]) rfl), fun q => by omega, fun _ => ⟨rfl, hB7⟩, fun q => absurd (by omega) q⟩ | exact ⟨hM7, (hD7.su (T := [40]) rfl), fun q => absurd q.1 (by omega), fun q => absurd q.1 (by omega), fun _ => ⟨rfl, hB7⟩⟩
      · dsimp only [zc] at c6
        refine aw_iconst rfl rfl ?_
        refine aw_goto (p' := 34) rfl rfl ?_
        refine aw_calc (c_fail hC hI hq ⟨by omega, by omega⟩) rfl rfl rfl (Nat.le_of_ble_eq_true rfl) (Or.inr ⟨_, rfl, (hC.f.k 40 rfl)⟩) rfl ?_
        rintro _ τ8 ⟨rfl, hM8, hD8, hB8⟩
        change aw _ _ _ _ 37 [some (.ref 40), some (.int (iI _)), some (.int (iI _))] [] _
        refine aw_iconst rfl rfl ?_
        refine aw_retn rfl (by first | rfl | exact bI_nar _) ?_
        first | exact ⟨hM8, (hD8.su (T := [40]) rfl), fun _ => ⟨rfl, hO8⟩, fun q => by omega, fun q => absurd (by omega) q⟩ | exact ⟨hM8, (hD8.su (T := [40]) rfl), fun q => by omega, fun _ => ⟨rfl, hB8⟩, fun q => absurd (by omega) q⟩ | exact ⟨hM8, (hD8.su (T := [40]) rfl), fun q => absurd q.1 (by omega), fun q => absurd q.1 (by omega), fun _ => ⟨rfl, hB8⟩⟩
    · dsimp only [zc] at c5
      refine aw_aload_n rfl rfl rfl ?_
      refine aw_calc (c_advance hC hI hTS hq (by omega) (by omega)) rfl rfl rfl (Nat.le_of_ble_eq_true rfl) (Or.inr ⟨_, rfl, (hC.f.k 40 rfl)⟩) rfl ?_
      rintro _ τ9 ⟨rfl, hM9, hD9, hO9⟩
      change aw _ _ _ _ 18 [some (.ref 40), some (.int (iI _)), some (.int (iI _))] [] _
      refine aw_iconst rfl rfl ?_
      refine aw_retn rfl (by first | rfl | exact bI_nar _) ?_
      first | exact ⟨hM9, (hD9.su (T := [40]) rfl), fun _ => ⟨rfl, hO9⟩, fun q => by omega, fun q => absurd (by omega) q⟩ | exact ⟨hM9, (hD9.su (T := [40]) rfl), fun q => by omega, fun _ => ⟨rfl, hB9⟩, fun q => absurd (by omega) q⟩ | exact ⟨hM9, (hD9.su (T := [40]) rfl), fun q => absurd q.1 (by omega), fun q => absurd q.1 (by omega), fun _ => ⟨rfl, hB9⟩⟩
set_option maxRecDepth 10000 in
set_option maxHeartbeats 2000000 in
theorem c_add16 {d : Nat} {sz : Nat} {κ : Nat × (Nat → Int32) × Option Nat} {A : Nat → Int → Int} {g : Nat → Nat} {σ : az_S} (hC : CR sz κ A g σ) (hI : MI sz A) {o : Int} (ho : inI o) {v : Int} (hv : inI v) {l : Int} (hl : zx σ 16 5 = l) (hl0 : 0 ≤ l) (hl1 : l < 400) : cal (d + 1) 77 [.ref 16, .int (iI o), .int (iI v)] σ (fun r τ => r = none ∧ CR sz κ A g τ ∧ Mod σ τ [16, 17, 18] ∧ zx τ 16 5 = l + 1 ∧ zx τ 16 6 = zx σ 16 6 ∧ (∀ w : Int, zx τ 17 w = if w = l then o else zx σ 17 w) ∧ (∀ w : Int, zx τ 18 w = if w = l then v else zx σ 18 w)) := by
  obtain ⟨ho1, ho2⟩ := ho
  obtain ⟨hv1, hv2⟩ := hv
  refine cal_of (M := (yX9_add, cX9_add, 3, none)) (cd := k_X9_add) (L := [some (.ref 16), some (.int (iI o)), some (.int (iI v))]) rfl (Nat.le_of_ble_eq_true rfl) rfl rfl ?_
  refine aw_aload_n rfl rfl rfl ?_
  refine aw_gk (v := l) (5) rfl rfl (hC.f.k 16 rfl) rfl hl rfl (fun _ _ => ?_)
  refine aw_if (p' := 49) rfl ⟨by omega, by omega⟩ rfl rfl (fun c1 => ?_) (fun c1 => ?_)
  · dsimp only [zc] at c1
    omega
  · dsimp only [zc] at c1
    refine aw_aload_n rfl rfl rfl ?_
    refine aw_gk (v := l) (5) rfl rfl (hC.f.k 16 rfl) rfl hl rfl (fun _ _ => ?_)
    refine aw_aload_n rfl rfl rfl ?_
    refine aw_getr (b := 17) rfl rfl (hC.f.k 16 rfl) (hC.f.r 16 0 17 rfl) rfl ?_
    refine aw_alen (N := 400) rfl (hC.f.s 17 rfl) (by decide) rfl ?_
    refine aw_icmp (p' := 49) rfl ⟨by omega, by omega⟩ ⟨by omega, by omega⟩ rfl rfl (fun c2 => ?_) (fun c2 => ?_)
    · dsimp only [zc] at c2
      omega
    · dsimp only [zc] at c2
      refine aw_aload_n rfl rfl rfl ?_
      refine aw_getr (b := 17) rfl rfl (hC.f.k 16 rfl) (hC.f.r 16 0 17 rfl) rfl ?_
      refine aw_aload_n rfl rfl rfl ?_
      refine aw_gk (v := l) (5) rfl rfl (hC.f.k 16 rfl) rfl hl rfl (fun _ _ => ?_)
      refine aw_iload_n rfl rfl rfl ?_
      refine aw_ct (N := 400) hC hI rfl (hC.f.s 17 rfl) (by omega) rfl (by decide) (by omega) (by omega) ⟨by omega, by omega⟩ rfl (fun τ4 hM4 hD4 hU4 => ?_)
      refine aw_aload_n rfl rfl rfl ?_
      refine aw_getr (b := 18) rfl rfl (hM4.f.k 16 rfl) (hM4.f.r 16 1 18 rfl) rfl ?_
      refine aw_aload_n rfl rfl rfl ?_
      refine aw_gk (v := l) (5) rfl rfl (hM4.f.k 16 rfl) rfl (by rw [hD4.z 16 rfl]; exact hl) rfl (fun _ _ => ?_)
      refine aw_iload_n rfl rfl rfl ?_
      refine aw_ct (N := 400) hM4 hI rfl (hM4.f.s 18 rfl) (by omega) rfl (by decide) (by omega) (by omega) ⟨by omega, by omega⟩ rfl (fun τ6 hM6 hD6 hU6 => ?_)
      refine aw_aload_n rfl rfl rfl ?_
      refine aw_dup rfl rfl rfl ?_
      refine aw_gk (v := l) (5) rfl rfl (hM6.f.k 16 rfl) rfl (by rw [hD6.z 16 rfl, hD4.z 16 rfl]; exact hl) rfl (fun _ _ => ?_)
      refine aw_iconst rfl rfl ?_
      refine aw_iadd rfl rfl ?_
      refine aw_c9 (5) hM6 hI rfl rfl (hM6.f.k 16 rfl) rfl rfl (by decide) ⟨by omega, by omega⟩ rfl (fun τ7 hM7 hD7 hU7 => ?_)
      refine aw_retv rfl ?_
      refine ⟨rfl, hM7, (((hD4.su (T := [16, 17, 18]) rfl).tr (hD6.su (T := [16, 17, 18]) rfl)).tr (hD7.su (T := [16, 17, 18]) rfl)), by rw [hU7, if_pos rfl], by rw [hU7, if_neg (by decide), hD6.z 16 rfl, hD4.z 16 rfl], fun w => ?_, fun w => ?_⟩
      · rw [hD7.z 17 rfl, hD6.z 17 rfl, hU4]
      · rw [hD7.z 18 rfl, hU6, hD4.z 18 rfl]
set_option maxRecDepth 10000 in
set_option maxHeartbeats 2000000 in
theorem c_addb16 {d : Nat} {sz : Nat} {κ : Nat × (Nat → Int32) × Option Nat} {A : Nat → Int → Int} {g : Nat → Nat} {σ : az_S} (hC : CR sz κ A g σ) (hI : MI sz A) {o : Int} (ho : inI o) {v : Int} (hv : inI v) {l : Int} (hl : zx σ 16 5 = l) (hl0 : 0 ≤ l) (hl1 : l ≤ 400) : cal (d + 1) 77 [.ref 16, .int (iI o), .int (iI v)] σ (fun r τ => r = none ∧ CR sz κ A g τ ∧ Mod σ τ [16, 17, 18] ∧ (0 ≤ zx τ 16 5 ∧ zx τ 16 5 ≤ 400) ∧ zx τ 16 6 = zx σ 16 6) := by
  obtain ⟨ho1, ho2⟩ := ho
  obtain ⟨hv1, hv2⟩ := hv
  refine cal_of (M := (yX9_add, cX9_add, 3, none)) (cd := k_X9_add) (L := [some (.ref 16), some (.int (iI o)), some (.int (iI v))]) rfl (Nat.le_of_ble_eq_true rfl) rfl rfl ?_
  refine aw_aload_n rfl rfl rfl ?_
  refine aw_gk (v := l) (5) rfl rfl (hC.f.k 16 rfl) rfl hl rfl (fun _ _ => ?_)
  refine aw_if (p' := 49) rfl ⟨by omega, by omega⟩ rfl rfl (fun c1 => ?_) (fun c1 => ?_)
  · dsimp only [zc] at c1
    omega
  · dsimp only [zc] at c1
    refine aw_aload_n rfl rfl rfl ?_
    refine aw_gk (v := l) (5) rfl rfl (hC.f.k 16 rfl) rfl hl rfl (fun _ _ => ?_)
    refine aw_aload_n rfl rfl rfl ?_
    refine aw_getr (b := 17) rfl rfl (hC.f.k 16 rfl) (hC.f.r 16 0 17 rfl) rfl ?_
    refine aw_alen (N := 400) rfl (hC.f.s 17 rfl) (by decide) rfl ?_
    refine aw_icmp (p' := 49) rfl ⟨by omega, by omega⟩ ⟨by omega, by omega⟩ rfl rfl (fun c2 => ?_) (fun c2 => ?_)
    · dsimp only [zc] at c2
      refine aw_retv rfl ?_
      exact ⟨rfl, hC, Mod.rf, by omega, rfl⟩
    · dsimp only [zc] at c2
      refine aw_aload_n rfl rfl rfl ?_
      refine aw_getr (b := 17) rfl rfl (hC.f.k 16 rfl) (hC.f.r 16 0 17 rfl) rfl ?_
      refine aw_aload_n rfl rfl rfl ?_
      refine aw_gk (v := l) (5) rfl rfl (hC.f.k 16 rfl) rfl hl rfl (fun _ _ => ?_)
      refine aw_iload_n rfl rfl rfl ?_
      refine aw_ct (N := 400) hC hI rfl (hC.f.s 17 rfl) (by omega) rfl (by decide) (by omega) (by omega) ⟨by omega, by omega⟩ rfl (fun τ4 hM4 hD4 hU4 => ?_)
      refine aw_aload_n rfl rfl rfl ?_
      refine aw_getr (b := 18) rfl rfl (hM4.f.k 16 rfl) (hM4.f.r 16 1 18 rfl) rfl ?_
      refine aw_aload_n rfl rfl rfl ?_
      refine aw_gk (v := l) (5) rfl rfl (hM4.f.k 16 rfl) rfl (by rw [hD4.z 16 rfl]; exact hl) rfl (fun _ _ => ?_)
      refine aw_iload_n rfl rfl rfl ?_
      refine aw_ct (N := 400) hM4 hI rfl (hM4.f.s 18 rfl) (by omega) rfl (by decide) (by omega) (by omega) ⟨by omega, by omega⟩ rfl (fun τ6 hM6 hD6 hU6 => ?_)
      refine aw_aload_n rfl rfl rfl ?_
      refine aw_dup rfl rfl rfl ?_
      refine aw_gk (v := l) (5) rfl rfl (hM6.f.k 16 rfl) rfl (by rw [hD6.z 16 rfl, hD4.z 16 rfl]; exact hl) rfl (fun _ _ => ?_)
      refine aw_iconst rfl rfl ?_
      refine aw_iadd rfl rfl ?_
      refine aw_c9 (5) hM6 hI rfl rfl (hM6.f.k 16 rfl) rfl rfl (by decide) ⟨by omega, by omega⟩ rfl (fun τ7 hM7 hD7 hU7 => ?_)
      refine aw_retv rfl ?_
      exact ⟨rfl, hM7, (((hD4.su (T := [16, 17, 18]) rfl).tr (hD6.su (T := [16, 17, 18]) rfl)).tr (hD7.su (T := [16, 17, 18]) rfl)), by rw [hU7, if_pos rfl]; omega, by rw [hU7, if_neg (by decide), hD6.z 16 rfl, hD4.z 16 rfl]⟩
set_option maxRecDepth 10000 in
set_option maxHeartbeats 2000000 in
theorem c_clear16 {d : Nat} {sz : Nat} {κ : Nat × (Nat → Int32) × Option Nat} {A : Nat → Int → Int} {g : Nat → Nat} {σ : az_S} (hC : CR sz κ A g σ) (hI : MI sz A) : cal (d + 1) 76 [.ref 16] σ (fun r τ => r = none ∧ CR sz κ A g τ ∧ Mod σ τ [16] ∧ zx τ 16 5 = 0 ∧ zx τ 16 6 = 0) := by
  refine cal_of (M := (yX9_clear, cX9_clear, 1, none)) (cd := k_X9_clear) (L := [some (.ref 16)]) rfl (Nat.le_of_ble_eq_true rfl) rfl rfl ?_
  refine aw_aload_n rfl rfl rfl ?_
  refine aw_iconst rfl rfl ?_
  refine aw_c9 (5) hC hI rfl rfl (hC.f.k 16 rfl) rfl rfl (by decide) ⟨by omega, by omega⟩ rfl (fun τ1 hM1 hD1 hU1 => ?_)
  refine aw_aload_n rfl rfl rfl ?_
  refine aw_iconst rfl rfl ?_
  refine aw_c9 (6) hM1 hI rfl rfl (hM1.f.k 16 rfl) rfl rfl (by decide) ⟨by omega, by omega⟩ rfl (fun τ2 hM2 hD2 hU2 => ?_)
  refine aw_retv rfl ?_
  refine ⟨rfl, hM2, ((hD1.su (T := [16]) rfl).tr (hD2.su (T := [16]) rfl)), ?_, ?_⟩ <;> simp [hU2, hU1]
set_option maxRecDepth 10000 in
set_option maxHeartbeats 2000000 in
theorem c_endAsk16 {d : Nat} {sz : Nat} {κ : Nat × (Nat → Int32) × Option Nat} {A : Nat → Int → Int} {g : Nat → Nat} {σ : az_S} (hC : CR sz κ A g σ) (hI : MI sz A) {l q : Int} (hl : zx σ 16 5 = l) (hq : zx σ 16 6 = q) (hq0 : 0 ≤ q) (hq1 : q < 20) : cal (d + 1) 78 [.ref 16] σ (fun r τ => r = none ∧ CR sz κ A g τ ∧ Mod σ τ [19] ∧ (∀ w : Int, zx τ 19 w = if w = q then l else zx σ 19 w)) := by
  have hll := zx_lo σ 16 5
  have hlh := zx_hi σ 16 5
  refine cal_of (M := (yX9_endAsk, cX9_endAsk, 1, none)) (cd := k_X9_endAsk) (L := [some (.ref 16)]) rfl (Nat.le_of_ble_eq_true rfl) rfl rfl ?_
  refine aw_aload_n rfl rfl rfl ?_
  refine aw_gk (v := q) (6) rfl rfl (hC.f.k 16 rfl) rfl hq rfl (fun _ _ => ?_)
  refine aw_if (p' := 32) rfl ⟨by omega, by omega⟩ rfl rfl (fun c1 => ?_) (fun c1 => ?_)
  · dsimp only [zc] at c1
    omega
  · dsimp only [zc] at c1
    refine aw_aload_n rfl rfl rfl ?_
    refine aw_gk (v := q) (6) rfl rfl (hC.f.k 16 rfl) rfl hq rfl (fun _ _ => ?_)
    refine aw_aload_n rfl rfl rfl ?_
    refine aw_getr (b := 19) rfl rfl (hC.f.k 16 rfl) (hC.f.r 16 2 19 rfl) rfl ?_
    refine aw_alen (N := 20) rfl (hC.f.s 19 rfl) (by decide) rfl ?_
    refine aw_icmp (p' := 32) rfl ⟨by omega, by omega⟩ ⟨by omega, by omega⟩ rfl rfl (fun c2 => ?_) (fun c2 => ?_)
    · dsimp only [zc] at c2
      omega
    · dsimp only [zc] at c2
      refine aw_aload_n rfl rfl rfl ?_
      refine aw_getr (b := 19) rfl rfl (hC.f.k 16 rfl) (hC.f.r 16 2 19 rfl) rfl ?_
      refine aw_aload_n rfl rfl rfl ?_
      refine aw_gk (v := q) (6) rfl rfl (hC.f.k 16 rfl) rfl hq rfl (fun _ _ => ?_)
      refine aw_aload_n rfl rfl rfl ?_
      refine aw_gk (v := l) (5) rfl rfl (hC.f.k 16 rfl) rfl hl rfl (fun _ _ => ?_)
      refine aw_ct (N := 20) hC hI rfl (hC.f.s 19 rfl) (by omega) rfl (by decide) (by omega) (by omega) ⟨by omega, by omega⟩ rfl (fun τ4 hM4 hD4 hU4 => ?_)
      refine aw_retv rfl ?_
      exact ⟨rfl, hM4, (hD4.su (T := [19]) rfl), hU4⟩
set_option maxRecDepth 10000 in
set_option maxHeartbeats 2000000 in
theorem c_add22 {d : Nat} {sz : Nat} {κ : Nat × (Nat → Int32) × Option Nat} {A : Nat → Int → Int} {g : Nat → Nat} {σ : az_S} (hC : CR sz κ A g σ) (hI : MI sz A) {o : Int} (ho : inI o) {v : Int} (hv : inI v) {l : Int} (hl : zx σ 22 5 = l) (hl0 : 0 ≤ l) (hl1 : l < 400) : cal (d + 1) 77 [.ref 22, .int (iI o), .int (iI v)] σ (fun r τ => r = none ∧ CR sz κ A g τ ∧ Mod σ τ [22, 23, 24] ∧ zx τ 22 5 = l + 1 ∧ zx τ 22 6 = zx σ 22 6 ∧ (∀ w : Int, zx τ 23 w = if w = l then o else zx σ 23 w) ∧ (∀ w : Int, zx τ 24 w = if w = l then v else zx σ 24 w)) := by
  obtain ⟨ho1, ho2⟩ := ho
  obtain ⟨hv1, hv2⟩ := hv
  refine cal_of (M := (yX9_add, cX9_add, 3, none)) (cd := k_X9_add) (L := [some (.ref 22), some (.int (iI o)), some (.int (iI v))]) rfl (Nat.le_of_ble_eq_true rfl) rfl rfl ?_
  refine aw_aload_n rfl rfl rfl ?_
  refine aw_gk (v := l) (5) rfl rfl (hC.f.k 22 rfl) rfl hl rfl (fun _ _ => ?_)
  refine aw_if (p' := 49) rfl ⟨by omega, by omega⟩ rfl rfl (fun c1 => ?_) (fun c1 => ?_)
  · dsimp only [zc] at c1
    omega
  · dsimp only [zc] at c1
    refine aw_aload_n rfl rfl rfl ?_
    refine aw_gk (v := l) (5) rfl rfl (hC.f.k 22 rfl) rfl hl rfl (fun _ _ => ?_)
    refine aw_aload_n rfl rfl rfl ?_
    refine aw_getr (b := 23) rfl rfl (hC.f.k 22 rfl) (hC.f.r 22 0 23 rfl) rfl ?_
    refine aw_alen (N := 400) rfl (hC.f.s 23 rfl) (by decide) rfl ?_
    refine aw_icmp (p' := 49) rfl ⟨by omega, by omega⟩ ⟨by omega, by omega⟩ rfl rfl (fun c2 => ?_) (fun c2 => ?_)
    · dsimp only [zc] at c2
      omega
    · dsimp only [zc] at c2
      refine aw_aload_n rfl rfl rfl ?_
      refine aw_getr (b := 23) rfl rfl (hC.f.k 22 rfl) (hC.f.r 22 0 23 rfl) rfl ?_
      refine aw_aload_n rfl rfl rfl ?_
      refine aw_gk (v := l) (5) rfl rfl (hC.f.k 22 rfl) rfl hl rfl (fun _ _ => ?_)
      refine aw_iload_n rfl rfl rfl ?_
      refine aw_ct (N := 400) hC hI rfl (hC.f.s 23 rfl) (by omega) rfl (by decide) (by omega) (by omega) ⟨by omega, by omega⟩ rfl (fun τ4 hM4 hD4 hU4 => ?_)
      refine aw_aload_n rfl rfl rfl ?_
      refine aw_getr (b := 24) rfl rfl (hM4.f.k 22 rfl) (hM4.f.r 22 1 24 rfl) rfl ?_
      refine aw_aload_n rfl rfl rfl ?_
      refine aw_gk (v := l) (5) rfl rfl (hM4.f.k 22 rfl) rfl (by rw [hD4.z 22 rfl]; exact hl) rfl (fun _ _ => ?_)
      refine aw_iload_n rfl rfl rfl ?_
      refine aw_ct (N := 400) hM4 hI rfl (hM4.f.s 24 rfl) (by omega) rfl (by decide) (by omega) (by omega) ⟨by omega, by omega⟩ rfl (fun τ6 hM6 hD6 hU6 => ?_)
      refine aw_aload_n rfl rfl rfl ?_
      refine aw_dup rfl rfl rfl ?_
      refine aw_gk (v := l) (5) rfl rfl (hM6.f.k 22 rfl) rfl (by rw [hD6.z 22 rfl, hD4.z 22 rfl]; exact hl) rfl (fun _ _ => ?_)
      refine aw_iconst rfl rfl ?_
      refine aw_iadd rfl rfl ?_
      refine aw_c9 (5) hM6 hI rfl rfl (hM6.f.k 22 rfl) rfl rfl (by decide) ⟨by omega, by omega⟩ rfl (fun τ7 hM7 hD7 hU7 => ?_)
      refine aw_retv rfl ?_
      refine ⟨rfl, hM7, (((hD4.su (T := [22, 23, 24]) rfl).tr (hD6.su (T := [22, 23, 24]) rfl)).tr (hD7.su (T := [22, 23, 24]) rfl)), by rw [hU7, if_pos rfl], by rw [hU7, if_neg (by decide), hD6.z 22 rfl, hD4.z 22 rfl], fun w => ?_, fun w => ?_⟩
      · rw [hD7.z 23 rfl, hD6.z 23 rfl, hU4]
      · rw [hD7.z 24 rfl, hU6, hD4.z 24 rfl]
set_option maxRecDepth 10000 in
set_option maxHeartbeats 2000000 in
theorem c_addb22 {d : Nat} {sz : Nat} {κ : Nat × (Nat → Int32) × Option Nat} {A : Nat → Int → Int} {g : Nat → Nat} {σ : az_S} (hC : CR sz κ A g σ) (hI : MI sz A) {o : Int} (ho : inI o) {v : Int} (hv : inI v) {l : Int} (hl : zx σ 22 5 = l) (hl0 : 0 ≤ l) (hl1 : l ≤ 400) : cal (d + 1) 77 [.ref 22, .int (iI o), .int (iI v)] σ (fun r τ => r = none ∧ CR sz κ A g τ ∧ Mod σ τ [22, 23, 24] ∧ (0 ≤ zx τ 22 5 ∧ zx τ 22 5 ≤ 400) ∧ zx τ 22 6 = zx σ 22 6) := by
  obtain ⟨ho1, ho2⟩ := ho
  obtain ⟨hv1, hv2⟩ := hv
  refine cal_of (M := (yX9_add, cX9_add, 3, none)) (cd := k_X9_add) (L := [some (.ref 22), some (.int (iI o)), some (.int (iI v))]) rfl (Nat.le_of_ble_eq_true rfl) rfl rfl ?_
  refine aw_aload_n rfl rfl rfl ?_
  refine aw_gk (v := l) (5) rfl rfl (hC.f.k 22 rfl) rfl hl rfl (fun _ _ => ?_)
  refine aw_if (p' := 49) rfl ⟨by omega, by omega⟩ rfl rfl (fun c1 => ?_) (fun c1 => ?_)
  · dsimp only [zc] at c1
    omega
  · dsimp only [zc] at c1
    refine aw_aload_n rfl rfl rfl ?_
    refine aw_gk (v := l) (5) rfl rfl (hC.f.k 22 rfl) rfl hl rfl (fun _ _ => ?_)
    refine aw_aload_n rfl rfl rfl ?_
    refine aw_getr (b := 23) rfl rfl (hC.f.k 22 rfl) (hC.f.r 22 0 23 rfl) rfl ?_
    refine aw_alen (N := 400) rfl (hC.f.s 23 rfl) (by decide) rfl ?_
    refine aw_icmp (p' := 49) rfl ⟨by omega, by omega⟩ ⟨by omega, by omega⟩ rfl rfl (fun c2 => ?_) (fun c2 => ?_)
    · dsimp only [zc] at c2
      refine aw_retv rfl ?_
      exact ⟨rfl, hC, Mod.rf, by omega, rfl⟩
    · dsimp only [zc] at c2
      refine aw_aload_n rfl rfl rfl ?_
      refine aw_getr (b := 23) rfl rfl (hC.f.k 22 rfl) (hC.f.r 22 0 23 rfl) rfl ?_
      refine aw_aload_n rfl rfl rfl ?_
      refine aw_gk (v := l) (5) rfl rfl (hC.f.k 22 rfl) rfl hl rfl (fun _ _ => ?_)
      refine aw_iload_n rfl rfl rfl ?_
      refine aw_ct (N := 400) hC hI rfl (hC.f.s 23 rfl) (by omega) rfl (by decide) (by omega) (by omega) ⟨by omega, by omega⟩ rfl (fun τ4 hM4 hD4 hU4 => ?_)
      refine aw_aload_n rfl rfl rfl ?_
      refine aw_getr (b := 24) rfl rfl (hM4.f.k 22 rfl) (hM4.f.r 22 1 24 rfl) rfl ?_
      refine aw_aload_n rfl rfl rfl ?_
      refine aw_gk (v := l) (5) rfl rfl (hM4.f.k 22 rfl) rfl (by rw [hD4.z 22 rfl]; exact hl) rfl (fun _ _ => ?_)
      refine aw_iload_n rfl rfl rfl ?_
      refine aw_ct (N := 400) hM4 hI rfl (hM4.f.s 24 rfl) (by omega) rfl (by decide) (by omega) (by omega) ⟨by omega, by omega⟩ rfl (fun τ6 hM6 hD6 hU6 => ?_)
      refine aw_aload_n rfl rfl rfl ?_
      refine aw_dup rfl rfl rfl ?_
      refine aw_gk (v := l) (5) rfl rfl (hM6.f.k 22 rfl) rfl (by rw [hD6.z 22 rfl, hD4.z 22 rfl]; exact hl) rfl (fun _ _ => ?_)
      refine aw_iconst rfl rfl ?_
      refine aw_iadd rfl rfl ?_
      refine aw_c9 (5) hM6 hI rfl rfl (hM6.f.k 22 rfl) rfl rfl (by decide) ⟨by omega, by omega⟩ rfl (fun τ7 hM7 hD7 hU7 => ?_)
      refine aw_retv rfl ?_
      exact ⟨rfl, hM7, (((hD4.su (T := [22, 23, 24]) rfl).tr (hD6.su (T := [22, 23, 24]) rfl)).tr (hD7.su (T := [22, 23, 24]) rfl)), by rw [hU7, if_pos rfl]; omega, by rw [hU7, if_neg (by decide), hD6.z 22 rfl, hD4.z 22 rfl]⟩
set_option maxRecDepth 10000 in
set_option maxHeartbeats 2000000 in
theorem c_clear22 {d : Nat} {sz : Nat} {κ : Nat × (Nat → Int32) × Option Nat} {A : Nat → Int → Int} {g : Nat → Nat} {σ : az_S} (hC : CR sz κ A g σ) (hI : MI sz A) : cal (d + 1) 76 [.ref 22] σ (fun r τ => r = none ∧ CR sz κ A g τ ∧ Mod σ τ [22] ∧ zx τ 22 5 = 0 ∧ zx τ 22 6 = 0) := by
  refine cal_of (M := (yX9_clear, cX9_clear, 1, none)) (cd := k_X9_clear) (L := [some (.ref 22)]) rfl (Nat.le_of_ble_eq_true rfl) rfl rfl ?_
  refine aw_aload_n rfl rfl rfl ?_
  refine aw_iconst rfl rfl ?_
  refine aw_c9 (5) hC hI rfl rfl (hC.f.k 22 rfl) rfl rfl (by decide) ⟨by omega, by omega⟩ rfl (fun τ1 hM1 hD1 hU1 => ?_)
  refine aw_aload_n rfl rfl rfl ?_
  refine aw_iconst rfl rfl ?_
  refine aw_c9 (6) hM1 hI rfl rfl (hM1.f.k 22 rfl) rfl rfl (by decide) ⟨by omega, by omega⟩ rfl (fun τ2 hM2 hD2 hU2 => ?_)
  refine aw_retv rfl ?_
  refine ⟨rfl, hM2, ((hD1.su (T := [22]) rfl).tr (hD2.su (T := [22]) rfl)), ?_, ?_⟩ <;> simp [hU2, hU1]
set_option maxRecDepth 10000 in
set_option maxHeartbeats 2000000 in
theorem c_endAsk22 {d : Nat} {sz : Nat} {κ : Nat × (Nat → Int32) × Option Nat} {A : Nat → Int → Int} {g : Nat → Nat} {σ : az_S} (hC : CR sz κ A g σ) (hI : MI sz A) {l q : Int} (hl : zx σ 22 5 = l) (hq : zx σ 22 6 = q) (hq0 : 0 ≤ q) (hq1 : q < 20) : cal (d + 1) 78 [.ref 22] σ (fun r τ => r = none ∧ CR sz κ A g τ ∧ Mod σ τ [25] ∧ (∀ w : Int, zx τ 25 w = if w = q then l else zx σ 25 w)) := by
  have hll := zx_lo σ 22 5
  have hlh := zx_hi σ 22 5
  refine cal_of (M := (yX9_endAsk, cX9_endAsk, 1, none)) (cd := k_X9_endAsk) (L := [some (.ref 22)]) rfl (Nat.le_of_ble_eq_true rfl) rfl rfl ?_
  refine aw_aload_n rfl rfl rfl ?_
  refine aw_gk (v := q) (6) rfl rfl (hC.f.k 22 rfl) rfl hq rfl (fun _ _ => ?_)
  refine aw_if (p' := 32) rfl ⟨by omega, by omega⟩ rfl rfl (fun c1 => ?_) (fun c1 => ?_)
  · dsimp only [zc] at c1
    omega
  · dsimp only [zc] at c1
    refine aw_aload_n rfl rfl rfl ?_
    refine aw_gk (v := q) (6) rfl rfl (hC.f.k 22 rfl) rfl hq rfl (fun _ _ => ?_)
    refine aw_aload_n rfl rfl rfl ?_
    refine aw_getr (b := 25) rfl rfl (hC.f.k 22 rfl) (hC.f.r 22 2 25 rfl) rfl ?_
    refine aw_alen (N := 20) rfl (hC.f.s 25 rfl) (by decide) rfl ?_
    refine aw_icmp (p' := 32) rfl ⟨by omega, by omega⟩ ⟨by omega, by omega⟩ rfl rfl (fun c2 => ?_) (fun c2 => ?_)
    · dsimp only [zc] at c2
      omega
    · dsimp only [zc] at c2
      refine aw_aload_n rfl rfl rfl ?_
      refine aw_getr (b := 25) rfl rfl (hC.f.k 22 rfl) (hC.f.r 22 2 25 rfl) rfl ?_
      refine aw_aload_n rfl rfl rfl ?_
      refine aw_gk (v := q) (6) rfl rfl (hC.f.k 22 rfl) rfl hq rfl (fun _ _ => ?_)
      refine aw_aload_n rfl rfl rfl ?_
      refine aw_gk (v := l) (5) rfl rfl (hC.f.k 22 rfl) rfl hl rfl (fun _ _ => ?_)
      refine aw_ct (N := 20) hC hI rfl (hC.f.s 25 rfl) (by omega) rfl (by decide) (by omega) (by omega) ⟨by omega, by omega⟩ rfl (fun τ4 hM4 hD4 hU4 => ?_)
      refine aw_retv rfl ?_
      exact ⟨rfl, hM4, (hD4.su (T := [25]) rfl), hU4⟩
