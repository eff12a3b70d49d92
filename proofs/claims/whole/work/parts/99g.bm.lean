def rlM : List (Nat × Nat × Nat) := [(42, 89, 102), (42, 87, 101), (42, 84, 100), (42, 83, 99), (42, 82, 98), (42, 81, 97), (42, 80, 96), (42, 79, 95), (42, 77, 94), (42, 76, 93), (42, 75, 92), (42, 74, 91), (42, 73, 90), (42, 72, 89), (42, 71, 88), (42, 70, 87), (42, 69, 86), (42, 68, 85), (42, 67, 84), (42, 65, 83), (42, 64, 82), (42, 62, 81), (42, 61, 80), (42, 59, 79), (42, 57, 78), (42, 56, 77), (42, 53, 76), (42, 52, 75), (42, 39, 74), (42, 38, 73), (42, 37, 72), (42, 36, 71), (42, 35, 70), (42, 34, 69), (42, 33, 68), (42, 32, 67), (42, 31, 66), (42, 30, 65), (42, 29, 64), (42, 28, 63), (42, 26, 62), (42, 25, 61), (42, 24, 60), (42, 23, 59), (42, 22, 58), (42, 21, 57), (42, 20, 56), (42, 19, 55), (42, 18, 54), (42, 17, 53), (42, 16, 52), (42, 15, 51), (42, 14, 50), (42, 13, 49), (42, 11, 48), (42, 10, 47), (42, 8, 46), (42, 7, 45), (42, 5, 44), (42, 4, 43), (0, 12, 41), (0, 8, 40), (40, 1, 22), (40, 0, 9), (0, 9, 33), (33, 6, 39), (33, 5, 38), (33, 4, 37), (33, 3, 36), (33, 1, 35), (33, 0, 28), (33, 2, 34), (0, 6, 29), (29, 5, 32), (29, 4, 31), (29, 2, 6), (29, 1, 1), (29, 0, 28), (29, 3, 30), (0, 0, 28), (0, 14, 22), (22, 4, 27), (22, 3, 26), (22, 2, 25), (22, 1, 24), (22, 0, 23), (0, 13, 16), (16, 4, 21), (16, 3, 20), (16, 2, 19), (16, 1, 18), (16, 0, 17), (0, 11, 15), (0, 10, 14), (0, 7, 9), (9, 4, 13), (9, 3, 12), (9, 2, 11), (9, 0, 10), (0, 5, 8), (8, 1, 1000001), (0, 4, 7), (7, 1, 1000001), (0, 3, 6), (6, 1, 1000001), (0, 2, 5), (5, 1, 1000001), (0, 1, 1), (1, 2, 4), (1, 1, 3), (1, 0, 2)]
def rlC : List (Nat × Nat × Nat) := [(0, 12, 41), (0, 8, 40), (40, 1, 22), (40, 0, 9), (0, 9, 33), (33, 6, 39), (33, 5, 38), (33, 4, 37), (33, 3, 36), (33, 1, 35), (33, 0, 28), (33, 2, 34), (0, 6, 29), (29, 5, 32), (29, 4, 31), (29, 2, 6), (29, 1, 1), (29, 0, 28), (29, 3, 30), (0, 0, 28), (0, 14, 22), (22, 4, 27), (22, 3, 26), (22, 2, 25), (22, 1, 24), (22, 0, 23), (0, 13, 16), (16, 4, 21), (16, 3, 20), (16, 2, 19), (16, 1, 18), (16, 0, 17), (0, 11, 15), (0, 10, 14), (0, 7, 9), (9, 4, 13), (9, 3, 12), (9, 2, 11), (9, 0, 10), (0, 5, 8), (8, 1, 1000001), (0, 4, 7), (7, 1, 1000001), (0, 3, 6), (6, 1, 1000001), (0, 2, 5), (5, 1, 1000001), (0, 1, 1), (1, 2, 4), (1, 1, 3), (1, 0, 2)]
set_option maxRecDepth 10000 in
set_option maxHeartbeats 4000000 in
theorem mod_l {d : Nat} {sz : Nat} {κ : Nat × (Nat → Int32) × Option Nat} {I Q : Nat → Int → Int} {w h : Int} {P : Option Value → az_S → Prop} (hP : ∀ τ, BX sz κ 103 rlM (sI I 43 44 144) Q τ → P none τ) : ∀ (n : Nat) (m k : Int) (σ : az_S), ((12 - m) * 13 + (12 - k)).toNat = n → 0 ≤ m → m ≤ 11 → 0 ≤ k → k ≤ 12 → BX sz κ 103 rlM (sI I 43 44 (12 * m + k)) Q σ → aw d k_X12_init none P 591 [some (.ref 42), some (.int (iI w)), some (.int (iI h)), some (.int (iI m)), some (.int (iI k))] [] σ := by
  intro n
  induction n using Nat.strongRecOn with
  | ind n ih =>
  intro m k σ hn hm0 hm1 hh0 hh1 hB
  refine aw_iload rfl rfl rfl ?_
  refine aw_bipush rfl rfl rfl ?_
  refine aw_icmp (p' := 660) rfl ⟨by omega, by omega⟩ ⟨by omega, by omega⟩ rfl rfl (fun c1 => ?_) (fun c1 => ?_)
  · dsimp only [zc] at c1
    have e : k = 12 := by omega
    subst e
    refine aw_iinc rfl rfl rfl rfl ?_
    change aw _ _ _ _ 663 [some (.ref 42), some (.int (iI w)), some (.int (iI h)), some (.int (iI (m + 1))), some (.int (iI 12))] [] _
    refine aw_goto (p' := 582) rfl rfl ?_
    refine aw_iload_n rfl rfl rfl ?_
    refine aw_bipush rfl rfl rfl ?_
    refine aw_icmp (p' := 666) rfl ⟨by omega, by omega⟩ ⟨by omega, by omega⟩ rfl rfl (fun c2 => ?_) (fun c2 => ?_)
    · dsimp only [zc] at c2
      have e2 : 12 * m + 12 = 144 := by omega
      rw [e2] at hB
      exact aw_retv rfl (hP σ hB)
    · dsimp only [zc] at c2
      refine aw_iconst rfl rfl ?_
      refine aw_istore rfl (Nat.le_of_ble_eq_true rfl) rfl rfl ?_
      change aw _ _ _ _ 591 [some (.ref 42), some (.int (iI w)), some (.int (iI h)), some (.int (iI (m + 1))), some (.int (iI 0))] [] _
      refine ih _ (by omega) (m + 1) 0 σ rfl (by omega) (by omega) (by omega) (by omega) ?_
      rw [show 12 * (m + 1) + 0 = 12 * m + 12 by omega]
      exact hB
  · dsimp only [zc] at c1
    have sv := sun_v hm0 hh0 (show k < 12 by omega)
    refine aw_aload_n rfl rfl rfl ?_
    refine aw_getr (b := 43) rfl rfl (hB.k (a := 42) (by decide)) (hB.r 42 4 43 (by decide)) rfl ?_
    refine aw_bipush rfl rfl rfl ?_
    refine aw_iload_n rfl rfl rfl ?_
    refine aw_imul rfl rfl ?_
    refine aw_iload rfl rfl rfl ?_
    refine aw_iadd rfl rfl ?_
    refine aw_bipush rfl rfl rfl ?_
    refine aw_iconst rfl rfl ?_
    refine aw_iload rfl rfl rfl ?_
    refine aw_imul rfl rfl ?_
    refine aw_bipush rfl rfl rfl ?_
    refine aw_isub rfl rfl ?_
    refine aw_imul rfl rfl ?_
    rw [← sv.1]
    have b1 : inI (sunX (12 * m + k)) := by rw [sv.1]; exact ⟨by omega, by omega⟩
    refine aw_bst (N := 144) hB rfl rfl (by decide) (by decide) (by omega) (by omega) b1 rfl (fun τ1 hB1 => ?_)
    refine aw_aload_n rfl rfl rfl ?_
    refine aw_getr (b := 44) rfl rfl (hB1.k (a := 42) (by decide)) (hB1.r 42 5 44 (by decide)) rfl ?_
    refine aw_bipush rfl rfl rfl ?_
    refine aw_iload_n rfl rfl rfl ?_
    refine aw_imul rfl rfl ?_
    refine aw_iload rfl rfl rfl ?_
    refine aw_iadd rfl rfl ?_
    refine aw_bipush rfl rfl rfl ?_
    refine aw_iconst rfl rfl ?_
    have h651 : ∀ v : Int, v = (if m - 6 < 0 then -(m - 6) else m - 6) → aw d k_X12_init none P 651 [some (.ref 42), some (.int (iI w)), some (.int (iI h)), some (.int (iI m)), some (.int (iI k))] [.int (iI v), .int (iI 5), .int (iI 20), .int (iI (12 * m + k)), .ref 44] τ1 := by
      intro v hv
      subst hv
      refine aw_imul rfl rfl ?_
      refine aw_iadd rfl rfl ?_
      rw [← sv.2]
      have b2 : inI (sunY (12 * m + k)) := by rw [sv.2]; split <;> exact ⟨by omega, by omega⟩
      refine aw_bst (N := 144) hB1 rfl rfl (by decide) (by decide) (by omega) (by omega) b2 rfl (fun τ2 hB2 => ?_)
      rw [sI_s (by decide) (by omega)] at hB2
      refine aw_iinc rfl rfl rfl rfl ?_
      change aw _ _ _ _ 657 [some (.ref 42), some (.int (iI w)), some (.int (iI h)), some (.int (iI m)), some (.int (iI (k + 1)))] [] _
      refine aw_goto (p' := 591) rfl rfl ?_
      refine ih _ (by omega) m (k + 1) τ2 rfl hm0 hm1 (by omega) (by omega) ?_
      rw [show 12 * m + (k + 1) = 12 * m + k + 1 by omega]
      exact hB2
    refine aw_iload_n rfl rfl rfl ?_
    refine aw_bipush rfl rfl rfl ?_
    refine aw_icmp (p' := 647) rfl ⟨by omega, by omega⟩ ⟨by omega, by omega⟩ rfl rfl (fun c2 => ?_) (fun c2 => ?_)
    · dsimp only [zc] at c2
      refine aw_iload_n rfl rfl rfl ?_
      refine aw_bipush rfl rfl rfl ?_
      refine aw_isub rfl rfl ?_
      exact h651 _ (by rw [if_neg (by omega)])
    · dsimp only [zc] at c2
      refine aw_bipush rfl rfl rfl ?_
      refine aw_iload_n rfl rfl rfl ?_
      refine aw_isub rfl rfl ?_
      refine aw_goto (p' := 651) rfl rfl ?_
      exact h651 _ (by rw [if_pos (by omega)]; omega)
set_option maxRecDepth 10000 in
set_option maxHeartbeats 4000000 in
theorem mod_517 {d : Nat} {sz : Nat} {κ : Nat × (Nat → Int32) × Option Nat} {I Q : Nat → Int → Int} {w h : Int} (hw : inI w) (hh : inI h) {P : Option Value → az_S → Prop} (hP : ∀ τ, BX sz κ 103 rlM (sI (up (up (up I 42 0 (cW w)) 42 1 (cH h)) 42 2 (cW w * cH h)) 43 44 144) Q τ → P none τ) {σ : az_S} (hB : BX sz κ 103 rlM (I) Q σ) : aw d k_X12_init none P 517 [some (.ref 42), some (.int (iI w)), some (.int (iI h)), none, none] [] σ := by
  obtain ⟨hw1, hw2⟩ := hw
  obtain ⟨hh1, hh2⟩ := hh
  have a := cW_b w
  have b := cH_b h
  have c := wh_b w h
  have h564 : ∀ (τ : az_S) (v : Int), v = cH h → BX sz κ 103 rlM (up I 42 0 (cW w)) Q τ → aw d k_X12_init none P 564 [some (.ref 42), some (.int (iI w)), some (.int (iI h)), none, none] [.int (iI v), .ref 42] τ := by
    intro τ v hv hB1
    subst hv
    refine aw_bputi (1) hB1 rfl rfl rfl (by decide) rfl ⟨by omega, by omega⟩ rfl (fun τ2 hB2 => ?_)
    refine aw_aload_n rfl rfl rfl ?_
    refine aw_aload_n rfl rfl rfl ?_
    refine aw_gk (v := cW w) (0) rfl rfl (hB2.k (a := 42) (by decide)) rfl (by rw [hB2.i (a := 42) (by decide)]; simp [up]) rfl (fun _ _ => ?_)
    refine aw_aload_n rfl rfl rfl ?_
    refine aw_gk (v := cH h) (1) rfl rfl (hB2.k (a := 42) (by decide)) rfl (by rw [hB2.i (a := 42) (by decide)]; simp [up]) rfl (fun _ _ => ?_)
    refine aw_imul rfl rfl ?_
    refine aw_bputi (2) hB2 rfl rfl rfl (by decide) rfl ⟨by omega, by omega⟩ rfl (fun τ3 hB3 => ?_)
    refine aw_iconst rfl rfl ?_
    refine aw_istore_n rfl (Nat.le_of_ble_eq_true rfl) rfl rfl ?_
    change aw _ _ _ _ 582 [some (.ref 42), some (.int (iI w)), some (.int (iI h)), some (.int (iI 0)), none] [] _
    refine aw_iload_n rfl rfl rfl ?_
    refine aw_bipush rfl rfl rfl ?_
    refine aw_icmp (p' := 666) rfl ⟨by omega, by omega⟩ ⟨by omega, by omega⟩ rfl rfl (fun c1 => ?_) (fun _ => ?_)
    · dsimp only [zc] at c1
      omega
    · refine aw_iconst rfl rfl ?_
      refine aw_istore rfl (Nat.le_of_ble_eq_true rfl) rfl rfl ?_
      change aw _ _ _ _ 591 [some (.ref 42), some (.int (iI w)), some (.int (iI h)), some (.int (iI 0)), some (.int (iI 0))] [] _
      refine mod_l hP _ 0 0 _ rfl (by omega) (by omega) (by omega) (by omega) ?_
      rw [show (12 * 0 + 0 : Int) = 0 from rfl, sI_0]
      exact hB3
  have h539 : ∀ v : Int, v = cW w → aw d k_X12_init none P 539 [some (.ref 42), some (.int (iI w)), some (.int (iI h)), none, none] [.int (iI v), .ref 42] σ := by
    intro v hv
    subst hv
    refine aw_bputi (0) hB rfl rfl rfl (by decide) rfl ⟨by omega, by omega⟩ rfl (fun τ1 hB1 => ?_)
    refine aw_aload_n rfl rfl rfl ?_
    refine aw_iload_n rfl rfl rfl ?_
    refine aw_iconst rfl rfl ?_
    refine aw_icmp (p' := 552) rfl ⟨by omega, by omega⟩ ⟨by omega, by omega⟩ rfl rfl (fun c1 => ?_) (fun c1 => ?_)
    · dsimp only [zc] at c1
      refine aw_iload_n rfl rfl rfl ?_
      refine aw_bipush rfl rfl rfl ?_
      refine aw_icmp (p' := 563) rfl ⟨by omega, by omega⟩ ⟨by omega, by omega⟩ rfl rfl (fun c2 => ?_) (fun c2 => ?_)
      · dsimp only [zc] at c2
        refine aw_iload_n rfl rfl rfl ?_
        exact h564 τ1 _ (by unfold cH; rw [if_neg (by omega), if_neg (by omega)]) hB1
      · dsimp only [zc] at c2
        refine aw_bipush rfl rfl rfl ?_
        refine aw_goto (p' := 564) rfl rfl ?_
        exact h564 τ1 _ (by unfold cH; rw [if_neg (by omega), if_pos (by omega)]) hB1
    · dsimp only [zc] at c1
      refine aw_iconst rfl rfl ?_
      refine aw_goto (p' := 564) rfl rfl ?_
      exact h564 τ1 _ (by unfold cH; rw [if_pos (by omega)]) hB1
  refine aw_aload_n rfl rfl rfl ?_
  refine aw_iload_n rfl rfl rfl ?_
  refine aw_iconst rfl rfl ?_
  refine aw_icmp (p' := 527) rfl ⟨by omega, by omega⟩ ⟨by omega, by omega⟩ rfl rfl (fun c1 => ?_) (fun c1 => ?_)
  · dsimp only [zc] at c1
    refine aw_iload_n rfl rfl rfl ?_
    refine aw_bipush rfl rfl rfl ?_
    refine aw_icmp (p' := 538) rfl ⟨by omega, by omega⟩ ⟨by omega, by omega⟩ rfl rfl (fun c2 => ?_) (fun c2 => ?_)
    · dsimp only [zc] at c2
      refine aw_iload_n rfl rfl rfl ?_
      exact h539 _ (by unfold cW; rw [if_neg (by omega), if_neg (by omega)])
    · dsimp only [zc] at c2
      refine aw_bipush rfl rfl rfl ?_
      refine aw_goto (p' := 539) rfl rfl ?_
      exact h539 _ (by unfold cW; rw [if_neg (by omega), if_pos (by omega)])
  · dsimp only [zc] at c1
    refine aw_iconst rfl rfl ?_
    refine aw_goto (p' := 539) rfl rfl ?_
    exact h539 _ (by unfold cW; rw [if_pos (by omega)])
set_option maxRecDepth 10000 in
set_option maxHeartbeats 4000000 in
theorem b_model {d : Nat} {sz : Nat} {κ : Nat × (Nat → Int32) × Option Nat} {I Q : Nat → Int → Int} {σ : az_S} {w h : Int} (hw : inI w) (hh : inI h) (hB : BX sz κ 43 rlC I Q σ) : cal (d + 1) 158 [.ref 42, .int (iI w), .int (iI h)] σ (fun r τ => r = none ∧ BX sz κ 103 rlM (sI (up (up (up (up (up (I) 42 48 (-1)) 42 49 (-1)) 42 0 (cW w)) 42 1 (cH h)) 42 2 (cW w * cH h)) 43 44 144) Q τ) := by
  unfold rlC at hB
  refine cal_of (M := (yX12_init, cX12_init, 5, none)) (cd := k_X12_init) (L := [some (.ref 42), some (.int (iI w)), some (.int (iI h)), none, none]) rfl (Nat.le_of_ble_eq_true rfl) rfl rfl ?_
  refine aw_aload_n rfl rfl rfl ?_
  refine aw_obj rfl (Nat.le_of_ble_eq_true rfl) rfl ?_
  refine aw_aload_n rfl rfl rfl ?_
  refine aw_sipush rfl rfl rfl ?_
  refine aw_bnarr (N := 144) hB (by decide) rfl (by decide) rfl rfl rfl rfl (fun τ1 hB1 => ?_)
  refine aw_bputr hB1 rfl rfl rfl (by decide) rfl rfl (fun τ2 hB2 => ?_)
  refine aw_aload_n rfl rfl rfl ?_
  refine aw_sipush rfl rfl rfl ?_
  refine aw_bnarr (N := 144) hB2 (by decide) rfl (by decide) rfl rfl rfl rfl (fun τ3 hB3 => ?_)
  refine aw_bputr hB3 rfl rfl rfl (by decide) rfl rfl (fun τ4 hB4 => ?_)
  refine aw_aload_n rfl rfl rfl ?_
  refine aw_bipush rfl rfl rfl ?_
  refine aw_bnarr (N := 60) hB4 (by decide) rfl (by decide) rfl rfl rfl rfl (fun τ5 hB5 => ?_)
  refine aw_bputr hB5 rfl rfl rfl (by decide) rfl rfl (fun τ6 hB6 => ?_)
  refine aw_aload_n rfl rfl rfl ?_
  refine aw_bipush rfl rfl rfl ?_
  refine aw_bnarr (N := 60) hB6 (by decide) rfl (by decide) rfl rfl rfl rfl (fun τ7 hB7 => ?_)
  refine aw_bputr hB7 rfl rfl rfl (by decide) rfl rfl (fun τ8 hB8 => ?_)
  refine aw_aload_n rfl rfl rfl ?_
  refine aw_bipush rfl rfl rfl ?_
  refine aw_bnarr (N := 16) hB8 (by decide) rfl (by decide) rfl rfl rfl rfl (fun τ9 hB9 => ?_)
  refine aw_bputr hB9 rfl rfl rfl (by decide) rfl rfl (fun τ10 hB10 => ?_)
  refine aw_aload_n rfl rfl rfl ?_
  refine aw_bipush rfl rfl rfl ?_
  refine aw_bnarr (N := 16) hB10 (by decide) rfl (by decide) rfl rfl rfl rfl (fun τ11 hB11 => ?_)
  refine aw_bputr hB11 rfl rfl rfl (by decide) rfl rfl (fun τ12 hB12 => ?_)
  refine aw_aload_n rfl rfl rfl ?_
  refine aw_bipush rfl rfl rfl ?_
  refine aw_bnarr (N := 24) hB12 (by decide) rfl (by decide) rfl rfl rfl rfl (fun τ13 hB13 => ?_)
  refine aw_bputr hB13 rfl rfl rfl (by decide) rfl rfl (fun τ14 hB14 => ?_)
  refine aw_aload_n rfl rfl rfl ?_
  refine aw_bipush rfl rfl rfl ?_
  refine aw_bnarr (N := 24) hB14 (by decide) rfl (by decide) rfl rfl rfl rfl (fun τ15 hB15 => ?_)
  refine aw_bputr hB15 rfl rfl rfl (by decide) rfl rfl (fun τ16 hB16 => ?_)
  refine aw_aload_n rfl rfl rfl ?_
  refine aw_bipush rfl rfl rfl ?_
  refine aw_bnarr (N := 24) hB16 (by decide) rfl (by decide) rfl rfl rfl rfl (fun τ17 hB17 => ?_)
  refine aw_bputr hB17 rfl rfl rfl (by decide) rfl rfl (fun τ18 hB18 => ?_)
  refine aw_aload_n rfl rfl rfl ?_
  refine aw_bipush rfl rfl rfl ?_
  refine aw_bnarr (N := 24) hB18 (by decide) rfl (by decide) rfl rfl rfl rfl (fun τ19 hB19 => ?_)
  refine aw_bputr hB19 rfl rfl rfl (by decide) rfl rfl (fun τ20 hB20 => ?_)
  refine aw_aload_n rfl rfl rfl ?_
  refine aw_bipush rfl rfl rfl ?_
  refine aw_bnarr (N := 24) hB20 (by decide) rfl (by decide) rfl rfl rfl rfl (fun τ21 hB21 => ?_)
  refine aw_bputr hB21 rfl rfl rfl (by decide) rfl rfl (fun τ22 hB22 => ?_)
  refine aw_aload_n rfl rfl rfl ?_
  refine aw_bipush rfl rfl rfl ?_
  refine aw_bnarr (N := 24) hB22 (by decide) rfl (by decide) rfl rfl rfl rfl (fun τ23 hB23 => ?_)
  refine aw_bputr hB23 rfl rfl rfl (by decide) rfl rfl (fun τ24 hB24 => ?_)
  refine aw_aload_n rfl rfl rfl ?_
  refine aw_bipush rfl rfl rfl ?_
  refine aw_bnarr (N := 24) hB24 (by decide) rfl (by decide) rfl rfl rfl rfl (fun τ25 hB25 => ?_)
  refine aw_bputr hB25 rfl rfl rfl (by decide) rfl rfl (fun τ26 hB26 => ?_)
  refine aw_aload_n rfl rfl rfl ?_
  refine aw_bipush rfl rfl rfl ?_
  refine aw_bnarr (N := 24) hB26 (by decide) rfl (by decide) rfl rfl rfl rfl (fun τ27 hB27 => ?_)
  refine aw_bputr hB27 rfl rfl rfl (by decide) rfl rfl (fun τ28 hB28 => ?_)
  refine aw_aload_n rfl rfl rfl ?_
  refine aw_sipush rfl rfl rfl ?_
  refine aw_bnarr (N := 984) hB28 (by decide) rfl (by decide) rfl rfl rfl rfl (fun τ29 hB29 => ?_)
  refine aw_bputr hB29 rfl rfl rfl (by decide) rfl rfl (fun τ30 hB30 => ?_)
  refine aw_aload_n rfl rfl rfl ?_
  refine aw_sipush rfl rfl rfl ?_
  refine aw_bnarr (N := 984) hB30 (by decide) rfl (by decide) rfl rfl rfl rfl (fun τ31 hB31 => ?_)
  refine aw_bputr hB31 rfl rfl rfl (by decide) rfl rfl (fun τ32 hB32 => ?_)
  refine aw_aload_n rfl rfl rfl ?_
  refine aw_sipush rfl rfl rfl ?_
  refine aw_bnarr (N := 984) hB32 (by decide) rfl (by decide) rfl rfl rfl rfl (fun τ33 hB33 => ?_)
  refine aw_bputr hB33 rfl rfl rfl (by decide) rfl rfl (fun τ34 hB34 => ?_)
  refine aw_aload_n rfl rfl rfl ?_
  refine aw_bipush rfl rfl rfl ?_
  refine aw_bnarr (N := 24) hB34 (by decide) rfl (by decide) rfl rfl rfl rfl (fun τ35 hB35 => ?_)
  refine aw_bputr hB35 rfl rfl rfl (by decide) rfl rfl (fun τ36 hB36 => ?_)
  refine aw_aload_n rfl rfl rfl ?_
  refine aw_bipush rfl rfl rfl ?_
  refine aw_bnarr (N := 24) hB36 (by decide) rfl (by decide) rfl rfl rfl rfl (fun τ37 hB37 => ?_)
  refine aw_bputr hB37 rfl rfl rfl (by decide) rfl rfl (fun τ38 hB38 => ?_)
  refine aw_aload_n rfl rfl rfl ?_
  refine aw_bipush rfl rfl rfl ?_
  refine aw_bnarr (N := 24) hB38 (by decide) rfl (by decide) rfl rfl rfl rfl (fun τ39 hB39 => ?_)
  refine aw_bputr hB39 rfl rfl rfl (by decide) rfl rfl (fun τ40 hB40 => ?_)
  refine aw_aload_n rfl rfl rfl ?_
  refine aw_bipush rfl rfl rfl ?_
  refine aw_bnarr (N := 60) hB40 (by decide) rfl (by decide) rfl rfl rfl rfl (fun τ41 hB41 => ?_)
  refine aw_bputr hB41 rfl rfl rfl (by decide) rfl rfl (fun τ42 hB42 => ?_)
  refine aw_aload_n rfl rfl rfl ?_
  refine aw_bipush rfl rfl rfl ?_
  refine aw_bnarr (N := 60) hB42 (by decide) rfl (by decide) rfl rfl rfl rfl (fun τ43 hB43 => ?_)
  refine aw_bputr hB43 rfl rfl rfl (by decide) rfl rfl (fun τ44 hB44 => ?_)
  refine aw_aload_n rfl rfl rfl ?_
  refine aw_bipush rfl rfl rfl ?_
  refine aw_bnarr (N := 60) hB44 (by decide) rfl (by decide) rfl rfl rfl rfl (fun τ45 hB45 => ?_)
  refine aw_bputr hB45 rfl rfl rfl (by decide) rfl rfl (fun τ46 hB46 => ?_)
  refine aw_aload_n rfl rfl rfl ?_
  refine aw_bipush rfl rfl rfl ?_
  refine aw_bnarr (N := 60) hB46 (by decide) rfl (by decide) rfl rfl rfl rfl (fun τ47 hB47 => ?_)
  refine aw_bputr hB47 rfl rfl rfl (by decide) rfl rfl (fun τ48 hB48 => ?_)
  refine aw_aload_n rfl rfl rfl ?_
  refine aw_bipush rfl rfl rfl ?_
  refine aw_bnarr (N := 60) hB48 (by decide) rfl (by decide) rfl rfl rfl rfl (fun τ49 hB49 => ?_)
  refine aw_bputr hB49 rfl rfl rfl (by decide) rfl rfl (fun τ50 hB50 => ?_)
  refine aw_aload_n rfl rfl rfl ?_
  refine aw_bipush rfl rfl rfl ?_
  refine aw_bnarr (N := 60) hB50 (by decide) rfl (by decide) rfl rfl rfl rfl (fun τ51 hB51 => ?_)
  refine aw_bputr hB51 rfl rfl rfl (by decide) rfl rfl (fun τ52 hB52 => ?_)
  refine aw_aload_n rfl rfl rfl ?_
  refine aw_bipush rfl rfl rfl ?_
  refine aw_bnarr (N := 60) hB52 (by decide) rfl (by decide) rfl rfl rfl rfl (fun τ53 hB53 => ?_)
  refine aw_bputr hB53 rfl rfl rfl (by decide) rfl rfl (fun τ54 hB54 => ?_)
  refine aw_aload_n rfl rfl rfl ?_
  refine aw_bipush rfl rfl rfl ?_
  refine aw_bnarr (N := 60) hB54 (by decide) rfl (by decide) rfl rfl rfl rfl (fun τ55 hB55 => ?_)
  refine aw_bputr hB55 rfl rfl rfl (by decide) rfl rfl (fun τ56 hB56 => ?_)
  refine aw_aload_n rfl rfl rfl ?_
  refine aw_bipush rfl rfl rfl ?_
  refine aw_bnarr (N := 60) hB56 (by decide) rfl (by decide) rfl rfl rfl rfl (fun τ57 hB57 => ?_)
  refine aw_bputr hB57 rfl rfl rfl (by decide) rfl rfl (fun τ58 hB58 => ?_)
  refine aw_aload_n rfl rfl rfl ?_
  refine aw_bipush rfl rfl rfl ?_
  refine aw_bnarr (N := 60) hB58 (by decide) rfl (by decide) rfl rfl rfl rfl (fun τ59 hB59 => ?_)
  refine aw_bputr hB59 rfl rfl rfl (by decide) rfl rfl (fun τ60 hB60 => ?_)
  refine aw_aload_n rfl rfl rfl ?_
  refine aw_bipush rfl rfl rfl ?_
  refine aw_bnarr (N := 60) hB60 (by decide) rfl (by decide) rfl rfl rfl rfl (fun τ61 hB61 => ?_)
  refine aw_bputr hB61 rfl rfl rfl (by decide) rfl rfl (fun τ62 hB62 => ?_)
  refine aw_aload_n rfl rfl rfl ?_
  refine aw_sipush rfl rfl rfl ?_
  refine aw_bnarr (N := 400) hB62 (by decide) rfl (by decide) rfl rfl rfl rfl (fun τ63 hB63 => ?_)
  refine aw_bputr hB63 rfl rfl rfl (by decide) rfl rfl (fun τ64 hB64 => ?_)
  refine aw_aload_n rfl rfl rfl ?_
  refine aw_iconst rfl rfl ?_
  refine aw_bputi (48) hB64 rfl rfl rfl (by decide) rfl ⟨by omega, by omega⟩ rfl (fun τ65 hB65 => ?_)
  refine aw_aload_n rfl rfl rfl ?_
  refine aw_iconst rfl rfl ?_
  refine aw_bputi (49) hB65 rfl rfl rfl (by decide) rfl ⟨by omega, by omega⟩ rfl (fun τ66 hB66 => ?_)
  refine aw_aload_n rfl rfl rfl ?_
  refine aw_sipush rfl rfl rfl ?_
  refine aw_bnarr (N := 900) hB66 (by decide) rfl (by decide) rfl rfl rfl rfl (fun τ67 hB67 => ?_)
  refine aw_bputr hB67 rfl rfl rfl (by decide) rfl rfl (fun τ68 hB68 => ?_)
  refine aw_aload_n rfl rfl rfl ?_
  refine aw_sipush rfl rfl rfl ?_
  refine aw_bnarr (N := 900) hB68 (by decide) rfl (by decide) rfl rfl rfl rfl (fun τ69 hB69 => ?_)
  refine aw_bputr hB69 rfl rfl rfl (by decide) rfl rfl (fun τ70 hB70 => ?_)
  refine aw_aload_n rfl rfl rfl ?_
  refine aw_sipush rfl rfl rfl ?_
  refine aw_bnarr (N := 900) hB70 (by decide) rfl (by decide) rfl rfl rfl rfl (fun τ71 hB71 => ?_)
  refine aw_bputr hB71 rfl rfl rfl (by decide) rfl rfl (fun τ72 hB72 => ?_)
  refine aw_aload_n rfl rfl rfl ?_
  refine aw_sipush rfl rfl rfl ?_
  refine aw_bnarr (N := 900) hB72 (by decide) rfl (by decide) rfl rfl rfl rfl (fun τ73 hB73 => ?_)
  refine aw_bputr hB73 rfl rfl rfl (by decide) rfl rfl (fun τ74 hB74 => ?_)
  refine aw_aload_n rfl rfl rfl ?_
  refine aw_bipush rfl rfl rfl ?_
  refine aw_bnarr (N := 64) hB74 (by decide) rfl (by decide) rfl rfl rfl rfl (fun τ75 hB75 => ?_)
  refine aw_bputr hB75 rfl rfl rfl (by decide) rfl rfl (fun τ76 hB76 => ?_)
  refine aw_aload_n rfl rfl rfl ?_
  refine aw_sipush rfl rfl rfl ?_
  refine aw_bnarr (N := 128) hB76 (by decide) rfl (by decide) rfl rfl rfl rfl (fun τ77 hB77 => ?_)
  refine aw_bputr hB77 rfl rfl rfl (by decide) rfl rfl (fun τ78 hB78 => ?_)
  refine aw_aload_n rfl rfl rfl ?_
  refine aw_sipush rfl rfl rfl ?_
  refine aw_bnarr (N := 128) hB78 (by decide) rfl (by decide) rfl rfl rfl rfl (fun τ79 hB79 => ?_)
  refine aw_bputr hB79 rfl rfl rfl (by decide) rfl rfl (fun τ80 hB80 => ?_)
  refine aw_aload_n rfl rfl rfl ?_
  refine aw_sipush rfl rfl rfl ?_
  refine aw_bnarr (N := 300) hB80 (by decide) rfl (by decide) rfl rfl rfl rfl (fun τ81 hB81 => ?_)
  refine aw_bputr hB81 rfl rfl rfl (by decide) rfl rfl (fun τ82 hB82 => ?_)
  refine aw_aload_n rfl rfl rfl ?_
  refine aw_bipush rfl rfl rfl ?_
  refine aw_bnarr (N := 8) hB82 (by decide) rfl (by decide) rfl rfl rfl rfl (fun τ83 hB83 => ?_)
  refine aw_bputr hB83 rfl rfl rfl (by decide) rfl rfl (fun τ84 hB84 => ?_)
  refine aw_aload_n rfl rfl rfl ?_
  refine aw_bipush rfl rfl rfl ?_
  refine aw_bnarr (N := 10) hB84 (by decide) rfl (by decide) rfl rfl rfl rfl (fun τ85 hB85 => ?_)
  refine aw_bputr hB85 rfl rfl rfl (by decide) rfl rfl (fun τ86 hB86 => ?_)
  refine aw_aload_n rfl rfl rfl ?_
  refine aw_bipush rfl rfl rfl ?_
  refine aw_bnarr (N := 10) hB86 (by decide) rfl (by decide) rfl rfl rfl rfl (fun τ87 hB87 => ?_)
  refine aw_bputr hB87 rfl rfl rfl (by decide) rfl rfl (fun τ88 hB88 => ?_)
  refine aw_aload_n rfl rfl rfl ?_
  refine aw_bipush rfl rfl rfl ?_
  refine aw_bnarr (N := 10) hB88 (by decide) rfl (by decide) rfl rfl rfl rfl (fun τ89 hB89 => ?_)
  refine aw_bputr hB89 rfl rfl rfl (by decide) rfl rfl (fun τ90 hB90 => ?_)
  refine aw_aload_n rfl rfl rfl ?_
  refine aw_bipush rfl rfl rfl ?_
  refine aw_bnarr (N := 120) hB90 (by decide) rfl (by decide) rfl rfl rfl rfl (fun τ91 hB91 => ?_)
  refine aw_bputr hB91 rfl rfl rfl (by decide) rfl rfl (fun τ92 hB92 => ?_)
  refine aw_aload_n rfl rfl rfl ?_
  refine aw_sipush rfl rfl rfl ?_
  refine aw_bnarr (N := 192) hB92 (by decide) rfl (by decide) rfl rfl rfl rfl (fun τ93 hB93 => ?_)
  refine aw_bputr hB93 rfl rfl rfl (by decide) rfl rfl (fun τ94 hB94 => ?_)
  refine aw_aload_n rfl rfl rfl ?_
  refine aw_sipush rfl rfl rfl ?_
  refine aw_bnarr (N := 192) hB94 (by decide) rfl (by decide) rfl rfl rfl rfl (fun τ95 hB95 => ?_)
  refine aw_bputr hB95 rfl rfl rfl (by decide) rfl rfl (fun τ96 hB96 => ?_)
  refine aw_aload_n rfl rfl rfl ?_
  refine aw_sipush rfl rfl rfl ?_
  refine aw_bnarr (N := 192) hB96 (by decide) rfl (by decide) rfl rfl rfl rfl (fun τ97 hB97 => ?_)
  refine aw_bputr hB97 rfl rfl rfl (by decide) rfl rfl (fun τ98 hB98 => ?_)
  refine aw_aload_n rfl rfl rfl ?_
  refine aw_sipush rfl rfl rfl ?_
  refine aw_bnarr (N := 192) hB98 (by decide) rfl (by decide) rfl rfl rfl rfl (fun τ99 hB99 => ?_)
  refine aw_bputr hB99 rfl rfl rfl (by decide) rfl rfl (fun τ100 hB100 => ?_)
  refine aw_aload_n rfl rfl rfl ?_
  refine aw_bipush rfl rfl rfl ?_
  refine aw_bnarr (N := 24) hB100 (by decide) rfl (by decide) rfl rfl rfl rfl (fun τ101 hB101 => ?_)
  refine aw_bputr hB101 rfl rfl rfl (by decide) rfl rfl (fun τ102 hB102 => ?_)
  refine aw_aload_n rfl rfl rfl ?_
  refine aw_bipush rfl rfl rfl ?_
  refine aw_bnarr (N := 24) hB102 (by decide) rfl (by decide) rfl rfl rfl rfl (fun τ103 hB103 => ?_)
  refine aw_bputr hB103 rfl rfl rfl (by decide) rfl rfl (fun τ104 hB104 => ?_)
  refine aw_aload_n rfl rfl rfl ?_
  refine aw_bipush rfl rfl rfl ?_
  refine aw_bnarr (N := 65) hB104 (by decide) rfl (by decide) rfl rfl rfl rfl (fun τ105 hB105 => ?_)
  refine aw_bputr hB105 rfl rfl rfl (by decide) rfl rfl (fun τ106 hB106 => ?_)
  refine aw_aload_n rfl rfl rfl ?_
  refine aw_bipush rfl rfl rfl ?_
  refine aw_bnarr (N := 65) hB106 (by decide) rfl (by decide) rfl rfl rfl rfl (fun τ107 hB107 => ?_)
  refine aw_bputr hB107 rfl rfl rfl (by decide) rfl rfl (fun τ108 hB108 => ?_)
  refine aw_aload_n rfl rfl rfl ?_
  refine aw_sipush rfl rfl rfl ?_
  refine aw_bnarr (N := 2304) hB108 (by decide) rfl (by decide) rfl rfl rfl rfl (fun τ109 hB109 => ?_)
  refine aw_bputr hB109 rfl rfl rfl (by decide) rfl rfl (fun τ110 hB110 => ?_)
  refine aw_aload_n rfl rfl rfl ?_
  refine aw_sipush rfl rfl rfl ?_
  refine aw_bnarr (N := 2304) hB110 (by decide) rfl (by decide) rfl rfl rfl rfl (fun τ111 hB111 => ?_)
  refine aw_bputr hB111 rfl rfl rfl (by decide) rfl rfl (fun τ112 hB112 => ?_)
  refine aw_aload_n rfl rfl rfl ?_
  refine aw_sipush rfl rfl rfl ?_
  refine aw_bnarr (N := 2304) hB112 (by decide) rfl (by decide) rfl rfl rfl rfl (fun τ113 hB113 => ?_)
  refine aw_bputr hB113 rfl rfl rfl (by decide) rfl rfl (fun τ114 hB114 => ?_)
  refine aw_aload_n rfl rfl rfl ?_
  refine aw_sipush rfl rfl rfl ?_
  refine aw_bnarr (N := 2304) hB114 (by decide) rfl (by decide) rfl rfl rfl rfl (fun τ115 hB115 => ?_)
  refine aw_bputr hB115 rfl rfl rfl (by decide) rfl rfl (fun τ116 hB116 => ?_)
  refine aw_aload_n rfl rfl rfl ?_
  refine aw_sipush rfl rfl rfl ?_
  refine aw_bnarr (N := 2304) hB116 (by decide) rfl (by decide) rfl rfl rfl rfl (fun τ117 hB117 => ?_)
  refine aw_bputr hB117 rfl rfl rfl (by decide) rfl rfl (fun τ118 hB118 => ?_)
  refine aw_aload_n rfl rfl rfl ?_
  refine aw_bipush rfl rfl rfl ?_
  refine aw_bnarr (N := 12) hB118 (by decide) rfl (by decide) rfl rfl rfl rfl (fun τ119 hB119 => ?_)
  refine aw_bputr hB119 rfl rfl rfl (by decide) rfl rfl (fun τ120 hB120 => ?_)
  refine aw_aload_n rfl rfl rfl ?_
  refine aw_sipush rfl rfl rfl ?_
  refine aw_bnarr (N := 192) hB120 (by decide) rfl (by decide) rfl rfl rfl rfl (fun τ121 hB121 => ?_)
  refine aw_bputr hB121 rfl rfl rfl (by decide) rfl rfl (fun τ122 hB122 => ?_)
  exact mod_517 hw hh (fun τ h => ⟨rfl, h⟩) (I := up (up (I) 42 48 (-1)) 42 49 (-1)) hB122
