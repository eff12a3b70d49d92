/-! THE CLASS'S PARSER -/
theorem TS.mod {A : Nat → Int → Int} {σ τ : az_S} {E : Int → Int} {T : Int} {S : List Nat} (h : TS A σ E T) (hd : Mod σ τ S) (h1 : S.contains 9 = false) (h2 : S.contains 11 = false) (h3 : S.contains 12 = false) (h4 : S.contains 13 = false) : TS A τ E T := by
  unfold TS
  rw [hd.z 9 h1, hd.z 11 h2, hd.z 12 h3, hd.z 13 h4]
  exact h
/-- no fault, at token a -/
def OKp (a : Int) (τ : az_S) : Prop := zx τ 40 2 = a ∧ zx τ 40 3 = zx τ 11 a ∧ zx τ 40 4 = 0 ∧ zx τ 40 5 = -1
/-- the fault f, at token a -/
def BDp (a f : Int) (τ : az_S) : Prop := zx τ 40 2 = a ∧ zx τ 40 3 = 1 ∧ zx τ 40 4 = f
theorem OKp.mod {a : Int} {σ τ : az_S} {S : List Nat} (h : OKp a σ) (hd : Mod σ τ S) (h1 : S.contains 40 = false) (h2 : S.contains 11 = false) : OKp a τ := by
  unfold OKp
  rw [hd.z 40 h1, hd.z 11 h2]
  exact h
theorem BDp.mod {a f : Int} {σ τ : az_S} {S : List Nat} (h : BDp a f σ) (hd : Mod σ τ S) (h1 : S.contains 40 = false) : BDp a f τ := by
  unfold BDp
  rw [hd.z 40 h1]
  exact h
set_option maxRecDepth 10000 in
set_option maxHeartbeats 2000000 in
theorem c_kindOf {d : Nat} {sz : Nat} {κ : Nat × (Nat → Int32) × Option Nat} {A : Nat → Int → Int} {g : Nat → Nat} {σ : az_S} (hC : CR sz κ A g σ) (hI : MI sz A) {E : Int → Int} {T : Int} (hTS : TS A σ E T) {a : Int} (ha0 : 0 ≤ a) (ha1 : a ≤ T) : fn (d + 1) 60 [.ref 9, .int (iI a)] σ (.int (iI (zx σ 11 a))) := by
  have hTb := hTS.2.1
  refine fn_of (M := (yX8_kindOf, cX8_kindOf, 2, (some .int))) (cd := k_X8_kindOf) (L := [some (.ref 9), some (.int (iI a))]) rfl (Nat.le_of_ble_eq_true rfl) rfl rfl ?_
  refine aw_iload_n rfl rfl rfl ?_
  refine aw_if (p' := 30) rfl ⟨by omega, by omega⟩ rfl rfl (fun c1 => ?_) (fun c1 => ?_)
  · dsimp only [zc] at c1
    omega
  · dsimp only [zc] at c1
    refine aw_iload_n rfl rfl rfl ?_
    refine aw_aload_n rfl rfl rfl ?_
    refine aw_gk (v := (T + 1)) (5) rfl rfl (hC.f.k 9 rfl) rfl hTS.2.2.1 rfl (fun _ _ => ?_)
    refine aw_icmp (p' := 30) rfl ⟨by omega, by omega⟩ ⟨by omega, by omega⟩ rfl rfl (fun c2 => ?_) (fun c2 => ?_)
    · dsimp only [zc] at c2
      omega
    · dsimp only [zc] at c2
      refine aw_iload_n rfl rfl rfl ?_
      refine aw_aload_n rfl rfl rfl ?_
      refine aw_getr (b := 11) rfl rfl (hC.f.k 9 rfl) (hC.f.r 9 2 11 rfl) rfl ?_
      refine aw_alen (N := 401) rfl (hC.f.s 11 rfl) (by decide) rfl ?_
      refine aw_icmp (p' := 30) rfl ⟨by omega, by omega⟩ ⟨by omega, by omega⟩ rfl rfl (fun c3 => ?_) (fun c3 => ?_)
      · dsimp only [zc] at c3
        omega
      · dsimp only [zc] at c3
        refine aw_aload_n rfl rfl rfl ?_
        refine aw_getr (b := 11) rfl rfl (hC.f.k 9 rfl) (hC.f.r 9 2 11 rfl) rfl ?_
        refine aw_iload_n rfl rfl rfl ?_
        refine aw_as (N := 401) rfl (hC.f.s 11 rfl) (by omega) (by omega) (by omega) rfl (fun _ _ => ?_)
        refine aw_goto (p' := 31) rfl rfl ?_
        refine aw_reti rfl ?_
        exact ⟨rfl, rfl⟩
set_option maxRecDepth 10000 in
set_option maxHeartbeats 2000000 in
theorem c_startOf {d : Nat} {sz : Nat} {κ : Nat × (Nat → Int32) × Option Nat} {A : Nat → Int → Int} {g : Nat → Nat} {σ : az_S} (hC : CR sz κ A g σ) (hI : MI sz A) {E : Int → Int} {T : Int} (hTS : TS A σ E T) {a : Int} (ha0 : 0 ≤ a) (ha1 : a ≤ T) : fn (d + 1) 61 [.ref 9, .int (iI a)] σ (.int (iI (zx σ 12 a))) := by
  have hTb := hTS.2.1
  refine fn_of (M := (yX8_startOf, cX8_startOf, 2, (some .int))) (cd := k_X8_startOf) (L := [some (.ref 9), some (.int (iI a))]) rfl (Nat.le_of_ble_eq_true rfl) rfl rfl ?_
  refine aw_iload_n rfl rfl rfl ?_
  refine aw_if (p' := 30) rfl ⟨by omega, by omega⟩ rfl rfl (fun c1 => ?_) (fun c1 => ?_)
  · dsimp only [zc] at c1
    omega
  · dsimp only [zc] at c1
    refine aw_iload_n rfl rfl rfl ?_
    refine aw_aload_n rfl rfl rfl ?_
    refine aw_gk (v := (T + 1)) (5) rfl rfl (hC.f.k 9 rfl) rfl hTS.2.2.1 rfl (fun _ _ => ?_)
    refine aw_icmp (p' := 30) rfl ⟨by omega, by omega⟩ ⟨by omega, by omega⟩ rfl rfl (fun c2 => ?_) (fun c2 => ?_)
    · dsimp only [zc] at c2
      omega
    · dsimp only [zc] at c2
      refine aw_iload_n rfl rfl rfl ?_
      refine aw_aload_n rfl rfl rfl ?_
      refine aw_getr (b := 12) rfl rfl (hC.f.k 9 rfl) (hC.f.r 9 3 12 rfl) rfl ?_
      refine aw_alen (N := 401) rfl (hC.f.s 12 rfl) (by decide) rfl ?_
      refine aw_icmp (p' := 30) rfl ⟨by omega, by omega⟩ ⟨by omega, by omega⟩ rfl rfl (fun c3 => ?_) (fun c3 => ?_)
      · dsimp only [zc] at c3
        omega
      · dsimp only [zc] at c3
        refine aw_aload_n rfl rfl rfl ?_
        refine aw_getr (b := 12) rfl rfl (hC.f.k 9 rfl) (hC.f.r 9 3 12 rfl) rfl ?_
        refine aw_iload_n rfl rfl rfl ?_
        refine aw_as (N := 401) rfl (hC.f.s 12 rfl) (by omega) (by omega) (by omega) rfl (fun _ _ => ?_)
        refine aw_goto (p' := 31) rfl rfl ?_
        refine aw_reti rfl ?_
        exact ⟨rfl, rfl⟩
set_option maxRecDepth 10000 in
set_option maxHeartbeats 2000000 in
theorem c_tokVal {d : Nat} {sz : Nat} {κ : Nat × (Nat → Int32) × Option Nat} {A : Nat → Int → Int} {g : Nat → Nat} {σ : az_S} (hC : CR sz κ A g σ) (hI : MI sz A) {E : Int → Int} {T : Int} (hTS : TS A σ E T) {a : Int} (ha0 : 0 ≤ a) (ha1 : a ≤ T) : fn (d + 1) 62 [.ref 9, .int (iI a)] σ (.int (iI (zx σ 13 a))) := by
  have hTb := hTS.2.1
  refine fn_of (M := (yX8_valueOf, cX8_valueOf, 2, (some .int))) (cd := k_X8_valueOf) (L := [some (.ref 9), some (.int (iI a))]) rfl (Nat.le_of_ble_eq_true rfl) rfl rfl ?_
  refine aw_iload_n rfl rfl rfl ?_
  refine aw_if (p' := 30) rfl ⟨by omega, by omega⟩ rfl rfl (fun c1 => ?_) (fun c1 => ?_)
  · dsimp only [zc] at c1
    omega
  · dsimp only [zc] at c1
    refine aw_iload_n rfl rfl rfl ?_
    refine aw_aload_n rfl rfl rfl ?_
    refine aw_gk (v := (T + 1)) (5) rfl rfl (hC.f.k 9 rfl) rfl hTS.2.2.1 rfl (fun _ _ => ?_)
    refine aw_icmp (p' := 30) rfl ⟨by omega, by omega⟩ ⟨by omega, by omega⟩ rfl rfl (fun c2 => ?_) (fun c2 => ?_)
    · dsimp only [zc] at c2
      omega
    · dsimp only [zc] at c2
      refine aw_iload_n rfl rfl rfl ?_
      refine aw_aload_n rfl rfl rfl ?_
      refine aw_getr (b := 13) rfl rfl (hC.f.k 9 rfl) (hC.f.r 9 4 13 rfl) rfl ?_
      refine aw_alen (N := 401) rfl (hC.f.s 13 rfl) (by decide) rfl ?_
      refine aw_icmp (p' := 30) rfl ⟨by omega, by omega⟩ ⟨by omega, by omega⟩ rfl rfl (fun c3 => ?_) (fun c3 => ?_)
      · dsimp only [zc] at c3
        omega
      · dsimp only [zc] at c3
        refine aw_aload_n rfl rfl rfl ?_
        refine aw_getr (b := 13) rfl rfl (hC.f.k 9 rfl) (hC.f.r 9 4 13 rfl) rfl ?_
        refine aw_iload_n rfl rfl rfl ?_
        refine aw_as (N := 401) rfl (hC.f.s 13 rfl) (by omega) (by omega) (by omega) rfl (fun _ _ => ?_)
        refine aw_goto (p' := 31) rfl rfl ?_
        refine aw_reti rfl ?_
        exact ⟨rfl, rfl⟩
set_option maxRecDepth 10000 in
set_option maxHeartbeats 2000000 in
theorem c_fail {d : Nat} {sz : Nat} {κ : Nat × (Nat → Int32) × Option Nat} {A : Nat → Int → Int} {g : Nat → Nat} {σ : az_S} (hC : CR sz κ A g σ) (hI : MI sz A) {a : Int} (hq : OKp a σ) {f : Int} (hf : inI f) : cal (d + 1) 12 [.ref 40, .int (iI f)] σ (fun r τ => r = none ∧ CR sz κ A g τ ∧ Mod σ τ [40] ∧ BDp a f τ) := by
  obtain ⟨hq2, hq3, hq4⟩ := hq
  obtain ⟨hf1, hf2⟩ := hf
  refine cal_of (M := (yX2_fail, cX2_fail, 2, none)) (cd := k_X2_fail) (L := [some (.ref 40), some (.int (iI f))]) rfl (Nat.le_of_ble_eq_true rfl) rfl rfl ?_
  skip
  refine aw_aload_n rfl rfl rfl ?_
  refine aw_gk (v := 0) (4) rfl rfl (hC.f.k 40 rfl) rfl (by simp [hq2, hq3, hq4]) rfl (fun _ _ => ?_)
  refine aw_if (p' := 17) rfl ⟨by omega, by omega⟩ rfl rfl (fun c1 => ?_) (fun c1 => ?_)
  · dsimp only [zc] at c1
    omega
  · dsimp only [zc] at c1
    refine aw_aload_n rfl rfl rfl ?_
    refine aw_iload_n rfl rfl rfl ?_
    refine aw_cf (4) hC hI rfl rfl (hC.f.k 40 rfl) rfl rfl ⟨by omega, by omega⟩ rfl (fun τ2 hM2 hD2 hU2 => ?_)
    refine aw_aload_n rfl rfl rfl ?_
    refine aw_iconst rfl rfl ?_
    refine aw_cf (3) hM2 hI rfl rfl (hM2.f.k 40 rfl) rfl rfl ⟨by omega, by omega⟩ rfl (fun τ3 hM3 hD3 hU3 => ?_)
    refine aw_retv rfl ?_
    refine ⟨rfl, hM3, ((hD2.su (T := [40]) rfl).tr (hD3.su (T := [40]) rfl)), ?_, ?_, ?_⟩ <;> simp [hU3, hU2, hq2]
set_option maxRecDepth 10000 in
set_option maxHeartbeats 2000000 in
theorem c_failb {d : Nat} {sz : Nat} {κ : Nat × (Nat → Int32) × Option Nat} {A : Nat → Int → Int} {g : Nat → Nat} {σ : az_S} (hC : CR sz κ A g σ) (hI : MI sz A) {a f : Int} (hq : BDp a f σ) (hf : f ≠ 0) {f2 : Int} (hf2 : inI f2) : cal (d + 1) 12 [.ref 40, .int (iI f2)] σ (fun r τ => r = none ∧ τ = σ) := by
  obtain ⟨hq2, hq3, hq4⟩ := hq
  refine cal_of (M := (yX2_fail, cX2_fail, 2, none)) (cd := k_X2_fail) (L := [some (.ref 40), some (.int (iI f2))]) rfl (Nat.le_of_ble_eq_true rfl) rfl rfl ?_
  refine aw_aload_n rfl rfl rfl ?_
  refine aw_gk (v := f) (4) rfl rfl (hC.f.k 40 rfl) rfl hq4 rfl (fun _ _ => ?_)
  refine aw_if (p' := 17) rfl ⟨by omega, by omega⟩ rfl rfl (fun c1 => ?_) (fun c1 => ?_)
  · dsimp only [zc] at c1
    refine aw_retv rfl ?_
    exact ⟨rfl, rfl⟩
  · dsimp only [zc] at c1
    omega
set_option maxRecDepth 10000 in
set_option maxHeartbeats 2000000 in
theorem c_advance {d : Nat} {sz : Nat} {κ : Nat × (Nat → Int32) × Option Nat} {A : Nat → Int → Int} {g : Nat → Nat} {σ : az_S} (hC : CR sz κ A g σ) (hI : MI sz A) {E : Int → Int} {T : Int} (hTS : TS A σ E T) {a : Int} (hq : OKp a σ) (ha0 : 0 ≤ a) (ha1 : a < T) : cal (d + 2) 13 [.ref 40] σ (fun r τ => r = none ∧ CR sz κ A g τ ∧ Mod σ τ [40] ∧ OKp (a + 1) τ) := by
  obtain ⟨hq2, hq3, hq4⟩ := hq
  have hTb := hTS.2.1
  refine cal_of (M := (yX2_advance, cX2_advance, 1, none)) (cd := k_X2_advance) (L := [some (.ref 40)]) rfl (Nat.le_of_ble_eq_true rfl) rfl rfl ?_
  skip
  refine aw_aload_n rfl rfl rfl ?_
  refine aw_dup rfl rfl rfl ?_
  refine aw_gk (v := a) (2) rfl rfl (hC.f.k 40 rfl) rfl (by simp [hq2, hq3, hq4]) rfl (fun _ _ => ?_)
  refine aw_iconst rfl rfl ?_
  refine aw_iadd rfl rfl ?_
  refine aw_cf (2) hC hI rfl rfl (hC.f.k 40 rfl) rfl rfl ⟨by omega, by omega⟩ rfl (fun τ1 hM1 hD1 hU1 => ?_)
  refine aw_aload_n rfl rfl rfl ?_
  refine aw_aload_n rfl rfl rfl ?_
  refine aw_getr (b := 9) rfl rfl (hM1.f.k 40 rfl) (hM1.f.r 40 0 9 rfl) rfl ?_
  refine aw_aload_n rfl rfl rfl ?_
  refine aw_gk (v := (a + 1)) (2) rfl rfl (hM1.f.k 40 rfl) rfl (by simp [hU1, hq2, hq3, hq4]) rfl (fun _ _ => ?_)
  refine aw_fnc (c_kindOf hM1 hI (hTS.mod hD1 rfl rfl rfl rfl) (by omega) (by omega)) rfl rfl rfl (Nat.le_of_ble_eq_true rfl) (Or.inr ⟨_, rfl, (hM1.f.k 9 rfl)⟩) rfl ?_
  have hkl := zx_lo τ1 11 (a + 1)
  have hkh := zx_hi τ1 11 (a + 1)
  refine aw_cf (3) hM1 hI rfl rfl (hM1.f.k 40 rfl) rfl rfl ⟨by omega, by omega⟩ rfl (fun τ2 hM2 hD2 hU2 => ?_)
  refine aw_retv rfl ?_
  refine ⟨rfl, hM2, ((hD1.su (T := [40]) rfl).tr (hD2.su (T := [40]) rfl)), ?_, ?_, ?_⟩
  · simp [hU2, hU1]
  · rw [hU2, if_pos rfl, hD2.z 11 rfl]
  · simp [hU2, hU1, hq4]
