theorem mPut_74 (A : Nat → Int → Int) (v w : Int) (h : w < A 42 40) : mPut A v 74 w = A 74 w := by
  unfold mPut
  rw [up_ne (by decide), up_nz (by omega), up_nz (by omega), up_nz (by omega), up_nz (by omega)]
theorem mPut_k {A : Nat → Int → Int} {v k s : Int} (hk0 : 0 ≤ k) (hk1 : k ≤ 3) (hs : s = 24 - 8 * k) : mPut A v 74 (A 42 40 + k) % 256 = v / 2 ^ s.toNat % 256 := by
  have hk : k = 0 ∨ k = 1 ∨ k = 2 ∨ k = 3 := by omega
  unfold mPut
  rw [up_ne (by decide)]
  rcases hk with rfl | rfl | rfl | rfl
  · rw [up_nz (by omega), up_nz (by omega), up_nz (by omega), Int.add_zero, up_self, bmod_mod, hs]; rfl
  · rw [up_nz (by omega), up_nz (by omega), up_self, bmod_mod, hs]; rfl
  · rw [up_nz (by omega), up_self, bmod_mod, hs]; rfl
  · rw [up_self, bmod_mod, hs]; simp
theorem CR.putc {sz : Nat} {κ : Nat × (Nat → Int32) × Option Nat} {A : Nat → Int → Int} {g : Nat → Nat} {σ τ : az_S} (h : CR sz κ A g σ) (hI : MI sz A) {v : Int} (hd : Mod σ τ [9, 10]) (hu1 : zx τ 9 1 = A 42 40 + 4) (hu2 : ∀ w : Int, 0 ≤ w → w < A 42 40 + 4 → zx τ 10 w = mPut A v 74 w % 256) : CR sz κ (mPut A v) g τ := by
  refine h.chF hI hd rfl (fun a z q => by simp only [mPut, up]; (repeat rw [if_neg (by omega)])) ⟨by simp [mPut, up], by simp [mPut, up], by simp [mPut, up], by simp [mPut, up]⟩ ?_
  obtain ⟨h1, h2, h3, h4, h5, h6, h7, h8⟩ := h.fix
  exact ⟨(by rw [hd.z 0 rfl]; simpa [mPut, up] using h1), (by rw [hd.z 28 rfl]; simpa [mPut, up] using h2), (by rw [hd.z 1 rfl]; simpa [mPut, up] using h3), (by rw [hd.z 2 rfl, hd.z 3 rfl]; simpa [mPut, up] using h4), (by rw [hd.z 4 rfl]; simpa [mPut, up] using h5), (by rw [hd.z 0 rfl]; simpa [mPut, up] using h6), ⟨by rw [hu1, mPut_n], fun j a b => hu2 j a (by rw [mPut_n] at b; exact b)⟩, (by rw [hd.z 33 rfl, hd.q 33 rfl, hd.z 34 rfl]; simpa [mPut, up] using h8)⟩
set_option maxRecDepth 10000 in
set_option maxHeartbeats 2000000 in
theorem c_addFour_l3 {d : Nat} {sz : Nat} {κ : Nat × (Nat → Int32) × Option Nat} {A : Nat → Int → Int} {g : Nat → Nat} {σ : az_S} (hC : CR sz κ A g σ) (hI : MI sz A) {v : Int} (hv : inI v) (hl : A 42 40 ≤ 396) : ∀ (n : Nat) (τ : az_S) (k s : Int), (4 - k).toNat = n → FX sz τ → Mod σ τ [9, 10] → 0 ≤ k → k ≤ 4 → s = 24 - 8 * k → zx τ 9 1 = A 42 40 + k → (∀ w : Int, 0 ≤ w → w < A 42 40 + k → zx τ 10 w = mPut A v 74 w % 256) → aw (d) k_X8_addFour none (fun r τ => r = none ∧ CR sz κ (mPut A v) g τ ∧ Mod σ τ [9, 10]) 3 [some (.ref 9), some (.int (iI v)), some (.int (iI s))] [] τ := by
  intro n
  induction n using Nat.strongRecOn with
  | ind n ih =>
    intro τ k s hn hN hD hk0 hk1 hs hk hU
    obtain ⟨hv1, hv2⟩ := hv
    have htp := hI.taped
    have hpk := fun q => mPut_k (A := A) (v := v) hk0 q hs
    refine aw_iload_n rfl rfl rfl ?_
    refine aw_if (p' := 58) rfl ⟨by omega, by omega⟩ rfl rfl (fun c1 => ?_) (fun c1 => ?_)
    · dsimp only [zc] at c1
      refine aw_retv rfl ?_
      have e4 : k = 4 := by omega
      rw [e4] at hk hU
      exact ⟨rfl, hC.putc hI (hD.su (T := [9, 10]) rfl) hk hU, (hD.su (T := [9, 10]) rfl)⟩
    · dsimp only [zc] at c1
      refine aw_aload_n rfl rfl rfl ?_
      refine aw_gk (v := (A 42 40 + k)) (1) rfl rfl (hN.f.k 9 rfl) rfl hk rfl (fun _ _ => ?_)
      refine aw_if (p' := 58) rfl ⟨by omega, by omega⟩ rfl rfl (fun c2 => ?_) (fun c2 => ?_)
      · dsimp only [zc] at c2
        omega
      · dsimp only [zc] at c2
        refine aw_aload_n rfl rfl rfl ?_
        refine aw_gk (v := (A 42 40 + k)) (1) rfl rfl (hN.f.k 9 rfl) rfl hk rfl (fun _ _ => ?_)
        refine aw_aload_n rfl rfl rfl ?_
        refine aw_getr (b := 10) rfl rfl (hN.f.k 9 rfl) (hN.f.r 9 0 10 rfl) rfl ?_
        refine aw_alen (N := 400) rfl (hN.f.s 10 rfl) (by decide) rfl ?_
        refine aw_icmp (p' := 58) rfl ⟨by omega, by omega⟩ ⟨by omega, by omega⟩ rfl rfl (fun c3 => ?_) (fun c3 => ?_)
        · dsimp only [zc] at c3
          omega
        · dsimp only [zc] at c3
          refine aw_aload_n rfl rfl rfl ?_
          refine aw_getr (b := 10) rfl rfl (hN.f.k 9 rfl) (hN.f.r 9 0 10 rfl) rfl ?_
          refine aw_aload_n rfl rfl rfl ?_
          refine aw_gk (v := (A 42 40 + k)) (1) rfl rfl (hN.f.k 9 rfl) rfl hk rfl (fun _ _ => ?_)
          refine aw_iload_n rfl rfl rfl ?_
          refine aw_iload_n rfl rfl rfl ?_
          refine aw_ishrg rfl ⟨hv1, hv2⟩ (by omega) (by omega) rfl ?_
          refine aw_sipush rfl rfl rfl ?_
          refine aw_iand255 rfl rfl ?_
          refine aw_ys (N := 400) rfl (hN.f.s 10 rfl) (by omega) (by omega) (by omega) ⟨by omega, by omega⟩ rfl (fun τ5 hD5 hU5 => ?_)
          have hM5 : FX sz τ5 := hD5.fx hN.f
          refine aw_aload_n rfl rfl rfl ?_
          refine aw_dup rfl rfl rfl ?_
          refine aw_gk (v := (A 42 40 + k)) (1) rfl rfl (hM5.f.k 9 rfl) rfl (by rw [hD5.z 9 rfl]; exact hk) rfl (fun _ _ => ?_)
          refine aw_iconst rfl rfl ?_
          refine aw_iadd rfl rfl ?_
          refine aw_fs (1) rfl rfl (hM5.f.k 9 rfl) rfl ⟨by omega, by omega⟩ rfl (fun τ6 hD6 hU6 hQ6 => ?_)
          have hM6 : FX sz τ6 := hD6.fx hM5.f
          refine aw_iinc rfl rfl rfl rfl ?_
          change aw _ _ _ _ 55 [some (.ref 9), some (.int (iI _)), some (.int (iI _))] _ _
          refine aw_goto (p' := 3) rfl rfl ?_
          refine ih _ (by omega) _ (k + 1) _ rfl hM6 (((hD.su (T := [9, 10]) rfl).tr (hD5.su (T := [9, 10]) rfl)).tr (hD6.su (T := [9, 10]) rfl)) (by omega) (by omega) (by omega) (by rw [hU6, if_pos rfl]; omega) (fun w h1 h2 => ?_)
          rw [hD6.z 10 rfl, hU5]
          by_cases e : w = A 42 40 + k
          · rw [if_pos e, e, hpk (by omega)]
          · rw [if_neg e, hU w h1 (by omega)]
set_option maxRecDepth 10000 in
set_option maxHeartbeats 2000000 in
theorem c_addFour {d : Nat} {sz : Nat} {κ : Nat × (Nat → Int32) × Option Nat} {A : Nat → Int → Int} {g : Nat → Nat} {σ : az_S} (hC : CR sz κ A g σ) (hI : MI sz A) {v : Int} (hv : inI v) (hl : A 42 40 ≤ 396) : cal (d + 1) 58 [.ref 9, .int (iI v)] σ (fun r τ => r = none ∧ CR sz κ (mPut A v) g τ ∧ Mod σ τ [9, 10]) := by
  obtain ⟨hv1, hv2⟩ := hv
  have htp := hI.taped
  refine cal_of (M := (yX8_addFour, cX8_addFour, 3, none)) (cd := k_X8_addFour) (L := [some (.ref 9), some (.int (iI v)), none]) rfl (Nat.le_of_ble_eq_true rfl) rfl rfl ?_
  refine aw_bipush rfl rfl rfl ?_
  refine aw_istore_n rfl (Nat.le_of_ble_eq_true rfl) rfl rfl ?_
  change aw _ _ _ _ 3 [some (.ref 9), some (.int (iI _)), some (.int (iI _))] _ _
  exact c_addFour_l3 hC hI ⟨hv1, hv2⟩ hl _ _ 0 _ rfl hC.f Mod.rf (by omega) (by omega) (by omega) (by rw [hC.tape.1]; omega) (fun w h1 h2 => by rw [hC.tape.2 w h1 (by omega), mPut_74 A v w (by omega)])
theorem MI_put {sz : Nat} {A : Nat → Int → Int} (H : MI sz A) {v : Int} (hl : A 42 40 ≤ 396) : MI sz (mPut A v) := by
  have e : ∀ a z, a ≠ 74 → (a ≠ 42 ∨ z ≠ 40) → mPut A v a z = A a z := by
    intro a z h1 h2
    unfold mPut
    rw [up, if_neg (by omega), up_ne h1, up_ne h1, up_ne h1, up_ne h1]
  have ef : ∀ a, a ≠ 74 → a ≠ 42 → mPut A v a = A a := fun a h1 h2 => funext fun z => e a z h1 (Or.inl h2)
  obtain ⟨h1, h2, h3, h4, h5, h6, h7, h8, h9, h10, h11, h12, h13, h14, h15, h16, h17, h18⟩ := H
  unfold MI
  simp only [e 42 0 (by decide) (by decide), e 42 1 (by decide) (by decide), e 42 2 (by decide) (by decide), e 42 3 (by decide) (by decide), e 42 6 (by decide) (by decide), e 42 9 (by decide) (by decide), e 42 12 (by decide) (by decide), e 42 27 (by decide) (by decide), e 42 66 (by decide) (by decide), e 42 85 (by decide) (by decide), mPut_n, TI, GI, SI, ef 43 (by decide) (by decide), ef 44 (by decide) (by decide), ef 45 (by decide) (by decide), ef 46 (by decide) (by decide), ef 47 (by decide) (by decide), ef 48 (by decide) (by decide), ef 49 (by decide) (by decide), ef 50 (by decide) (by decide), ef 51 (by decide) (by decide), ef 52 (by decide) (by decide), ef 53 (by decide) (by decide), ef 54 (by decide) (by decide), ef 55 (by decide) (by decide), ef 56 (by decide) (by decide), ef 57 (by decide) (by decide), ef 58 (by decide) (by decide), ef 59 (by decide) (by decide), ef 60 (by decide) (by decide), ef 61 (by decide) (by decide), ef 62 (by decide) (by decide), ef 63 (by decide) (by decide), ef 64 (by decide) (by decide), ef 65 (by decide) (by decide), ef 66 (by decide) (by decide), ef 67 (by decide) (by decide), ef 68 (by decide) (by decide), ef 69 (by decide) (by decide), ef 70 (by decide) (by decide), ef 71 (by decide) (by decide), ef 72 (by decide) (by decide), ef 73 (by decide) (by decide), ef 85 (by decide) (by decide), ef 86 (by decide) (by decide), ef 87 (by decide) (by decide)]
  refine ⟨h1, h2, h3, h4, h5, h6, h7, h8, h9, h10, h11, h12, h13, by omega, fun j a b => ?_, h16, h17, h18⟩
  have hb := bmod_b
  have q := h15 j a b
  unfold mPut
  rw [up_ne (by decide)]
  unfold up
  have b1 := hb (v / 2 ^ (24 : Int).toNat)
  have b2 := hb (v / 2 ^ (16 : Int).toNat)
  have b3 := hb (v / 2 ^ (8 : Int).toNat)
  have b4 := hb v
  repeat' split
  all_goals omega
set_option maxRecDepth 10000 in
set_option maxHeartbeats 2000000 in
theorem c_feed {d : Nat} {sz : Nat} {κ : Nat × (Nat → Int32) × Option Nat} {A : Nat → Int → Int} {g : Nat → Nat} {σ : az_S} (hC : CR sz κ A g σ) (hI : MI sz A) {a : Int} (ha : inI a) {b : Int} (hb : inI b) {c : Int} (hc : inI c) {e : Int} (he : inI e) {f : Int} (hf : inI f) : cal (d + 2) 116 [.ref 0, .int (iI a), .int (iI b), .int (iI c), .int (iI e), .int (iI f)] σ (fun r τ => r = some (.int (iI (zit (A 42 40 + 20 ≤ 400) (A 42 40 + 20) (-1)))) ∧ CR sz κ (m_feed_op A a b c e f) g τ ∧ Mod σ τ [9, 10]) := by
  obtain ⟨ha1, ha2⟩ := ha
  obtain ⟨hb1, hb2⟩ := hb
  obtain ⟨hc1, hc2⟩ := hc
  obtain ⟨he1, he2⟩ := he
  obtain ⟨hf1, hf2⟩ := hf
  have htp := hI.taped
  refine cal_of (M := (yX11_feed, cX11_feed, 6, (some .int))) (cd := k_X11_feed) (L := [some (.ref 0), some (.int (iI a)), some (.int (iI b)), some (.int (iI c)), some (.int (iI e)), some (.int (iI f))]) rfl (Nat.le_of_ble_eq_true rfl) rfl rfl ?_
  refine aw_aload_n rfl rfl rfl ?_
  refine aw_getr (b := 9) rfl rfl (hC.f.k 0 rfl) (hC.f.r 0 7 9 rfl) rfl ?_
  refine aw_gk (v := A 42 40) (1) rfl rfl (hC.f.k 9 rfl) rfl hC.tape.1 rfl (fun _ _ => ?_)
  refine aw_bipush rfl rfl rfl ?_
  refine aw_iadd rfl rfl ?_
  refine aw_sipush rfl rfl rfl ?_
  refine aw_icmp (p' := 18) rfl ⟨by omega, by omega⟩ ⟨by omega, by omega⟩ rfl rfl (fun c1 => ?_) (fun c1 => ?_)
  · dsimp only [zc] at c1
    refine aw_aload_n rfl rfl rfl ?_
    refine aw_getr (b := 9) rfl rfl (hC.f.k 0 rfl) (hC.f.r 0 7 9 rfl) rfl ?_
    refine aw_iload_n rfl rfl rfl ?_
    refine aw_calc (c_addFour hC hI ⟨by omega, by omega⟩ (by omega)) rfl rfl rfl (Nat.le_of_ble_eq_true rfl) (Or.inr ⟨_, rfl, (hC.f.k 9 rfl)⟩) rfl ?_
    rintro _ τ2 ⟨rfl, hM2, hD2⟩
    change aw _ _ _ _ 26 [some (.ref 0), some (.int (iI _)), some (.int (iI _)), some (.int (iI _)), some (.int (iI _)), some (.int (iI _))] [] _
    have e1 : mPut A a 42 40 = A 42 40 + 4 := by rw [mPut_n]
    have hI1 := MI_put hI (v := a) (by omega)
    refine aw_aload_n rfl rfl rfl ?_
    refine aw_getr (b := 9) rfl rfl (hM2.f.k 0 rfl) (hM2.f.r 0 7 9 rfl) rfl ?_
    refine aw_iload_n rfl rfl rfl ?_
    refine aw_calc (c_addFour hM2 hI1 ⟨by omega, by omega⟩ (by omega)) rfl rfl rfl (Nat.le_of_ble_eq_true rfl) (Or.inr ⟨_, rfl, (hM2.f.k 9 rfl)⟩) rfl ?_
    rintro _ τ3 ⟨rfl, hM3, hD3⟩
    change aw _ _ _ _ 34 [some (.ref 0), some (.int (iI _)), some (.int (iI _)), some (.int (iI _)), some (.int (iI _)), some (.int (iI _))] [] _
    have e2 : mPut (mPut A a) b 42 40 = A 42 40 + 8 := by rw [mPut_n, e1]; omega
    have hI2 := MI_put hI1 (v := b) (by omega)
    refine aw_aload_n rfl rfl rfl ?_
    refine aw_getr (b := 9) rfl rfl (hM3.f.k 0 rfl) (hM3.f.r 0 7 9 rfl) rfl ?_
    refine aw_iload_n rfl rfl rfl ?_
    refine aw_calc (c_addFour hM3 hI2 ⟨by omega, by omega⟩ (by omega)) rfl rfl rfl (Nat.le_of_ble_eq_true rfl) (Or.inr ⟨_, rfl, (hM3.f.k 9 rfl)⟩) rfl ?_
    rintro _ τ4 ⟨rfl, hM4, hD4⟩
    change aw _ _ _ _ 42 [some (.ref 0), some (.int (iI _)), some (.int (iI _)), some (.int (iI _)), some (.int (iI _)), some (.int (iI _))] [] _
    have e3 : mPut (mPut (mPut A a) b) c 42 40 = A 42 40 + 12 := by rw [mPut_n, e2]; omega
    have hI3 := MI_put hI2 (v := c) (by omega)
    refine aw_aload_n rfl rfl rfl ?_
    refine aw_getr (b := 9) rfl rfl (hM4.f.k 0 rfl) (hM4.f.r 0 7 9 rfl) rfl ?_
    refine aw_iload rfl rfl rfl ?_
    refine aw_calc (c_addFour hM4 hI3 ⟨by omega, by omega⟩ (by omega)) rfl rfl rfl (Nat.le_of_ble_eq_true rfl) (Or.inr ⟨_, rfl, (hM4.f.k 9 rfl)⟩) rfl ?_
    rintro _ τ5 ⟨rfl, hM5, hD5⟩
    change aw _ _ _ _ 51 [some (.ref 0), some (.int (iI _)), some (.int (iI _)), some (.int (iI _)), some (.int (iI _)), some (.int (iI _))] [] _
    have e4 : mPut (mPut (mPut (mPut A a) b) c) e 42 40 = A 42 40 + 16 := by rw [mPut_n, e3]; omega
    have hI4 := MI_put hI3 (v := e) (by omega)
    refine aw_aload_n rfl rfl rfl ?_
    refine aw_getr (b := 9) rfl rfl (hM5.f.k 0 rfl) (hM5.f.r 0 7 9 rfl) rfl ?_
    refine aw_iload rfl rfl rfl ?_
    refine aw_calc (c_addFour hM5 hI4 ⟨by omega, by omega⟩ (by omega)) rfl rfl rfl (Nat.le_of_ble_eq_true rfl) (Or.inr ⟨_, rfl, (hM5.f.k 9 rfl)⟩) rfl ?_
    rintro _ τ6 ⟨rfl, hM6, hD6⟩
    change aw _ _ _ _ 60 [some (.ref 0), some (.int (iI _)), some (.int (iI _)), some (.int (iI _)), some (.int (iI _)), some (.int (iI _))] [] _
    have e5 : mPut (mPut (mPut (mPut (mPut A a) b) c) e) f 42 40 = A 42 40 + 20 := by rw [mPut_n, e4]; omega
    refine aw_aload_n rfl rfl rfl ?_
    refine aw_getr (b := 9) rfl rfl (hM6.f.k 0 rfl) (hM6.f.r 0 7 9 rfl) rfl ?_
    refine aw_gk (v := (A 42 40 + 20)) (1) rfl rfl (hM6.f.k 9 rfl) rfl (hM6.tape.1.trans e5) rfl (fun _ _ => ?_)
    refine aw_reti rfl ?_
    refine ⟨?_, ?_, (((((hD2.su (T := [9, 10]) rfl).tr (hD3.su (T := [9, 10]) rfl)).tr (hD4.su (T := [9, 10]) rfl)).tr (hD5.su (T := [9, 10]) rfl)).tr (hD6.su (T := [9, 10]) rfl))⟩
    · rw [zit_t (by omega)]
    · unfold m_feed_op; rw [tit_t (by omega)]; exact hM6
  · dsimp only [zc] at c1
    refine aw_iconst rfl rfl ?_
    refine aw_reti rfl ?_
    refine ⟨?_, ?_, Mod.rf⟩
    · rw [zit_f (by omega)]
    · unfold m_feed_op; rw [tit_f (by omega)]; exact hC
set_option maxRecDepth 10000 in
set_option maxHeartbeats 2000000 in
theorem c_end {d : Nat} {sz : Nat} {κ : Nat × (Nat → Int32) × Option Nat} {A : Nat → Int → Int} {g : Nat → Nat} {σ : az_S} (hC : CR sz κ A g σ) (hI : MI sz A) {n : Int} (hn : inI n) : cal (d + 1) 117 [.ref 0, .int (iI n)] σ (fun r τ => r = some (.int (iI (zit ((0 ≤ n ∧ n ≤ A 42 40)) n (-1)))) ∧ CR sz κ (m_end_op A n) g τ ∧ Mod σ τ [9]) := by
  obtain ⟨hn1, hn2⟩ := hn
  have htp := hI.taped
  refine cal_of (M := (yX11_end, cX11_end, 2, (some .int))) (cd := k_X11_end) (L := [some (.ref 0), some (.int (iI n))]) rfl (Nat.le_of_ble_eq_true rfl) rfl rfl ?_
  refine aw_iload_n rfl rfl rfl ?_
  refine aw_if (p' := 15) rfl ⟨by omega, by omega⟩ rfl rfl (fun c1 => ?_) (fun c1 => ?_)
  · dsimp only [zc] at c1
    refine aw_iconst rfl rfl ?_
    refine aw_reti rfl ?_
    refine ⟨?_, ?_, Mod.rf⟩
    · rw [zit_f (by omega)]
    · unfold m_end_op; rw [tit_f (by omega)]; exact hC
  · dsimp only [zc] at c1
    refine aw_iload_n rfl rfl rfl ?_
    refine aw_aload_n rfl rfl rfl ?_
    refine aw_getr (b := 9) rfl rfl (hC.f.k 0 rfl) (hC.f.r 0 7 9 rfl) rfl ?_
    refine aw_gk (v := A 42 40) (1) rfl rfl (hC.f.k 9 rfl) rfl hC.tape.1 rfl (fun _ _ => ?_)
    refine aw_icmp (p' := 17) rfl ⟨by omega, by omega⟩ ⟨by omega, by omega⟩ rfl rfl (fun c2 => ?_) (fun c2 => ?_)
    · dsimp only [zc] at c2
      refine aw_aload_n rfl rfl rfl ?_
      refine aw_getr (b := 9) rfl rfl (hC.f.k 0 rfl) (hC.f.r 0 7 9 rfl) rfl ?_
      refine aw_iload_n rfl rfl rfl ?_
      refine aw_fs (1) rfl rfl (hC.f.k 9 rfl) rfl ⟨by omega, by omega⟩ rfl (fun τ3 hD3 hU3 hQ3 => ?_)
      have hM3 : FX sz τ3 := hD3.fx hC.f
      refine aw_iload_n rfl rfl rfl ?_
      refine aw_reti rfl ?_
      refine ⟨?_, ?_, (hD3.su (T := [9]) rfl)⟩
      · rw [zit_t (by omega)]
      · unfold m_end_op; rw [tit_t (by omega)]; exact hC.endc hI (by omega) (by omega) hU3 hD3
    · dsimp only [zc] at c2
      refine aw_iconst rfl rfl ?_
      refine aw_reti rfl ?_
      refine ⟨?_, ?_, Mod.rf⟩
      · rw [zit_f (by omega)]
      · unfold m_end_op; rw [tit_f (by omega)]; exact hC
set_option maxRecDepth 10000 in
set_option maxHeartbeats 2000000 in
theorem c_put {d : Nat} {sz : Nat} {κ : Nat × (Nat → Int32) × Option Nat} {A : Nat → Int → Int} {g : Nat → Nat} {σ : az_S} (hC : CR sz κ A g σ) (hI : MI sz A) {s : Int} (hs0 : 0 ≤ s) (hs1 : s < A 42 66) {j x : Int} (hj0 : 0 ≤ j) (hj1 : j ≤ 11) (hx : inI x) : cal (d + 1) 54 [.ref (gS g s), .int (iI j), .int (iI x)] σ (fun r τ => r = none ∧ CR sz κ (up A 87 (12 * s + j) x) g τ ∧ Mod σ τ [gSp g s]) := by
  obtain ⟨hx1, hx2⟩ := hx
  have hst := hI.stalls
  have hl := ((hC.lv hI).2.2.2 s hs0 hs1).2
  have hX0 : CX sz κ A g [gSp g s] σ σ := ⟨hC, Mod.rf, by simp; omega⟩
  refine cal_of (M := (yX7_put, cX7_put, 3, none)) (cd := k_X7_put) (L := [some (.ref (gS g s)), some (.int (iI j)), some (.int (iI x))]) rfl (Nat.le_of_ble_eq_true rfl) rfl rfl ?_
  refine aw_iload_n rfl rfl rfl ?_
  refine aw_if (p' := 20) rfl ⟨by omega, by omega⟩ rfl rfl (fun c1 => ?_) (fun c1 => ?_)
  · dsimp only [zc] at c1
    omega
  · dsimp only [zc] at c1
    refine aw_iload_n rfl rfl rfl ?_
    refine aw_aload_n rfl rfl rfl ?_
    refine aw_getr (b := (gSp g s)) rfl rfl (hC.kS (by omega) (by omega)) (hC.rSp (by omega) (by omega)) rfl ?_
    refine aw_alen (N := 12) rfl (hC.sSp (by omega) (by omega)) (by decide) rfl ?_
    refine aw_icmp (p' := 20) rfl ⟨by omega, by omega⟩ ⟨by omega, by omega⟩ rfl rfl (fun c2 => ?_) (fun c2 => ?_)
    · dsimp only [zc] at c2
      omega
    · dsimp only [zc] at c2
      refine aw_aload_n rfl rfl rfl ?_
      refine aw_getr (b := (gSp g s)) rfl rfl (hC.kS (by omega) (by omega)) (hC.rSp (by omega) (by omega)) rfl ?_
      refine aw_iload_n rfl rfl rfl ?_
      refine aw_iload_n rfl rfl rfl ?_
      refine aw_xs (N := 12) hX0 rfl (hC.sSp (by omega) (by omega)) (by omega) (by simp) (by omega) (by omega) ⟨by omega, by omega⟩ rfl (fun τ4 hM4 hD4 hU4 => ?_)
      refine aw_retv rfl ?_
      exact ⟨rfl, hC.placec hI hs0 hs1 hj0 (by omega) hM4.2.1 hU4, hM4.2.1⟩
set_option maxRecDepth 10000 in
set_option maxHeartbeats 2000000 in
theorem c_built_l2 {d : Nat} {sz : Nat} {κ : Nat × (Nat → Int32) × Option Nat} {A : Nat → Int → Int} {g : Nat → Nat} {σ : az_S} (hC : CR sz κ A g σ) (hI : MI sz A) {c : Int} (hc : inI c) : ∀ (n : Nat) (t : Int) (w : Option Value), (A 42 12 - t).toNat = n → 0 ≤ t → t ≤ A 42 12 → mFreeT A c t → aw (d + 3) k_X11_isBuiltOn (some .boolean) (fun r τ => r = some (.int (iI (bI (¬ mFreeT A c (A 42 12))))) ∧ τ = σ) 2 [some (.ref 0), some (.int (iI c)), some (.int (iI t)), w] [] σ := by
  intro n
  induction n using Nat.strongRecOn with
  | ind n ih =>
    intro t w hn ht0 ht1 hb
    obtain ⟨hc1, hc2⟩ := hc
    have hth := hI.things
    have hTc0 := fun q => (hI.thing t ht0 q).2.2.2.2.1
    have hs := mFreeT_s (A := A) (c := c) ht0
    refine aw_iload_n rfl rfl rfl ?_
    refine aw_aload_n rfl rfl rfl ?_
    refine aw_getr (b := 6) rfl rfl (hC.f.k 0 rfl) (hC.f.r 0 3 6 rfl) rfl ?_
    refine aw_fnc (c_size (hC.f.k 6 rfl) hC.lT.1) rfl rfl rfl (Nat.le_of_ble_eq_true rfl) (Or.inr ⟨_, rfl, (hC.f.k 6 rfl)⟩) rfl ?_
    refine aw_icmp (p' := 48) rfl ⟨by omega, by omega⟩ ⟨by omega, by omega⟩ rfl rfl (fun c1 => ?_) (fun c1 => ?_)
    · dsimp only [zc] at c1
      refine aw_iconst rfl rfl ?_
      refine aw_retn rfl rfl ?_
      refine ⟨?_, rfl⟩
      rw [bI_f (fun q => q (by rw [show A 42 12 = t by omega]; exact hb))]
    · dsimp only [zc] at c1
      refine aw_aload_n rfl rfl rfl ?_
      refine aw_getr (b := 6) rfl rfl (hC.f.k 0 rfl) (hC.f.r 0 3 6 rfl) rfl ?_
      refine aw_iload_n rfl rfl rfl ?_
      refine aw_fnc (c_get (hC.f.k 6 rfl) hC.lT (by omega) (by omega) (by omega)) rfl rfl rfl (Nat.le_of_ble_eq_true rfl) (Or.inr ⟨_, rfl, (hC.f.k 6 rfl)⟩) rfl ?_
      refine aw_cast rfl rfl (hC.kT (by omega) (by omega)) rfl ?_
      refine aw_astore_n rfl (Nat.le_of_ble_eq_true rfl) rfl rfl ?_
      change aw _ _ _ _ 25 [some (.ref 0), some (.int (iI _)), some (.int (iI _)), some (.ref (gT g t))] _ _
      have hTc := hTc0 (by omega)
      refine aw_aload_n rfl rfl rfl ?_
      refine aw_gk (v := (A 50 t)) (1) rfl rfl (hC.kT (by omega) (by omega)) rfl (hC.T1 (by omega) (by omega)) rfl (fun _ _ => ?_)
      refine aw_iload_n rfl rfl rfl ?_
      refine aw_icmp (p' := 42) rfl ⟨by omega, by omega⟩ ⟨by omega, by omega⟩ rfl rfl (fun c2 => ?_) (fun c2 => ?_)
      · dsimp only [zc] at c2
        refine aw_iinc rfl rfl rfl rfl ?_
        change aw _ _ _ _ 45 [some (.ref 0), some (.int (iI _)), some (.int (iI _)), some (.ref (gT g t))] _ _
        refine aw_goto (p' := 2) rfl rfl ?_
        exact ih _ (by omega) _ _ rfl (by omega) (by omega) (hs.mpr ⟨hb, by omega⟩)
      · dsimp only [zc] at c2
        refine aw_aload_n rfl rfl rfl ?_
        refine aw_fnc (c_hasFallen hC hI (by omega) (by omega)) rfl rfl rfl (Nat.le_of_ble_eq_true rfl) (Or.inr ⟨_, rfl, (hC.kT (by omega) (by omega))⟩) rfl ?_
        refine aw_ifneb (p' := 42) rfl rfl rfl (fun c3 => ?_) (fun c3 => ?_)
        · refine aw_iinc rfl rfl rfl rfl ?_
          change aw _ _ _ _ 45 [some (.ref 0), some (.int (iI _)), some (.int (iI _)), some (.ref (gT g t))] _ _
          refine aw_goto (p' := 2) rfl rfl ?_
          exact ih _ (by omega) _ _ rfl (by omega) (by omega) (hs.mpr ⟨hb, by omega⟩)
        · refine aw_iconst rfl rfl ?_
          refine aw_retn rfl rfl ?_
          refine ⟨?_, rfl⟩
          rw [bI_t (fun q => by have := q t ht0 (by omega); omega)]
set_option maxRecDepth 10000 in
set_option maxHeartbeats 2000000 in
theorem c_built {d : Nat} {sz : Nat} {κ : Nat × (Nat → Int32) × Option Nat} {A : Nat → Int → Int} {g : Nat → Nat} {σ : az_S} (hC : CR sz κ A g σ) (hI : MI sz A) {c : Int} (hc : inI c) : fn (d + 4) 142 [.ref 0, .int (iI c)] σ (.int (iI (bI (¬ mFreeT A c (A 42 12))))) := by
  obtain ⟨hc1, hc2⟩ := hc
  have hth := hI.things
  refine fn_of (M := (yX11_isBuiltOn, cX11_isBuiltOn, 4, (some .boolean))) (cd := k_X11_isBuiltOn) (L := [some (.ref 0), some (.int (iI c)), none, none]) rfl (Nat.le_of_ble_eq_true rfl) rfl rfl ?_
  refine aw_iconst rfl rfl ?_
  refine aw_istore_n rfl (Nat.le_of_ble_eq_true rfl) rfl rfl ?_
  change aw _ _ _ _ 2 [some (.ref 0), some (.int (iI _)), some (.int (iI _)), none] _ _
  exact c_built_l2 hC hI ⟨hc1, hc2⟩ _ 0 _ rfl (by omega) (by omega) (fun t a b => by omega)
theorem mP1_is {sz : Nat} {A : Nat → Int → Int} (hI : MI sz A) {s c : Int} (hs0 : 0 ≤ s) (hs1 : s < A 42 66) : mP1 A s c (A 86 s + 1) ↔ (A 86 s < A 42 3 ∨ mFreeT A c (A 42 12)) := by
  have hcl := hI.clock
  have hS := (hI.stall s hs0 hs1).1
  have hg : ∀ (t e : Int), 0 ≤ t → t < A 42 12 → A 42 3 ≤ e → (mH A t e (A 42 3) < 0 ↔ 0 ≤ A 60 t) := by
    intro t e h0 h1 he
    have hT := hI.thing t h0 h1
    have hr := mH_range hT e (A 42 3)
    obtain ⟨-, -, -, -, -, -, hTs, -, hTf, -⟩ := hT
    have e1 : mH A t e (A 42 3) < 0 ↔ mGone A t e (A 42 3) := by rw [← hr.2.2]; omega
    rw [e1]
    unfold mGone
    omega
  have hd : A 42 3 ≤ mD0 A s ∧ (mD0 A s = A 42 3 ∨ mD0 A s = A 85 s) := by unfold mD0; split <;> omega
  constructor
  · intro h
    by_cases q : A 86 s < A 42 3
    · exact Or.inl q
    · right
      intro t h0 h1
      rcases h (A 86 s) (by omega) (by omega) t h0 h1 with k | k
      · exact Or.inl k
      · exact Or.inr ((hg t _ h0 h1 (by omega)).mp k)
  · rintro (h | h)
    · intro e h1 h2
      omega
    · intro e h1 h2 t h3 h4
      rcases h t h3 h4 with k | k
      · exact Or.inl k
      · exact Or.inr ((hg t e h3 h4 (by omega)).mpr k)
set_option maxRecDepth 10000 in
set_option maxHeartbeats 2000000 in
theorem c_mayTake_l59 {d : Nat} {sz : Nat} {κ : Nat × (Nat → Int32) × Option Nat} {A : Nat → Int → Int} {g : Nat → Nat} {σ : az_S} (hC : CR sz κ A g σ) (hI : MI sz A) {s : Int} (hs0 : 0 ≤ s) (hs1 : s < A 42 66) {h : Int} (hh0 : 0 ≤ h) (hh1 : h ≤ 11) {c : Int} (hc : inI c) : ∀ (n : Nat) (o : Int) (w : Option Value), (A 42 66 - o).toNat = n → 0 ≤ o → o ≤ A 42 66 → (0 ≤ c ∧ c ≤ A 42 2 - 1) → mP1 A s c (A 86 s + 1) → mP2 A s h c o → aw (d + 4) k_X11_mayTake (some .boolean) (fun r τ => r = some (.int (iI (bI ((0 ≤ c ∧ c ≤ A 42 2 - 1) ∧ mMayPl A s h c)))) ∧ τ = σ) 59 [some (.ref 0), some (.int (iI s)), some (.int (iI h)), some (.int (iI c)), some (.ref (gS g s)), some (.int (iI o)), w] [] σ := by
  intro n
  induction n using Nat.strongRecOn with
  | ind n ih =>
    intro o w hn ho0 ho1 hcc h1 h2
    obtain ⟨hc1, hc2⟩ := hc
    have hst := hI.stalls
    have hce := hI.cells
    have hcl := hI.clock
    have hS1 := (hI.stall s hs0 hs1).1
    have hSo := fun q => hI.stall o ho0 q
    have hps := mP2_s (A := A) (s := s) (h := h) (c := c) ho0
    refine aw_iload rfl rfl rfl ?_
    refine aw_aload_n rfl rfl rfl ?_
    refine aw_getr (b := 8) rfl rfl (hC.f.k 0 rfl) (hC.f.r 0 5 8 rfl) rfl ?_
    refine aw_fnc (c_size (hC.f.k 8 rfl) hC.lS.1) rfl rfl rfl (Nat.le_of_ble_eq_true rfl) (Or.inr ⟨_, rfl, (hC.f.k 8 rfl)⟩) rfl ?_
    refine aw_icmp (p' := 135) rfl ⟨by omega, by omega⟩ ⟨by omega, by omega⟩ rfl rfl (fun c1 => ?_) (fun c1 => ?_)
    · dsimp only [zc] at c1
      refine aw_iconst rfl rfl ?_
      refine aw_retn rfl rfl ?_
      refine ⟨?_, rfl⟩
      rw [bI_t ⟨hcc, h1, by rw [show A 42 66 = o by omega]; exact h2⟩]
    · dsimp only [zc] at c1
      refine aw_aload_n rfl rfl rfl ?_
      refine aw_getr (b := 8) rfl rfl (hC.f.k 0 rfl) (hC.f.r 0 5 8 rfl) rfl ?_
      refine aw_iload rfl rfl rfl ?_
      refine aw_fnc (c_get (hC.f.k 8 rfl) hC.lS (by omega) (by omega) (by omega)) rfl rfl rfl (Nat.le_of_ble_eq_true rfl) (Or.inr ⟨_, rfl, (hC.f.k 8 rfl)⟩) rfl ?_
      refine aw_cast rfl rfl (hC.kS (by omega) (by omega)) rfl ?_
      refine aw_astore rfl (Nat.le_of_ble_eq_true rfl) rfl rfl ?_
      change aw _ _ _ _ 85 [some (.ref 0), some (.int (iI _)), some (.int (iI _)), some (.int (iI _)), some (.ref (gS g s)), some (.int (iI _)), some (.ref (gS g o))] _ _
      refine aw_iload rfl rfl rfl ?_
      refine aw_iload_n rfl rfl rfl ?_
      refine aw_icmp (p' := 129) rfl ⟨by omega, by omega⟩ ⟨by omega, by omega⟩ rfl rfl (fun c2 => ?_) (fun c2 => ?_)
      · dsimp only [zc] at c2
        refine aw_iinc rfl rfl rfl rfl ?_
        change aw _ _ _ _ 132 [some (.ref 0), some (.int (iI _)), some (.int (iI _)), some (.int (iI _)), some (.ref (gS g s)), some (.int (iI _)), some (.ref (gS g o))] _ _
        refine aw_goto (p' := 59) rfl rfl ?_
        exact ih _ (by omega) _ _ rfl (by omega) (by omega) hcc h1 (hps.mpr ⟨h2, by omega⟩)
      · dsimp only [zc] at c2
        refine aw_aload rfl rfl rfl ?_
        refine aw_iload_n rfl rfl rfl ?_
        refine aw_fnc (c_cellIn hC hI (by omega) (by omega) ⟨by omega, by omega⟩) rfl rfl rfl (Nat.le_of_ble_eq_true rfl) (Or.inr ⟨_, rfl, (hC.kS (by omega) (by omega))⟩) rfl ?_
        rw [zit_t (by omega)]
        have hSo1 := (hSo (by omega)).1
        have hSo2 := (hSo (by omega)).2 h (by omega) (by omega)
        refine aw_iload_n rfl rfl rfl ?_
        refine aw_icmp (p' := 129) rfl ⟨by omega, by omega⟩ ⟨by omega, by omega⟩ rfl rfl (fun c3 => ?_) (fun c3 => ?_)
        · dsimp only [zc] at c3
          refine aw_iinc rfl rfl rfl rfl ?_
          change aw _ _ _ _ 132 [some (.ref 0), some (.int (iI _)), some (.int (iI _)), some (.int (iI _)), some (.ref (gS g s)), some (.int (iI _)), some (.ref (gS g o))] _ _
          refine aw_goto (p' := 59) rfl rfl ?_
          exact ih _ (by omega) _ _ rfl (by omega) (by omega) hcc h1 (hps.mpr ⟨h2, by omega⟩)
        · dsimp only [zc] at c3
          refine aw_aload rfl rfl rfl ?_
          refine aw_gk (v := (A 85 o)) (0) rfl rfl (hC.kS (by omega) (by omega)) rfl (hC.S0 (by omega) (by omega)) rfl (fun _ _ => ?_)
          refine aw_aload rfl rfl rfl ?_
          refine aw_gk (v := (A 86 s)) (1) rfl rfl (hC.kS (by omega) (by omega)) rfl (hC.S1 (by omega) (by omega)) rfl (fun _ _ => ?_)
          refine aw_icmp (p' := 129) rfl ⟨by omega, by omega⟩ ⟨by omega, by omega⟩ rfl rfl (fun c4 => ?_) (fun c4 => ?_)
          · dsimp only [zc] at c4
            refine aw_iinc rfl rfl rfl rfl ?_
            change aw _ _ _ _ 132 [some (.ref 0), some (.int (iI _)), some (.int (iI _)), some (.int (iI _)), some (.ref (gS g s)), some (.int (iI _)), some (.ref (gS g o))] _ _
            refine aw_goto (p' := 59) rfl rfl ?_
            exact ih _ (by omega) _ _ rfl (by omega) (by omega) hcc h1 (hps.mpr ⟨h2, by omega⟩)
          · dsimp only [zc] at c4
            refine aw_aload rfl rfl rfl ?_
            refine aw_gk (v := (A 85 s)) (0) rfl rfl (hC.kS (by omega) (by omega)) rfl (hC.S0 (by omega) (by omega)) rfl (fun _ _ => ?_)
            refine aw_aload rfl rfl rfl ?_
            refine aw_gk (v := (A 86 o)) (1) rfl rfl (hC.kS (by omega) (by omega)) rfl (hC.S1 (by omega) (by omega)) rfl (fun _ _ => ?_)
            refine aw_icmp (p' := 129) rfl ⟨by omega, by omega⟩ ⟨by omega, by omega⟩ rfl rfl (fun c5 => ?_) (fun c5 => ?_)
            · dsimp only [zc] at c5
              refine aw_iinc rfl rfl rfl rfl ?_
              change aw _ _ _ _ 132 [some (.ref 0), some (.int (iI _)), some (.int (iI _)), some (.int (iI _)), some (.ref (gS g s)), some (.int (iI _)), some (.ref (gS g o))] _ _
              refine aw_goto (p' := 59) rfl rfl ?_
              exact ih _ (by omega) _ _ rfl (by omega) (by omega) hcc h1 (hps.mpr ⟨h2, by omega⟩)
            · dsimp only [zc] at c5
              refine aw_iconst rfl rfl ?_
              refine aw_retn rfl rfl ?_
              refine ⟨?_, rfl⟩
              rw [bI_f (by rintro ⟨q1, q2, q3⟩; have := q3 o ho0 (by omega); omega)]
set_option maxRecDepth 10000 in
set_option maxHeartbeats 2000000 in
theorem c_mayTake {d : Nat} {sz : Nat} {κ : Nat × (Nat → Int32) × Option Nat} {A : Nat → Int → Int} {g : Nat → Nat} {σ : az_S} (hC : CR sz κ A g σ) (hI : MI sz A) {s : Int} (hs0 : 0 ≤ s) (hs1 : s < A 42 66) {h : Int} (hh0 : 0 ≤ h) (hh1 : h ≤ 11) {c : Int} (hc : inI c) : fn (d + 5) 151 [.ref 0, .int (iI s), .int (iI h), .int (iI c)] σ (.int (iI (bI ((0 ≤ c ∧ c ≤ A 42 2 - 1) ∧ mMayPl A s h c)))) := by
  obtain ⟨hc1, hc2⟩ := hc
  have hst := hI.stalls
  have hce := hI.cells
  have hcl := hI.clock
  have hS1 := (hI.stall s hs0 hs1).1
  refine fn_of (M := (yX11_mayTake, cX11_mayTake, 7, (some .boolean))) (cd := k_X11_mayTake) (L := [some (.ref 0), some (.int (iI s)), some (.int (iI h)), some (.int (iI c)), none, none, none]) rfl (Nat.le_of_ble_eq_true rfl) rfl rfl ?_
  refine aw_aload_n rfl rfl rfl ?_
  refine aw_getr (b := 28) rfl rfl (hC.f.k 0 rfl) (hC.f.r 0 0 28 rfl) rfl ?_
  refine aw_iload_n rfl rfl rfl ?_
  refine aw_fnc (c_has hC hI ⟨by omega, by omega⟩) rfl rfl rfl (Nat.le_of_ble_eq_true rfl) (Or.inr ⟨_, rfl, (hC.f.k 28 rfl)⟩) rfl ?_
  refine aw_ifeqb (p' := 19) rfl rfl rfl (fun c6 => ?_) (fun c6 => ?_)
  · refine aw_iconst rfl rfl ?_
    refine aw_retn rfl rfl ?_
    refine ⟨?_, rfl⟩
    rw [bI_f (by rintro ⟨q1, q2⟩; omega)]
  · refine aw_aload_n rfl rfl rfl ?_
    refine aw_iload_n rfl rfl rfl ?_
    refine aw_fnc (c_isStall hC hI ⟨by omega, by omega⟩) rfl rfl rfl (Nat.le_of_ble_eq_true rfl) (Or.inr ⟨_, rfl, (hC.f.k 0 rfl)⟩) rfl ?_
    refine aw_ifneb (p' := 21) rfl rfl rfl (fun c7 => ?_) (fun c7 => ?_)
    · refine aw_aload_n rfl rfl rfl ?_
      refine aw_getr (b := 8) rfl rfl (hC.f.k 0 rfl) (hC.f.r 0 5 8 rfl) rfl ?_
      refine aw_iload_n rfl rfl rfl ?_
      refine aw_fnc (c_get (hC.f.k 8 rfl) hC.lS (by omega) (by omega) (by omega)) rfl rfl rfl (Nat.le_of_ble_eq_true rfl) (Or.inr ⟨_, rfl, (hC.f.k 8 rfl)⟩) rfl ?_
      refine aw_cast rfl rfl (hC.kS (by omega) (by omega)) rfl ?_
      refine aw_astore rfl (Nat.le_of_ble_eq_true rfl) rfl rfl ?_
      change aw _ _ _ _ 34 [some (.ref 0), some (.int (iI _)), some (.int (iI _)), some (.int (iI _)), some (.ref (gS g s)), none, none] _ _
      refine aw_aload rfl rfl rfl ?_
      refine aw_gk (v := (A 86 s)) (1) rfl rfl (hC.kS (by omega) (by omega)) rfl (hC.S1 (by omega) (by omega)) rfl (fun _ _ => ?_)
      refine aw_aload_n rfl rfl rfl ?_
      refine aw_gk (v := A 42 3) (15) rfl rfl (hC.f.k 0 rfl) rfl hC.today rfl (fun _ _ => ?_)
      refine aw_icmp (p' := 56) rfl ⟨by omega, by omega⟩ ⟨by omega, by omega⟩ rfl rfl (fun c8 => ?_) (fun c8 => ?_)
      · dsimp only [zc] at c8
        refine aw_iconst rfl rfl ?_
        refine aw_istore rfl (Nat.le_of_ble_eq_true rfl) rfl rfl ?_
        change aw _ _ _ _ 59 [some (.ref 0), some (.int (iI _)), some (.int (iI _)), some (.int (iI _)), some (.ref (gS g s)), some (.int (iI _)), none] _ _
        exact c_mayTake_l59 hC hI hs0 hs1 hh0 hh1 ⟨hc1, hc2⟩ _ 0 _ rfl (by omega) (by omega) (by omega) ((mP1_is hI hs0 hs1).mpr (by first | exact Or.inl (by omega) | exact Or.inr (Classical.not_not.mp (by assumption)))) (fun e a b => by omega)
      · dsimp only [zc] at c8
        refine aw_aload_n rfl rfl rfl ?_
        refine aw_iload_n rfl rfl rfl ?_
        refine aw_fnc (c_built hC hI ⟨by omega, by omega⟩) rfl rfl rfl (Nat.le_of_ble_eq_true rfl) (Or.inr ⟨_, rfl, (hC.f.k 0 rfl)⟩) rfl ?_
        refine aw_ifeqb (p' := 56) rfl rfl rfl (fun c9 => ?_) (fun c9 => ?_)
        · refine aw_iconst rfl rfl ?_
          refine aw_istore rfl (Nat.le_of_ble_eq_true rfl) rfl rfl ?_
          change aw _ _ _ _ 59 [some (.ref 0), some (.int (iI _)), some (.int (iI _)), some (.int (iI _)), some (.ref (gS g s)), some (.int (iI _)), none] _ _
          exact c_mayTake_l59 hC hI hs0 hs1 hh0 hh1 ⟨hc1, hc2⟩ _ 0 _ rfl (by omega) (by omega) (by omega) ((mP1_is hI hs0 hs1).mpr (by first | exact Or.inl (by omega) | exact Or.inr (Classical.not_not.mp (by assumption)))) (fun e a b => by omega)
        · refine aw_iconst rfl rfl ?_
          refine aw_retn rfl rfl ?_
          refine ⟨?_, rfl⟩
          rw [bI_f (by rintro ⟨q1, q2, q3⟩; rcases (mP1_is hI hs0 hs1).mp q2 with q | q; omega; exact absurd q (by assumption))]
    · refine aw_iconst rfl rfl ?_
      refine aw_retn rfl rfl ?_
      refine ⟨?_, rfl⟩
      rw [bI_f (by rintro ⟨q1, q2⟩; omega)]
set_option maxRecDepth 10000 in
set_option maxHeartbeats 2000000 in
theorem c_place {d : Nat} {sz : Nat} {κ : Nat × (Nat → Int32) × Option Nat} {A : Nat → Int → Int} {g : Nat → Nat} {σ : az_S} (hC : CR sz κ A g σ) (hI : MI sz A) {s : Int} (hs : inI s) {h : Int} (hh : inI h) {c : Int} (hc : inI c) : cal (d + 6) 122 [.ref 0, .int (iI s), .int (iI h), .int (iI c)] σ (fun r τ => r = some (.int (iI (bI ((0 ≤ s ∧ s ≤ A 42 66 - 1) ∧ (0 ≤ h ∧ h ≤ 11) ∧ (c = -1 ∨ ((0 ≤ c ∧ c ≤ A 42 2 - 1) ∧ mMayPl A s h c)))))) ∧ CR sz κ (m_place_op A s h c) g τ ∧ (τ = σ ∨ (0 ≤ s ∧ s < A 42 66 ∧ Mod σ τ [gSp g s]))) := by
  obtain ⟨hs1, hs2⟩ := hs
  obtain ⟨hh1, hh2⟩ := hh
  obtain ⟨hc1, hc2⟩ := hc
  have hst := hI.stalls
  refine cal_of (M := (yX11_place, cX11_place, 4, (some .boolean))) (cd := k_X11_place) (L := [some (.ref 0), some (.int (iI s)), some (.int (iI h)), some (.int (iI c))]) rfl (Nat.le_of_ble_eq_true rfl) rfl rfl ?_
  refine aw_aload_n rfl rfl rfl ?_
  refine aw_iload_n rfl rfl rfl ?_
  refine aw_fnc (c_isStall hC hI ⟨by omega, by omega⟩) rfl rfl rfl (Nat.le_of_ble_eq_true rfl) (Or.inr ⟨_, rfl, (hC.f.k 0 rfl)⟩) rfl ?_
  refine aw_ifeqb (p' := 15) rfl rfl rfl (fun c1 => ?_) (fun c1 => ?_)
  · refine aw_iconst rfl rfl ?_
    refine aw_retn rfl rfl ?_
    have hno : ¬ ((0 ≤ s ∧ s ≤ A 42 66 - 1) ∧ (0 ≤ h ∧ h ≤ 11) ∧ (c = -1 ∨ ((0 ≤ c ∧ c ≤ A 42 2 - 1) ∧ mMayPl A s h c))) := by
      rintro ⟨q1, q2, q3⟩
      first | omega | exact q3.elim (fun e => by omega) (by assumption)
    refine ⟨?_, ?_, Or.inl rfl⟩
    · rw [bI_f hno]
    · unfold m_place_op; rw [tit_f hno]; exact hC
  · refine aw_iload_n rfl rfl rfl ?_
    refine aw_fnc (c_isHour ⟨by omega, by omega⟩) rfl rfl rfl (Nat.le_of_ble_eq_true rfl) (Or.inl rfl) rfl ?_
    refine aw_ifneb (p' := 17) rfl rfl rfl (fun c2 => ?_) (fun c2 => ?_)
    · refine aw_iload_n rfl rfl rfl ?_
      refine aw_iconst rfl rfl ?_
      refine aw_icmp (p' := 34) rfl ⟨by omega, by omega⟩ ⟨by omega, by omega⟩ rfl rfl (fun c3 => ?_) (fun c3 => ?_)
      · dsimp only [zc] at c3
        refine aw_aload_n rfl rfl rfl ?_
        refine aw_getr (b := 8) rfl rfl (hC.f.k 0 rfl) (hC.f.r 0 5 8 rfl) rfl ?_
        refine aw_iload_n rfl rfl rfl ?_
        refine aw_fnc (c_get (hC.f.k 8 rfl) hC.lS (by omega) (by omega) (by omega)) rfl rfl rfl (Nat.le_of_ble_eq_true rfl) (Or.inr ⟨_, rfl, (hC.f.k 8 rfl)⟩) rfl ?_
        refine aw_cast rfl rfl (hC.kS (by omega) (by omega)) rfl ?_
        refine aw_iload_n rfl rfl rfl ?_
        refine aw_iload_n rfl rfl rfl ?_
        refine aw_calc (c_put hC hI (by omega) (by omega) (by omega) (by omega) ⟨by omega, by omega⟩) rfl rfl rfl (Nat.le_of_ble_eq_true rfl) (Or.inr ⟨_, rfl, (hC.kS (by omega) (by omega))⟩) rfl ?_
        rintro _ τ4 ⟨rfl, hM4, hD4⟩
        change aw _ _ _ _ 50 [some (.ref 0), some (.int (iI _)), some (.int (iI _)), some (.int (iI _))] [] _
        refine aw_iconst rfl rfl ?_
        refine aw_retn rfl rfl ?_
        have hok : ((0 ≤ s ∧ s ≤ A 42 66 - 1) ∧ (0 ≤ h ∧ h ≤ 11) ∧ (c = -1 ∨ ((0 ≤ c ∧ c ≤ A 42 2 - 1) ∧ mMayPl A s h c))) := ⟨by omega, by omega, by first | exact Or.inl (by omega) | exact Or.inr (by assumption)⟩
        refine ⟨?_, ?_, Or.inr ⟨by omega, by omega, hD4⟩⟩
        · rw [bI_t hok]
        · unfold m_place_op; rw [tit_t hok]; exact hM4
      · dsimp only [zc] at c3
        refine aw_aload_n rfl rfl rfl ?_
        refine aw_iload_n rfl rfl rfl ?_
        refine aw_iload_n rfl rfl rfl ?_
        refine aw_iload_n rfl rfl rfl ?_
        refine aw_fnc (c_mayTake hC hI (by omega) (by omega) (by omega) (by omega) ⟨by omega, by omega⟩) rfl rfl rfl (Nat.le_of_ble_eq_true rfl) (Or.inr ⟨_, rfl, (hC.f.k 0 rfl)⟩) rfl ?_
        refine aw_ifneb (p' := 34) rfl rfl rfl (fun c5 => ?_) (fun c5 => ?_)
        · refine aw_aload_n rfl rfl rfl ?_
          refine aw_getr (b := 8) rfl rfl (hC.f.k 0 rfl) (hC.f.r 0 5 8 rfl) rfl ?_
          refine aw_iload_n rfl rfl rfl ?_
          refine aw_fnc (c_get (hC.f.k 8 rfl) hC.lS (by omega) (by omega) (by omega)) rfl rfl rfl (Nat.le_of_ble_eq_true rfl) (Or.inr ⟨_, rfl, (hC.f.k 8 rfl)⟩) rfl ?_
          refine aw_cast rfl rfl (hC.kS (by omega) (by omega)) rfl ?_
          refine aw_iload_n rfl rfl rfl ?_
          refine aw_iload_n rfl rfl rfl ?_
          refine aw_calc (c_put hC hI (by omega) (by omega) (by omega) (by omega) ⟨by omega, by omega⟩) rfl rfl rfl (Nat.le_of_ble_eq_true rfl) (Or.inr ⟨_, rfl, (hC.kS (by omega) (by omega))⟩) rfl ?_
          rintro _ τ6 ⟨rfl, hM6, hD6⟩
          change aw _ _ _ _ 50 [some (.ref 0), some (.int (iI _)), some (.int (iI _)), some (.int (iI _))] [] _
          refine aw_iconst rfl rfl ?_
          refine aw_retn rfl rfl ?_
          have hok : ((0 ≤ s ∧ s ≤ A 42 66 - 1) ∧ (0 ≤ h ∧ h ≤ 11) ∧ (c = -1 ∨ ((0 ≤ c ∧ c ≤ A 42 2 - 1) ∧ mMayPl A s h c))) := ⟨by omega, by omega, by first | exact Or.inl (by omega) | exact Or.inr (by assumption)⟩
          refine ⟨?_, ?_, Or.inr ⟨by omega, by omega, hD6⟩⟩
          · rw [bI_t hok]
          · unfold m_place_op; rw [tit_t hok]; exact hM6
        · refine aw_iconst rfl rfl ?_
          refine aw_retn rfl rfl ?_
          have hno : ¬ ((0 ≤ s ∧ s ≤ A 42 66 - 1) ∧ (0 ≤ h ∧ h ≤ 11) ∧ (c = -1 ∨ ((0 ≤ c ∧ c ≤ A 42 2 - 1) ∧ mMayPl A s h c))) := by
            rintro ⟨q1, q2, q3⟩
            first | omega | exact q3.elim (fun e => by omega) (by assumption)
          refine ⟨?_, ?_, Or.inl rfl⟩
          · rw [bI_f hno]
          · unfold m_place_op; rw [tit_f hno]; exact hC
    · refine aw_iconst rfl rfl ?_
      refine aw_retn rfl rfl ?_
      have hno : ¬ ((0 ≤ s ∧ s ≤ A 42 66 - 1) ∧ (0 ≤ h ∧ h ≤ 11) ∧ (c = -1 ∨ ((0 ≤ c ∧ c ≤ A 42 2 - 1) ∧ mMayPl A s h c))) := by
        rintro ⟨q1, q2, q3⟩
        first | omega | exact q3.elim (fun e => by omega) (by assumption)
      refine ⟨?_, ?_, Or.inl rfl⟩
      · rw [bI_f hno]
      · unfold m_place_op; rw [tit_f hno]; exact hC
set_option maxRecDepth 10000 in
set_option maxHeartbeats 2000000 in
theorem c_mayStand_l43 {d : Nat} {sz : Nat} {κ : Nat × (Nat → Int32) × Option Nat} {A : Nat → Int → Int} {g : Nat → Nat} {σ : az_S} (hC : CR sz κ A g σ) (hI : MI sz A) {c : Int} (hc : inI c) {p : Int} (hp : inI p) {h : Int} (hh : inI h) : ∀ (n : Nat) (o : Int) (w : Option Value), (A 42 66 - o).toNat = n → 0 ≤ o → o ≤ A 42 66 → ((0 ≤ c ∧ c ≤ A 42 2 - 1) ∧ (0 ≤ p ∧ p ≤ A 42 9 - 1) ∧ (0 ≤ h ∧ h ≤ 60) ∧ A 42 12 < 24) → mFreeS A c (12 * o) → aw (d + 4) k_X11_mayStand (some .boolean) (fun r τ => r = some (.int (iI (bI (mStand A c p h)))) ∧ τ = σ) 43 [some (.ref 0), some (.int (iI c)), some (.int (iI p)), some (.int (iI h)), some (.int (iI o)), w] [] σ := by
  intro n
  induction n using Nat.strongRecOn with
  | ind n ih =>
    intro o w hn ho0 ho1 hok h2
    obtain ⟨hc1, hc2⟩ := hc
    obtain ⟨hp1, hp2⟩ := hp
    obtain ⟨hh1, hh2⟩ := hh
    have hst := hI.stalls
    have hth := hI.things
    have hce := hI.cells
    have hpe := hI.people
    have hcl := hI.clock
    have hSo := fun q => (hI.stall o ho0 q).1
    refine aw_iload rfl rfl rfl ?_
    refine aw_aload_n rfl rfl rfl ?_
    refine aw_getr (b := 8) rfl rfl (hC.f.k 0 rfl) (hC.f.r 0 5 8 rfl) rfl ?_
    refine aw_fnc (c_size (hC.f.k 8 rfl) hC.lS.1) rfl rfl rfl (Nat.le_of_ble_eq_true rfl) (Or.inr ⟨_, rfl, (hC.f.k 8 rfl)⟩) rfl ?_
    refine aw_icmp (p' := 98) rfl ⟨by omega, by omega⟩ ⟨by omega, by omega⟩ rfl rfl (fun c1 => ?_) (fun c1 => ?_)
    · dsimp only [zc] at c1
      refine aw_aload_n rfl rfl rfl ?_
      refine aw_iload_n rfl rfl rfl ?_
      refine aw_fnc (c_built hC hI ⟨by omega, by omega⟩) rfl rfl rfl (Nat.le_of_ble_eq_true rfl) (Or.inr ⟨_, rfl, (hC.f.k 0 rfl)⟩) rfl ?_
      refine aw_ifneb (p' := 110) rfl rfl rfl (fun c2 => ?_) (fun c2 => ?_)
      · refine aw_iconst rfl rfl ?_
        refine aw_retn rfl (by first | rfl | exact bI_nar _) ?_
        have hfs : mFreeS A c 120 := by
          intro k a b
          by_cases e : k < 12 * o
          · exact h2 k a e
          · left; omega
        refine ⟨?_, rfl⟩
        first | (rw [bI_t ⟨hok, Classical.not_not.mp (by assumption), hfs⟩]; done) | rw [bI_f (by rintro ⟨q1, q2, q3⟩; exact absurd q2 (by assumption))]
      · refine aw_iconst rfl rfl ?_
        refine aw_goto (p' := 111) rfl rfl ?_
        refine aw_retn rfl (by first | rfl | exact bI_nar _) ?_
        have hfs : mFreeS A c 120 := by
          intro k a b
          by_cases e : k < 12 * o
          · exact h2 k a e
          · left; omega
        refine ⟨?_, rfl⟩
        first | (rw [bI_t ⟨hok, Classical.not_not.mp (by assumption), hfs⟩]; done) | rw [bI_f (by rintro ⟨q1, q2, q3⟩; exact absurd q2 (by assumption))]
    · dsimp only [zc] at c1
      refine aw_aload_n rfl rfl rfl ?_
      refine aw_getr (b := 8) rfl rfl (hC.f.k 0 rfl) (hC.f.r 0 5 8 rfl) rfl ?_
      refine aw_iload rfl rfl rfl ?_
      refine aw_fnc (c_get (hC.f.k 8 rfl) hC.lS (by omega) (by omega) (by omega)) rfl rfl rfl (Nat.le_of_ble_eq_true rfl) (Or.inr ⟨_, rfl, (hC.f.k 8 rfl)⟩) rfl ?_
      refine aw_cast rfl rfl (hC.kS (by omega) (by omega)) rfl ?_
      refine aw_astore rfl (Nat.le_of_ble_eq_true rfl) rfl rfl ?_
      change aw _ _ _ _ 69 [some (.ref 0), some (.int (iI _)), some (.int (iI _)), some (.int (iI _)), some (.int (iI _)), some (.ref (gS g o))] _ _
      have hSo1 := hSo (by omega)
      refine aw_aload rfl rfl rfl ?_
      refine aw_gk (v := (A 86 o)) (1) rfl rfl (hC.kS (by omega) (by omega)) rfl (hC.S1 (by omega) (by omega)) rfl (fun _ _ => ?_)
      refine aw_aload_n rfl rfl rfl ?_
      refine aw_gk (v := A 42 3) (15) rfl rfl (hC.f.k 0 rfl) rfl hC.today rfl (fun _ _ => ?_)
      refine aw_icmp (p' := 92) rfl ⟨by omega, by omega⟩ ⟨by omega, by omega⟩ rfl rfl (fun c3 => ?_) (fun c3 => ?_)
      · dsimp only [zc] at c3
        refine aw_iinc rfl rfl rfl rfl ?_
        change aw _ _ _ _ 95 [some (.ref 0), some (.int (iI _)), some (.int (iI _)), some (.int (iI _)), some (.int (iI _)), some (.ref (gS g o))] _ _
        refine aw_goto (p' := 43) rfl rfl ?_
        refine ih _ (by omega) _ _ rfl (by omega) (by omega) hok (fun k a b => ?_)
        by_cases e : k < 12 * o
        · exact h2 k a e
        · rw [show k / 12 = o by omega]
          first | (right; right; omega) | (right; left; intro q; exact (by assumption : ¬ ∃ h : Int, 0 ≤ h ∧ h < 12 ∧ A 87 (12 * o + h) = c) ⟨k - 12 * o, by omega, by omega, by rw [show 12 * o + (k - 12 * o) = k by omega]; exact q⟩)
      · dsimp only [zc] at c3
        refine aw_aload rfl rfl rfl ?_
        refine aw_iload_n rfl rfl rfl ?_
        refine aw_fnc (c_hasCell hC hI (by omega) (by omega) ⟨by omega, by omega⟩) rfl rfl rfl (Nat.le_of_ble_eq_true rfl) (Or.inr ⟨_, rfl, (hC.kS (by omega) (by omega))⟩) rfl ?_
        refine aw_ifeqb (p' := 92) rfl rfl rfl (fun c4 => ?_) (fun c4 => ?_)
        · refine aw_iinc rfl rfl rfl rfl ?_
          change aw _ _ _ _ 95 [some (.ref 0), some (.int (iI _)), some (.int (iI _)), some (.int (iI _)), some (.int (iI _)), some (.ref (gS g o))] _ _
          refine aw_goto (p' := 43) rfl rfl ?_
          refine ih _ (by omega) _ _ rfl (by omega) (by omega) hok (fun k a b => ?_)
          by_cases e : k < 12 * o
          · exact h2 k a e
          · rw [show k / 12 = o by omega]
            first | (right; right; omega) | (right; left; intro q; exact (by assumption : ¬ ∃ h : Int, 0 ≤ h ∧ h < 12 ∧ A 87 (12 * o + h) = c) ⟨k - 12 * o, by omega, by omega, by rw [show 12 * o + (k - 12 * o) = k by omega]; exact q⟩)
        · refine aw_iconst rfl rfl ?_
          refine aw_retn rfl (by first | rfl | exact bI_nar _) ?_
          refine ⟨?_, rfl⟩
          rw [bI_f]
          rintro ⟨q1, q2, q3⟩
          obtain ⟨e, e0, e1, e2⟩ := (by assumption : ∃ h : Int, 0 ≤ h ∧ h < 12 ∧ A 87 (12 * o + h) = c)
          have q := q3 (12 * o + e) (by omega) (by omega)
          rw [show (12 * o + e) / 12 = o by omega] at q
          omega
set_option maxRecDepth 10000 in
set_option maxHeartbeats 2000000 in
theorem c_mayStand {d : Nat} {sz : Nat} {κ : Nat × (Nat → Int32) × Option Nat} {A : Nat → Int → Int} {g : Nat → Nat} {σ : az_S} (hC : CR sz κ A g σ) (hI : MI sz A) {c : Int} (hc : inI c) {p : Int} (hp : inI p) {h : Int} (hh : inI h) : fn (d + 5) 141 [.ref 0, .int (iI c), .int (iI p), .int (iI h)] σ (.int (iI (bI (mStand A c p h)))) := by
  obtain ⟨hc1, hc2⟩ := hc
  obtain ⟨hp1, hp2⟩ := hp
  obtain ⟨hh1, hh2⟩ := hh
  have hst := hI.stalls
  have hth := hI.things
  have hce := hI.cells
  have hpe := hI.people
  have hcl := hI.clock
  refine fn_of (M := (yX11_mayStand, cX11_mayStand, 6, (some .boolean))) (cd := k_X11_mayStand) (L := [some (.ref 0), some (.int (iI c)), some (.int (iI p)), some (.int (iI h)), none, none]) rfl (Nat.le_of_ble_eq_true rfl) rfl rfl ?_
  refine aw_aload_n rfl rfl rfl ?_
  refine aw_getr (b := 28) rfl rfl (hC.f.k 0 rfl) (hC.f.r 0 0 28 rfl) rfl ?_
  refine aw_iload_n rfl rfl rfl ?_
  refine aw_fnc (c_has hC hI ⟨by omega, by omega⟩) rfl rfl rfl (Nat.le_of_ble_eq_true rfl) (Or.inr ⟨_, rfl, (hC.f.k 28 rfl)⟩) rfl ?_
  refine aw_ifeqb (p' := 38) rfl rfl rfl (fun c5 => ?_) (fun c5 => ?_)
  · refine aw_iconst rfl rfl ?_
    refine aw_retn rfl (by first | rfl | exact bI_nar _) ?_
    refine ⟨?_, rfl⟩
    rw [bI_f (by rintro ⟨q, -⟩; omega)]
  · refine aw_aload_n rfl rfl rfl ?_
    refine aw_iload_n rfl rfl rfl ?_
    refine aw_fnc (c_isPerson hC hI ⟨by omega, by omega⟩) rfl rfl rfl (Nat.le_of_ble_eq_true rfl) (Or.inr ⟨_, rfl, (hC.f.k 0 rfl)⟩) rfl ?_
    refine aw_ifeqb (p' := 38) rfl rfl rfl (fun c6 => ?_) (fun c6 => ?_)
    · refine aw_iconst rfl rfl ?_
      refine aw_retn rfl (by first | rfl | exact bI_nar _) ?_
      refine ⟨?_, rfl⟩
      rw [bI_f (by rintro ⟨q, -⟩; omega)]
    · refine aw_iload_n rfl rfl rfl ?_
      refine aw_fnc (c_isHeight ⟨by omega, by omega⟩) rfl rfl rfl (Nat.le_of_ble_eq_true rfl) (Or.inl rfl) rfl ?_
      refine aw_ifeqb (p' := 38) rfl rfl rfl (fun c7 => ?_) (fun c7 => ?_)
      · refine aw_iconst rfl rfl ?_
        refine aw_retn rfl (by first | rfl | exact bI_nar _) ?_
        refine ⟨?_, rfl⟩
        rw [bI_f (by rintro ⟨q, -⟩; omega)]
      · refine aw_aload_n rfl rfl rfl ?_
        refine aw_getr (b := 6) rfl rfl (hC.f.k 0 rfl) (hC.f.r 0 3 6 rfl) rfl ?_
        refine aw_fnc (c_size (hC.f.k 6 rfl) hC.lT.1) rfl rfl rfl (Nat.le_of_ble_eq_true rfl) (Or.inr ⟨_, rfl, (hC.f.k 6 rfl)⟩) rfl ?_
        refine aw_bipush rfl rfl rfl ?_
        refine aw_icmp (p' := 40) rfl ⟨by omega, by omega⟩ ⟨by omega, by omega⟩ rfl rfl (fun c8 => ?_) (fun c8 => ?_)
        · dsimp only [zc] at c8
          refine aw_iconst rfl rfl ?_
          refine aw_istore rfl (Nat.le_of_ble_eq_true rfl) rfl rfl ?_
          change aw _ _ _ _ 43 [some (.ref 0), some (.int (iI _)), some (.int (iI _)), some (.int (iI _)), some (.int (iI _)), none] _ _
          exact c_mayStand_l43 hC hI ⟨by omega, by omega⟩ ⟨by omega, by omega⟩ ⟨by omega, by omega⟩ _ 0 _ rfl (by omega) (by omega) (by omega) (fun k a b => by omega)
        · dsimp only [zc] at c8
          refine aw_iconst rfl rfl ?_
          refine aw_retn rfl (by first | rfl | exact bI_nar _) ?_
          refine ⟨?_, rfl⟩
          rw [bI_f (by rintro ⟨q, -⟩; omega)]
