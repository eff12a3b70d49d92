theorem Tk_L {B : Int → Int} {N p k v s e : Int} (h : Tk B N p k v s e) (hs : s < N) (hl : isL (B s)) : ER isL B N s e ∧ KW B s e k v := by
  rcases h.2 with q | q | q | q | q
  · omega
  · exact q.2.2
  · have := q.2.1; unfold isL at hl; unfold isD at this; omega
  · have := q.2.1; unfold isL at hl; omega
  · exact absurd hl q.2.1
theorem Tk_D {B : Int → Int} {N p k v s e : Int} (h : Tk B N p k v s e) (hs : s < N) (hl : 48 ≤ B s ∧ B s ≤ 57) : ER isD B N s e ∧ k = 2 ∧ v = nC B s (e - s).toNat := by
  rcases h.2 with q | q | q | q | q
  · omega
  · have := q.2.1; unfold isL at this; omega
  · exact q.2.2
  · have := q.2.1; omega
  · exact absurd hl q.2.2.1
theorem Tk_S {B : Int → Int} {N p k v s e : Int} (h : Tk B N p k v s e) (hs : s < N) (h1 : ¬ isL (B s)) (h2 : ¬ (48 ≤ B s ∧ B s ≤ 57)) : ((B s = 60 ∨ B s = 62) ∧ s + 1 < N ∧ B (s + 1) = 61 → e = s + 2 ∧ v = 0 ∧ ((B s = 60 ∧ k = 12) ∨ (B s = 62 ∧ k = 14))) ∧ (¬ ((B s = 60 ∨ B s = 62) ∧ s + 1 < N ∧ B (s + 1) = 61) → e = s + 1 ∧ v = 0 ∧ k = kSg (B s)) := by
  rcases h.2 with q | q | q | q | q
  · omega
  · exact absurd q.2.1 h1
  · exact absurd q.2.2.1.1.1 (by exact absurd q.2.1 h2)
  · exact ⟨fun _ => q.2.2.2.2, fun r => absurd ⟨q.2.1, q.2.2.1, q.2.2.2.1⟩ r⟩
  · exact ⟨fun r => absurd r q.2.2.2.1, fun _ => q.2.2.2.2⟩
theorem ER_go {P : Int → Prop} {B : Int → Int} {N i e j : Int} (h : ER P B N i e) (h0 : i ≤ j) (h1 : j ≤ e) (hj : j < N) (hp : P (B j)) : j + 1 ≤ e := by
  obtain ⟨⟨a1, a2⟩, a3, a4⟩ := h
  rcases a4 with a4 | a4
  · omega
  · by_cases q : j = e
    · rw [q] at hp; exact absurd hp a4
    · omega
theorem ER_st {P : Int → Prop} {B : Int → Int} {N i e j : Int} (h : ER P B N i e) (h0 : i ≤ j) (h1 : j ≤ e) (hj : N ≤ j ∨ ¬ P (B j)) : j = e := by
  obtain ⟨⟨a1, a2⟩, a3, a4⟩ := h
  by_cases q : j < e
  · rcases hj with hj | hj
    · omega
    · exact absurd (a3 j h0 q) hj
  · omega
theorem kSg_sgn {b : Int} (h : kSg b ≠ 1) : 11 ≤ kSg b ∧ sgn (kSg b) = b := by
  have q := (kSg_i b).mp h
  have q2 : b = 59 ∨ b = 60 ∨ b = 61 ∨ b = 62 ∨ b = 35 ∨ b = 43 ∨ b = 45 ∨ b = 42 ∨ b = 47 ∨ b = 40 ∨ b = 41 ∨ b = 91 ∨ b = 93 ∨ b = 44 := by omega
  clear h q
  rcases q2 with rfl | rfl | rfl | rfl | rfl | rfl | rfl | rfl | rfl | rfl | rfl | rfl | rfl | rfl <;> decide
theorem kSg_r (b : Int) : kSg b = 1 ∨ 11 ≤ kSg b := by
  unfold kSg
  (repeat' split) <;> omega
set_option maxRecDepth 10000 in
set_option maxHeartbeats 2000000 in
theorem m_next_l173 {d : Nat} {sz : Nat} {A : Nat → Int → Int} {σ : az_S} (hM : MV sz A σ) (hI : MI sz A) {N p k v s e : Int} (hN0 : 0 ≤ N) (hN1 : N ≤ 400) (h0 : zx σ 42 41 = N) (h2 : zx σ 42 42 = p) (hp0 : 0 ≤ p) (hT : Tk (A 74) N p k v s e) (hs0 : s < N) (hsl : isL (A 74 s)) : ∀ (τ : az_S) (q l : Int), MV sz A τ → Mod σ τ [42] → (∀ w : Int, w ≠ 42 → w ≠ 43 → w ≠ 44 → w ≠ 45 → zx τ 42 w = zx σ 42 w) → zx τ 42 41 = N → zx τ 42 42 = e → zx τ 42 43 = s → q = e - s → (0 ≤ l ∧ l < 281474976710656) → (q ≤ 6 → l = ltF (A 74) s 0 (e - s).toNat) → aw (d + 2) k_X12_next none (fun r τ => r = none ∧ MV sz A τ ∧ Mod σ τ [42] ∧ (∀ w : Int, w ≠ 42 → w ≠ 43 → w ≠ 44 → w ≠ 45 → zx τ 42 w = zx σ 42 w) ∧ zx τ 42 42 = e ∧ zx τ 42 43 = s ∧ zx τ 42 44 = rSort k ∧ RT k v (zx τ 42 45)) 173 [some (.ref 42), some (.int (iI (A 74 s))), some (.long (lI l)), none, some (.int (iI q))] [] τ := by
  intro τ q l hM0 hD hF h41 h42 h43 hq hlb hl
  have htp := hI.tape
  have hEB := hT.1
  have hEB1 := hEB.1
  have h45 := h41
  obtain ⟨hEL, hKW⟩ := Tk_L hT hs0 hsl
  have hEL1 := hEL.1
  have hse : s + 1 ≤ e := ER_go hEL (by omega) (by omega) hs0 hsl
  obtain ⟨k1, k2, k3, k4, k5⟩ := kw_told (m := (e - s).toNat) hKW (by omega) (by omega) (fun k k0 k1 => hEL.2.1 k k0 (by omega))
  have hrs : rSort k = if k = 1 then 4 else 1 := by unfold rSort; (repeat' split) <;> omega
  have hrt : RT k v (tW k v) := ⟨fun q => by omega, fun _ _ => rfl, fun q => by omega⟩
  skip
  refine aw_aload_n rfl rfl rfl ?_
  refine aw_iload rfl rfl rfl ?_
  refine aw_bipush rfl rfl rfl ?_
  refine aw_icmp (p' := 185) rfl ⟨by omega, by omega⟩ ⟨by omega, by omega⟩ rfl rfl (fun c1 => ?_) (fun c1 => ?_)
  · dsimp only [zc] at c1
    refine aw_lload_n rfl rfl rfl ?_
    refine aw_fnc (m_wordOf (by omega) (by omega)) rfl rfl rfl (Nat.le_of_ble_eq_true rfl) (Or.inl rfl) rfl ?_
    rw [show wO l = tW k v by rw [hl (by omega), k2 (by omega)]]
    refine aw_fw (45) hM0 rfl rfl (hM0.f.k 42 rfl) rfl rfl rfl ⟨by omega, by omega⟩ rfl (fun τ2 hM2 hD2 hU2 => ?_)
    refine aw_aload_n rfl rfl rfl ?_
    refine aw_aload_n rfl rfl rfl ?_
    refine aw_gk (v := (tW k v)) (45) rfl rfl (hM2.f.k 42 rfl) rfl (by simp [hU2, h41, h42, h43, h45]) rfl (fun _ _ => ?_)
    refine aw_if (p' := 204) rfl ⟨by omega, by omega⟩ rfl rfl (fun c3 => ?_) (fun c3 => ?_)
    · dsimp only [zc] at c3
      refine aw_iconst rfl rfl ?_
      refine aw_fw (44) hM2 rfl rfl (hM2.f.k 42 rfl) rfl rfl rfl ⟨by omega, by omega⟩ rfl (fun τ4 hM4 hD4 hU4 => ?_)
      refine aw_goto (p' := 419) rfl rfl ?_
      refine aw_retv rfl ?_
      refine ⟨rfl, hM4, (((hD.su (T := [42]) rfl).tr (hD2.su (T := [42]) rfl)).tr (hD4.su (T := [42]) rfl)), fun w w1 w2 w3 w4 => by simp [hU2, hU4, w1, w2, w3, w4, hF w w1 w2 w3 w4], ?_, ?_, ?_, ?_⟩
      · simp [hU2, hU4, h42]
      · simp [hU2, hU4, h43]
      · rw [hrs]; simp [hU2, hU4]; (try split) <;> omega
      · have e45 : zx τ4 42 45 = tW k v := by simp [hU2, hU4]; try omega
        rw [e45]; exact hrt
    · dsimp only [zc] at c3
      refine aw_iconst rfl rfl ?_
      refine aw_goto (p' := 205) rfl rfl ?_
      refine aw_fw (44) hM2 rfl rfl (hM2.f.k 42 rfl) rfl rfl rfl ⟨by omega, by omega⟩ rfl (fun τ5 hM5 hD5 hU5 => ?_)
      refine aw_goto (p' := 419) rfl rfl ?_
      refine aw_retv rfl ?_
      refine ⟨rfl, hM5, (((hD.su (T := [42]) rfl).tr (hD2.su (T := [42]) rfl)).tr (hD5.su (T := [42]) rfl)), fun w w1 w2 w3 w4 => by simp [hU2, hU5, w1, w2, w3, w4, hF w w1 w2 w3 w4], ?_, ?_, ?_, ?_⟩
      · simp [hU2, hU5, h42]
      · simp [hU2, hU5, h43]
      · rw [hrs]; simp [hU2, hU5]; (try split) <;> omega
      · have e45 : zx τ5 42 45 = tW k v := by simp [hU2, hU5]; try omega
        rw [e45]; exact hrt
  · dsimp only [zc] at c1
    refine aw_iconst rfl rfl ?_
    refine aw_goto (p' := 189) rfl rfl ?_
    refine aw_fw (45) hM0 rfl rfl (hM0.f.k 42 rfl) rfl rfl rfl ⟨by omega, by omega⟩ rfl (fun τ6 hM6 hD6 hU6 => ?_)
    refine aw_aload_n rfl rfl rfl ?_
    refine aw_aload_n rfl rfl rfl ?_
    refine aw_gk (v := (-1)) (45) rfl rfl (hM6.f.k 42 rfl) rfl (by simp [hU6, h41, h42, h43, h45]) rfl (fun _ _ => ?_)
    refine aw_if (p' := 204) rfl ⟨by omega, by omega⟩ rfl rfl (fun c7 => ?_) (fun c7 => ?_)
    · dsimp only [zc] at c7
      omega
    · dsimp only [zc] at c7
      refine aw_iconst rfl rfl ?_
      refine aw_goto (p' := 205) rfl rfl ?_
      refine aw_fw (44) hM6 rfl rfl (hM6.f.k 42 rfl) rfl rfl rfl ⟨by omega, by omega⟩ rfl (fun τ8 hM8 hD8 hU8 => ?_)
      refine aw_goto (p' := 419) rfl rfl ?_
      refine aw_retv rfl ?_
      refine ⟨rfl, hM8, (((hD.su (T := [42]) rfl).tr (hD6.su (T := [42]) rfl)).tr (hD8.su (T := [42]) rfl)), fun w w1 w2 w3 w4 => by simp [hU6, hU8, w1, w2, w3, w4, hF w w1 w2 w3 w4], ?_, ?_, ?_, ?_⟩
      · simp [hU6, hU8, h42]
      · simp [hU6, hU8, h43]
      · rw [hrs]; simp [hU6, hU8]; (try split) <;> omega
      · have e45 : zx τ8 42 45 = tW k v := by simp [hU6, hU8]; try omega
        rw [e45]; exact hrt
set_option maxRecDepth 10000 in
set_option maxHeartbeats 2000000 in
theorem m_next_l99 {d : Nat} {sz : Nat} {A : Nat → Int → Int} {σ : az_S} (hM : MV sz A σ) (hI : MI sz A) {N p k v s e : Int} (hN0 : 0 ≤ N) (hN1 : N ≤ 400) (h0 : zx σ 42 41 = N) (h2 : zx σ 42 42 = p) (hp0 : 0 ≤ p) (hT : Tk (A 74) N p k v s e) (hs0 : s < N) (hsl : isL (A 74 s)) : ∀ (n : Nat) (τ : az_S) (j q l : Int), (N - j).toNat = n → MV sz A τ → Mod σ τ [42] → (∀ w : Int, w ≠ 42 → w ≠ 43 → w ≠ 44 → w ≠ 45 → zx τ 42 w = zx σ 42 w) → zx τ 42 41 = N → zx τ 42 42 = j → zx τ 42 43 = s → s ≤ j → j ≤ e → q = j - s → l = (ltF (A 74) s 0 (if q ≤ 8 then q.toNat else 8)) → aw (d + 2) k_X12_next none (fun r τ => r = none ∧ MV sz A τ ∧ Mod σ τ [42] ∧ (∀ w : Int, w ≠ 42 → w ≠ 43 → w ≠ 44 → w ≠ 45 → zx τ 42 w = zx σ 42 w) ∧ zx τ 42 42 = e ∧ zx τ 42 43 = s ∧ zx τ 42 44 = rSort k ∧ RT k v (zx τ 42 45)) 99 [some (.ref 42), some (.int (iI (A 74 s))), some (.long (lI l)), none, some (.int (iI q))] [] τ := by
  intro n
  induction n using Nat.strongRecOn with
  | ind n ih =>
    intro τ j q l hn hM0 hD hF h41 h42 h43 hj0 hj1 hq hl
    have htp := hI.tape
    have hEB := hT.1
    have hEB1 := hEB.1
    have h45 := h41
    obtain ⟨hEL, hKW⟩ := Tk_L hT hs0 hsl
    have hEL1 := hEL.1
    have hlt := ltF_b (B := A 74) (s := s) (if q ≤ 8 then q.toNat else 8) (fun k k0 k1 => hEL.2.1 k k0 (by split at k1 <;> omega))
    have hlb : 0 ≤ l ∧ l < 281474976710656 := by
      have hp8 : (64 : Int) ^ (if q ≤ 8 then q.toNat else 8) ≤ 64 ^ 8 := by
        have := Nat.pow_le_pow_right (n := 64) (by decide) (show (if q ≤ 8 then q.toNat else 8) ≤ 8 by split <;> omega)
        exact_mod_cast this
      rw [hl]
      have e8 : (64 : Int) ^ 8 = 281474976710656 := by decide
      omega
    skip
    refine aw_aload_n rfl rfl rfl ?_
    refine aw_gk (v := j) (42) rfl rfl (hM0.f.k 42 rfl) rfl (by simp [h41, h42, h43, h45]) rfl (fun _ _ => ?_)
    refine aw_aload_n rfl rfl rfl ?_
    refine aw_gk (v := N) (41) rfl rfl (hM0.f.k 42 rfl) rfl (by simp [h41, h42, h43, h45]) rfl (fun _ _ => ?_)
    refine aw_icmp (p' := 173) rfl ⟨by omega, by omega⟩ ⟨by omega, by omega⟩ rfl rfl (fun c9 => ?_) (fun c9 => ?_)
    · dsimp only [zc] at c9
      exact m_next_l173 hM hI hN0 hN1 h0 h2 hp0 hT hs0 hsl _ _ _ hM0 (hD.su (T := [42]) rfl) hF h41 (by rw [h42]; exact ER_st hEL hj0 hj1 (by first | exact Or.inl (by omega) | exact Or.inr (by assumption))) h43 (by have := ER_st hEL hj0 hj1 (by first | exact Or.inl (by omega) | exact Or.inr (by assumption)); omega) hlb (fun q6 => by rw [hl, if_pos (by omega)]; congr 1; have := ER_st hEL hj0 hj1 (by first | exact Or.inl (by omega) | exact Or.inr (by assumption)); omega)
    · dsimp only [zc] at c9
      refine aw_aload_n rfl rfl rfl ?_
      refine aw_getr (b := 74) rfl rfl (hM0.f.k 42 rfl) (hM0.f.r 42 39 74 rfl) rfl ?_
      refine aw_aload_n rfl rfl rfl ?_
      refine aw_gk (v := j) (42) rfl rfl (hM0.f.k 42 rfl) rfl (by simp [h41, h42, h43, h45]) rfl (fun _ _ => ?_)
      refine aw_bp (N := 400) hM0 rfl (hM0.f.s 74 rfl) (by decide) (by omega) rfl (by omega) (by omega) rfl (fun _ _ => ?_)
      refine aw_fnc (m_isLetter ⟨by omega, by omega⟩) rfl rfl rfl (Nat.le_of_ble_eq_true rfl) (Or.inl rfl) rfl ?_
      refine aw_ifeqb (p' := 173) rfl rfl rfl (fun c10 => ?_) (fun c10 => ?_)
      · exact m_next_l173 hM hI hN0 hN1 h0 h2 hp0 hT hs0 hsl _ _ _ hM0 (hD.su (T := [42]) rfl) hF h41 (by rw [h42]; exact ER_st hEL hj0 hj1 (by first | exact Or.inl (by omega) | exact Or.inr (by assumption))) h43 (by have := ER_st hEL hj0 hj1 (by first | exact Or.inl (by omega) | exact Or.inr (by assumption)); omega) hlb (fun q6 => by rw [hl, if_pos (by omega)]; congr 1; have := ER_st hEL hj0 hj1 (by first | exact Or.inl (by omega) | exact Or.inr (by assumption)); omega)
      · refine aw_iload rfl rfl rfl ?_
        refine aw_bipush rfl rfl rfl ?_
        refine aw_icmp (p' := 155) rfl ⟨by omega, by omega⟩ ⟨by omega, by omega⟩ rfl rfl (fun c11 => ?_) (fun c11 => ?_)
        · dsimp only [zc] at c11
          refine aw_lload_n rfl rfl rfl ?_
          refine aw_lstore_n rfl (Nat.le_of_ble_eq_true rfl) rfl rfl ?_
          change aw _ _ _ _ 157 [some (.ref 42), some (.int (iI _)), some (.long (lI _)), none, some (.int (iI _))] _ _
          refine aw_iinc rfl rfl rfl rfl ?_
          change aw _ _ _ _ 160 [some (.ref 42), some (.int (iI _)), some (.long (lI _)), none, some (.int (iI _))] _ _
          refine aw_aload_n rfl rfl rfl ?_
          refine aw_dup rfl rfl rfl ?_
          refine aw_gk (v := j) (42) rfl rfl (hM0.f.k 42 rfl) rfl (by simp [h41, h42, h43, h45]) rfl (fun _ _ => ?_)
          refine aw_iconst rfl rfl ?_
          refine aw_iadd rfl rfl ?_
          refine aw_fw (42) hM0 rfl rfl (hM0.f.k 42 rfl) rfl rfl rfl ⟨by omega, by omega⟩ rfl (fun τ12 hM12 hD12 hU12 => ?_)
          refine aw_goto (p' := 99) rfl rfl ?_
          refine ih _ (by omega) _ _ _ _ rfl hM12 ((hD.su (T := [42]) rfl).tr (hD12.su (T := [42]) rfl)) (fun w w1 w2 w3 w4 => by simp [hU12, w1, w2, w3, w4, hF w w1 w2 w3 w4]) (by simp [hU12, h41]) (by simp [hU12]) (by simp [hU12, h43]) (by omega) (ER_go hEL hj0 hj1 (by omega) (by assumption)) (by omega) ?_
          by_cases q8 : q < 8
          · first | omega | (rw [hl, if_pos (by omega), if_pos (by omega), show (q + 1).toNat = q.toNat + 1 by omega, ltF_s, show s + (q.toNat : Int) = j by omega])
          · have e1 : (if q ≤ 8 then q.toNat else 8) = 8 := by split <;> omega
            have e2 : (if q + 1 ≤ 8 then (q + 1).toNat else 8) = 8 := by rw [if_neg (by omega)]
            first | omega | (rw [e2, hl, e1])
        · dsimp only [zc] at c11
          refine aw_ldc2 (64) rfl rfl rfl ?_
          refine aw_lload_n rfl rfl rfl ?_
          refine aw_lmul rfl rfl ?_
          refine aw_aload_n rfl rfl rfl ?_
          refine aw_getr (b := 74) rfl rfl (hM0.f.k 42 rfl) (hM0.f.r 42 39 74 rfl) rfl ?_
          refine aw_aload_n rfl rfl rfl ?_
          refine aw_gk (v := j) (42) rfl rfl (hM0.f.k 42 rfl) rfl (by simp [h41, h42, h43, h45]) rfl (fun _ _ => ?_)
          refine aw_bp (N := 400) hM0 rfl (hM0.f.s 74 rfl) (by decide) (by omega) rfl (by omega) (by omega) rfl (fun _ _ => ?_)
          refine aw_i2l rfl ⟨by omega, by omega⟩ rfl ?_
          refine aw_ladd rfl rfl ?_
          refine aw_ldc2 (64) rfl rfl rfl ?_
          refine aw_lsub rfl rfl ?_
          refine aw_goto (p' := 156) rfl rfl ?_
          refine aw_lstore_n rfl (Nat.le_of_ble_eq_true rfl) rfl rfl ?_
          change aw _ _ _ _ 157 [some (.ref 42), some (.int (iI _)), some (.long (lI _)), none, some (.int (iI _))] _ _
          refine aw_iinc rfl rfl rfl rfl ?_
          change aw _ _ _ _ 160 [some (.ref 42), some (.int (iI _)), some (.long (lI _)), none, some (.int (iI _))] _ _
          refine aw_aload_n rfl rfl rfl ?_
          refine aw_dup rfl rfl rfl ?_
          refine aw_gk (v := j) (42) rfl rfl (hM0.f.k 42 rfl) rfl (by simp [h41, h42, h43, h45]) rfl (fun _ _ => ?_)
          refine aw_iconst rfl rfl ?_
          refine aw_iadd rfl rfl ?_
          refine aw_fw (42) hM0 rfl rfl (hM0.f.k 42 rfl) rfl rfl rfl ⟨by omega, by omega⟩ rfl (fun τ13 hM13 hD13 hU13 => ?_)
          refine aw_goto (p' := 99) rfl rfl ?_
          refine ih _ (by omega) _ _ _ _ rfl hM13 ((hD.su (T := [42]) rfl).tr (hD13.su (T := [42]) rfl)) (fun w w1 w2 w3 w4 => by simp [hU13, w1, w2, w3, w4, hF w w1 w2 w3 w4]) (by simp [hU13, h41]) (by simp [hU13]) (by simp [hU13, h43]) (by omega) (ER_go hEL hj0 hj1 (by omega) (by assumption)) (by omega) ?_
          by_cases q8 : q < 8
          · first | omega | (rw [hl, if_pos (by omega), if_pos (by omega), show (q + 1).toNat = q.toNat + 1 by omega, ltF_s, show s + (q.toNat : Int) = j by omega])
          · have e1 : (if q ≤ 8 then q.toNat else 8) = 8 := by split <;> omega
            have e2 : (if q + 1 ≤ 8 then (q + 1).toNat else 8) = 8 := by rw [if_neg (by omega)]
            first | omega | (rw [e2, hl, e1])
set_option maxRecDepth 10000 in
set_option maxHeartbeats 2000000 in
theorem m_next_l235 {d : Nat} {sz : Nat} {A : Nat → Int → Int} {σ : az_S} (hM : MV sz A σ) (hI : MI sz A) {N p k v s e : Int} (hN0 : 0 ≤ N) (hN1 : N ≤ 400) (h0 : zx σ 42 41 = N) (h2 : zx σ 42 42 = p) (hp0 : 0 ≤ p) (hT : Tk (A 74) N p k v s e) (hs0 : s < N) (hsd : 48 ≤ A 74 s ∧ A 74 s ≤ 57) : ∀ (n : Nat) (τ : az_S) (j : Int), (N - j).toNat = n → MV sz A τ → Mod σ τ [42] → (∀ w : Int, w ≠ 42 → w ≠ 43 → w ≠ 44 → w ≠ 45 → zx τ 42 w = zx σ 42 w) → zx τ 42 41 = N → zx τ 42 42 = j → zx τ 42 43 = s → zx τ 42 44 = 2 → zx τ 42 45 = nR (A 74) s (j - s).toNat → s ≤ j → j ≤ e → aw (d + 2) k_X12_next none (fun r τ => r = none ∧ MV sz A τ ∧ Mod σ τ [42] ∧ (∀ w : Int, w ≠ 42 → w ≠ 43 → w ≠ 44 → w ≠ 45 → zx τ 42 w = zx σ 42 w) ∧ zx τ 42 42 = e ∧ zx τ 42 43 = s ∧ zx τ 42 44 = rSort k ∧ RT k v (zx τ 42 45)) 235 [some (.ref 42), some (.int (iI (A 74 s))), none, none, none] [] τ := by
  intro n
  induction n using Nat.strongRecOn with
  | ind n ih =>
    intro τ j hn hM0 hD hF h41 h42 h43 h44 h45 hj0 hj1
    have htp := hI.tape
    have hEB := hT.1
    have hEB1 := hEB.1
    obtain ⟨hEL, hk2, hv2⟩ := Tk_D hT hs0 hsd
    have hEL1 := hEL.1
    have hnr := nRC (B := A 74) (s := s) (j - s).toNat (fun k k0 k1 => hEL.2.1 k k0 (by omega))
    skip
    refine aw_aload_n rfl rfl rfl ?_
    refine aw_gk (v := j) (42) rfl rfl (hM0.f.k 42 rfl) rfl (by simp [h41, h42, h43, h45]) rfl (fun _ _ => ?_)
    refine aw_aload_n rfl rfl rfl ?_
    refine aw_gk (v := N) (41) rfl rfl (hM0.f.k 42 rfl) rfl (by simp [h41, h42, h43, h45]) rfl (fun _ _ => ?_)
    refine aw_icmp (p' := 419) rfl ⟨by omega, by omega⟩ ⟨by omega, by omega⟩ rfl rfl (fun c14 => ?_) (fun c14 => ?_)
    · dsimp only [zc] at c14
      refine aw_retv rfl ?_
      have hje : j = e := ER_st hEL hj0 hj1 (by first | exact Or.inl (by omega) | exact Or.inr (by assumption))
      rw [hje] at h42 h45 hnr
      refine ⟨rfl, hM0, (hD.su (T := [42]) rfl), hF, h42, h43, ?_, ?_⟩
      · rw [h44, hk2]; rfl
      · rw [h45]
        refine ⟨fun _ => ?_, fun q => by omega, fun q => by omega⟩
        omega
    · dsimp only [zc] at c14
      refine aw_aload_n rfl rfl rfl ?_
      refine aw_getr (b := 74) rfl rfl (hM0.f.k 42 rfl) (hM0.f.r 42 39 74 rfl) rfl ?_
      refine aw_aload_n rfl rfl rfl ?_
      refine aw_gk (v := j) (42) rfl rfl (hM0.f.k 42 rfl) rfl (by simp [h41, h42, h43, h45]) rfl (fun _ _ => ?_)
      refine aw_bp (N := 400) hM0 rfl (hM0.f.s 74 rfl) (by decide) (by omega) rfl (by omega) (by omega) rfl (fun _ _ => ?_)
      refine aw_i2l rfl ⟨by omega, by omega⟩ rfl ?_
      refine aw_ldc2 (48) rfl rfl rfl ?_
      refine aw_ldc2 (57) rfl rfl rfl ?_
      refine aw_fnc (m_in ⟨by omega, by omega⟩ ⟨by omega, by omega⟩ ⟨by omega, by omega⟩) rfl rfl rfl (Nat.le_of_ble_eq_true rfl) (Or.inl rfl) rfl ?_
      refine aw_ifeqb (p' := 419) rfl rfl rfl (fun c15 => ?_) (fun c15 => ?_)
      · refine aw_retv rfl ?_
        have hje : j = e := ER_st hEL hj0 hj1 (by first | exact Or.inl (by omega) | exact Or.inr (by assumption))
        rw [hje] at h42 h45 hnr
        refine ⟨rfl, hM0, (hD.su (T := [42]) rfl), hF, h42, h43, ?_, ?_⟩
        · rw [h44, hk2]; rfl
        · rw [h45]
          refine ⟨fun _ => ?_, fun q => by omega, fun q => by omega⟩
          omega
      · refine aw_aload_n rfl rfl rfl ?_
        refine aw_aload_n rfl rfl rfl ?_
        refine aw_gk (v := (nR (A 74) s (j - s).toNat)) (45) rfl rfl (hM0.f.k 42 rfl) rfl (by simp [h41, h42, h43, h45]) rfl (fun _ _ => ?_)
        refine aw_ldcw (999999) rfl rfl rfl ?_
        refine aw_icmp (p' := 286) rfl ⟨by omega, by omega⟩ ⟨by omega, by omega⟩ rfl rfl (fun c16 => ?_) (fun c16 => ?_)
        · dsimp only [zc] at c16
          refine aw_bipush rfl rfl rfl ?_
          refine aw_aload_n rfl rfl rfl ?_
          refine aw_gk (v := (nR (A 74) s (j - s).toNat)) (45) rfl rfl (hM0.f.k 42 rfl) rfl (by simp [h41, h42, h43, h45]) rfl (fun _ _ => ?_)
          refine aw_imul rfl rfl ?_
          refine aw_aload_n rfl rfl rfl ?_
          refine aw_getr (b := 74) rfl rfl (hM0.f.k 42 rfl) (hM0.f.r 42 39 74 rfl) rfl ?_
          refine aw_aload_n rfl rfl rfl ?_
          refine aw_gk (v := j) (42) rfl rfl (hM0.f.k 42 rfl) rfl (by simp [h41, h42, h43, h45]) rfl (fun _ _ => ?_)
          refine aw_bp (N := 400) hM0 rfl (hM0.f.s 74 rfl) (by decide) (by omega) rfl (by omega) (by omega) rfl (fun _ _ => ?_)
          refine aw_iadd rfl rfl ?_
          refine aw_bipush rfl rfl rfl ?_
          refine aw_isub rfl rfl ?_
          refine aw_fw (45) hM0 rfl rfl (hM0.f.k 42 rfl) rfl rfl rfl ⟨by omega, by omega⟩ rfl (fun τ17 hM17 hD17 hU17 => ?_)
          refine aw_aload_n rfl rfl rfl ?_
          refine aw_dup rfl rfl rfl ?_
          refine aw_gk (v := j) (42) rfl rfl (hM17.f.k 42 rfl) rfl (by simp [hU17, h41, h42, h43, h45]) rfl (fun _ _ => ?_)
          refine aw_iconst rfl rfl ?_
          refine aw_iadd rfl rfl ?_
          refine aw_fw (42) hM17 rfl rfl (hM17.f.k 42 rfl) rfl rfl rfl ⟨by omega, by omega⟩ rfl (fun τ18 hM18 hD18 hU18 => ?_)
          refine aw_goto (p' := 235) rfl rfl ?_
          refine ih _ (by omega) _ _ rfl hM18 (((hD.su (T := [42]) rfl).tr (hD17.su (T := [42]) rfl)).tr (hD18.su (T := [42]) rfl)) (fun w w1 w2 w3 w4 => by simp [hU17, hU18, w1, w2, w3, w4, hF w w1 w2 w3 w4]) (by simp [hU17, hU18, h41]) (by simp [hU17, hU18]) (by simp [hU17, hU18, h43]) (by simp [hU17, hU18, h44]) ?_ (by omega) (ER_go hEL hj0 hj1 (by omega) (by assumption))
          have e1 : (j + 1 - s).toNat = (j - s).toNat + 1 := by omega
          have e2 : s + ((j - s).toNat : Int) = j := by omega
          rw [e1]
          show _ = (if 999999 < nR (A 74) s (j - s).toNat then nR (A 74) s (j - s).toNat else 10 * nR (A 74) s (j - s).toNat + A 74 (s + ((j - s).toNat : Int)) - 48)
          have e3 : zx τ18 42 45 = (((10 * (nR (A 74) s (j - s).toNat)) + (A 74 j)) - 48) := by simp [hU17, hU18]
          rw [e2, e3]
          split <;> first | rfl | omega
        · dsimp only [zc] at c16
          refine aw_aload_n rfl rfl rfl ?_
          refine aw_gk (v := (nR (A 74) s (j - s).toNat)) (45) rfl rfl (hM0.f.k 42 rfl) rfl (by simp [h41, h42, h43, h45]) rfl (fun _ _ => ?_)
          refine aw_goto (p' := 306) rfl rfl ?_
          refine aw_fw (45) hM0 rfl rfl (hM0.f.k 42 rfl) rfl rfl rfl ⟨by omega, by omega⟩ rfl (fun τ19 hM19 hD19 hU19 => ?_)
          refine aw_aload_n rfl rfl rfl ?_
          refine aw_dup rfl rfl rfl ?_
          refine aw_gk (v := j) (42) rfl rfl (hM19.f.k 42 rfl) rfl (by simp [hU19, h41, h42, h43, h45]) rfl (fun _ _ => ?_)
          refine aw_iconst rfl rfl ?_
          refine aw_iadd rfl rfl ?_
          refine aw_fw (42) hM19 rfl rfl (hM19.f.k 42 rfl) rfl rfl rfl ⟨by omega, by omega⟩ rfl (fun τ20 hM20 hD20 hU20 => ?_)
          refine aw_goto (p' := 235) rfl rfl ?_
          refine ih _ (by omega) _ _ rfl hM20 (((hD.su (T := [42]) rfl).tr (hD19.su (T := [42]) rfl)).tr (hD20.su (T := [42]) rfl)) (fun w w1 w2 w3 w4 => by simp [hU19, hU20, w1, w2, w3, w4, hF w w1 w2 w3 w4]) (by simp [hU19, hU20, h41]) (by simp [hU19, hU20]) (by simp [hU19, hU20, h43]) (by simp [hU19, hU20, h44]) ?_ (by omega) (ER_go hEL hj0 hj1 (by omega) (by assumption))
          have e1 : (j + 1 - s).toNat = (j - s).toNat + 1 := by omega
          have e2 : s + ((j - s).toNat : Int) = j := by omega
          rw [e1]
          show _ = (if 999999 < nR (A 74) s (j - s).toNat then nR (A 74) s (j - s).toNat else 10 * nR (A 74) s (j - s).toNat + A 74 (s + ((j - s).toNat : Int)) - 48)
          have e3 : zx τ20 42 45 = (nR (A 74) s (j - s).toNat) := by simp [hU19, hU20]
          rw [e2, e3]
          split <;> first | rfl | omega
set_option maxRecDepth 10000 in
set_option maxHeartbeats 2000000 in
theorem m_next_l52 {d : Nat} {sz : Nat} {A : Nat → Int → Int} {σ : az_S} (hM : MV sz A σ) (hI : MI sz A) {N p k v s e : Int} (hN0 : 0 ≤ N) (hN1 : N ≤ 400) (h0 : zx σ 42 41 = N) (h2 : zx σ 42 42 = p) (hp0 : 0 ≤ p) (hT : Tk (A 74) N p k v s e) : ∀ (τ : az_S), MV sz A τ → Mod σ τ [42] → (∀ w : Int, w ≠ 42 → w ≠ 43 → w ≠ 44 → w ≠ 45 → zx τ 42 w = zx σ 42 w) → zx τ 42 41 = N → zx τ 42 42 = s → aw (d + 2) k_X12_next none (fun r τ => r = none ∧ MV sz A τ ∧ Mod σ τ [42] ∧ (∀ w : Int, w ≠ 42 → w ≠ 43 → w ≠ 44 → w ≠ 45 → zx τ 42 w = zx σ 42 w) ∧ zx τ 42 42 = e ∧ zx τ 42 43 = s ∧ zx τ 42 44 = rSort k ∧ RT k v (zx τ 42 45)) 52 [some (.ref 42), none, none, none, none] [] τ := by
  intro τ hM0 hD hF h41 h42
  have htp := hI.tape
  have hEB := hT.1
  have hEB1 := hEB.1
  have h43 := h41
  have h45 := h41
  skip
  refine aw_aload_n rfl rfl rfl ?_
  refine aw_aload_n rfl rfl rfl ?_
  refine aw_gk (v := s) (42) rfl rfl (hM0.f.k 42 rfl) rfl (by simp [h41, h42, h43, h45]) rfl (fun _ _ => ?_)
  refine aw_fw (43) hM0 rfl rfl (hM0.f.k 42 rfl) rfl rfl rfl ⟨by omega, by omega⟩ rfl (fun τ21 hM21 hD21 hU21 => ?_)
  refine aw_aload_n rfl rfl rfl ?_
  refine aw_gk (v := s) (42) rfl rfl (hM21.f.k 42 rfl) rfl (by simp [hU21, h41, h42, h43, h45]) rfl (fun _ _ => ?_)
  refine aw_aload_n rfl rfl rfl ?_
  refine aw_gk (v := N) (41) rfl rfl (hM21.f.k 42 rfl) rfl (by simp [hU21, h41, h42, h43, h45]) rfl (fun _ _ => ?_)
  refine aw_icmp (p' := 77) rfl ⟨by omega, by omega⟩ ⟨by omega, by omega⟩ rfl rfl (fun c22 => ?_) (fun c22 => ?_)
  · dsimp only [zc] at c22
    refine aw_aload_n rfl rfl rfl ?_
    refine aw_getr (b := 74) rfl rfl (hM21.f.k 42 rfl) (hM21.f.r 42 39 74 rfl) rfl ?_
    refine aw_aload_n rfl rfl rfl ?_
    refine aw_gk (v := s) (42) rfl rfl (hM21.f.k 42 rfl) rfl (by simp [hU21, h41, h42, h43, h45]) rfl (fun _ _ => ?_)
    refine aw_bp (N := 400) hM21 rfl (hM21.f.s 74 rfl) (by decide) (by omega) rfl (by omega) (by omega) rfl (fun _ _ => ?_)
    refine aw_istore_n rfl (Nat.le_of_ble_eq_true rfl) rfl rfl ?_
    change aw _ _ _ _ 87 [some (.ref 42), some (.int (iI _)), none, none, none] _ _
    refine aw_iload_n rfl rfl rfl ?_
    refine aw_fnc (m_isLetter ⟨by omega, by omega⟩) rfl rfl rfl (Nat.le_of_ble_eq_true rfl) (Or.inl rfl) rfl ?_
    refine aw_ifeqb (p' := 211) rfl rfl rfl (fun c23 => ?_) (fun c23 => ?_)
    · refine aw_iload_n rfl rfl rfl ?_
      refine aw_i2l rfl ⟨by omega, by omega⟩ rfl ?_
      refine aw_ldc2 (48) rfl rfl rfl ?_
      refine aw_ldc2 (57) rfl rfl rfl ?_
      refine aw_fnc (m_in ⟨by omega, by omega⟩ ⟨by omega, by omega⟩ ⟨by omega, by omega⟩) rfl rfl rfl (Nat.le_of_ble_eq_true rfl) (Or.inl rfl) rfl ?_
      refine aw_ifeqb (p' := 322) rfl rfl rfl (fun c24 => ?_) (fun c24 => ?_)
      · obtain ⟨hS1, hS2⟩ := Tk_S hT (by omega) (by assumption) (by assumption)
        refine aw_aload_n rfl rfl rfl ?_
        refine aw_dup rfl rfl rfl ?_
        refine aw_gk (v := s) (42) rfl rfl (hM21.f.k 42 rfl) rfl (by simp [hU21, h41, h42, h43, h45]) rfl (fun _ _ => ?_)
        refine aw_iconst rfl rfl ?_
        refine aw_iadd rfl rfl ?_
        refine aw_fw (42) hM21 rfl rfl (hM21.f.k 42 rfl) rfl rfl rfl ⟨by omega, by omega⟩ rfl (fun τ25 hM25 hD25 hU25 => ?_)
        refine aw_aload_n rfl rfl rfl ?_
        refine aw_iload_n rfl rfl rfl ?_
        refine aw_fw (45) hM25 rfl rfl (hM25.f.k 42 rfl) rfl rfl rfl ⟨by omega, by omega⟩ rfl (fun τ26 hM26 hD26 hU26 => ?_)
        refine aw_aload_n rfl rfl rfl ?_
        refine aw_iload_n rfl rfl rfl ?_
        refine aw_fnc (m_isSignByte ⟨by omega, by omega⟩) rfl rfl rfl (Nat.le_of_ble_eq_true rfl) (Or.inl rfl) rfl ?_
        refine aw_ifeqb (p' := 349) rfl rfl rfl (fun c27 => ?_) (fun c27 => ?_)
        · refine aw_iconst rfl rfl ?_
          refine aw_fw (44) hM26 rfl rfl (hM26.f.k 42 rfl) rfl rfl rfl ⟨by omega, by omega⟩ rfl (fun τ28 hM28 hD28 hU28 => ?_)
          refine aw_iload_n rfl rfl rfl ?_
          refine aw_bipush rfl rfl rfl ?_
          refine aw_icmp (p' := 365) rfl ⟨by omega, by omega⟩ ⟨by omega, by omega⟩ rfl rfl (fun c29 => ?_) (fun c29 => ?_)
          · dsimp only [zc] at c29
            refine aw_aload_n rfl rfl rfl ?_
            refine aw_gk (v := (s + 1)) (42) rfl rfl (hM28.f.k 42 rfl) rfl (by simp [hU21, hU25, hU26, hU28, h41, h42, h43, h45]) rfl (fun _ _ => ?_)
            refine aw_aload_n rfl rfl rfl ?_
            refine aw_gk (v := N) (41) rfl rfl (hM28.f.k 42 rfl) rfl (by simp [hU21, hU25, hU26, hU28, h41, h42, h43, h45]) rfl (fun _ _ => ?_)
            refine aw_icmp (p' := 419) rfl ⟨by omega, by omega⟩ ⟨by omega, by omega⟩ rfl rfl (fun c30 => ?_) (fun c30 => ?_)
            · dsimp only [zc] at c30
              refine aw_retv rfl ?_
              obtain ⟨e1, e2, e3⟩ := hS2 (by omega)
              have hks := kSg_r (A 74 s)
              refine ⟨rfl, hM28, (((((hD.su (T := [42]) rfl).tr (hD21.su (T := [42]) rfl)).tr (hD25.su (T := [42]) rfl)).tr (hD26.su (T := [42]) rfl)).tr (hD28.su (T := [42]) rfl)), fun w w1 w2 w3 w4 => by simp [hU21, hU25, hU26, hU28, w1, w2, w3, w4, hF w w1 w2 w3 w4], ?_, ?_, ?_, ?_⟩
              · simp [hU21, hU25, hU26, hU28]; omega
              · simp [hU21, hU25, hU26, hU28, h42]
              · have e44 : zx τ28 42 44 = 4 := by simp [hU21, hU25, hU26, hU28]
                rw [e44, e3]
                unfold rSort
                (repeat' split) <;> omega
              · have e45 : zx τ28 42 45 = (A 74 s) := by simp [hU21, hU25, hU26, hU28]
                rw [e45, e3]
                exact ⟨fun q => by omega, fun q => by omega, fun q => (kSg_sgn (by omega)).2.symm⟩
            · dsimp only [zc] at c30
              refine aw_aload_n rfl rfl rfl ?_
              refine aw_getr (b := 74) rfl rfl (hM28.f.k 42 rfl) (hM28.f.r 42 39 74 rfl) rfl ?_
              refine aw_aload_n rfl rfl rfl ?_
              refine aw_gk (v := (s + 1)) (42) rfl rfl (hM28.f.k 42 rfl) rfl (by simp [hU21, hU25, hU26, hU28, h41, h42, h43, h45]) rfl (fun _ _ => ?_)
              refine aw_bp (N := 400) hM28 rfl (hM28.f.s 74 rfl) (by decide) (by omega) rfl (by omega) (by omega) rfl (fun _ _ => ?_)
              refine aw_bipush rfl rfl rfl ?_
              refine aw_icmp (p' := 419) rfl ⟨by omega, by omega⟩ ⟨by omega, by omega⟩ rfl rfl (fun c31 => ?_) (fun c31 => ?_)
              · dsimp only [zc] at c31
                refine aw_retv rfl ?_
                obtain ⟨e1, e2, e3⟩ := hS2 (by omega)
                have hks := kSg_r (A 74 s)
                refine ⟨rfl, hM28, (((((hD.su (T := [42]) rfl).tr (hD21.su (T := [42]) rfl)).tr (hD25.su (T := [42]) rfl)).tr (hD26.su (T := [42]) rfl)).tr (hD28.su (T := [42]) rfl)), fun w w1 w2 w3 w4 => by simp [hU21, hU25, hU26, hU28, w1, w2, w3, w4, hF w w1 w2 w3 w4], ?_, ?_, ?_, ?_⟩
                · simp [hU21, hU25, hU26, hU28]; omega
                · simp [hU21, hU25, hU26, hU28, h42]
                · have e44 : zx τ28 42 44 = 4 := by simp [hU21, hU25, hU26, hU28]
                  rw [e44, e3]
                  unfold rSort
                  (repeat' split) <;> omega
                · have e45 : zx τ28 42 45 = (A 74 s) := by simp [hU21, hU25, hU26, hU28]
                  rw [e45, e3]
                  exact ⟨fun q => by omega, fun q => by omega, fun q => (kSg_sgn (by omega)).2.symm⟩
              · dsimp only [zc] at c31
                refine aw_aload_n rfl rfl rfl ?_
                refine aw_iload_n rfl rfl rfl ?_
                refine aw_bipush rfl rfl rfl ?_
                refine aw_icmp (p' := 403) rfl ⟨by omega, by omega⟩ ⟨by omega, by omega⟩ rfl rfl (fun c32 => ?_) (fun c32 => ?_)
                · dsimp only [zc] at c32
                  refine aw_sipush rfl rfl rfl ?_
                  refine aw_fw (45) hM28 rfl rfl (hM28.f.k 42 rfl) rfl rfl rfl ⟨by omega, by omega⟩ rfl (fun τ33 hM33 hD33 hU33 => ?_)
                  refine aw_aload_n rfl rfl rfl ?_
                  refine aw_dup rfl rfl rfl ?_
                  refine aw_gk (v := (s + 1)) (42) rfl rfl (hM33.f.k 42 rfl) rfl (by simp [hU21, hU25, hU26, hU28, hU33, h41, h42, h43, h45]) rfl (fun _ _ => ?_)
                  refine aw_iconst rfl rfl ?_
                  refine aw_iadd rfl rfl ?_
                  refine aw_fw (42) hM33 rfl rfl (hM33.f.k 42 rfl) rfl rfl rfl ⟨by omega, by omega⟩ rfl (fun τ34 hM34 hD34 hU34 => ?_)
                  refine aw_retv rfl ?_
                  obtain ⟨e1, e2, e3⟩ := hS1 (by omega)
                  have hks := kSg_r (A 74 s)
                  have hk12 : k = 12 ∨ k = 14 := by omega
                  have hne := (kSg_i (A 74 s)).mpr (by omega)
                  refine ⟨rfl, hM34, (((((((hD.su (T := [42]) rfl).tr (hD21.su (T := [42]) rfl)).tr (hD25.su (T := [42]) rfl)).tr (hD26.su (T := [42]) rfl)).tr (hD28.su (T := [42]) rfl)).tr (hD33.su (T := [42]) rfl)).tr (hD34.su (T := [42]) rfl)), fun w w1 w2 w3 w4 => by simp [hU21, hU25, hU26, hU28, hU33, hU34, w1, w2, w3, w4, hF w w1 w2 w3 w4], ?_, ?_, ?_, ?_⟩
                  · simp [hU21, hU25, hU26, hU28, hU33, hU34]; omega
                  · simp [hU21, hU25, hU26, hU28, hU33, hU34, h42]
                  · have e44 : zx τ34 42 44 = 4 := by simp [hU21, hU25, hU26, hU28, hU33, hU34]
                    rw [e44]
                    unfold rSort
                    (repeat' split) <;> omega
                  · have e45 : zx τ34 42 45 = 301 := by simp [hU21, hU25, hU26, hU28, hU33, hU34]
                    rcases e3 with ⟨e4, rfl⟩ | ⟨e4, rfl⟩ <;> first | omega | (rw [e45]; exact ⟨fun q => by omega, fun q => by omega, fun _ => rfl⟩)
                · dsimp only [zc] at c32
                  refine aw_sipush rfl rfl rfl ?_
                  refine aw_goto (p' := 406) rfl rfl ?_
                  refine aw_fw (45) hM28 rfl rfl (hM28.f.k 42 rfl) rfl rfl rfl ⟨by omega, by omega⟩ rfl (fun τ35 hM35 hD35 hU35 => ?_)
                  refine aw_aload_n rfl rfl rfl ?_
                  refine aw_dup rfl rfl rfl ?_
                  refine aw_gk (v := (s + 1)) (42) rfl rfl (hM35.f.k 42 rfl) rfl (by simp [hU21, hU25, hU26, hU28, hU35, h41, h42, h43, h45]) rfl (fun _ _ => ?_)
                  refine aw_iconst rfl rfl ?_
                  refine aw_iadd rfl rfl ?_
                  refine aw_fw (42) hM35 rfl rfl (hM35.f.k 42 rfl) rfl rfl rfl ⟨by omega, by omega⟩ rfl (fun τ36 hM36 hD36 hU36 => ?_)
                  refine aw_retv rfl ?_
                  obtain ⟨e1, e2, e3⟩ := hS1 (by omega)
                  have hks := kSg_r (A 74 s)
                  have hk12 : k = 12 ∨ k = 14 := by omega
                  have hne := (kSg_i (A 74 s)).mpr (by omega)
                  refine ⟨rfl, hM36, (((((((hD.su (T := [42]) rfl).tr (hD21.su (T := [42]) rfl)).tr (hD25.su (T := [42]) rfl)).tr (hD26.su (T := [42]) rfl)).tr (hD28.su (T := [42]) rfl)).tr (hD35.su (T := [42]) rfl)).tr (hD36.su (T := [42]) rfl)), fun w w1 w2 w3 w4 => by simp [hU21, hU25, hU26, hU28, hU35, hU36, w1, w2, w3, w4, hF w w1 w2 w3 w4], ?_, ?_, ?_, ?_⟩
                  · simp [hU21, hU25, hU26, hU28, hU35, hU36]; omega
                  · simp [hU21, hU25, hU26, hU28, hU35, hU36, h42]
                  · have e44 : zx τ36 42 44 = 4 := by simp [hU21, hU25, hU26, hU28, hU35, hU36]
                    rw [e44]
                    unfold rSort
                    (repeat' split) <;> omega
                  · have e45 : zx τ36 42 45 = 300 := by simp [hU21, hU25, hU26, hU28, hU35, hU36]
                    rcases e3 with ⟨e4, rfl⟩ | ⟨e4, rfl⟩ <;> first | omega | (rw [e45]; exact ⟨fun q => by omega, fun q => by omega, fun _ => rfl⟩)
          · dsimp only [zc] at c29
            refine aw_iload_n rfl rfl rfl ?_
            refine aw_bipush rfl rfl rfl ?_
            refine aw_icmp (p' := 419) rfl ⟨by omega, by omega⟩ ⟨by omega, by omega⟩ rfl rfl (fun c37 => ?_) (fun c37 => ?_)
            · dsimp only [zc] at c37
              refine aw_retv rfl ?_
              obtain ⟨e1, e2, e3⟩ := hS2 (by omega)
              have hks := kSg_r (A 74 s)
              refine ⟨rfl, hM28, (((((hD.su (T := [42]) rfl).tr (hD21.su (T := [42]) rfl)).tr (hD25.su (T := [42]) rfl)).tr (hD26.su (T := [42]) rfl)).tr (hD28.su (T := [42]) rfl)), fun w w1 w2 w3 w4 => by simp [hU21, hU25, hU26, hU28, w1, w2, w3, w4, hF w w1 w2 w3 w4], ?_, ?_, ?_, ?_⟩
              · simp [hU21, hU25, hU26, hU28]; omega
              · simp [hU21, hU25, hU26, hU28, h42]
              · have e44 : zx τ28 42 44 = 4 := by simp [hU21, hU25, hU26, hU28]
                rw [e44, e3]
                unfold rSort
                (repeat' split) <;> omega
              · have e45 : zx τ28 42 45 = (A 74 s) := by simp [hU21, hU25, hU26, hU28]
                rw [e45, e3]
                exact ⟨fun q => by omega, fun q => by omega, fun q => (kSg_sgn (by omega)).2.symm⟩
            · dsimp only [zc] at c37
              refine aw_aload_n rfl rfl rfl ?_
              refine aw_gk (v := (s + 1)) (42) rfl rfl (hM28.f.k 42 rfl) rfl (by simp [hU21, hU25, hU26, hU28, h41, h42, h43, h45]) rfl (fun _ _ => ?_)
              refine aw_aload_n rfl rfl rfl ?_
              refine aw_gk (v := N) (41) rfl rfl (hM28.f.k 42 rfl) rfl (by simp [hU21, hU25, hU26, hU28, h41, h42, h43, h45]) rfl (fun _ _ => ?_)
              refine aw_icmp (p' := 419) rfl ⟨by omega, by omega⟩ ⟨by omega, by omega⟩ rfl rfl (fun c38 => ?_) (fun c38 => ?_)
              · dsimp only [zc] at c38
                refine aw_retv rfl ?_
                obtain ⟨e1, e2, e3⟩ := hS2 (by omega)
                have hks := kSg_r (A 74 s)
                refine ⟨rfl, hM28, (((((hD.su (T := [42]) rfl).tr (hD21.su (T := [42]) rfl)).tr (hD25.su (T := [42]) rfl)).tr (hD26.su (T := [42]) rfl)).tr (hD28.su (T := [42]) rfl)), fun w w1 w2 w3 w4 => by simp [hU21, hU25, hU26, hU28, w1, w2, w3, w4, hF w w1 w2 w3 w4], ?_, ?_, ?_, ?_⟩
                · simp [hU21, hU25, hU26, hU28]; omega
                · simp [hU21, hU25, hU26, hU28, h42]
                · have e44 : zx τ28 42 44 = 4 := by simp [hU21, hU25, hU26, hU28]
                  rw [e44, e3]
                  unfold rSort
                  (repeat' split) <;> omega
                · have e45 : zx τ28 42 45 = (A 74 s) := by simp [hU21, hU25, hU26, hU28]
                  rw [e45, e3]
                  exact ⟨fun q => by omega, fun q => by omega, fun q => (kSg_sgn (by omega)).2.symm⟩
              · dsimp only [zc] at c38
                refine aw_aload_n rfl rfl rfl ?_
                refine aw_getr (b := 74) rfl rfl (hM28.f.k 42 rfl) (hM28.f.r 42 39 74 rfl) rfl ?_
                refine aw_aload_n rfl rfl rfl ?_
                refine aw_gk (v := (s + 1)) (42) rfl rfl (hM28.f.k 42 rfl) rfl (by simp [hU21, hU25, hU26, hU28, h41, h42, h43, h45]) rfl (fun _ _ => ?_)
                refine aw_bp (N := 400) hM28 rfl (hM28.f.s 74 rfl) (by decide) (by omega) rfl (by omega) (by omega) rfl (fun _ _ => ?_)
                refine aw_bipush rfl rfl rfl ?_
                refine aw_icmp (p' := 419) rfl ⟨by omega, by omega⟩ ⟨by omega, by omega⟩ rfl rfl (fun c39 => ?_) (fun c39 => ?_)
                · dsimp only [zc] at c39
                  refine aw_retv rfl ?_
                  obtain ⟨e1, e2, e3⟩ := hS2 (by omega)
                  have hks := kSg_r (A 74 s)
                  refine ⟨rfl, hM28, (((((hD.su (T := [42]) rfl).tr (hD21.su (T := [42]) rfl)).tr (hD25.su (T := [42]) rfl)).tr (hD26.su (T := [42]) rfl)).tr (hD28.su (T := [42]) rfl)), fun w w1 w2 w3 w4 => by simp [hU21, hU25, hU26, hU28, w1, w2, w3, w4, hF w w1 w2 w3 w4], ?_, ?_, ?_, ?_⟩
                  · simp [hU21, hU25, hU26, hU28]; omega
                  · simp [hU21, hU25, hU26, hU28, h42]
                  · have e44 : zx τ28 42 44 = 4 := by simp [hU21, hU25, hU26, hU28]
                    rw [e44, e3]
                    unfold rSort
                    (repeat' split) <;> omega
                  · have e45 : zx τ28 42 45 = (A 74 s) := by simp [hU21, hU25, hU26, hU28]
                    rw [e45, e3]
                    exact ⟨fun q => by omega, fun q => by omega, fun q => (kSg_sgn (by omega)).2.symm⟩
                · dsimp only [zc] at c39
                  refine aw_aload_n rfl rfl rfl ?_
                  refine aw_iload_n rfl rfl rfl ?_
                  refine aw_bipush rfl rfl rfl ?_
                  refine aw_icmp (p' := 403) rfl ⟨by omega, by omega⟩ ⟨by omega, by omega⟩ rfl rfl (fun c40 => ?_) (fun c40 => ?_)
                  · dsimp only [zc] at c40
                    refine aw_sipush rfl rfl rfl ?_
                    refine aw_fw (45) hM28 rfl rfl (hM28.f.k 42 rfl) rfl rfl rfl ⟨by omega, by omega⟩ rfl (fun τ41 hM41 hD41 hU41 => ?_)
                    refine aw_aload_n rfl rfl rfl ?_
                    refine aw_dup rfl rfl rfl ?_
                    refine aw_gk (v := (s + 1)) (42) rfl rfl (hM41.f.k 42 rfl) rfl (by simp [hU21, hU25, hU26, hU28, hU41, h41, h42, h43, h45]) rfl (fun _ _ => ?_)
                    refine aw_iconst rfl rfl ?_
                    refine aw_iadd rfl rfl ?_
                    refine aw_fw (42) hM41 rfl rfl (hM41.f.k 42 rfl) rfl rfl rfl ⟨by omega, by omega⟩ rfl (fun τ42 hM42 hD42 hU42 => ?_)
                    refine aw_retv rfl ?_
                    obtain ⟨e1, e2, e3⟩ := hS1 (by omega)
                    have hks := kSg_r (A 74 s)
                    have hk12 : k = 12 ∨ k = 14 := by omega
                    have hne := (kSg_i (A 74 s)).mpr (by omega)
                    refine ⟨rfl, hM42, (((((((hD.su (T := [42]) rfl).tr (hD21.su (T := [42]) rfl)).tr (hD25.su (T := [42]) rfl)).tr (hD26.su (T := [42]) rfl)).tr (hD28.su (T := [42]) rfl)).tr (hD41.su (T := [42]) rfl)).tr (hD42.su (T := [42]) rfl)), fun w w1 w2 w3 w4 => by simp [hU21, hU25, hU26, hU28, hU41, hU42, w1, w2, w3, w4, hF w w1 w2 w3 w4], ?_, ?_, ?_, ?_⟩
                    · simp [hU21, hU25, hU26, hU28, hU41, hU42]; omega
                    · simp [hU21, hU25, hU26, hU28, hU41, hU42, h42]
                    · have e44 : zx τ42 42 44 = 4 := by simp [hU21, hU25, hU26, hU28, hU41, hU42]
                      rw [e44]
                      unfold rSort
                      (repeat' split) <;> omega
                    · have e45 : zx τ42 42 45 = 301 := by simp [hU21, hU25, hU26, hU28, hU41, hU42]
                      rcases e3 with ⟨e4, rfl⟩ | ⟨e4, rfl⟩ <;> first | omega | (rw [e45]; exact ⟨fun q => by omega, fun q => by omega, fun _ => rfl⟩)
                  · dsimp only [zc] at c40
                    refine aw_sipush rfl rfl rfl ?_
                    refine aw_goto (p' := 406) rfl rfl ?_
                    refine aw_fw (45) hM28 rfl rfl (hM28.f.k 42 rfl) rfl rfl rfl ⟨by omega, by omega⟩ rfl (fun τ43 hM43 hD43 hU43 => ?_)
                    refine aw_aload_n rfl rfl rfl ?_
                    refine aw_dup rfl rfl rfl ?_
                    refine aw_gk (v := (s + 1)) (42) rfl rfl (hM43.f.k 42 rfl) rfl (by simp [hU21, hU25, hU26, hU28, hU43, h41, h42, h43, h45]) rfl (fun _ _ => ?_)
                    refine aw_iconst rfl rfl ?_
                    refine aw_iadd rfl rfl ?_
                    refine aw_fw (42) hM43 rfl rfl (hM43.f.k 42 rfl) rfl rfl rfl ⟨by omega, by omega⟩ rfl (fun τ44 hM44 hD44 hU44 => ?_)
                    refine aw_retv rfl ?_
                    obtain ⟨e1, e2, e3⟩ := hS1 (by omega)
                    have hks := kSg_r (A 74 s)
                    have hk12 : k = 12 ∨ k = 14 := by omega
                    have hne := (kSg_i (A 74 s)).mpr (by omega)
                    refine ⟨rfl, hM44, (((((((hD.su (T := [42]) rfl).tr (hD21.su (T := [42]) rfl)).tr (hD25.su (T := [42]) rfl)).tr (hD26.su (T := [42]) rfl)).tr (hD28.su (T := [42]) rfl)).tr (hD43.su (T := [42]) rfl)).tr (hD44.su (T := [42]) rfl)), fun w w1 w2 w3 w4 => by simp [hU21, hU25, hU26, hU28, hU43, hU44, w1, w2, w3, w4, hF w w1 w2 w3 w4], ?_, ?_, ?_, ?_⟩
                    · simp [hU21, hU25, hU26, hU28, hU43, hU44]; omega
                    · simp [hU21, hU25, hU26, hU28, hU43, hU44, h42]
                    · have e44 : zx τ44 42 44 = 4 := by simp [hU21, hU25, hU26, hU28, hU43, hU44]
                      rw [e44]
                      unfold rSort
                      (repeat' split) <;> omega
                    · have e45 : zx τ44 42 45 = 300 := by simp [hU21, hU25, hU26, hU28, hU43, hU44]
                      rcases e3 with ⟨e4, rfl⟩ | ⟨e4, rfl⟩ <;> first | omega | (rw [e45]; exact ⟨fun q => by omega, fun q => by omega, fun _ => rfl⟩)
        · refine aw_iconst rfl rfl ?_
          refine aw_goto (p' := 350) rfl rfl ?_
          refine aw_fw (44) hM26 rfl rfl (hM26.f.k 42 rfl) rfl rfl rfl ⟨by omega, by omega⟩ rfl (fun τ45 hM45 hD45 hU45 => ?_)
          refine aw_iload_n rfl rfl rfl ?_
          refine aw_bipush rfl rfl rfl ?_
          refine aw_icmp (p' := 365) rfl ⟨by omega, by omega⟩ ⟨by omega, by omega⟩ rfl rfl (fun c46 => ?_) (fun c46 => ?_)
          · dsimp only [zc] at c46
            refine aw_aload_n rfl rfl rfl ?_
            refine aw_gk (v := (s + 1)) (42) rfl rfl (hM45.f.k 42 rfl) rfl (by simp [hU21, hU25, hU26, hU45, h41, h42, h43, h45]) rfl (fun _ _ => ?_)
            refine aw_aload_n rfl rfl rfl ?_
            refine aw_gk (v := N) (41) rfl rfl (hM45.f.k 42 rfl) rfl (by simp [hU21, hU25, hU26, hU45, h41, h42, h43, h45]) rfl (fun _ _ => ?_)
            refine aw_icmp (p' := 419) rfl ⟨by omega, by omega⟩ ⟨by omega, by omega⟩ rfl rfl (fun c47 => ?_) (fun c47 => ?_)
            · dsimp only [zc] at c47
              refine aw_retv rfl ?_
              obtain ⟨e1, e2, e3⟩ := hS2 (by omega)
              have hks := kSg_r (A 74 s)
              refine ⟨rfl, hM45, (((((hD.su (T := [42]) rfl).tr (hD21.su (T := [42]) rfl)).tr (hD25.su (T := [42]) rfl)).tr (hD26.su (T := [42]) rfl)).tr (hD45.su (T := [42]) rfl)), fun w w1 w2 w3 w4 => by simp [hU21, hU25, hU26, hU45, w1, w2, w3, w4, hF w w1 w2 w3 w4], ?_, ?_, ?_, ?_⟩
              · simp [hU21, hU25, hU26, hU45]; omega
              · simp [hU21, hU25, hU26, hU45, h42]
              · have e44 : zx τ45 42 44 = 3 := by simp [hU21, hU25, hU26, hU45]
                rw [e44, e3]
                unfold rSort
                (repeat' split) <;> omega
              · have e45 : zx τ45 42 45 = (A 74 s) := by simp [hU21, hU25, hU26, hU45]
                rw [e45, e3]
                exact ⟨fun q => by omega, fun q => by omega, fun q => (kSg_sgn (by omega)).2.symm⟩
            · dsimp only [zc] at c47
              refine aw_aload_n rfl rfl rfl ?_
              refine aw_getr (b := 74) rfl rfl (hM45.f.k 42 rfl) (hM45.f.r 42 39 74 rfl) rfl ?_
              refine aw_aload_n rfl rfl rfl ?_
              refine aw_gk (v := (s + 1)) (42) rfl rfl (hM45.f.k 42 rfl) rfl (by simp [hU21, hU25, hU26, hU45, h41, h42, h43, h45]) rfl (fun _ _ => ?_)
              refine aw_bp (N := 400) hM45 rfl (hM45.f.s 74 rfl) (by decide) (by omega) rfl (by omega) (by omega) rfl (fun _ _ => ?_)
              refine aw_bipush rfl rfl rfl ?_
              refine aw_icmp (p' := 419) rfl ⟨by omega, by omega⟩ ⟨by omega, by omega⟩ rfl rfl (fun c48 => ?_) (fun c48 => ?_)
              · dsimp only [zc] at c48
                refine aw_retv rfl ?_
                obtain ⟨e1, e2, e3⟩ := hS2 (by omega)
                have hks := kSg_r (A 74 s)
                refine ⟨rfl, hM45, (((((hD.su (T := [42]) rfl).tr (hD21.su (T := [42]) rfl)).tr (hD25.su (T := [42]) rfl)).tr (hD26.su (T := [42]) rfl)).tr (hD45.su (T := [42]) rfl)), fun w w1 w2 w3 w4 => by simp [hU21, hU25, hU26, hU45, w1, w2, w3, w4, hF w w1 w2 w3 w4], ?_, ?_, ?_, ?_⟩
                · simp [hU21, hU25, hU26, hU45]; omega
                · simp [hU21, hU25, hU26, hU45, h42]
                · have e44 : zx τ45 42 44 = 3 := by simp [hU21, hU25, hU26, hU45]
                  rw [e44, e3]
                  unfold rSort
                  (repeat' split) <;> omega
                · have e45 : zx τ45 42 45 = (A 74 s) := by simp [hU21, hU25, hU26, hU45]
                  rw [e45, e3]
                  exact ⟨fun q => by omega, fun q => by omega, fun q => (kSg_sgn (by omega)).2.symm⟩
              · dsimp only [zc] at c48
                refine aw_aload_n rfl rfl rfl ?_
                refine aw_iload_n rfl rfl rfl ?_
                refine aw_bipush rfl rfl rfl ?_
                refine aw_icmp (p' := 403) rfl ⟨by omega, by omega⟩ ⟨by omega, by omega⟩ rfl rfl (fun c49 => ?_) (fun c49 => ?_)
                · dsimp only [zc] at c49
                  refine aw_sipush rfl rfl rfl ?_
                  refine aw_fw (45) hM45 rfl rfl (hM45.f.k 42 rfl) rfl rfl rfl ⟨by omega, by omega⟩ rfl (fun τ50 hM50 hD50 hU50 => ?_)
                  refine aw_aload_n rfl rfl rfl ?_
                  refine aw_dup rfl rfl rfl ?_
                  refine aw_gk (v := (s + 1)) (42) rfl rfl (hM50.f.k 42 rfl) rfl (by simp [hU21, hU25, hU26, hU45, hU50, h41, h42, h43, h45]) rfl (fun _ _ => ?_)
                  refine aw_iconst rfl rfl ?_
                  refine aw_iadd rfl rfl ?_
                  refine aw_fw (42) hM50 rfl rfl (hM50.f.k 42 rfl) rfl rfl rfl ⟨by omega, by omega⟩ rfl (fun τ51 hM51 hD51 hU51 => ?_)
                  refine aw_retv rfl ?_
                  obtain ⟨e1, e2, e3⟩ := hS1 (by omega)
                  have hks := kSg_r (A 74 s)
                  have hk12 : k = 12 ∨ k = 14 := by omega
                  have hne := (kSg_i (A 74 s)).mpr (by omega)
                  refine ⟨rfl, hM51, (((((((hD.su (T := [42]) rfl).tr (hD21.su (T := [42]) rfl)).tr (hD25.su (T := [42]) rfl)).tr (hD26.su (T := [42]) rfl)).tr (hD45.su (T := [42]) rfl)).tr (hD50.su (T := [42]) rfl)).tr (hD51.su (T := [42]) rfl)), fun w w1 w2 w3 w4 => by simp [hU21, hU25, hU26, hU45, hU50, hU51, w1, w2, w3, w4, hF w w1 w2 w3 w4], ?_, ?_, ?_, ?_⟩
                  · simp [hU21, hU25, hU26, hU45, hU50, hU51]; omega
                  · simp [hU21, hU25, hU26, hU45, hU50, hU51, h42]
                  · have e44 : zx τ51 42 44 = 3 := by simp [hU21, hU25, hU26, hU45, hU50, hU51]
                    rw [e44]
                    unfold rSort
                    (repeat' split) <;> omega
                  · have e45 : zx τ51 42 45 = 301 := by simp [hU21, hU25, hU26, hU45, hU50, hU51]
                    rcases e3 with ⟨e4, rfl⟩ | ⟨e4, rfl⟩ <;> first | omega | (rw [e45]; exact ⟨fun q => by omega, fun q => by omega, fun _ => rfl⟩)
                · dsimp only [zc] at c49
                  refine aw_sipush rfl rfl rfl ?_
                  refine aw_goto (p' := 406) rfl rfl ?_
                  refine aw_fw (45) hM45 rfl rfl (hM45.f.k 42 rfl) rfl rfl rfl ⟨by omega, by omega⟩ rfl (fun τ52 hM52 hD52 hU52 => ?_)
                  refine aw_aload_n rfl rfl rfl ?_
                  refine aw_dup rfl rfl rfl ?_
                  refine aw_gk (v := (s + 1)) (42) rfl rfl (hM52.f.k 42 rfl) rfl (by simp [hU21, hU25, hU26, hU45, hU52, h41, h42, h43, h45]) rfl (fun _ _ => ?_)
                  refine aw_iconst rfl rfl ?_
                  refine aw_iadd rfl rfl ?_
                  refine aw_fw (42) hM52 rfl rfl (hM52.f.k 42 rfl) rfl rfl rfl ⟨by omega, by omega⟩ rfl (fun τ53 hM53 hD53 hU53 => ?_)
                  refine aw_retv rfl ?_
                  obtain ⟨e1, e2, e3⟩ := hS1 (by omega)
                  have hks := kSg_r (A 74 s)
                  have hk12 : k = 12 ∨ k = 14 := by omega
                  have hne := (kSg_i (A 74 s)).mpr (by omega)
                  refine ⟨rfl, hM53, (((((((hD.su (T := [42]) rfl).tr (hD21.su (T := [42]) rfl)).tr (hD25.su (T := [42]) rfl)).tr (hD26.su (T := [42]) rfl)).tr (hD45.su (T := [42]) rfl)).tr (hD52.su (T := [42]) rfl)).tr (hD53.su (T := [42]) rfl)), fun w w1 w2 w3 w4 => by simp [hU21, hU25, hU26, hU45, hU52, hU53, w1, w2, w3, w4, hF w w1 w2 w3 w4], ?_, ?_, ?_, ?_⟩
                  · simp [hU21, hU25, hU26, hU45, hU52, hU53]; omega
                  · simp [hU21, hU25, hU26, hU45, hU52, hU53, h42]
                  · have e44 : zx τ53 42 44 = 3 := by simp [hU21, hU25, hU26, hU45, hU52, hU53]
                    rw [e44]
                    unfold rSort
                    (repeat' split) <;> omega
                  · have e45 : zx τ53 42 45 = 300 := by simp [hU21, hU25, hU26, hU45, hU52, hU53]
                    rcases e3 with ⟨e4, rfl⟩ | ⟨e4, rfl⟩ <;> first | omega | (rw [e45]; exact ⟨fun q => by omega, fun q => by omega, fun _ => rfl⟩)
          · dsimp only [zc] at c46
            refine aw_iload_n rfl rfl rfl ?_
            refine aw_bipush rfl rfl rfl ?_
            refine aw_icmp (p' := 419) rfl ⟨by omega, by omega⟩ ⟨by omega, by omega⟩ rfl rfl (fun c54 => ?_) (fun c54 => ?_)
            · dsimp only [zc] at c54
              refine aw_retv rfl ?_
              obtain ⟨e1, e2, e3⟩ := hS2 (by omega)
              have hks := kSg_r (A 74 s)
              refine ⟨rfl, hM45, (((((hD.su (T := [42]) rfl).tr (hD21.su (T := [42]) rfl)).tr (hD25.su (T := [42]) rfl)).tr (hD26.su (T := [42]) rfl)).tr (hD45.su (T := [42]) rfl)), fun w w1 w2 w3 w4 => by simp [hU21, hU25, hU26, hU45, w1, w2, w3, w4, hF w w1 w2 w3 w4], ?_, ?_, ?_, ?_⟩
              · simp [hU21, hU25, hU26, hU45]; omega
              · simp [hU21, hU25, hU26, hU45, h42]
              · have e44 : zx τ45 42 44 = 3 := by simp [hU21, hU25, hU26, hU45]
                rw [e44, e3]
                unfold rSort
                (repeat' split) <;> omega
              · have e45 : zx τ45 42 45 = (A 74 s) := by simp [hU21, hU25, hU26, hU45]
                rw [e45, e3]
                exact ⟨fun q => by omega, fun q => by omega, fun q => (kSg_sgn (by omega)).2.symm⟩
            · dsimp only [zc] at c54
              refine aw_aload_n rfl rfl rfl ?_
              refine aw_gk (v := (s + 1)) (42) rfl rfl (hM45.f.k 42 rfl) rfl (by simp [hU21, hU25, hU26, hU45, h41, h42, h43, h45]) rfl (fun _ _ => ?_)
              refine aw_aload_n rfl rfl rfl ?_
              refine aw_gk (v := N) (41) rfl rfl (hM45.f.k 42 rfl) rfl (by simp [hU21, hU25, hU26, hU45, h41, h42, h43, h45]) rfl (fun _ _ => ?_)
              refine aw_icmp (p' := 419) rfl ⟨by omega, by omega⟩ ⟨by omega, by omega⟩ rfl rfl (fun c55 => ?_) (fun c55 => ?_)
              · dsimp only [zc] at c55
                refine aw_retv rfl ?_
                obtain ⟨e1, e2, e3⟩ := hS2 (by omega)
                have hks := kSg_r (A 74 s)
                refine ⟨rfl, hM45, (((((hD.su (T := [42]) rfl).tr (hD21.su (T := [42]) rfl)).tr (hD25.su (T := [42]) rfl)).tr (hD26.su (T := [42]) rfl)).tr (hD45.su (T := [42]) rfl)), fun w w1 w2 w3 w4 => by simp [hU21, hU25, hU26, hU45, w1, w2, w3, w4, hF w w1 w2 w3 w4], ?_, ?_, ?_, ?_⟩
                · simp [hU21, hU25, hU26, hU45]; omega
                · simp [hU21, hU25, hU26, hU45, h42]
                · have e44 : zx τ45 42 44 = 3 := by simp [hU21, hU25, hU26, hU45]
                  rw [e44, e3]
                  unfold rSort
                  (repeat' split) <;> omega
                · have e45 : zx τ45 42 45 = (A 74 s) := by simp [hU21, hU25, hU26, hU45]
                  rw [e45, e3]
                  exact ⟨fun q => by omega, fun q => by omega, fun q => (kSg_sgn (by omega)).2.symm⟩
              · dsimp only [zc] at c55
                refine aw_aload_n rfl rfl rfl ?_
                refine aw_getr (b := 74) rfl rfl (hM45.f.k 42 rfl) (hM45.f.r 42 39 74 rfl) rfl ?_
                refine aw_aload_n rfl rfl rfl ?_
                refine aw_gk (v := (s + 1)) (42) rfl rfl (hM45.f.k 42 rfl) rfl (by simp [hU21, hU25, hU26, hU45, h41, h42, h43, h45]) rfl (fun _ _ => ?_)
                refine aw_bp (N := 400) hM45 rfl (hM45.f.s 74 rfl) (by decide) (by omega) rfl (by omega) (by omega) rfl (fun _ _ => ?_)
                refine aw_bipush rfl rfl rfl ?_
                refine aw_icmp (p' := 419) rfl ⟨by omega, by omega⟩ ⟨by omega, by omega⟩ rfl rfl (fun c56 => ?_) (fun c56 => ?_)
                · dsimp only [zc] at c56
                  refine aw_retv rfl ?_
                  obtain ⟨e1, e2, e3⟩ := hS2 (by omega)
                  have hks := kSg_r (A 74 s)
                  refine ⟨rfl, hM45, (((((hD.su (T := [42]) rfl).tr (hD21.su (T := [42]) rfl)).tr (hD25.su (T := [42]) rfl)).tr (hD26.su (T := [42]) rfl)).tr (hD45.su (T := [42]) rfl)), fun w w1 w2 w3 w4 => by simp [hU21, hU25, hU26, hU45, w1, w2, w3, w4, hF w w1 w2 w3 w4], ?_, ?_, ?_, ?_⟩
                  · simp [hU21, hU25, hU26, hU45]; omega
                  · simp [hU21, hU25, hU26, hU45, h42]
                  · have e44 : zx τ45 42 44 = 3 := by simp [hU21, hU25, hU26, hU45]
                    rw [e44, e3]
                    unfold rSort
                    (repeat' split) <;> omega
                  · have e45 : zx τ45 42 45 = (A 74 s) := by simp [hU21, hU25, hU26, hU45]
                    rw [e45, e3]
                    exact ⟨fun q => by omega, fun q => by omega, fun q => (kSg_sgn (by omega)).2.symm⟩
                · dsimp only [zc] at c56
                  refine aw_aload_n rfl rfl rfl ?_
                  refine aw_iload_n rfl rfl rfl ?_
                  refine aw_bipush rfl rfl rfl ?_
                  refine aw_icmp (p' := 403) rfl ⟨by omega, by omega⟩ ⟨by omega, by omega⟩ rfl rfl (fun c57 => ?_) (fun c57 => ?_)
                  · dsimp only [zc] at c57
                    refine aw_sipush rfl rfl rfl ?_
                    refine aw_fw (45) hM45 rfl rfl (hM45.f.k 42 rfl) rfl rfl rfl ⟨by omega, by omega⟩ rfl (fun τ58 hM58 hD58 hU58 => ?_)
                    refine aw_aload_n rfl rfl rfl ?_
                    refine aw_dup rfl rfl rfl ?_
                    refine aw_gk (v := (s + 1)) (42) rfl rfl (hM58.f.k 42 rfl) rfl (by simp [hU21, hU25, hU26, hU45, hU58, h41, h42, h43, h45]) rfl (fun _ _ => ?_)
                    refine aw_iconst rfl rfl ?_
                    refine aw_iadd rfl rfl ?_
                    refine aw_fw (42) hM58 rfl rfl (hM58.f.k 42 rfl) rfl rfl rfl ⟨by omega, by omega⟩ rfl (fun τ59 hM59 hD59 hU59 => ?_)
                    refine aw_retv rfl ?_
                    obtain ⟨e1, e2, e3⟩ := hS1 (by omega)
                    have hks := kSg_r (A 74 s)
                    have hk12 : k = 12 ∨ k = 14 := by omega
                    have hne := (kSg_i (A 74 s)).mpr (by omega)
                    refine ⟨rfl, hM59, (((((((hD.su (T := [42]) rfl).tr (hD21.su (T := [42]) rfl)).tr (hD25.su (T := [42]) rfl)).tr (hD26.su (T := [42]) rfl)).tr (hD45.su (T := [42]) rfl)).tr (hD58.su (T := [42]) rfl)).tr (hD59.su (T := [42]) rfl)), fun w w1 w2 w3 w4 => by simp [hU21, hU25, hU26, hU45, hU58, hU59, w1, w2, w3, w4, hF w w1 w2 w3 w4], ?_, ?_, ?_, ?_⟩
                    · simp [hU21, hU25, hU26, hU45, hU58, hU59]; omega
                    · simp [hU21, hU25, hU26, hU45, hU58, hU59, h42]
                    · have e44 : zx τ59 42 44 = 3 := by simp [hU21, hU25, hU26, hU45, hU58, hU59]
                      rw [e44]
                      unfold rSort
                      (repeat' split) <;> omega
                    · have e45 : zx τ59 42 45 = 301 := by simp [hU21, hU25, hU26, hU45, hU58, hU59]
                      rcases e3 with ⟨e4, rfl⟩ | ⟨e4, rfl⟩ <;> first | omega | (rw [e45]; exact ⟨fun q => by omega, fun q => by omega, fun _ => rfl⟩)
                  · dsimp only [zc] at c57
                    refine aw_sipush rfl rfl rfl ?_
                    refine aw_goto (p' := 406) rfl rfl ?_
                    refine aw_fw (45) hM45 rfl rfl (hM45.f.k 42 rfl) rfl rfl rfl ⟨by omega, by omega⟩ rfl (fun τ60 hM60 hD60 hU60 => ?_)
                    refine aw_aload_n rfl rfl rfl ?_
                    refine aw_dup rfl rfl rfl ?_
                    refine aw_gk (v := (s + 1)) (42) rfl rfl (hM60.f.k 42 rfl) rfl (by simp [hU21, hU25, hU26, hU45, hU60, h41, h42, h43, h45]) rfl (fun _ _ => ?_)
                    refine aw_iconst rfl rfl ?_
                    refine aw_iadd rfl rfl ?_
                    refine aw_fw (42) hM60 rfl rfl (hM60.f.k 42 rfl) rfl rfl rfl ⟨by omega, by omega⟩ rfl (fun τ61 hM61 hD61 hU61 => ?_)
                    refine aw_retv rfl ?_
                    obtain ⟨e1, e2, e3⟩ := hS1 (by omega)
                    have hks := kSg_r (A 74 s)
                    have hk12 : k = 12 ∨ k = 14 := by omega
                    have hne := (kSg_i (A 74 s)).mpr (by omega)
                    refine ⟨rfl, hM61, (((((((hD.su (T := [42]) rfl).tr (hD21.su (T := [42]) rfl)).tr (hD25.su (T := [42]) rfl)).tr (hD26.su (T := [42]) rfl)).tr (hD45.su (T := [42]) rfl)).tr (hD60.su (T := [42]) rfl)).tr (hD61.su (T := [42]) rfl)), fun w w1 w2 w3 w4 => by simp [hU21, hU25, hU26, hU45, hU60, hU61, w1, w2, w3, w4, hF w w1 w2 w3 w4], ?_, ?_, ?_, ?_⟩
                    · simp [hU21, hU25, hU26, hU45, hU60, hU61]; omega
                    · simp [hU21, hU25, hU26, hU45, hU60, hU61, h42]
                    · have e44 : zx τ61 42 44 = 3 := by simp [hU21, hU25, hU26, hU45, hU60, hU61]
                      rw [e44]
                      unfold rSort
                      (repeat' split) <;> omega
                    · have e45 : zx τ61 42 45 = 300 := by simp [hU21, hU25, hU26, hU45, hU60, hU61]
                      rcases e3 with ⟨e4, rfl⟩ | ⟨e4, rfl⟩ <;> first | omega | (rw [e45]; exact ⟨fun q => by omega, fun q => by omega, fun _ => rfl⟩)
      · refine aw_aload_n rfl rfl rfl ?_
        refine aw_iconst rfl rfl ?_
        refine aw_fw (44) hM21 rfl rfl (hM21.f.k 42 rfl) rfl rfl rfl ⟨by omega, by omega⟩ rfl (fun τ62 hM62 hD62 hU62 => ?_)
        refine aw_aload_n rfl rfl rfl ?_
        refine aw_iconst rfl rfl ?_
        refine aw_fw (45) hM62 rfl rfl (hM62.f.k 42 rfl) rfl rfl rfl ⟨by omega, by omega⟩ rfl (fun τ63 hM63 hD63 hU63 => ?_)
        exact m_next_l235 hM hI hN0 hN1 h0 h2 hp0 hT (by omega) (by assumption) _ _ s rfl hM63 ((((hD.su (T := [42]) rfl).tr (hD21.su (T := [42]) rfl)).tr (hD62.su (T := [42]) rfl)).tr (hD63.su (T := [42]) rfl)) (fun w w1 w2 w3 w4 => by simp [hU21, hU62, hU63, w1, w2, w3, w4, hF w w1 w2 w3 w4]) (by simp [hU21, hU62, hU63, h41]) (by simp [hU21, hU62, hU63, h42]) (by simp [hU21, hU62, hU63, h42]) (by simp [hU21, hU62, hU63]) (by rw [show (s - s).toNat = 0 by omega]; simp [hU21, hU62, hU63]; rfl) (by omega) (Tk_D hT (by omega) (by assumption)).1.1.1
    · refine aw_lconst 0 rfl rfl rfl ?_
      refine aw_lstore_n rfl (Nat.le_of_ble_eq_true rfl) rfl rfl ?_
      change aw _ _ _ _ 96 [some (.ref 42), some (.int (iI _)), some (.long (lI _)), none, none] _ _
      refine aw_iconst rfl rfl ?_
      refine aw_istore rfl (Nat.le_of_ble_eq_true rfl) rfl rfl ?_
      change aw _ _ _ _ 99 [some (.ref 42), some (.int (iI _)), some (.long (lI _)), none, some (.int (iI _))] _ _
      exact m_next_l99 hM hI hN0 hN1 h0 h2 hp0 hT (by omega) (by assumption) _ _ s 0 0 rfl hM21 ((hD.su (T := [42]) rfl).tr (hD21.su (T := [42]) rfl)) (fun w w1 w2 w3 w4 => by simp [hU21, w1, w2, w3, w4, hF w w1 w2 w3 w4]) (by simp [hU21, h41]) (by simp [hU21, h42]) (by simp [hU21, h42]) (by omega) (Tk_L hT (by omega) (by assumption)).1.1.1 (by omega) rfl
  · dsimp only [zc] at c22
    refine aw_aload_n rfl rfl rfl ?_
    refine aw_iconst rfl rfl ?_
    refine aw_fw (44) hM21 rfl rfl (hM21.f.k 42 rfl) rfl rfl rfl ⟨by omega, by omega⟩ rfl (fun τ64 hM64 hD64 hU64 => ?_)
    refine aw_retv rfl ?_
    refine ⟨rfl, hM64, (((hD.su (T := [42]) rfl).tr (hD21.su (T := [42]) rfl)).tr (hD64.su (T := [42]) rfl)), fun w w1 w2 w3 w4 => by simp [hU21, hU64, w1, w2, w3, w4, hF w w1 w2 w3 w4], ?_, ?_, ?_, ?_⟩
    · have := hT.2; simp [hU21, hU64, h42]; omega
    · simp [hU21, hU64, h42]
    · have := hT.2; have hk : k = 0 := by omega
      simp [hU21, hU64, hk, rSort]
    · have := hT.2; have hk : k = 0 := by omega
      exact ⟨fun q => by omega, fun q => by omega, fun q => by omega⟩
set_option maxRecDepth 10000 in
set_option maxHeartbeats 2000000 in
theorem m_next_l0 {d : Nat} {sz : Nat} {A : Nat → Int → Int} {σ : az_S} (hM : MV sz A σ) (hI : MI sz A) {N p k v s e : Int} (hN0 : 0 ≤ N) (hN1 : N ≤ 400) (h0 : zx σ 42 41 = N) (h2 : zx σ 42 42 = p) (hp0 : 0 ≤ p) (hT : Tk (A 74) N p k v s e) : ∀ (n : Nat) (τ : az_S) (j : Int), (N - j).toNat = n → MV sz A τ → Mod σ τ [42] → (∀ w : Int, w ≠ 42 → w ≠ 43 → w ≠ 44 → w ≠ 45 → zx τ 42 w = zx σ 42 w) → zx τ 42 41 = N → zx τ 42 42 = j → p ≤ j → j ≤ s → aw (d + 2) k_X12_next none (fun r τ => r = none ∧ MV sz A τ ∧ Mod σ τ [42] ∧ (∀ w : Int, w ≠ 42 → w ≠ 43 → w ≠ 44 → w ≠ 45 → zx τ 42 w = zx σ 42 w) ∧ zx τ 42 42 = e ∧ zx τ 42 43 = s ∧ zx τ 42 44 = rSort k ∧ RT k v (zx τ 42 45)) 0 [some (.ref 42), none, none, none, none] [] τ := by
  intro n
  induction n using Nat.strongRecOn with
  | ind n ih =>
    intro τ j hn hM0 hD hF h41 h42 hj0 hj1
    have htp := hI.tape
    have hEB := hT.1
    have hEB1 := hEB.1
    have h43 := h41
    have h45 := h41
    skip
    refine aw_aload_n rfl rfl rfl ?_
    refine aw_gk (v := j) (42) rfl rfl (hM0.f.k 42 rfl) rfl (by simp [h41, h42, h43, h45]) rfl (fun _ _ => ?_)
    refine aw_aload_n rfl rfl rfl ?_
    refine aw_gk (v := N) (41) rfl rfl (hM0.f.k 42 rfl) rfl (by simp [h41, h42, h43, h45]) rfl (fun _ _ => ?_)
    refine aw_icmp (p' := 52) rfl ⟨by omega, by omega⟩ ⟨by omega, by omega⟩ rfl rfl (fun c65 => ?_) (fun c65 => ?_)
    · dsimp only [zc] at c65
      exact m_next_l52 hM hI hN0 hN1 h0 h2 hp0 hT _ hM0 (hD.su (T := [42]) rfl) hF h41 (by rw [h42]; exact ER_st hEB hj0 hj1 (by first | exact Or.inl (by omega) | exact Or.inr (by unfold isB; omega)))
    · dsimp only [zc] at c65
      refine aw_aload_n rfl rfl rfl ?_
      refine aw_getr (b := 74) rfl rfl (hM0.f.k 42 rfl) (hM0.f.r 42 39 74 rfl) rfl ?_
      refine aw_aload_n rfl rfl rfl ?_
      refine aw_gk (v := j) (42) rfl rfl (hM0.f.k 42 rfl) rfl (by simp [h41, h42, h43, h45]) rfl (fun _ _ => ?_)
      refine aw_bp (N := 400) hM0 rfl (hM0.f.s 74 rfl) (by decide) (by omega) rfl (by omega) (by omega) rfl (fun _ _ => ?_)
      refine aw_bipush rfl rfl rfl ?_
      refine aw_icmp (p' := 39) rfl ⟨by omega, by omega⟩ ⟨by omega, by omega⟩ rfl rfl (fun c66 => ?_) (fun c66 => ?_)
      · dsimp only [zc] at c66
        refine aw_aload_n rfl rfl rfl ?_
        refine aw_dup rfl rfl rfl ?_
        refine aw_gk (v := j) (42) rfl rfl (hM0.f.k 42 rfl) rfl (by simp [h41, h42, h43, h45]) rfl (fun _ _ => ?_)
        refine aw_iconst rfl rfl ?_
        refine aw_iadd rfl rfl ?_
        refine aw_fw (42) hM0 rfl rfl (hM0.f.k 42 rfl) rfl rfl rfl ⟨by omega, by omega⟩ rfl (fun τ67 hM67 hD67 hU67 => ?_)
        refine aw_goto (p' := 0) rfl rfl ?_
        exact ih _ (by omega) _ _ rfl hM67 ((hD.su (T := [42]) rfl).tr (hD67.su (T := [42]) rfl)) (fun w w1 w2 w3 w4 => by simp [hU67, w1, w2, w3, w4, hF w w1 w2 w3 w4]) (by simp [hU67, h41]) (by simp [hU67]) (by omega) (ER_go hEB hj0 hj1 (by omega) (by first | exact Or.inl (by assumption) | exact Or.inr (by omega)))
      · dsimp only [zc] at c66
        refine aw_aload_n rfl rfl rfl ?_
        refine aw_getr (b := 74) rfl rfl (hM0.f.k 42 rfl) (hM0.f.r 42 39 74 rfl) rfl ?_
        refine aw_aload_n rfl rfl rfl ?_
        refine aw_gk (v := j) (42) rfl rfl (hM0.f.k 42 rfl) rfl (by simp [h41, h42, h43, h45]) rfl (fun _ _ => ?_)
        refine aw_bp (N := 400) hM0 rfl (hM0.f.s 74 rfl) (by decide) (by omega) rfl (by omega) (by omega) rfl (fun _ _ => ?_)
        refine aw_bipush rfl rfl rfl ?_
        refine aw_icmp (p' := 52) rfl ⟨by omega, by omega⟩ ⟨by omega, by omega⟩ rfl rfl (fun c68 => ?_) (fun c68 => ?_)
        · dsimp only [zc] at c68
          exact m_next_l52 hM hI hN0 hN1 h0 h2 hp0 hT _ hM0 (hD.su (T := [42]) rfl) hF h41 (by rw [h42]; exact ER_st hEB hj0 hj1 (by first | exact Or.inl (by omega) | exact Or.inr (by unfold isB; omega)))
        · dsimp only [zc] at c68
          refine aw_aload_n rfl rfl rfl ?_
          refine aw_dup rfl rfl rfl ?_
          refine aw_gk (v := j) (42) rfl rfl (hM0.f.k 42 rfl) rfl (by simp [h41, h42, h43, h45]) rfl (fun _ _ => ?_)
          refine aw_iconst rfl rfl ?_
          refine aw_iadd rfl rfl ?_
          refine aw_fw (42) hM0 rfl rfl (hM0.f.k 42 rfl) rfl rfl rfl ⟨by omega, by omega⟩ rfl (fun τ69 hM69 hD69 hU69 => ?_)
          refine aw_goto (p' := 0) rfl rfl ?_
          exact ih _ (by omega) _ _ rfl hM69 ((hD.su (T := [42]) rfl).tr (hD69.su (T := [42]) rfl)) (fun w w1 w2 w3 w4 => by simp [hU69, w1, w2, w3, w4, hF w w1 w2 w3 w4]) (by simp [hU69, h41]) (by simp [hU69]) (by omega) (ER_go hEB hj0 hj1 (by omega) (by first | exact Or.inl (by assumption) | exact Or.inr (by omega)))
set_option maxRecDepth 10000 in
set_option maxHeartbeats 2000000 in
theorem m_next {d : Nat} {sz : Nat} {A : Nat → Int → Int} {σ : az_S} (hM : MV sz A σ) (hI : MI sz A) {N p k v s e : Int} (hN0 : 0 ≤ N) (hN1 : N ≤ 400) (h0 : zx σ 42 41 = N) (h2 : zx σ 42 42 = p) (hp0 : 0 ≤ p) (hT : Tk (A 74) N p k v s e) : cal (d + 3) 210 [.ref 42] σ (fun r τ => r = none ∧ MV sz A τ ∧ Mod σ τ [42] ∧ (∀ w : Int, w ≠ 42 → w ≠ 43 → w ≠ 44 → w ≠ 45 → zx τ 42 w = zx σ 42 w) ∧ zx τ 42 42 = e ∧ zx τ 42 43 = s ∧ zx τ 42 44 = rSort k ∧ RT k v (zx τ 42 45)) := by
  have htp := hI.tape
  have hEB := hT.1
  have hEB1 := hEB.1
  refine cal_of (M := (yX12_next, cX12_next, 5, none)) (cd := k_X12_next) (L := [some (.ref 42), none, none, none, none]) rfl (Nat.le_of_ble_eq_true rfl) rfl rfl ?_
  exact m_next_l0 hM hI hN0 hN1 h0 h2 hp0 hT _ _ p rfl hM Mod.rf (fun _ _ _ _ _ => rfl) h0 h2 (by omega) (by omega)
