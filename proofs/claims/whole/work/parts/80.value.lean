theorem nC_b (B : Int → Int) (s : Int) : ∀ m : Nat, (∀ k : Int, s ≤ k → k < s + m → isD (B k)) → 0 ≤ nC B s m ∧ nC B s m ≤ 100001 := by
  intro m h
  have q := nRC (B := B) (s := s) m h
  by_cases r : nR B s m ≤ 100000
  · rw [q.2.1 r]; omega
  · rw [q.2.2 (by omega)]; omega
theorem Tk_v {B : Int → Int} {N p k v s e : Int} (h : Tk B N p k v s e) : (k = 2 → 0 ≤ v ∧ v ≤ 100001) ∧ (k = 3 → 0 ≤ v ∧ v ≤ 7) := by
  rcases h.2 with q | q | q | q | q
  · omega
  · rcases q.2.2.2 with ⟨i, a, b, c, d⟩ | ⟨i, a, b, c, d, e⟩ | ⟨a, b, c⟩ <;> omega
  · obtain ⟨q1, q2, q3, q4, q5⟩ := q
    have hb := nC_b B s (e - s).toNat (fun k k0 k1 => q3.2.1 k k0 (by omega))
    omega
  · omega
  · have := kSg_r (B s)
    omega
theorem go_eq {c : Cf} {a p : Int} (h : fit c 1 a p) (o v : Int) : (c.emit o v).nxt = c.go (a + 1) [(o, v)] 1 := by
  obtain ⟨h1, h2, -, -⟩ := h
  show ((c.n + 1, c.st, c.fr, c.ws, c.op, c.em ++ [(o, v)], c.ru, c.wr, c.wa) : Cf) = _
  rw [h1, h2]
  rfl
theorem stp_1 {K V S : Int → Int} {c : Cf} {a p : Int} (h : fit c 1 a p) : stp K V S c = sBegins K V S c := by
  unfold stp
  rw [if_neg (by rw [h.2.1]; decide), if_pos h.2.1]
theorem live_1 {K : Int → Int} {c : Cf} {a p : Int} (h : fit c 1 a p) : c.st ≠ 4 ∨ K c.n ≠ 0 := Or.inl (by rw [h.2.1]; decide)
set_option maxRecDepth 10000 in
set_option maxHeartbeats 2000000 in
theorem c_value16 {d : Nat} {sz : Nat} {κ : Nat × (Nat → Int32) × Option Nat} {A : Nat → Int → Int} {g : Nat → Nat} {σ : az_S} (hC : CR sz κ A g σ) (hI : MI sz A) {E : Int → Int} {T : Int} (hTS : TS A σ E T) (hrb : az_r σ 40 1 = some 16) {a : Int} (hq : OKp a σ) (ha0 : 0 ≤ a) (ha1 : a ≤ T) {l : Int} (hl : zx σ 16 5 = l) (hl0 : 0 ≤ l) (hl1 : l ≤ a) {p : Int} (hp0 : 0 ≤ p) (hp1 : p ≤ 10) (hk : (zx σ 11 a) = 2 ∨ (zx σ 11 a) = 3) : cal (d + 3) 23 [.ref 40] σ (fun r τ => r = none ∧ CR sz κ A g τ ∧ Mod σ τ [40, 16, 17, 18] ∧ XX 16 σ τ T a l (Q1 σ a p) (FQ σ a 1 p (fun _ => True))) := by
  have hTb := hTS.2.1
  have htk := hTS.2.2.2 a (by omega) (by omega)
  have hke := htk.2
  have hvb := Tk_v htk.1
  have hkl := zx_lo σ 11 a
  have hkh := zx_hi σ 11 a
  have hvl := zx_lo σ 13 a
  have hvh := zx_hi σ 13 a
  have hq2 := hq.1
  have hq3 := hq.2.1
  have hq4 := hq.2.2
  refine cal_of (M := (yX2_value, cX2_value, 2, none)) (cd := k_X2_value) (L := [some (.ref 40), none]) rfl (Nat.le_of_ble_eq_true rfl) rfl rfl ?_
  refine aw_aload_n rfl rfl rfl ?_
  refine aw_getr (b := 9) rfl rfl (hC.f.k 40 rfl) (hC.f.r 40 0 9 rfl) rfl ?_
  refine aw_aload_n rfl rfl rfl ?_
  refine aw_gk (v := a) (2) rfl rfl (hC.f.k 40 rfl) rfl hq2 rfl (fun _ _ => ?_)
  refine aw_fnc (c_tokVal hC hI hTS (by omega) (by omega)) rfl rfl rfl (Nat.le_of_ble_eq_true rfl) (Or.inr ⟨_, rfl, (hC.f.k 9 rfl)⟩) rfl ?_
  refine aw_istore_n rfl (Nat.le_of_ble_eq_true rfl) rfl rfl ?_
  change aw _ _ _ _ 12 [some (.ref 40), some (.int (iI _))] _ _
  refine aw_aload_n rfl rfl rfl ?_
  refine aw_gk (v := (zx σ 11 a)) (3) rfl rfl (hC.f.k 40 rfl) rfl hq3 rfl (fun _ _ => ?_)
  refine aw_iconst rfl rfl ?_
  refine aw_icmp (p' := 34) rfl ⟨by omega, by omega⟩ ⟨by omega, by omega⟩ rfl rfl (fun c1 => ?_) (fun c1 => ?_)
  · dsimp only [zc] at c1
    refine aw_aload_n rfl rfl rfl ?_
    refine aw_getr (b := 16) rfl rfl (hC.f.k 40 rfl) hrb rfl ?_
    refine aw_aload_n rfl rfl rfl ?_
    refine aw_gk (v := (zx σ 11 a)) (3) rfl rfl (hC.f.k 40 rfl) rfl hq3 rfl (fun _ _ => ?_)
    refine aw_iload_n rfl rfl rfl ?_
    refine aw_calc (c_add16 hC hI ⟨by omega, by omega⟩ ⟨by omega, by omega⟩ hl (by omega) (by omega)) rfl rfl rfl (Nat.le_of_ble_eq_true rfl) (Or.inr ⟨_, rfl, (hC.f.k 16 rfl)⟩) rfl ?_
    rintro _ τ2 ⟨rfl, hM2, hD2, hL2, hR2, hU2, hW2⟩
    change aw _ _ _ _ 46 [some (.ref 40), some (.int (iI _))] [] _
    refine aw_aload_n rfl rfl rfl ?_
    refine aw_calc (c_advance hM2 hI (hTS.mod hD2 rfl rfl rfl rfl) (hq.mod hD2 rfl rfl) (by omega) (by omega)) rfl rfl rfl (Nat.le_of_ble_eq_true rfl) (Or.inr ⟨_, rfl, (hM2.f.k 40 rfl)⟩) rfl ?_
    rintro _ τ3 ⟨rfl, hM3, hD3, hO3⟩
    change aw _ _ _ _ 50 [some (.ref 40), some (.int (iI _))] [] _
    refine aw_retv rfl ?_
    have eo : ∃ o : Int, trO o = (zx σ 11 a) ∧ ((o = 400 ∧ (zx σ 11 a) = 2) ∨ (o = 401 ∧ (zx σ 11 a) = 3)) := by
      rcases hk with h | h
      · exact ⟨400, by rw [h]; rfl, Or.inl ⟨rfl, h⟩⟩
      · exact ⟨401, by rw [h]; rfl, Or.inr ⟨rfl, h⟩⟩
    obtain ⟨o, ho, hoc⟩ := eo
    refine ⟨rfl, hM3, ((hD2.su (T := [40, 16, 17, 18]) rfl).tr (hD3.su (T := [40, 16, 17, 18]) rfl)), by rw [hD3.z 16 rfl]; exact hR2, Or.inl ⟨a + 1, [(o, (zx σ 13 a))], hO3, ⟨by omega, by omega⟩, by rw [hD3.z 16 rfl]; exact hL2, by simp only [List.length_cons, List.length_nil]; omega, ⟨?_, ?_, trivial⟩, fun w hw => ?_, fun t ht => ?_, fun c hc => ?_⟩⟩
    · rw [hD3.z 17 rfl, hU2, if_pos rfl]; exact ho.symm
    · rw [hD3.z 18 rfl, hW2, if_pos rfl]
    · rw [hD3.z 17 rfl, hD3.z 18 rfl, hU2, hW2, if_neg (by omega), if_neg (by omega)]
      exact ⟨rfl, rfl⟩
    · refine ⟨false :: t, ?_, rfl⟩
      rcases hoc with ⟨rfl, h⟩ | ⟨rfl, h⟩
      · exact Or.inl ⟨rfl, ⟨by omega, by omega⟩, by omega, rfl⟩
      · exact Or.inr (Or.inl ⟨rfl, ⟨by omega, by omega⟩, by omega, rfl⟩)
    · refine Rch.one hc.2.2.2 (live_1 hc) ?_
      rw [stp_1 hc, ← go_eq hc]
      unfold sBegins
      rw [hc.1]
      rcases hoc with ⟨rfl, h⟩ | ⟨rfl, h⟩
      · rw [if_pos h, if_neg (by omega)]
      · rw [if_neg (by omega), if_pos h]
  · dsimp only [zc] at c1
    refine aw_iload_n rfl rfl rfl ?_
    refine aw_ldc (100000) rfl rfl rfl ?_
    refine aw_icmp (p' := 34) rfl ⟨by omega, by omega⟩ ⟨by omega, by omega⟩ rfl rfl (fun c4 => ?_) (fun c4 => ?_)
    · dsimp only [zc] at c4
      refine aw_aload_n rfl rfl rfl ?_
      refine aw_getr (b := 16) rfl rfl (hC.f.k 40 rfl) hrb rfl ?_
      refine aw_aload_n rfl rfl rfl ?_
      refine aw_gk (v := (zx σ 11 a)) (3) rfl rfl (hC.f.k 40 rfl) rfl hq3 rfl (fun _ _ => ?_)
      refine aw_iload_n rfl rfl rfl ?_
      refine aw_calc (c_add16 hC hI ⟨by omega, by omega⟩ ⟨by omega, by omega⟩ hl (by omega) (by omega)) rfl rfl rfl (Nat.le_of_ble_eq_true rfl) (Or.inr ⟨_, rfl, (hC.f.k 16 rfl)⟩) rfl ?_
      rintro _ τ5 ⟨rfl, hM5, hD5, hL5, hR5, hU5, hW5⟩
      change aw _ _ _ _ 46 [some (.ref 40), some (.int (iI _))] [] _
      refine aw_aload_n rfl rfl rfl ?_
      refine aw_calc (c_advance hM5 hI (hTS.mod hD5 rfl rfl rfl rfl) (hq.mod hD5 rfl rfl) (by omega) (by omega)) rfl rfl rfl (Nat.le_of_ble_eq_true rfl) (Or.inr ⟨_, rfl, (hM5.f.k 40 rfl)⟩) rfl ?_
      rintro _ τ6 ⟨rfl, hM6, hD6, hO6⟩
      change aw _ _ _ _ 50 [some (.ref 40), some (.int (iI _))] [] _
      refine aw_retv rfl ?_
      have eo : ∃ o : Int, trO o = (zx σ 11 a) ∧ ((o = 400 ∧ (zx σ 11 a) = 2) ∨ (o = 401 ∧ (zx σ 11 a) = 3)) := by
        rcases hk with h | h
        · exact ⟨400, by rw [h]; rfl, Or.inl ⟨rfl, h⟩⟩
        · exact ⟨401, by rw [h]; rfl, Or.inr ⟨rfl, h⟩⟩
      obtain ⟨o, ho, hoc⟩ := eo
      refine ⟨rfl, hM6, ((hD5.su (T := [40, 16, 17, 18]) rfl).tr (hD6.su (T := [40, 16, 17, 18]) rfl)), by rw [hD6.z 16 rfl]; exact hR5, Or.inl ⟨a + 1, [(o, (zx σ 13 a))], hO6, ⟨by omega, by omega⟩, by rw [hD6.z 16 rfl]; exact hL5, by simp only [List.length_cons, List.length_nil]; omega, ⟨?_, ?_, trivial⟩, fun w hw => ?_, fun t ht => ?_, fun c hc => ?_⟩⟩
      · rw [hD6.z 17 rfl, hU5, if_pos rfl]; exact ho.symm
      · rw [hD6.z 18 rfl, hW5, if_pos rfl]
      · rw [hD6.z 17 rfl, hD6.z 18 rfl, hU5, hW5, if_neg (by omega), if_neg (by omega)]
        exact ⟨rfl, rfl⟩
      · refine ⟨false :: t, ?_, rfl⟩
        rcases hoc with ⟨rfl, h⟩ | ⟨rfl, h⟩
        · exact Or.inl ⟨rfl, ⟨by omega, by omega⟩, by omega, rfl⟩
        · exact Or.inr (Or.inl ⟨rfl, ⟨by omega, by omega⟩, by omega, rfl⟩)
      · refine Rch.one hc.2.2.2 (live_1 hc) ?_
        rw [stp_1 hc, ← go_eq hc]
        unfold sBegins
        rw [hc.1]
        rcases hoc with ⟨rfl, h⟩ | ⟨rfl, h⟩
        · rw [if_pos h, if_neg (by omega)]
        · rw [if_neg (by omega), if_pos h]
    · dsimp only [zc] at c4
      refine aw_aload_n rfl rfl rfl ?_
      refine aw_iconst rfl rfl ?_
      refine aw_calc (c_fail hC hI hq ⟨by omega, by omega⟩) rfl rfl rfl (Nat.le_of_ble_eq_true rfl) (Or.inr ⟨_, rfl, (hC.f.k 40 rfl)⟩) rfl ?_
      rintro _ τ7 ⟨rfl, hM7, hD7, hB7⟩
      change aw _ _ _ _ 31 [some (.ref 40), some (.int (iI _))] [] _
      refine aw_goto (p' := 50) rfl rfl ?_
      refine aw_retv rfl ?_
      refine ⟨rfl, hM7, (hD7.su (T := [40, 16, 17, 18]) rfl), by rw [hD7.z 16 rfl], Or.inr ⟨a, 2, hB7, by decide, ⟨by omega, by omega⟩, by rw [hD7.z 16 rfl, hl]; omega, ?_⟩⟩
      intro c hc _
      refine ⟨_, Rch.one hc.2.2.2 (live_1 hc) rfl, ?_⟩
      rw [stp_1 hc]
      unfold sBegins
      rw [hc.1, if_pos (show zx σ 11 a = 2 by omega), if_pos (by omega)]
      exact ⟨rfl, by show zx σ 12 c.n = _; rw [hc.1]⟩
set_option maxRecDepth 10000 in
set_option maxHeartbeats 2000000 in
theorem c_value22 {d : Nat} {sz : Nat} {κ : Nat × (Nat → Int32) × Option Nat} {A : Nat → Int → Int} {g : Nat → Nat} {σ : az_S} (hC : CR sz κ A g σ) (hI : MI sz A) {E : Int → Int} {T : Int} (hTS : TS A σ E T) (hrb : az_r σ 40 1 = some 22) {a : Int} (hq : OKp a σ) (ha0 : 0 ≤ a) (ha1 : a ≤ T) {l : Int} (hl : zx σ 22 5 = l) (hl0 : 0 ≤ l) (hl1 : l ≤ a) {p : Int} (hp0 : 0 ≤ p) (hp1 : p ≤ 10) (hk : (zx σ 11 a) = 2 ∨ (zx σ 11 a) = 3) : cal (d + 3) 23 [.ref 40] σ (fun r τ => r = none ∧ CR sz κ A g τ ∧ Mod σ τ [40, 22, 23, 24] ∧ XX 22 σ τ T a l (Q1 σ a p) (FQ σ a 1 p (fun _ => True))) := by
  have hTb := hTS.2.1
  have htk := hTS.2.2.2 a (by omega) (by omega)
  have hke := htk.2
  have hvb := Tk_v htk.1
  have hkl := zx_lo σ 11 a
  have hkh := zx_hi σ 11 a
  have hvl := zx_lo σ 13 a
  have hvh := zx_hi σ 13 a
  have hq2 := hq.1
  have hq3 := hq.2.1
  have hq4 := hq.2.2
  refine cal_of (M := (yX2_value, cX2_value, 2, none)) (cd := k_X2_value) (L := [some (.ref 40), none]) rfl (Nat.le_of_ble_eq_true rfl) rfl rfl ?_
  refine aw_aload_n rfl rfl rfl ?_
  refine aw_getr (b := 9) rfl rfl (hC.f.k 40 rfl) (hC.f.r 40 0 9 rfl) rfl ?_
  refine aw_aload_n rfl rfl rfl ?_
  refine aw_gk (v := a) (2) rfl rfl (hC.f.k 40 rfl) rfl hq2 rfl (fun _ _ => ?_)
  refine aw_fnc (c_tokVal hC hI hTS (by omega) (by omega)) rfl rfl rfl (Nat.le_of_ble_eq_true rfl) (Or.inr ⟨_, rfl, (hC.f.k 9 rfl)⟩) rfl ?_
  refine aw_istore_n rfl (Nat.le_of_ble_eq_true rfl) rfl rfl ?_
  change aw _ _ _ _ 12 [some (.ref 40), some (.int (iI _))] _ _
  refine aw_aload_n rfl rfl rfl ?_
  refine aw_gk (v := (zx σ 11 a)) (3) rfl rfl (hC.f.k 40 rfl) rfl hq3 rfl (fun _ _ => ?_)
  refine aw_iconst rfl rfl ?_
  refine aw_icmp (p' := 34) rfl ⟨by omega, by omega⟩ ⟨by omega, by omega⟩ rfl rfl (fun c1 => ?_) (fun c1 => ?_)
  · dsimp only [zc] at c1
    refine aw_aload_n rfl rfl rfl ?_
    refine aw_getr (b := 22) rfl rfl (hC.f.k 40 rfl) hrb rfl ?_
    refine aw_aload_n rfl rfl rfl ?_
    refine aw_gk (v := (zx σ 11 a)) (3) rfl rfl (hC.f.k 40 rfl) rfl hq3 rfl (fun _ _ => ?_)
    refine aw_iload_n rfl rfl rfl ?_
    refine aw_calc (c_add22 hC hI ⟨by omega, by omega⟩ ⟨by omega, by omega⟩ hl (by omega) (by omega)) rfl rfl rfl (Nat.le_of_ble_eq_true rfl) (Or.inr ⟨_, rfl, (hC.f.k 22 rfl)⟩) rfl ?_
    rintro _ τ2 ⟨rfl, hM2, hD2, hL2, hR2, hU2, hW2⟩
    change aw _ _ _ _ 46 [some (.ref 40), some (.int (iI _))] [] _
    refine aw_aload_n rfl rfl rfl ?_
    refine aw_calc (c_advance hM2 hI (hTS.mod hD2 rfl rfl rfl rfl) (hq.mod hD2 rfl rfl) (by omega) (by omega)) rfl rfl rfl (Nat.le_of_ble_eq_true rfl) (Or.inr ⟨_, rfl, (hM2.f.k 40 rfl)⟩) rfl ?_
    rintro _ τ3 ⟨rfl, hM3, hD3, hO3⟩
    change aw _ _ _ _ 50 [some (.ref 40), some (.int (iI _))] [] _
    refine aw_retv rfl ?_
    have eo : ∃ o : Int, trO o = (zx σ 11 a) ∧ ((o = 400 ∧ (zx σ 11 a) = 2) ∨ (o = 401 ∧ (zx σ 11 a) = 3)) := by
      rcases hk with h | h
      · exact ⟨400, by rw [h]; rfl, Or.inl ⟨rfl, h⟩⟩
      · exact ⟨401, by rw [h]; rfl, Or.inr ⟨rfl, h⟩⟩
    obtain ⟨o, ho, hoc⟩ := eo
    refine ⟨rfl, hM3, ((hD2.su (T := [40, 22, 23, 24]) rfl).tr (hD3.su (T := [40, 22, 23, 24]) rfl)), by rw [hD3.z 22 rfl]; exact hR2, Or.inl ⟨a + 1, [(o, (zx σ 13 a))], hO3, ⟨by omega, by omega⟩, by rw [hD3.z 22 rfl]; exact hL2, by simp only [List.length_cons, List.length_nil]; omega, ⟨?_, ?_, trivial⟩, fun w hw => ?_, fun t ht => ?_, fun c hc => ?_⟩⟩
    · rw [hD3.z 23 rfl, hU2, if_pos rfl]; exact ho.symm
    · rw [hD3.z 24 rfl, hW2, if_pos rfl]
    · rw [hD3.z 23 rfl, hD3.z 24 rfl, hU2, hW2, if_neg (by omega), if_neg (by omega)]
      exact ⟨rfl, rfl⟩
    · refine ⟨false :: t, ?_, rfl⟩
      rcases hoc with ⟨rfl, h⟩ | ⟨rfl, h⟩
      · exact Or.inl ⟨rfl, ⟨by omega, by omega⟩, by omega, rfl⟩
      · exact Or.inr (Or.inl ⟨rfl, ⟨by omega, by omega⟩, by omega, rfl⟩)
    · refine Rch.one hc.2.2.2 (live_1 hc) ?_
      rw [stp_1 hc, ← go_eq hc]
      unfold sBegins
      rw [hc.1]
      rcases hoc with ⟨rfl, h⟩ | ⟨rfl, h⟩
      · rw [if_pos h, if_neg (by omega)]
      · rw [if_neg (by omega), if_pos h]
  · dsimp only [zc] at c1
    refine aw_iload_n rfl rfl rfl ?_
    refine aw_ldc (100000) rfl rfl rfl ?_
    refine aw_icmp (p' := 34) rfl ⟨by omega, by omega⟩ ⟨by omega, by omega⟩ rfl rfl (fun c4 => ?_) (fun c4 => ?_)
    · dsimp only [zc] at c4
      refine aw_aload_n rfl rfl rfl ?_
      refine aw_getr (b := 22) rfl rfl (hC.f.k 40 rfl) hrb rfl ?_
      refine aw_aload_n rfl rfl rfl ?_
      refine aw_gk (v := (zx σ 11 a)) (3) rfl rfl (hC.f.k 40 rfl) rfl hq3 rfl (fun _ _ => ?_)
      refine aw_iload_n rfl rfl rfl ?_
      refine aw_calc (c_add22 hC hI ⟨by omega, by omega⟩ ⟨by omega, by omega⟩ hl (by omega) (by omega)) rfl rfl rfl (Nat.le_of_ble_eq_true rfl) (Or.inr ⟨_, rfl, (hC.f.k 22 rfl)⟩) rfl ?_
      rintro _ τ5 ⟨rfl, hM5, hD5, hL5, hR5, hU5, hW5⟩
      change aw _ _ _ _ 46 [some (.ref 40), some (.int (iI _))] [] _
      refine aw_aload_n rfl rfl rfl ?_
      refine aw_calc (c_advance hM5 hI (hTS.mod hD5 rfl rfl rfl rfl) (hq.mod hD5 rfl rfl) (by omega) (by omega)) rfl rfl rfl (Nat.le_of_ble_eq_true rfl) (Or.inr ⟨_, rfl, (hM5.f.k 40 rfl)⟩) rfl ?_
      rintro _ τ6 ⟨rfl, hM6, hD6, hO6⟩
      change aw _ _ _ _ 50 [some (.ref 40), some (.int (iI _))] [] _
      refine aw_retv rfl ?_
      have eo : ∃ o : Int, trO o = (zx σ 11 a) ∧ ((o = 400 ∧ (zx σ 11 a) = 2) ∨ (o = 401 ∧ (zx σ 11 a) = 3)) := by
        rcases hk with h | h
        · exact ⟨400, by rw [h]; rfl, Or.inl ⟨rfl, h⟩⟩
        · exact ⟨401, by rw [h]; rfl, Or.inr ⟨rfl, h⟩⟩
      obtain ⟨o, ho, hoc⟩ := eo
      refine ⟨rfl, hM6, ((hD5.su (T := [40, 22, 23, 24]) rfl).tr (hD6.su (T := [40, 22, 23, 24]) rfl)), by rw [hD6.z 22 rfl]; exact hR5, Or.inl ⟨a + 1, [(o, (zx σ 13 a))], hO6, ⟨by omega, by omega⟩, by rw [hD6.z 22 rfl]; exact hL5, by simp only [List.length_cons, List.length_nil]; omega, ⟨?_, ?_, trivial⟩, fun w hw => ?_, fun t ht => ?_, fun c hc => ?_⟩⟩
      · rw [hD6.z 23 rfl, hU5, if_pos rfl]; exact ho.symm
      · rw [hD6.z 24 rfl, hW5, if_pos rfl]
      · rw [hD6.z 23 rfl, hD6.z 24 rfl, hU5, hW5, if_neg (by omega), if_neg (by omega)]
        exact ⟨rfl, rfl⟩
      · refine ⟨false :: t, ?_, rfl⟩
        rcases hoc with ⟨rfl, h⟩ | ⟨rfl, h⟩
        · exact Or.inl ⟨rfl, ⟨by omega, by omega⟩, by omega, rfl⟩
        · exact Or.inr (Or.inl ⟨rfl, ⟨by omega, by omega⟩, by omega, rfl⟩)
      · refine Rch.one hc.2.2.2 (live_1 hc) ?_
        rw [stp_1 hc, ← go_eq hc]
        unfold sBegins
        rw [hc.1]
        rcases hoc with ⟨rfl, h⟩ | ⟨rfl, h⟩
        · rw [if_pos h, if_neg (by omega)]
        · rw [if_neg (by omega), if_pos h]
    · dsimp only [zc] at c4
      refine aw_aload_n rfl rfl rfl ?_
      refine aw_iconst rfl rfl ?_
      refine aw_calc (c_fail hC hI hq ⟨by omega, by omega⟩) rfl rfl rfl (Nat.le_of_ble_eq_true rfl) (Or.inr ⟨_, rfl, (hC.f.k 40 rfl)⟩) rfl ?_
      rintro _ τ7 ⟨rfl, hM7, hD7, hB7⟩
      change aw _ _ _ _ 31 [some (.ref 40), some (.int (iI _))] [] _
      refine aw_goto (p' := 50) rfl rfl ?_
      refine aw_retv rfl ?_
      refine ⟨rfl, hM7, (hD7.su (T := [40, 22, 23, 24]) rfl), by rw [hD7.z 22 rfl], Or.inr ⟨a, 2, hB7, by decide, ⟨by omega, by omega⟩, by rw [hD7.z 22 rfl, hl]; omega, ?_⟩⟩
      intro c hc _
      refine ⟨_, Rch.one hc.2.2.2 (live_1 hc) rfl, ?_⟩
      rw [stp_1 hc]
      unfold sBegins
      rw [hc.1, if_pos (show zx σ 11 a = 2 by omega), if_pos (by omega)]
      exact ⟨rfl, by show zx σ 12 c.n = _; rw [hc.1]⟩
