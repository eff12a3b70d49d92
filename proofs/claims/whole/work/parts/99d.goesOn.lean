set_option maxRecDepth 10000 in
set_option maxHeartbeats 2000000 in
theorem g368 {d : Nat} {sz : Nat} {A : Nat → Int → Int} {K V S E : Int → Int} {T N : Int} {σ0 σ : az_S} {c : Cf} (hI : MI sz A) (hN : 0 ≤ N ∧ N ≤ 400) (hTk : TkN (A 74) N K V S E T) (hM : MC sz A K V S E N σ0 σ c) (hC : CI T c) (h0 : c.wr = 0) (hst : c.st = 2) {q : Int × Int} {r : List (Int × Int)} (he : c.fr = q :: r) (k17 : ¬ (17 ≤ K c.n ∧ K c.n ≤ 20)) (k7 : ¬ ((q.1 = 7 ∨ q.1 = 10) ∧ K c.n = 22)) (k9 : ¬ (q.1 = 9 ∧ K c.n = 25)) (k5 : ¬ (q.1 = 5 ∧ 11 ≤ K c.n ∧ K c.n ≤ 16)) (k6 : ¬ q.1 = 6) (k2 : ¬ (q.1 = 2 ∧ K c.n = 26)) : aw (d + 6) k_X12_goesOn none (fun r τ => r = none ∧ MC sz A K V S E N σ0 τ (sGoesOn K V S c)) 368 [some (.ref 42), some (.int (iI q.1)), none] [] σ := by
  obtain ⟨⟨bE, bF, bW⟩, bO, bN, bV⟩ := CI_b hTk hC
  have htf := hM.tf hTk bN
  obtain ⟨hNN, hW⟩ : CN T c ∧ nW (topF c) := by
    rcases bV with q | ⟨q1, q2⟩
    · omega
    · unfold SP at q2
      refine ⟨q1, ?_⟩
      rcases q2 with q | q | q | q
      · omega
      · omega
      · omega
      · exact q.2
  have t := topF_c he
  have hqb : 2 ≤ q.1 ∧ q.1 ≤ 10 := by have z := hW; rw [t.1] at z; unfold nW at z; omega
  have he3 : (c.fr.length : Int) = (r.length : Int) + 1 := by rw [he, len_c]
  refine aw_aload_n rfl rfl rfl ?_
  refine aw_iconst rfl rfl ?_
  refine aw_calc (x_errs hM h0 (f := 1) ⟨by omega, by omega⟩) rfl rfl rfl (Nat.le_of_ble_eq_true rfl) (Or.inr ⟨_, rfl, (hM.f.k 42 rfl)⟩) rfl ?_
  rintro _ τ9 ⟨rfl, hM9⟩
  change aw _ _ _ _ 373 [some (.ref 42), some (.int (iI q.1)), none] [] _
  refine aw_retv rfl ⟨rfl, ?_⟩
  unfold sGoesOn
  rw [t.1, if_neg k17, if_neg k7, if_neg k9, if_neg k5, if_neg k6, if_neg k2]
  exact hM9
set_option maxRecDepth 10000 in
set_option maxHeartbeats 2000000 in
theorem g333 {d : Nat} {sz : Nat} {A : Nat → Int → Int} {K V S E : Int → Int} {T N : Int} {σ0 σ : az_S} {c : Cf} (hI : MI sz A) (hN : 0 ≤ N ∧ N ≤ 400) (hTk : TkN (A 74) N K V S E T) (hM : MC sz A K V S E N σ0 σ c) (hC : CI T c) (h0 : c.wr = 0) (hst : c.st = 2) {q : Int × Int} {r : List (Int × Int)} (he : c.fr = q :: r) (k17 : ¬ (17 ≤ K c.n ∧ K c.n ≤ 20)) (k2 : q.1 = 2 ∧ K c.n = 26) : aw (d + 6) k_X12_goesOn none (fun r τ => r = none ∧ MC sz A K V S E N σ0 τ (sGoesOn K V S c)) 333 [some (.ref 42), some (.int (iI q.1)), none] [] σ := by
  obtain ⟨⟨bE, bF, bW⟩, bO, bN, bV⟩ := CI_b hTk hC
  have htf := hM.tf hTk bN
  obtain ⟨hNN, hW⟩ : CN T c ∧ nW (topF c) := by
    rcases bV with q | ⟨q1, q2⟩
    · omega
    · unfold SP at q2
      refine ⟨q1, ?_⟩
      rcases q2 with q | q | q | q
      · omega
      · omega
      · omega
      · exact q.2
  have t := topF_c he
  have hqb : 2 ≤ q.1 ∧ q.1 ≤ 10 := by have z := hW; rw [t.1] at z; unfold nW at z; omega
  have he3 : (c.fr.length : Int) = (r.length : Int) + 1 := by rw [he, len_c]
  obtain ⟨k2, k26⟩ := k2
  have hlt : 0 ≤ c.n ∧ c.n < T := ⟨bN.1, n_lt (fun n a b => (hTk.2.2 n a b).2) bN (by omega)⟩
  refine aw_aload_n rfl rfl rfl ?_
  refine aw_iconst rfl rfl ?_
  refine aw_calc (x_works hM (ρ := 3) ⟨by omega, by omega⟩ (by omega) (by omega) (by omega) hM.win) rfl rfl rfl (Nat.le_of_ble_eq_true rfl) (Or.inr ⟨_, rfl, (hM.f.k 42 rfl)⟩) rfl ?_
  rintro _ τ1 ⟨rfl, hM1⟩
  change aw _ _ _ _ 338 [some (.ref 42), some (.int (iI q.1)), none] [] _
  have hwl := works_len (c := c) (ρ := 3)
  have hwf : (works 3 c).fr = c.fr := rfl
  have hwe : ((works 3 c).em.length : Int) ≤ 801 := by omega
  refine aw_aload_n rfl rfl rfl ?_
  refine aw_dup rfl rfl rfl ?_
  refine aw_gk (v := (c.fr.length : Int)) (58) rfl rfl (hM1.f.k 42 rfl) rfl hM1.v58 rfl (fun _ _ => ?_)
  refine aw_iconst rfl rfl ?_
  refine aw_isub rfl rfl ?_
  refine aw_fw (58) hM1.mv rfl rfl (hM1.f.k 42 rfl) rfl rfl rfl ⟨by omega, by omega⟩ rfl (fun τ2 hV2 hD2 hU2 => ?_)
  have hM2 := hM1.pop hV2 hD2 hU2 he rfl
  refine aw_aload_n rfl rfl rfl ?_
  refine aw_sipush rfl rfl rfl ?_
  refine aw_iconst rfl rfl ?_
  refine aw_calc (x_emits hM2 (by show ((works 3 c).em.length : Int) < 900; omega) (o := 409) ⟨by omega, by omega⟩ ⟨by omega, by omega⟩) rfl rfl rfl (Nat.le_of_ble_eq_true rfl) (Or.inr ⟨_, rfl, (hM2.f.k 42 rfl)⟩) rfl ?_
  rintro _ τ3 ⟨rfl, hM3⟩
  change aw _ _ _ _ 356 [some (.ref 42), some (.int (iI q.1)), none] [] _
  refine aw_aload_n rfl rfl rfl ?_
  refine aw_calc (x_next hI hN hTk hM3 hlt) rfl rfl rfl (Nat.le_of_ble_eq_true rfl) (Or.inr ⟨_, rfl, (hM3.f.k 42 rfl)⟩) rfl ?_
  rintro _ τ4 ⟨rfl, hM4⟩
  change aw _ _ _ _ 360 [some (.ref 42), some (.int (iI q.1)), none] [] _
  refine aw_aload_n rfl rfl rfl ?_
  refine aw_iconst rfl rfl ?_
  refine aw_fw (78) hM4.mv rfl rfl (hM4.f.k 42 rfl) rfl rfl rfl ⟨by omega, by omega⟩ rfl (fun τ5 hV5 hD5 hU5 => ?_)
  have hM5 := hM4.to hV5 hD5 hU5
  refine aw_goto (p' := 373) rfl rfl ?_
  refine aw_retv rfl ⟨rfl, ?_⟩
  unfold sGoesOn
  rw [t.1, if_neg k17, if_neg (by omega), if_neg (by omega), if_neg (by omega), if_neg (by omega), if_pos ⟨k2, k26⟩]
  exact hM5
set_option maxRecDepth 10000 in
set_option maxHeartbeats 2000000 in
theorem g281 {d : Nat} {sz : Nat} {A : Nat → Int → Int} {K V S E : Int → Int} {T N : Int} {σ0 σ : az_S} {c : Cf} (hI : MI sz A) (hN : 0 ≤ N ∧ N ≤ 400) (hTk : TkN (A 74) N K V S E T) (hM : MC sz A K V S E N σ0 σ c) (hC : CI T c) (h0 : c.wr = 0) (hst : c.st = 2) {q : Int × Int} {r : List (Int × Int)} (he : c.fr = q :: r) (k17 : ¬ (17 ≤ K c.n ∧ K c.n ≤ 20)) (k6 : q.1 = 6) : aw (d + 6) k_X12_goesOn none (fun r τ => r = none ∧ MC sz A K V S E N σ0 τ (sGoesOn K V S c)) 281 [some (.ref 42), some (.int (iI q.1)), none] [] σ := by
  obtain ⟨⟨bE, bF, bW⟩, bO, bN, bV⟩ := CI_b hTk hC
  have htf := hM.tf hTk bN
  obtain ⟨hNN, hW⟩ : CN T c ∧ nW (topF c) := by
    rcases bV with q | ⟨q1, q2⟩
    · omega
    · unfold SP at q2
      refine ⟨q1, ?_⟩
      rcases q2 with q | q | q | q
      · omega
      · omega
      · omega
      · exact q.2
  have t := topF_c he
  have hqb : 2 ≤ q.1 ∧ q.1 ≤ 10 := by have z := hW; rw [t.1] at z; unfold nW at z; omega
  have he3 : (c.fr.length : Int) = (r.length : Int) + 1 := by rw [he, len_c]
  refine aw_aload_n rfl rfl rfl ?_
  refine aw_iconst rfl rfl ?_
  refine aw_calc (x_works hM (ρ := 3) ⟨by omega, by omega⟩ (by omega) (by omega) (by omega) hM.win) rfl rfl rfl (Nat.le_of_ble_eq_true rfl) (Or.inr ⟨_, rfl, (hM.f.k 42 rfl)⟩) rfl ?_
  rintro _ τ1 ⟨rfl, hM1⟩
  change aw _ _ _ _ 286 [some (.ref 42), some (.int (iI q.1)), none] [] _
  have hwl := works_len (c := c) (ρ := 3)
  have hwf : (works 3 c).fr = c.fr := rfl
  have hwe : ((works 3 c).em.length : Int) ≤ 801 := by omega
  have e2 : frC (zx τ1 79) (zx τ1 94) (zx τ1 95) c.fr := hM1.2.2.2.2.2.1
  rw [he] at e2
  refine aw_aload_n rfl rfl rfl ?_
  refine aw_getr (b := 95) rfl rfl (hM1.f.k 42 rfl) (hM1.f.r 42 79 95 rfl) rfl ?_
  refine aw_aload_n rfl rfl rfl ?_
  refine aw_gk (v := (c.fr.length : Int)) (58) rfl rfl (hM1.f.k 42 rfl) rfl hM1.v58 rfl (fun _ _ => ?_)
  refine aw_ak (v := q.2) (N := 65) rfl (hM1.f.s 95 rfl) (by omega) (by omega) (by omega) (by rw [he3]; exact e2.1.2.2 k6) rfl (fun _ _ => ?_)
  refine aw_istore_n rfl (Nat.le_of_ble_eq_true rfl) rfl rfl ?_
  change aw _ _ _ _ 296 [some (.ref 42), some (.int (iI q.1)), some (.int (iI q.2))] [] _
  refine aw_aload_n rfl rfl rfl ?_
  refine aw_dup rfl rfl rfl ?_
  refine aw_gk (v := (c.fr.length : Int)) (58) rfl rfl (hM1.f.k 42 rfl) rfl hM1.v58 rfl (fun _ _ => ?_)
  refine aw_iconst rfl rfl ?_
  refine aw_isub rfl rfl ?_
  refine aw_fw (58) hM1.mv rfl rfl (hM1.f.k 42 rfl) rfl rfl rfl ⟨by omega, by omega⟩ rfl (fun τ2 hV2 hD2 hU2 => ?_)
  have hM2 := hM1.pop hV2 hD2 hU2 he rfl
  refine aw_aload_n rfl rfl rfl ?_
  refine aw_iload_n rfl rfl rfl ?_
  refine aw_iconst rfl rfl ?_
  refine aw_calc (x_emits hM2 (by show ((works 3 c).em.length : Int) < 900; omega) (o := q.2) ⟨by omega, by omega⟩ ⟨by omega, by omega⟩) rfl rfl rfl (Nat.le_of_ble_eq_true rfl) (Or.inr ⟨_, rfl, (hM2.f.k 42 rfl)⟩) rfl ?_
  rintro _ τ3 ⟨rfl, hM3⟩
  change aw _ _ _ _ 312 [some (.ref 42), some (.int (iI q.1)), some (.int (iI q.2))] [] _
  have hfv : fv c.fr.tail := by
    have h1 := hNN.1
    rw [he] at h1 ⊢
    cases r with
    | nil => have h2 : q.1 = 1 ∨ q.1 = 2 := h1; omega
    | cons q2 r2 => exact h1.1
  have htl : (c.fr.tail.length : Int) + 1 = c.fr.length := by rw [he, len_c]; rfl
  have hem : ((((works 3 c).pop.emit q.2 0).em.length : Nat) : Int) = (works 3 c).em.length + 1 := by
    show (((works 3 c).em ++ [(q.2, 0)]).length : Int) = _
    rw [List.length_append]; rfl
  refine aw_aload_n rfl rfl rfl ?_
  refine aw_calc (x_ask hM3 hfv (by show ((((works 3 c).pop.emit q.2 0).em.length : Nat) : Int) + (c.fr.tail.length : Int) ≤ 900; omega) (by show (c.fr.tail.length : Int) ≤ 64; omega) (by show c.op ≤ 100 ∧ -100 + (c.fr.tail.length : Int) ≤ c.op; omega)) rfl rfl rfl (Nat.le_of_ble_eq_true rfl) (Or.inr ⟨_, rfl, (hM3.f.k 42 rfl)⟩) rfl ?_
  rintro _ τ4 ⟨rfl, hM4⟩
  change aw _ _ _ _ 316 [some (.ref 42), some (.int (iI q.1)), some (.int (iI q.2))] [] _
  refine aw_goto (p' := 373) rfl rfl ?_
  refine aw_retv rfl ⟨rfl, ?_⟩
  unfold sGoesOn
  rw [t.1, t.2, if_neg k17, if_neg (by omega), if_neg (by omega), if_neg (by omega), if_pos k6]
  exact hM4
set_option maxRecDepth 10000 in
set_option maxHeartbeats 2000000 in
theorem g232 {d : Nat} {sz : Nat} {A : Nat → Int → Int} {K V S E : Int → Int} {T N : Int} {σ0 σ : az_S} {c : Cf} (hI : MI sz A) (hN : 0 ≤ N ∧ N ≤ 400) (hTk : TkN (A 74) N K V S E T) (hM : MC sz A K V S E N σ0 σ c) (hC : CI T c) (h0 : c.wr = 0) (hst : c.st = 2) {q : Int × Int} {r : List (Int × Int)} (he : c.fr = q :: r) (k17 : ¬ (17 ≤ K c.n ∧ K c.n ≤ 20)) (k5 : q.1 = 5 ∧ 11 ≤ K c.n ∧ K c.n ≤ 16) : aw (d + 6) k_X12_goesOn none (fun r τ => r = none ∧ MC sz A K V S E N σ0 τ (sGoesOn K V S c)) 232 [some (.ref 42), some (.int (iI q.1)), none] [] σ := by
  obtain ⟨⟨bE, bF, bW⟩, bO, bN, bV⟩ := CI_b hTk hC
  have htf := hM.tf hTk bN
  obtain ⟨hNN, hW⟩ : CN T c ∧ nW (topF c) := by
    rcases bV with q | ⟨q1, q2⟩
    · omega
    · unfold SP at q2
      refine ⟨q1, ?_⟩
      rcases q2 with q | q | q | q
      · omega
      · omega
      · omega
      · exact q.2
  have t := topF_c he
  have hqb : 2 ≤ q.1 ∧ q.1 ≤ 10 := by have z := hW; rw [t.1] at z; unfold nW at z; omega
  have he3 : (c.fr.length : Int) = (r.length : Int) + 1 := by rw [he, len_c]
  obtain ⟨k5, k11⟩ := k5
  have hlt : 0 ≤ c.n ∧ c.n < T := ⟨bN.1, n_lt (fun n a b => (hTk.2.2 n a b).2) bN (by omega)⟩
  refine aw_aload_n rfl rfl rfl ?_
  refine aw_iconst rfl rfl ?_
  refine aw_calc (x_works hM (ρ := 3) ⟨by omega, by omega⟩ (by omega) (by omega) (by omega) hM.win) rfl rfl rfl (Nat.le_of_ble_eq_true rfl) (Or.inr ⟨_, rfl, (hM.f.k 42 rfl)⟩) rfl ?_
  rintro _ τ1 ⟨rfl, hM1⟩
  change aw _ _ _ _ 237 [some (.ref 42), some (.int (iI q.1)), none] [] _
  have hwl := works_len (c := c) (ρ := 3)
  have hwf : (works 3 c).fr = c.fr := rfl
  have hwe : ((works 3 c).em.length : Int) ≤ 801 := by omega
  have ht : zx τ1 42 45 = sgn (K c.n) := hM1.v45.2.2 k11.1
  obtain ⟨t0, ht0⟩ : ∃ t0, sgn (K c.n) = t0 := ⟨_, rfl⟩
  rw [ht0] at ht
  have e2 : frC (zx τ1 79) (zx τ1 94) (zx τ1 95) c.fr := hM1.2.2.2.2.2.1
  rw [he] at e2
  refine aw_aload_n rfl rfl rfl ?_
  refine aw_getr (b := 95) rfl rfl (hM1.f.k 42 rfl) (hM1.f.r 42 79 95 rfl) rfl ?_
  refine aw_aload_n rfl rfl rfl ?_
  refine aw_gk (v := (c.fr.length : Int)) (58) rfl rfl (hM1.f.k 42 rfl) rfl hM1.v58 rfl (fun _ _ => ?_)
  refine aw_aload_n rfl rfl rfl ?_
  refine aw_gk (v := t0) (45) rfl rfl (hM1.f.k 42 rfl) rfl ht rfl (fun _ _ => ?_)
  refine aw_ss (N := 65) hM1.mv rfl (hM1.f.s 95 rfl) (by omega) rfl (by omega) (by omega) ⟨by omega, by omega⟩ rfl (fun τ2 hV2 hD2 hU2 => ?_)
  have hM2 := hM1.rep hV2 hD2 (by decide) (fr := q :: r) (by show _ = c.fr.length; rw [he]) (by
    rw [hD2.z 79 rfl, hD2.z 94 rfl]
    refine ⟨⟨e2.1.1, e2.1.2.1, fun z => by omega⟩, frC_up _ e2.2 (fun _ _ => rfl) (fun w hw => ⟨rfl, by rw [hU2, if_neg (by omega)]⟩)⟩)
  have h58 : zx τ2 42 58 = (c.fr.length : Int) := by rw [hD2.z 42 rfl]; exact hM1.v58
  refine aw_aload_n rfl rfl rfl ?_
  refine aw_getr (b := 79) rfl rfl (hM2.f.k 42 rfl) (hM2.f.r 42 59 79 rfl) rfl ?_
  refine aw_aload_n rfl rfl rfl ?_
  refine aw_gk (v := (c.fr.length : Int)) (58) rfl rfl (hM2.f.k 42 rfl) rfl h58 rfl (fun _ _ => ?_)
  refine aw_iconst rfl rfl ?_
  refine aw_isub rfl rfl ?_
  refine aw_bipush rfl rfl rfl ?_
  refine aw_ss (N := 64) hM2.mv rfl (hM2.f.s 79 rfl) (by omega) rfl (by omega) (by omega) ⟨by omega, by omega⟩ rfl (fun τ3 hV3 hD3 hU3 => ?_)
  have hM3 := hM2.rep hV3 hD3 (by decide) (fr := (6, t0) :: r) rfl (by
    rw [hD3.z 94 rfl, hD3.z 95 rfl, hD2.z 94 rfl]
    refine ⟨⟨by rw [hU3, if_pos (by omega)], fun z => ?_, fun _ => by rw [hU2, if_pos (by omega)]⟩, frC_up _ e2.2 (fun w hw => by rw [hU3, if_neg (by omega), hD2.z 79 rfl]) (fun w hw => ⟨rfl, by rw [hU2, if_neg (by omega)]⟩)⟩
    have z1 : (6 : Int) = 9 ∨ (6 : Int) = 10 := z
    omega)
  refine aw_aload_n rfl rfl rfl ?_
  refine aw_calc (x_next hI hN hTk hM3 hlt) rfl rfl rfl (Nat.le_of_ble_eq_true rfl) (Or.inr ⟨_, rfl, (hM3.f.k 42 rfl)⟩) rfl ?_
  rintro _ τ4 ⟨rfl, hM4⟩
  change aw _ _ _ _ 267 [some (.ref 42), some (.int (iI q.1)), none] [] _
  refine aw_aload_n rfl rfl rfl ?_
  refine aw_iconst rfl rfl ?_
  refine aw_fw (78) hM4.mv rfl rfl (hM4.f.k 42 rfl) rfl rfl rfl ⟨by omega, by omega⟩ rfl (fun τ5 hV5 hD5 hU5 => ?_)
  have hM5 := hM4.to hV5 hD5 hU5
  refine aw_goto (p' := 373) rfl rfl ?_
  have heq : sGoesOn K V S c = ((c.n + 1, 1, (6, t0) :: r, (works 3 c).ws, c.op, (works 3 c).em, c.ru, c.wr, c.wa) : Cf) := by
    unfold sGoesOn
    rw [t.1, if_neg k17, if_neg (by omega), if_neg (by omega), if_pos ⟨k5, k11⟩, ht0]
    show ((c.n + 1, 1, (6, t0) :: c.fr.tail, (works 3 c).ws, c.op, (works 3 c).em, c.ru, c.wr, c.wa) : Cf) = _
    rw [he]; rfl
  refine aw_retv rfl ⟨rfl, ?_⟩
  rw [heq]
  exact hM5
set_option maxRecDepth 10000 in
set_option maxHeartbeats 2000000 in
theorem g179 {d : Nat} {sz : Nat} {A : Nat → Int → Int} {K V S E : Int → Int} {T N : Int} {σ0 σ : az_S} {c : Cf} (hI : MI sz A) (hN : 0 ≤ N ∧ N ≤ 400) (hTk : TkN (A 74) N K V S E T) (hM : MC sz A K V S E N σ0 σ c) (hC : CI T c) (h0 : c.wr = 0) (hst : c.st = 2) {q : Int × Int} {r : List (Int × Int)} (he : c.fr = q :: r) (k17 : ¬ (17 ≤ K c.n ∧ K c.n ≤ 20)) (k9 : q.1 = 9 ∧ K c.n = 25) : aw (d + 6) k_X12_goesOn none (fun r τ => r = none ∧ MC sz A K V S E N σ0 τ (sGoesOn K V S c)) 179 [some (.ref 42), some (.int (iI q.1)), none] [] σ := by
  obtain ⟨⟨bE, bF, bW⟩, bO, bN, bV⟩ := CI_b hTk hC
  have htf := hM.tf hTk bN
  obtain ⟨hNN, hW⟩ : CN T c ∧ nW (topF c) := by
    rcases bV with q | ⟨q1, q2⟩
    · omega
    · unfold SP at q2
      refine ⟨q1, ?_⟩
      rcases q2 with q | q | q | q
      · omega
      · omega
      · omega
      · exact q.2
  have t := topF_c he
  have hqb : 2 ≤ q.1 ∧ q.1 ≤ 10 := by have z := hW; rw [t.1] at z; unfold nW at z; omega
  have he3 : (c.fr.length : Int) = (r.length : Int) + 1 := by rw [he, len_c]
  obtain ⟨k9, k25⟩ := k9
  have hlt : 0 ≤ c.n ∧ c.n < T := ⟨bN.1, n_lt (fun n a b => (hTk.2.2 n a b).2) bN (by omega)⟩
  refine aw_aload_n rfl rfl rfl ?_
  refine aw_iconst rfl rfl ?_
  refine aw_calc (x_works hM (ρ := 3) ⟨by omega, by omega⟩ (by omega) (by omega) (by omega) hM.win) rfl rfl rfl (Nat.le_of_ble_eq_true rfl) (Or.inr ⟨_, rfl, (hM.f.k 42 rfl)⟩) rfl ?_
  rintro _ τ1 ⟨rfl, hM1⟩
  change aw _ _ _ _ 184 [some (.ref 42), some (.int (iI q.1)), none] [] _
  have hwl := works_len (c := c) (ρ := 3)
  have hwf : (works 3 c).fr = c.fr := rfl
  have hwe : ((works 3 c).em.length : Int) ≤ 801 := by omega
  have e2 : frC (zx τ1 79) (zx τ1 94) (zx τ1 95) c.fr := hM1.2.2.2.2.2.1
  rw [he] at e2
  refine aw_aload_n rfl rfl rfl ?_
  refine aw_getr (b := 79) rfl rfl (hM1.f.k 42 rfl) (hM1.f.r 42 59 79 rfl) rfl ?_
  refine aw_aload_n rfl rfl rfl ?_
  refine aw_gk (v := (c.fr.length : Int)) (58) rfl rfl (hM1.f.k 42 rfl) rfl hM1.v58 rfl (fun _ _ => ?_)
  refine aw_iconst rfl rfl ?_
  refine aw_isub rfl rfl ?_
  refine aw_bipush rfl rfl rfl ?_
  refine aw_ss (N := 64) hM1.mv rfl (hM1.f.s 79 rfl) (by omega) rfl (by omega) (by omega) ⟨by omega, by omega⟩ rfl (fun τ3 hV3 hD3 hU3 => ?_)
  have hM3 := hM1.rep hV3 hD3 (by decide) (fr := (10, q.2) :: r) (by show _ = c.fr.length; rw [he]; rfl) (by
    rw [hD3.z 94 rfl, hD3.z 95 rfl]
    refine ⟨⟨by rw [hU3, if_pos (by omega)], fun _ => e2.1.2.1 (Or.inl k9), fun z => absurd (show (10 : Int) = 6 from z) (by decide)⟩, frC_up _ e2.2 (fun w hw => by rw [hU3, if_neg (by omega)]) (fun w hw => ⟨rfl, rfl⟩)⟩)
  refine aw_aload_n rfl rfl rfl ?_
  refine aw_calc (x_next hI hN hTk hM3 hlt) rfl rfl rfl (Nat.le_of_ble_eq_true rfl) (Or.inr ⟨_, rfl, (hM3.f.k 42 rfl)⟩) rfl ?_
  rintro _ τ4 ⟨rfl, hM4⟩
  change aw _ _ _ _ 201 [some (.ref 42), some (.int (iI q.1)), none] [] _
  refine aw_aload_n rfl rfl rfl ?_
  refine aw_iconst rfl rfl ?_
  refine aw_fw (78) hM4.mv rfl rfl (hM4.f.k 42 rfl) rfl rfl rfl ⟨by omega, by omega⟩ rfl (fun τ5 hV5 hD5 hU5 => ?_)
  have hM5 := hM4.to hV5 hD5 hU5
  refine aw_goto (p' := 373) rfl rfl ?_
  have heq : sGoesOn K V S c = ((c.n + 1, 1, (10, q.2) :: r, (works 3 c).ws, c.op, (works 3 c).em, c.ru, c.wr, c.wa) : Cf) := by
    unfold sGoesOn
    rw [t.1, t.2, if_neg k17, if_neg (by omega), if_pos ⟨k9, k25⟩]
    show ((c.n + 1, 1, (10, q.2) :: c.fr.tail, (works 3 c).ws, c.op, (works 3 c).em, c.ru, c.wr, c.wa) : Cf) = _
    rw [he]; rfl
  refine aw_retv rfl ⟨rfl, ?_⟩
  rw [heq]
  exact hM5
set_option maxRecDepth 10000 in
set_option maxHeartbeats 2000000 in
theorem g93 {d : Nat} {sz : Nat} {A : Nat → Int → Int} {K V S E : Int → Int} {T N : Int} {σ0 σ : az_S} {c : Cf} (hI : MI sz A) (hN : 0 ≤ N ∧ N ≤ 400) (hTk : TkN (A 74) N K V S E T) (hM : MC sz A K V S E N σ0 σ c) (hC : CI T c) (h0 : c.wr = 0) (hst : c.st = 2) {q : Int × Int} {r : List (Int × Int)} (he : c.fr = q :: r) (k17 : ¬ (17 ≤ K c.n ∧ K c.n ≤ 20)) (k7 : (q.1 = 7 ∨ q.1 = 10) ∧ K c.n = 22) : aw (d + 6) k_X12_goesOn none (fun r τ => r = none ∧ MC sz A K V S E N σ0 τ (sGoesOn K V S c)) 93 [some (.ref 42), some (.int (iI q.1)), none] [] σ := by
  obtain ⟨⟨bE, bF, bW⟩, bO, bN, bV⟩ := CI_b hTk hC
  have htf := hM.tf hTk bN
  obtain ⟨hNN, hW⟩ : CN T c ∧ nW (topF c) := by
    rcases bV with q | ⟨q1, q2⟩
    · omega
    · unfold SP at q2
      refine ⟨q1, ?_⟩
      rcases q2 with q | q | q | q
      · omega
      · omega
      · omega
      · exact q.2
  have t := topF_c he
  have hqb : 2 ≤ q.1 ∧ q.1 ≤ 10 := by have z := hW; rw [t.1] at z; unfold nW at z; omega
  have he3 : (c.fr.length : Int) = (r.length : Int) + 1 := by rw [he, len_c]
  obtain ⟨k7, k22⟩ := k7
  have hlt : 0 ≤ c.n ∧ c.n < T := ⟨bN.1, n_lt (fun n a b => (hTk.2.2 n a b).2) bN (by omega)⟩
  refine aw_aload_n rfl rfl rfl ?_
  refine aw_iconst rfl rfl ?_
  refine aw_calc (x_works hM (ρ := 3) ⟨by omega, by omega⟩ (by omega) (by omega) (by omega) hM.win) rfl rfl rfl (Nat.le_of_ble_eq_true rfl) (Or.inr ⟨_, rfl, (hM.f.k 42 rfl)⟩) rfl ?_
  rintro _ τ1 ⟨rfl, hM1⟩
  change aw _ _ _ _ 98 [some (.ref 42), some (.int (iI q.1)), none] [] _
  have hwl := works_len (c := c) (ρ := 3)
  have hwf : (works 3 c).fr = c.fr := rfl
  have hwe : ((works 3 c).em.length : Int) ≤ 801 := by omega
  have e2 : frC (zx τ1 79) (zx τ1 94) (zx τ1 95) c.fr := hM1.2.2.2.2.2.1
  rw [he] at e2
  obtain ⟨w0, hw0⟩ : ∃ w0, zx τ1 94 (c.fr.length : Int) = w0 := ⟨_, rfl⟩
  have hw1 : q.1 = 10 → w0 = q.2 := fun z => by rw [← hw0, he3]; exact e2.1.2.1 (Or.inr z)
  refine aw_aload_n rfl rfl rfl ?_
  refine aw_getr (b := 94) rfl rfl (hM1.f.k 42 rfl) (hM1.f.r 42 77 94 rfl) rfl ?_
  refine aw_aload_n rfl rfl rfl ?_
  refine aw_gk (v := (c.fr.length : Int)) (58) rfl rfl (hM1.f.k 42 rfl) rfl hM1.v58 rfl (fun _ _ => ?_)
  refine aw_ak (v := w0) (N := 65) rfl (hM1.f.s 94 rfl) (by omega) (by omega) (by omega) hw0 rfl (fun _ _ => ?_)
  refine aw_istore_n rfl (Nat.le_of_ble_eq_true rfl) rfl rfl ?_
  change aw _ _ _ _ 108 [some (.ref 42), some (.int (iI q.1)), some (.int (iI w0))] [] _
  refine aw_aload_n rfl rfl rfl ?_
  refine aw_dup rfl rfl rfl ?_
  refine aw_gk (v := (c.fr.length : Int)) (58) rfl rfl (hM1.f.k 42 rfl) rfl hM1.v58 rfl (fun _ _ => ?_)
  refine aw_iconst rfl rfl ?_
  refine aw_isub rfl rfl ?_
  refine aw_fw (58) hM1.mv rfl rfl (hM1.f.k 42 rfl) rfl rfl rfl ⟨by omega, by omega⟩ rfl (fun τ2 hV2 hD2 hU2 => ?_)
  have hM2 := hM1.pop hV2 hD2 hU2 he rfl
  refine aw_aload_n rfl rfl rfl ?_
  refine aw_dup rfl rfl rfl ?_
  refine aw_gk (v := c.op) (63) rfl rfl (hM2.f.k 42 rfl) rfl hM2.v63 rfl (fun _ _ => ?_)
  refine aw_iconst rfl rfl ?_
  refine aw_isub rfl rfl ?_
  refine aw_fw (63) hM2.mv rfl rfl (hM2.f.k 42 rfl) rfl rfl rfl ⟨by omega, by omega⟩ rfl (fun τ3 hV3 hD3 hU3 => ?_)
  have hM3 := hM2.opn hV3 hD3 hU3 (i := -1) rfl
  have hfv : fv c.fr.tail := by
    have h1 := hNN.1
    rw [he] at h1 ⊢
    cases r with
    | nil => have h2 : q.1 = 1 ∨ q.1 = 2 := h1; omega
    | cons q2 r2 => exact h1.1
  have htl : (c.fr.tail.length : Int) + 1 = c.fr.length := by rw [he, len_c]; rfl
  refine aw_iload_n rfl rfl rfl ?_
  refine aw_bipush rfl rfl rfl ?_
  refine aw_icmp (p' := 153) rfl ⟨by omega, by omega⟩ ⟨by omega, by omega⟩ rfl rfl (fun c1 => ?_) (fun c1 => ?_)
  · dsimp only [zc] at c1
    have hem : ((((works 3 c).pop.opn (-1)).nxt.em.length : Nat) : Int) = (works 3 c).em.length := rfl
    refine aw_aload_n rfl rfl rfl ?_
    refine aw_calc (x_next hI hN hTk hM3 hlt) rfl rfl rfl (Nat.le_of_ble_eq_true rfl) (Or.inr ⟨_, rfl, (hM3.f.k 42 rfl)⟩) rfl ?_
    rintro _ τ8 ⟨rfl, hM8⟩
    change aw _ _ _ _ 157 [some (.ref 42), some (.int (iI q.1)), some (.int (iI w0))] [] _
    refine aw_aload_n rfl rfl rfl ?_
    refine aw_calc (x_one hM8 hfv (by show ((((works 3 c).pop.opn (-1)).nxt.em.length : Nat) : Int) + (c.fr.tail.length : Int) ≤ 900; omega) (by show (c.fr.tail.length : Int) ≤ 64; omega) (by show c.op + -1 ≤ 100 ∧ -100 + (c.fr.tail.length : Int) ≤ c.op + -1; omega)) rfl rfl rfl (Nat.le_of_ble_eq_true rfl) (Or.inr ⟨_, rfl, (hM8.f.k 42 rfl)⟩) rfl ?_
    rintro _ τ9 ⟨rfl, hM9⟩
    change aw _ _ _ _ 161 [some (.ref 42), some (.int (iI q.1)), some (.int (iI w0))] [] _
    refine aw_goto (p' := 373) rfl rfl ?_
    refine aw_retv rfl ⟨rfl, ?_⟩
    unfold sGoesOn
    rw [t.1, if_neg k17, if_pos ⟨k7, k22⟩, if_neg c1]
    exact hM9
  · dsimp only [zc] at c1
    have k10 : q.1 = 10 := by omega
    have hwq := hw1 k10
    refine aw_aload_n rfl rfl rfl ?_
    refine aw_iload_n rfl rfl rfl ?_
    refine aw_iconst rfl rfl ?_
    refine aw_icmp (p' := 146) rfl ⟨by omega, by omega⟩ ⟨by omega, by omega⟩ rfl rfl (fun c2 => ?_) (fun c2 => ?_)
    · dsimp only [zc] at c2
      refine aw_sipush rfl rfl rfl ?_
      refine aw_iconst rfl rfl ?_
      refine aw_calc (x_emits hM3 (by show ((works 3 c).em.length : Int) < 900; omega) (o := 404) ⟨by omega, by omega⟩ ⟨by omega, by omega⟩) rfl rfl rfl (Nat.le_of_ble_eq_true rfl) (Or.inr ⟨_, rfl, (hM3.f.k 42 rfl)⟩) rfl ?_
      rintro _ τ4 ⟨rfl, hM4⟩
      change aw _ _ _ _ 153 [some (.ref 42), some (.int (iI q.1)), some (.int (iI w0))] [] _
      have hem : (((((works 3 c).pop.opn (-1)).emit 404 0).nxt.em.length : Nat) : Int) = (works 3 c).em.length + 1 := by
        show (((works 3 c).em ++ [(404, 0)]).length : Int) = _
        rw [List.length_append]; rfl
      refine aw_aload_n rfl rfl rfl ?_
      refine aw_calc (x_next hI hN hTk hM4 hlt) rfl rfl rfl (Nat.le_of_ble_eq_true rfl) (Or.inr ⟨_, rfl, (hM4.f.k 42 rfl)⟩) rfl ?_
      rintro _ τ8 ⟨rfl, hM8⟩
      change aw _ _ _ _ 157 [some (.ref 42), some (.int (iI q.1)), some (.int (iI w0))] [] _
      refine aw_aload_n rfl rfl rfl ?_
      refine aw_calc (x_one hM8 hfv (by show (((((works 3 c).pop.opn (-1)).emit 404 0).nxt.em.length : Nat) : Int) + (c.fr.tail.length : Int) ≤ 900; omega) (by show (c.fr.tail.length : Int) ≤ 64; omega) (by show c.op + -1 ≤ 100 ∧ -100 + (c.fr.tail.length : Int) ≤ c.op + -1; omega)) rfl rfl rfl (Nat.le_of_ble_eq_true rfl) (Or.inr ⟨_, rfl, (hM8.f.k 42 rfl)⟩) rfl ?_
      rintro _ τ9 ⟨rfl, hM9⟩
      change aw _ _ _ _ 161 [some (.ref 42), some (.int (iI q.1)), some (.int (iI w0))] [] _
      refine aw_goto (p' := 373) rfl rfl ?_
      refine aw_retv rfl ⟨rfl, ?_⟩
      unfold sGoesOn
      rw [t.1, t.2, if_neg k17, if_pos ⟨k7, k22⟩, if_pos k10, if_neg (by omega)]
      exact hM9
    · dsimp only [zc] at c2
      refine aw_sipush rfl rfl rfl ?_
      refine aw_goto (p' := 149) rfl rfl ?_
      refine aw_iconst rfl rfl ?_
      refine aw_calc (x_emits hM3 (by show ((works 3 c).em.length : Int) < 900; omega) (o := 403) ⟨by omega, by omega⟩ ⟨by omega, by omega⟩) rfl rfl rfl (Nat.le_of_ble_eq_true rfl) (Or.inr ⟨_, rfl, (hM3.f.k 42 rfl)⟩) rfl ?_
      rintro _ τ4 ⟨rfl, hM4⟩
      change aw _ _ _ _ 153 [some (.ref 42), some (.int (iI q.1)), some (.int (iI w0))] [] _
      have hem : (((((works 3 c).pop.opn (-1)).emit 403 0).nxt.em.length : Nat) : Int) = (works 3 c).em.length + 1 := by
        show (((works 3 c).em ++ [(403, 0)]).length : Int) = _
        rw [List.length_append]; rfl
      refine aw_aload_n rfl rfl rfl ?_
      refine aw_calc (x_next hI hN hTk hM4 hlt) rfl rfl rfl (Nat.le_of_ble_eq_true rfl) (Or.inr ⟨_, rfl, (hM4.f.k 42 rfl)⟩) rfl ?_
      rintro _ τ8 ⟨rfl, hM8⟩
      change aw _ _ _ _ 157 [some (.ref 42), some (.int (iI q.1)), some (.int (iI w0))] [] _
      refine aw_aload_n rfl rfl rfl ?_
      refine aw_calc (x_one hM8 hfv (by show (((((works 3 c).pop.opn (-1)).emit 403 0).nxt.em.length : Nat) : Int) + (c.fr.tail.length : Int) ≤ 900; omega) (by show (c.fr.tail.length : Int) ≤ 64; omega) (by show c.op + -1 ≤ 100 ∧ -100 + (c.fr.tail.length : Int) ≤ c.op + -1; omega)) rfl rfl rfl (Nat.le_of_ble_eq_true rfl) (Or.inr ⟨_, rfl, (hM8.f.k 42 rfl)⟩) rfl ?_
      rintro _ τ9 ⟨rfl, hM9⟩
      change aw _ _ _ _ 161 [some (.ref 42), some (.int (iI q.1)), some (.int (iI w0))] [] _
      refine aw_goto (p' := 373) rfl rfl ?_
      refine aw_retv rfl ⟨rfl, ?_⟩
      unfold sGoesOn
      rw [t.1, t.2, if_neg k17, if_pos ⟨k7, k22⟩, if_pos k10, if_pos (by omega)]
      exact hM9
set_option maxRecDepth 10000 in
set_option maxHeartbeats 2000000 in
theorem g319 {d : Nat} {sz : Nat} {A : Nat → Int → Int} {K V S E : Int → Int} {T N : Int} {σ0 σ : az_S} {c : Cf} (hI : MI sz A) (hN : 0 ≤ N ∧ N ≤ 400) (hTk : TkN (A 74) N K V S E T) (hM : MC sz A K V S E N σ0 σ c) (hC : CI T c) (h0 : c.wr = 0) (hst : c.st = 2) {q : Int × Int} {r : List (Int × Int)} (he : c.fr = q :: r) (k17 : ¬ (17 ≤ K c.n ∧ K c.n ≤ 20)) (k7 : ¬ ((q.1 = 7 ∨ q.1 = 10) ∧ K c.n = 22)) (k9 : ¬ (q.1 = 9 ∧ K c.n = 25)) (k5 : ¬ (q.1 = 5 ∧ 11 ≤ K c.n ∧ K c.n ≤ 16)) (k6 : ¬ q.1 = 6) : aw (d + 6) k_X12_goesOn none (fun r τ => r = none ∧ MC sz A K V S E N σ0 τ (sGoesOn K V S c)) 319 [some (.ref 42), some (.int (iI q.1)), none] [] σ := by
  obtain ⟨⟨bE, bF, bW⟩, bO, bN, bV⟩ := CI_b hTk hC
  have htf := hM.tf hTk bN
  obtain ⟨hNN, hW⟩ : CN T c ∧ nW (topF c) := by
    rcases bV with q | ⟨q1, q2⟩
    · omega
    · unfold SP at q2
      refine ⟨q1, ?_⟩
      rcases q2 with q | q | q | q
      · omega
      · omega
      · omega
      · exact q.2
  have t := topF_c he
  have hqb : 2 ≤ q.1 ∧ q.1 ≤ 10 := by have z := hW; rw [t.1] at z; unfold nW at z; omega
  have he3 : (c.fr.length : Int) = (r.length : Int) + 1 := by rw [he, len_c]
  refine aw_iload_n rfl rfl rfl ?_
  refine aw_iconst rfl rfl ?_
  refine aw_icmp (p' := 368) rfl ⟨by omega, by omega⟩ ⟨by omega, by omega⟩ rfl rfl (fun c1 => ?_) (fun c1 => ?_)
  · dsimp only [zc] at c1
    exact g368 hI hN hTk hM hC h0 hst he k17 k7 k9 k5 k6 (fun z => c1 z.1)
  · dsimp only [zc] at c1
    refine aw_aload_n rfl rfl rfl ?_
    refine aw_bipush rfl rfl rfl ?_
    refine aw_fnc (m_isSign (s := 59) hM.f ⟨by omega, by omega⟩) rfl rfl rfl (Nat.le_of_ble_eq_true rfl) (Or.inr ⟨_, rfl, (hM.f.k 42 rfl)⟩) rfl ?_
    refine aw_ifeqb (p' := 368) rfl rfl rfl (fun c2 => ?_) (fun c2 => ?_)
    · exact g368 hI hN hTk hM hC h0 hst he k17 k7 k9 k5 k6 (fun z => c2 ((tfs26 htf).mpr z.2))
    
    · exact g333 hI hN hTk hM hC h0 hst he k17 ⟨by omega, (tfs26 htf).mp c2⟩
    
set_option maxRecDepth 10000 in
set_option maxHeartbeats 2000000 in
theorem g275 {d : Nat} {sz : Nat} {A : Nat → Int → Int} {K V S E : Int → Int} {T N : Int} {σ0 σ : az_S} {c : Cf} (hI : MI sz A) (hN : 0 ≤ N ∧ N ≤ 400) (hTk : TkN (A 74) N K V S E T) (hM : MC sz A K V S E N σ0 σ c) (hC : CI T c) (h0 : c.wr = 0) (hst : c.st = 2) {q : Int × Int} {r : List (Int × Int)} (he : c.fr = q :: r) (k17 : ¬ (17 ≤ K c.n ∧ K c.n ≤ 20)) (k7 : ¬ ((q.1 = 7 ∨ q.1 = 10) ∧ K c.n = 22)) (k9 : ¬ (q.1 = 9 ∧ K c.n = 25)) (k5 : ¬ (q.1 = 5 ∧ 11 ≤ K c.n ∧ K c.n ≤ 16)) : aw (d + 6) k_X12_goesOn none (fun r τ => r = none ∧ MC sz A K V S E N σ0 τ (sGoesOn K V S c)) 275 [some (.ref 42), some (.int (iI q.1)), none] [] σ := by
  obtain ⟨⟨bE, bF, bW⟩, bO, bN, bV⟩ := CI_b hTk hC
  have htf := hM.tf hTk bN
  obtain ⟨hNN, hW⟩ : CN T c ∧ nW (topF c) := by
    rcases bV with q | ⟨q1, q2⟩
    · omega
    · unfold SP at q2
      refine ⟨q1, ?_⟩
      rcases q2 with q | q | q | q
      · omega
      · omega
      · omega
      · exact q.2
  have t := topF_c he
  have hqb : 2 ≤ q.1 ∧ q.1 ≤ 10 := by have z := hW; rw [t.1] at z; unfold nW at z; omega
  have he3 : (c.fr.length : Int) = (r.length : Int) + 1 := by rw [he, len_c]
  refine aw_iload_n rfl rfl rfl ?_
  refine aw_bipush rfl rfl rfl ?_
  refine aw_icmp (p' := 319) rfl ⟨by omega, by omega⟩ ⟨by omega, by omega⟩ rfl rfl (fun c1 => ?_) (fun c1 => ?_)
  · dsimp only [zc] at c1
    exact g319 hI hN hTk hM hC h0 hst he k17 k7 k9 k5 c1
  · dsimp only [zc] at c1
    exact g281 hI hN hTk hM hC h0 hst he k17 (by omega)
set_option maxRecDepth 10000 in
set_option maxHeartbeats 2000000 in
theorem g209 {d : Nat} {sz : Nat} {A : Nat → Int → Int} {K V S E : Int → Int} {T N : Int} {σ0 σ : az_S} {c : Cf} (hI : MI sz A) (hN : 0 ≤ N ∧ N ≤ 400) (hTk : TkN (A 74) N K V S E T) (hM : MC sz A K V S E N σ0 σ c) (hC : CI T c) (h0 : c.wr = 0) (hst : c.st = 2) {q : Int × Int} {r : List (Int × Int)} (he : c.fr = q :: r) (k17 : ¬ (17 ≤ K c.n ∧ K c.n ≤ 20)) (k7 : ¬ ((q.1 = 7 ∨ q.1 = 10) ∧ K c.n = 22)) (k9 : ¬ (q.1 = 9 ∧ K c.n = 25)) : aw (d + 6) k_X12_goesOn none (fun r τ => r = none ∧ MC sz A K V S E N σ0 τ (sGoesOn K V S c)) 209 [some (.ref 42), some (.int (iI q.1)), none] [] σ := by
  obtain ⟨⟨bE, bF, bW⟩, bO, bN, bV⟩ := CI_b hTk hC
  have htf := hM.tf hTk bN
  obtain ⟨hNN, hW⟩ : CN T c ∧ nW (topF c) := by
    rcases bV with q | ⟨q1, q2⟩
    · omega
    · unfold SP at q2
      refine ⟨q1, ?_⟩
      rcases q2 with q | q | q | q
      · omega
      · omega
      · omega
      · exact q.2
  have t := topF_c he
  have hqb : 2 ≤ q.1 ∧ q.1 ≤ 10 := by have z := hW; rw [t.1] at z; unfold nW at z; omega
  have he3 : (c.fr.length : Int) = (r.length : Int) + 1 := by rw [he, len_c]
  refine aw_iload_n rfl rfl rfl ?_
  refine aw_iconst rfl rfl ?_
  refine aw_icmp (p' := 275) rfl ⟨by omega, by omega⟩ ⟨by omega, by omega⟩ rfl rfl (fun c1 => ?_) (fun c1 => ?_)
  · dsimp only [zc] at c1
    exact g275 hI hN hTk hM hC h0 hst he k17 k7 k9 (fun z => c1 z.1)
  · dsimp only [zc] at c1
    refine aw_aload_n rfl rfl rfl ?_
    refine aw_gs (44) rfl rfl (hM.f.k 42 rfl) rfl rfl (fun _ _ => ?_)
    refine aw_iconst rfl rfl ?_
    refine aw_icmp (p' := 275) rfl ⟨by omega, by omega⟩ ⟨by omega, by omega⟩ rfl rfl (fun c2 => ?_) (fun c2 => ?_)
    · dsimp only [zc] at c2
      exact g275 hI hN hTk hM hC h0 hst he k17 k7 k9 (fun z => c2 ((tfa htf).mpr z.2).1)
    · dsimp only [zc] at c2
      refine aw_aload_n rfl rfl rfl ?_
      refine aw_gs (45) rfl rfl (hM.f.k 42 rfl) rfl rfl (fun _ _ => ?_)
      refine aw_fnc (m_isAsking ⟨by omega, by omega⟩) rfl rfl rfl (Nat.le_of_ble_eq_true rfl) (Or.inl rfl) rfl ?_
      refine aw_ifeqb (p' := 275) rfl rfl rfl (fun c3 => ?_) (fun c3 => ?_)
      · exact g275 hI hN hTk hM hC h0 hst he k17 k7 k9 (fun z => c3 ((tfa htf).mpr z.2).2)
      
      · exact g232 hI hN hTk hM hC h0 hst he k17 ⟨by omega, (tfa htf).mp ⟨by omega, c3⟩⟩
      
set_option maxRecDepth 10000 in
set_option maxHeartbeats 2000000 in
theorem g164 {d : Nat} {sz : Nat} {A : Nat → Int → Int} {K V S E : Int → Int} {T N : Int} {σ0 σ : az_S} {c : Cf} (hI : MI sz A) (hN : 0 ≤ N ∧ N ≤ 400) (hTk : TkN (A 74) N K V S E T) (hM : MC sz A K V S E N σ0 σ c) (hC : CI T c) (h0 : c.wr = 0) (hst : c.st = 2) {q : Int × Int} {r : List (Int × Int)} (he : c.fr = q :: r) (k17 : ¬ (17 ≤ K c.n ∧ K c.n ≤ 20)) (k7 : ¬ ((q.1 = 7 ∨ q.1 = 10) ∧ K c.n = 22)) : aw (d + 6) k_X12_goesOn none (fun r τ => r = none ∧ MC sz A K V S E N σ0 τ (sGoesOn K V S c)) 164 [some (.ref 42), some (.int (iI q.1)), none] [] σ := by
  obtain ⟨⟨bE, bF, bW⟩, bO, bN, bV⟩ := CI_b hTk hC
  have htf := hM.tf hTk bN
  obtain ⟨hNN, hW⟩ : CN T c ∧ nW (topF c) := by
    rcases bV with q | ⟨q1, q2⟩
    · omega
    · unfold SP at q2
      refine ⟨q1, ?_⟩
      rcases q2 with q | q | q | q
      · omega
      · omega
      · omega
      · exact q.2
  have t := topF_c he
  have hqb : 2 ≤ q.1 ∧ q.1 ≤ 10 := by have z := hW; rw [t.1] at z; unfold nW at z; omega
  have he3 : (c.fr.length : Int) = (r.length : Int) + 1 := by rw [he, len_c]
  refine aw_iload_n rfl rfl rfl ?_
  refine aw_bipush rfl rfl rfl ?_
  refine aw_icmp (p' := 209) rfl ⟨by omega, by omega⟩ ⟨by omega, by omega⟩ rfl rfl (fun c1 => ?_) (fun c1 => ?_)
  · dsimp only [zc] at c1
    exact g209 hI hN hTk hM hC h0 hst he k17 k7 (fun z => c1 z.1)
  · dsimp only [zc] at c1
    refine aw_aload_n rfl rfl rfl ?_
    refine aw_bipush rfl rfl rfl ?_
    refine aw_fnc (m_isSign (s := 44) hM.f ⟨by omega, by omega⟩) rfl rfl rfl (Nat.le_of_ble_eq_true rfl) (Or.inr ⟨_, rfl, (hM.f.k 42 rfl)⟩) rfl ?_
    refine aw_ifeqb (p' := 209) rfl rfl rfl (fun c2 => ?_) (fun c2 => ?_)
    · exact g209 hI hN hTk hM hC h0 hst he k17 k7 (fun z => c2 ((tfs25 htf).mpr z.2))
    
    · exact g179 hI hN hTk hM hC h0 hst he k17 ⟨by omega, (tfs25 htf).mp c2⟩
    
set_option maxRecDepth 10000 in
set_option maxHeartbeats 2000000 in
theorem g78 {d : Nat} {sz : Nat} {A : Nat → Int → Int} {K V S E : Int → Int} {T N : Int} {σ0 σ : az_S} {c : Cf} (hI : MI sz A) (hN : 0 ≤ N ∧ N ≤ 400) (hTk : TkN (A 74) N K V S E T) (hM : MC sz A K V S E N σ0 σ c) (hC : CI T c) (h0 : c.wr = 0) (hst : c.st = 2) {q : Int × Int} {r : List (Int × Int)} (he : c.fr = q :: r) (k17 : ¬ (17 ≤ K c.n ∧ K c.n ≤ 20)) (k7a : ¬ (q.1 = 7 ∧ K c.n = 22)) : aw (d + 6) k_X12_goesOn none (fun r τ => r = none ∧ MC sz A K V S E N σ0 τ (sGoesOn K V S c)) 78 [some (.ref 42), some (.int (iI q.1)), none] [] σ := by
  obtain ⟨⟨bE, bF, bW⟩, bO, bN, bV⟩ := CI_b hTk hC
  have htf := hM.tf hTk bN
  obtain ⟨hNN, hW⟩ : CN T c ∧ nW (topF c) := by
    rcases bV with q | ⟨q1, q2⟩
    · omega
    · unfold SP at q2
      refine ⟨q1, ?_⟩
      rcases q2 with q | q | q | q
      · omega
      · omega
      · omega
      · exact q.2
  have t := topF_c he
  have hqb : 2 ≤ q.1 ∧ q.1 ≤ 10 := by have z := hW; rw [t.1] at z; unfold nW at z; omega
  have he3 : (c.fr.length : Int) = (r.length : Int) + 1 := by rw [he, len_c]
  refine aw_iload_n rfl rfl rfl ?_
  refine aw_bipush rfl rfl rfl ?_
  refine aw_icmp (p' := 164) rfl ⟨by omega, by omega⟩ ⟨by omega, by omega⟩ rfl rfl (fun c1 => ?_) (fun c1 => ?_)
  · dsimp only [zc] at c1
    exact g164 hI hN hTk hM hC h0 hst he k17 (by omega)
  · dsimp only [zc] at c1
    refine aw_aload_n rfl rfl rfl ?_
    refine aw_bipush rfl rfl rfl ?_
    refine aw_fnc (m_isSign (s := 41) hM.f ⟨by omega, by omega⟩) rfl rfl rfl (Nat.le_of_ble_eq_true rfl) (Or.inr ⟨_, rfl, (hM.f.k 42 rfl)⟩) rfl ?_
    refine aw_ifeqb (p' := 164) rfl rfl rfl (fun c2 => ?_) (fun c2 => ?_)
    · have k22 : K c.n ≠ 22 := fun z => c2 ((tfs22 htf).mpr z)
      exact g164 hI hN hTk hM hC h0 hst he k17 (by omega)
    · exact g93 hI hN hTk hM hC h0 hst he k17 ⟨by omega, (tfs22 htf).mp c2⟩
    
set_option maxRecDepth 10000 in
set_option maxHeartbeats 2000000 in
theorem g63 {d : Nat} {sz : Nat} {A : Nat → Int → Int} {K V S E : Int → Int} {T N : Int} {σ0 σ : az_S} {c : Cf} (hI : MI sz A) (hN : 0 ≤ N ∧ N ≤ 400) (hTk : TkN (A 74) N K V S E T) (hM : MC sz A K V S E N σ0 σ c) (hC : CI T c) (h0 : c.wr = 0) (hst : c.st = 2) {q : Int × Int} {r : List (Int × Int)} (he : c.fr = q :: r) (k17 : ¬ (17 ≤ K c.n ∧ K c.n ≤ 20)) : aw (d + 6) k_X12_goesOn none (fun r τ => r = none ∧ MC sz A K V S E N σ0 τ (sGoesOn K V S c)) 63 [some (.ref 42), some (.int (iI q.1)), none] [] σ := by
  obtain ⟨⟨bE, bF, bW⟩, bO, bN, bV⟩ := CI_b hTk hC
  have htf := hM.tf hTk bN
  obtain ⟨hNN, hW⟩ : CN T c ∧ nW (topF c) := by
    rcases bV with q | ⟨q1, q2⟩
    · omega
    · unfold SP at q2
      refine ⟨q1, ?_⟩
      rcases q2 with q | q | q | q
      · omega
      · omega
      · omega
      · exact q.2
  have t := topF_c he
  have hqb : 2 ≤ q.1 ∧ q.1 ≤ 10 := by have z := hW; rw [t.1] at z; unfold nW at z; omega
  have he3 : (c.fr.length : Int) = (r.length : Int) + 1 := by rw [he, len_c]
  refine aw_iload_n rfl rfl rfl ?_
  refine aw_bipush rfl rfl rfl ?_
  refine aw_icmp (p' := 78) rfl ⟨by omega, by omega⟩ ⟨by omega, by omega⟩ rfl rfl (fun c1 => ?_) (fun c1 => ?_)
  · dsimp only [zc] at c1
    exact g78 hI hN hTk hM hC h0 hst he k17 (fun z => c1 z.1)
  · dsimp only [zc] at c1
    refine aw_aload_n rfl rfl rfl ?_
    refine aw_bipush rfl rfl rfl ?_
    refine aw_fnc (m_isSign (s := 41) hM.f ⟨by omega, by omega⟩) rfl rfl rfl (Nat.le_of_ble_eq_true rfl) (Or.inr ⟨_, rfl, (hM.f.k 42 rfl)⟩) rfl ?_
    refine aw_ifneb (p' := 93) rfl rfl rfl (fun c2 => ?_) (fun c2 => ?_)
    · exact g93 hI hN hTk hM hC h0 hst he k17 ⟨by omega, (tfs22 htf).mp c2⟩
    
    · have k22 : K c.n ≠ 22 := fun z => c2 ((tfs22 htf).mpr z)
      exact g78 hI hN hTk hM hC h0 hst he k17 (fun z => k22 z.2)
set_option maxRecDepth 10000 in
set_option maxHeartbeats 2000000 in
theorem g49 {d : Nat} {sz : Nat} {A : Nat → Int → Int} {K V S E : Int → Int} {T N : Int} {σ0 σ : az_S} {c : Cf} (hI : MI sz A) (hN : 0 ≤ N ∧ N ≤ 400) (hTk : TkN (A 74) N K V S E T) (hM : MC sz A K V S E N σ0 σ c) (hC : CI T c) (h0 : c.wr = 0) (hst : c.st = 2) {q : Int × Int} {r : List (Int × Int)} (he : c.fr = q :: r) (k17 : 17 ≤ K c.n ∧ K c.n ≤ 20) : aw (d + 6) k_X12_goesOn none (fun r τ => r = none ∧ MC sz A K V S E N σ0 τ (sGoesOn K V S c)) 49 [some (.ref 42), some (.int (iI q.1)), none] [] σ := by
  obtain ⟨⟨bE, bF, bW⟩, bO, bN, bV⟩ := CI_b hTk hC
  have htf := hM.tf hTk bN
  obtain ⟨hNN, hW⟩ : CN T c ∧ nW (topF c) := by
    rcases bV with q | ⟨q1, q2⟩
    · omega
    · unfold SP at q2
      refine ⟨q1, ?_⟩
      rcases q2 with q | q | q | q
      · omega
      · omega
      · omega
      · exact q.2
  have t := topF_c he
  have hqb : 2 ≤ q.1 ∧ q.1 ≤ 10 := by have z := hW; rw [t.1] at z; unfold nW at z; omega
  have he3 : (c.fr.length : Int) = (r.length : Int) + 1 := by rw [he, len_c]
  have hlt : 0 ≤ c.n ∧ c.n < T := ⟨bN.1, n_lt (fun n a b => (hTk.2.2 n a b).2) bN (by omega)⟩
  have ht : zx σ 42 45 = sgn (K c.n) := hM.v45.2.2 (by omega)
  have hsl := zx_lo σ 42 45
  have hsh := zx_hi σ 42 45
  rw [ht] at hsl hsh
  refine aw_aload_n rfl rfl rfl ?_
  refine aw_aload_n rfl rfl rfl ?_
  refine aw_gk (v := (sgn (K c.n))) (45) rfl rfl (hM.f.k 42 rfl) rfl ht rfl (fun _ _ => ?_)
  refine aw_calc (x_waits hI hN hTk hM hlt (o := sgn (K c.n)) ⟨by omega, by omega⟩ (by omega) (by omega) (by omega) hM.win) rfl rfl rfl (Nat.le_of_ble_eq_true rfl) (Or.inr ⟨_, rfl, (hM.f.k 42 rfl)⟩) rfl ?_
  rintro _ τ1 ⟨rfl, hM1⟩
  change aw _ _ _ _ 57 [some (.ref 42), some (.int (iI q.1)), none] [] _
  refine aw_aload_n rfl rfl rfl ?_
  refine aw_iconst rfl rfl ?_
  refine aw_fw (78) hM1.mv rfl rfl (hM1.f.k 42 rfl) rfl rfl rfl ⟨by omega, by omega⟩ rfl (fun τ2 hV2 hD2 hU2 => ?_)
  have hM2 := hM1.to hV2 hD2 hU2
  refine aw_retv rfl ⟨rfl, ?_⟩
  unfold sGoesOn
  rw [if_pos k17]
  exact hM2
set_option maxRecDepth 10000 in
set_option maxHeartbeats 2000000 in
theorem x_goesOn {d : Nat} {sz : Nat} {A : Nat → Int → Int} {K V S E : Int → Int} {T N : Int} {σ0 σ : az_S} {c : Cf} (hI : MI sz A) (hN : 0 ≤ N ∧ N ≤ 400) (hTk : TkN (A 74) N K V S E T) (hM : MC sz A K V S E N σ0 σ c) (hC : CI T c) (h0 : c.wr = 0) (hst : c.st = 2) : cal (d + 7) 227 [.ref 42] σ (fun r τ => r = none ∧ MC sz A K V S E N σ0 τ (sGoesOn K V S c)) := by
  obtain ⟨⟨bE, bF, bW⟩, bO, bN, bV⟩ := CI_b hTk hC
  have htf := hM.tf hTk bN
  obtain ⟨hNN, hW⟩ : CN T c ∧ nW (topF c) := by
    rcases bV with q | ⟨q1, q2⟩
    · omega
    · unfold SP at q2
      refine ⟨q1, ?_⟩
      rcases q2 with q | q | q | q
      · omega
      · omega
      · omega
      · exact q.2
  obtain ⟨q, r, he⟩ := hNN.hd
  have t := topF_c he
  have hqb : 2 ≤ q.1 ∧ q.1 ≤ 10 := by have z := hW; rw [t.1] at z; unfold nW at z; omega
  have he3 : (c.fr.length : Int) = (r.length : Int) + 1 := by rw [he, len_c]
  refine cal_of (M := (yX12_goesOn, cX12_goesOn, 3, none)) (cd := k_X12_goesOn) (L := [some (.ref 42), none, none]) rfl (Nat.le_of_ble_eq_true rfl) rfl rfl ?_
  refine aw_aload_n rfl rfl rfl ?_
  refine aw_fnc (x_top hM he (by omega)) rfl rfl rfl (Nat.le_of_ble_eq_true rfl) (Or.inr ⟨_, rfl, (hM.f.k 42 rfl)⟩) rfl ?_
  refine aw_istore_n rfl (Nat.le_of_ble_eq_true rfl) rfl rfl ?_
  change aw _ _ _ _ 5 [some (.ref 42), some (.int (iI q.1)), none] [] _
  refine aw_aload_n rfl rfl rfl ?_
  refine aw_gs (44) rfl rfl (hM.f.k 42 rfl) rfl rfl (fun _ _ => ?_)
  refine aw_iconst rfl rfl ?_
  refine aw_icmp (p' := 63) rfl ⟨by omega, by omega⟩ ⟨by omega, by omega⟩ rfl rfl (fun c1 => ?_) (fun c1 => ?_)
  · dsimp only [zc] at c1
    exact g63 hI hN hTk hM hC h0 hst he (fun z => c1 ((tfp htf).mpr z).1)
  · dsimp only [zc] at c1
    have c1' : zx σ 42 44 = 3 := by omega
    refine aw_aload_n rfl rfl rfl ?_
    refine aw_gs (45) rfl rfl (hM.f.k 42 rfl) rfl rfl (fun _ _ => ?_)
    refine aw_bipush rfl rfl rfl ?_
    refine aw_icmp (p' := 49) rfl ⟨by omega, by omega⟩ ⟨by omega, by omega⟩ rfl rfl (fun c2 => ?_) (fun c2 => ?_)
    · dsimp only [zc] at c2
      exact g49 hI hN hTk hM hC h0 hst he ((tfp htf).mp ⟨c1', Or.inl c2⟩)
    · dsimp only [zc] at c2
      refine aw_aload_n rfl rfl rfl ?_
      refine aw_gs (45) rfl rfl (hM.f.k 42 rfl) rfl rfl (fun _ _ => ?_)
      refine aw_bipush rfl rfl rfl ?_
      refine aw_icmp (p' := 49) rfl ⟨by omega, by omega⟩ ⟨by omega, by omega⟩ rfl rfl (fun c3 => ?_) (fun c3 => ?_)
      · dsimp only [zc] at c3
        exact g49 hI hN hTk hM hC h0 hst he ((tfp htf).mp ⟨c1', Or.inr (Or.inl c3)⟩)
      · dsimp only [zc] at c3
        refine aw_aload_n rfl rfl rfl ?_
        refine aw_gs (45) rfl rfl (hM.f.k 42 rfl) rfl rfl (fun _ _ => ?_)
        refine aw_bipush rfl rfl rfl ?_
        refine aw_icmp (p' := 49) rfl ⟨by omega, by omega⟩ ⟨by omega, by omega⟩ rfl rfl (fun c4 => ?_) (fun c4 => ?_)
        · dsimp only [zc] at c4
          exact g49 hI hN hTk hM hC h0 hst he ((tfp htf).mp ⟨c1', Or.inr (Or.inr (Or.inl c4))⟩)
        · dsimp only [zc] at c4
          refine aw_aload_n rfl rfl rfl ?_
          refine aw_gs (45) rfl rfl (hM.f.k 42 rfl) rfl rfl (fun _ _ => ?_)
          refine aw_bipush rfl rfl rfl ?_
          refine aw_icmp (p' := 63) rfl ⟨by omega, by omega⟩ ⟨by omega, by omega⟩ rfl rfl (fun c5 => ?_) (fun c5 => ?_)
          · dsimp only [zc] at c5
            exact g63 hI hN hTk hM hC h0 hst he (fun z => by have y := ((tfp htf).mpr z).2; omega)
          · dsimp only [zc] at c5
            exact g49 hI hN hTk hM hC h0 hst he ((tfp htf).mp ⟨c1', Or.inr (Or.inr (Or.inr (by omega)))⟩)
