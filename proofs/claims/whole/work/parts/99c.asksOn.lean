set_option maxRecDepth 10000 in
set_option maxHeartbeats 2000000 in
theorem a150 {d : Nat} {sz : Nat} {A : Nat → Int → Int} {K V S E : Int → Int} {T N : Int} {σ0 σ : az_S} {c : Cf} (hI : MI sz A) (hN : 0 ≤ N ∧ N ≤ 400) (hTk : TkN (A 74) N K V S E T) (hM : MC sz A K V S E N σ0 σ c) (hC : CI T c) (h0 : c.wr = 0) (hst : c.st = 3) {q : Int × Int} {r : List (Int × Int)} (he : c.fr = q :: r) (k6 : K c.n ≠ 6) (k7 : K c.n ≠ 7) (k3 : ¬ (q.1 = 3 ∧ K c.n = 24)) (k1 : ¬ (q.1 = 1 ∧ K c.n = 5)) : aw (d + 6) k_X12_asksOn none (fun r τ => r = none ∧ MC sz A K V S E N σ0 τ (sAsksOn K V S c)) 150 [some (.ref 42), some (.int (iI q.1))] [] σ := by
  obtain ⟨⟨bE, bF, bW⟩, bO, bN, bV⟩ := CI_b hTk hC
  have htf := hM.tf hTk bN
  obtain ⟨hNN, hW⟩ : CN T c ∧ aW (topF c) := by
    rcases bV with q | ⟨q1, q2⟩
    · omega
    · unfold SP at q2
      refine ⟨q1, ?_⟩
      rcases q2 with q | q | q | q
      · omega
      · exact q.2
      · omega
      · omega
  have t := topF_c he
  refine aw_aload_n rfl rfl rfl ?_
  refine aw_iconst rfl rfl ?_
  refine aw_calc (x_errs hM h0 (f := 1) ⟨by omega, by omega⟩) rfl rfl rfl (Nat.le_of_ble_eq_true rfl) (Or.inr ⟨_, rfl, (hM.f.k 42 rfl)⟩) rfl ?_
  rintro _ τ9 ⟨rfl, hM9⟩
  change aw _ _ _ _ 155 [some (.ref 42), some (.int (iI q.1))] [] _
  refine aw_retv rfl ⟨rfl, ?_⟩
  unfold sAsksOn
  rw [t.1, if_neg k6, if_neg k7, if_neg k3, if_neg k1]
  exact hM9
set_option maxRecDepth 10000 in
set_option maxHeartbeats 2000000 in
theorem a113 {d : Nat} {sz : Nat} {A : Nat → Int → Int} {K V S E : Int → Int} {T N : Int} {σ0 σ : az_S} {c : Cf} (hI : MI sz A) (hN : 0 ≤ N ∧ N ≤ 400) (hTk : TkN (A 74) N K V S E T) (hM : MC sz A K V S E N σ0 σ c) (hC : CI T c) (h0 : c.wr = 0) (hst : c.st = 3) {q : Int × Int} {r : List (Int × Int)} (he : c.fr = q :: r) (k6 : K c.n ≠ 6) (k7 : K c.n ≠ 7) (k1 : q.1 = 1 ∧ K c.n = 5) : aw (d + 6) k_X12_asksOn none (fun r τ => r = none ∧ MC sz A K V S E N σ0 τ (sAsksOn K V S c)) 113 [some (.ref 42), some (.int (iI q.1))] [] σ := by
  obtain ⟨⟨bE, bF, bW⟩, bO, bN, bV⟩ := CI_b hTk hC
  have htf := hM.tf hTk bN
  obtain ⟨hNN, hW⟩ : CN T c ∧ aW (topF c) := by
    rcases bV with q | ⟨q1, q2⟩
    · omega
    · unfold SP at q2
      refine ⟨q1, ?_⟩
      rcases q2 with q | q | q | q
      · omega
      · exact q.2
      · omega
      · omega
  have t := topF_c he
  obtain ⟨k1, k5⟩ := k1
  have hlt : 0 ≤ c.n ∧ c.n < T := ⟨bN.1, n_lt (fun n a b => (hTk.2.2 n a b).2) bN (by omega)⟩
  have he3 : (c.fr.length : Int) = (r.length : Int) + 1 := by rw [he, len_c]
  refine aw_aload_n rfl rfl rfl ?_
  refine aw_iconst rfl rfl ?_
  refine aw_calc (x_works hM (ρ := 1) ⟨by omega, by omega⟩ (by omega) (by omega) (by omega) hM.win) rfl rfl rfl (Nat.le_of_ble_eq_true rfl) (Or.inr ⟨_, rfl, (hM.f.k 42 rfl)⟩) rfl ?_
  rintro _ τ1 ⟨rfl, hM1⟩
  change aw _ _ _ _ 118 [some (.ref 42), some (.int (iI q.1))] [] _
  have hwl := works_len (c := c) (ρ := 1)
  have hwf : (works 1 c).fr = c.fr := rfl
  have hwe : ((works 1 c).em.length : Int) ≤ 801 := by omega
  refine aw_aload_n rfl rfl rfl ?_
  refine aw_sipush rfl rfl rfl ?_
  refine aw_iconst rfl rfl ?_
  refine aw_calc (x_emits hM1 (by omega) (o := 408) ⟨by omega, by omega⟩ ⟨by omega, by omega⟩) rfl rfl rfl (Nat.le_of_ble_eq_true rfl) (Or.inr ⟨_, rfl, (hM1.f.k 42 rfl)⟩) rfl ?_
  rintro _ τ2 ⟨rfl, hM2⟩
  change aw _ _ _ _ 126 [some (.ref 42), some (.int (iI q.1))] [] _
  refine aw_aload_n rfl rfl rfl ?_
  refine aw_getr (b := 79) rfl rfl (hM2.f.k 42 rfl) (hM2.f.r 42 59 79 rfl) rfl ?_
  refine aw_aload_n rfl rfl rfl ?_
  refine aw_gk (v := (c.fr.length : Int)) (58) rfl rfl (hM2.f.k 42 rfl) rfl hM2.v58 rfl (fun _ _ => ?_)
  refine aw_iconst rfl rfl ?_
  refine aw_isub rfl rfl ?_
  refine aw_iconst rfl rfl ?_
  refine aw_ss (N := 64) hM2.mv rfl (hM2.f.s 79 rfl) (by omega) rfl (by omega) (by omega) ⟨by omega, by omega⟩ rfl (fun τ3 hV3 hD3 hU3 => ?_)
  have hM3 := hM2.rep hV3 hD3 (by decide) (fr := (2, q.2) :: r) (by show _ = c.fr.length; rw [he]; rfl) (by
    have e2 : frC (zx τ2 79) (zx τ2 94) (zx τ2 95) c.fr := hM2.2.2.2.2.2.1
    rw [he] at e2
    rw [hD3.z 94 rfl, hD3.z 95 rfl]
    refine ⟨⟨by rw [hU3, if_pos (by omega)], fun z => ?_, fun z => absurd (show (2 : Int) = 6 from z) (by decide)⟩, frC_up _ e2.2 (fun w hw => by rw [hU3, if_neg (by omega)]) (fun _ _ => ⟨rfl, rfl⟩)⟩
    have z1 : (2 : Int) = 9 ∨ (2 : Int) = 10 := z
    omega)
  refine aw_aload_n rfl rfl rfl ?_
  refine aw_calc (x_next hI hN hTk hM3 hlt) rfl rfl rfl (Nat.le_of_ble_eq_true rfl) (Or.inr ⟨_, rfl, (hM3.f.k 42 rfl)⟩) rfl ?_
  rintro _ τ4 ⟨rfl, hM4⟩
  change aw _ _ _ _ 142 [some (.ref 42), some (.int (iI q.1))] [] _
  refine aw_aload_n rfl rfl rfl ?_
  refine aw_iconst rfl rfl ?_
  refine aw_fw (78) hM4.mv rfl rfl (hM4.f.k 42 rfl) rfl rfl rfl ⟨by omega, by omega⟩ rfl (fun τ5 hV5 hD5 hU5 => ?_)
  have hM5 := hM4.to hV5 hD5 hU5
  refine aw_goto (p' := 155) rfl rfl ?_
  have heq : sAsksOn K V S c = ((c.n + 1, 1, (2, q.2) :: r, (works 1 c).ws, c.op, (works 1 c).em ++ [(408, 0)], c.ru, c.wr, c.wa) : Cf) := by
    unfold sAsksOn
    rw [t.1, t.2, if_neg k6, if_neg k7, if_neg (by omega), if_pos ⟨k1, k5⟩]
    show ((c.n + 1, 1, (2, q.2) :: c.fr.tail, (works 1 c).ws, c.op, (works 1 c).em ++ [(408, 0)], c.ru, c.wr, c.wa) : Cf) = _
    rw [he]; rfl
  refine aw_retv rfl ⟨rfl, ?_⟩
  rw [heq]
  exact hM5
set_option maxRecDepth 10000 in
set_option maxHeartbeats 2000000 in
theorem a64 {d : Nat} {sz : Nat} {A : Nat → Int → Int} {K V S E : Int → Int} {T N : Int} {σ0 σ : az_S} {c : Cf} (hI : MI sz A) (hN : 0 ≤ N ∧ N ≤ 400) (hTk : TkN (A 74) N K V S E T) (hM : MC sz A K V S E N σ0 σ c) (hC : CI T c) (h0 : c.wr = 0) (hst : c.st = 3) {q : Int × Int} {r : List (Int × Int)} (he : c.fr = q :: r) (k6 : K c.n ≠ 6) (k7 : K c.n ≠ 7) (k3 : q.1 = 3 ∧ K c.n = 24) : aw (d + 6) k_X12_asksOn none (fun r τ => r = none ∧ MC sz A K V S E N σ0 τ (sAsksOn K V S c)) 64 [some (.ref 42), some (.int (iI q.1))] [] σ := by
  obtain ⟨⟨bE, bF, bW⟩, bO, bN, bV⟩ := CI_b hTk hC
  have htf := hM.tf hTk bN
  obtain ⟨hNN, hW⟩ : CN T c ∧ aW (topF c) := by
    rcases bV with q | ⟨q1, q2⟩
    · omega
    · unfold SP at q2
      refine ⟨q1, ?_⟩
      rcases q2 with q | q | q | q
      · omega
      · exact q.2
      · omega
      · omega
  have t := topF_c he
  obtain ⟨k3, k24⟩ := k3
  have hlt : 0 ≤ c.n ∧ c.n < T := ⟨bN.1, n_lt (fun n a b => (hTk.2.2 n a b).2) bN (by omega)⟩
  refine aw_aload_n rfl rfl rfl ?_
  refine aw_iconst rfl rfl ?_
  refine aw_calc (x_works hM (ρ := 1) ⟨by omega, by omega⟩ (by omega) (by omega) (by omega) hM.win) rfl rfl rfl (Nat.le_of_ble_eq_true rfl) (Or.inr ⟨_, rfl, (hM.f.k 42 rfl)⟩) rfl ?_
  rintro _ τ1 ⟨rfl, hM1⟩
  change aw _ _ _ _ 69 [some (.ref 42), some (.int (iI q.1))] [] _
  have hwl := works_len (c := c) (ρ := 1)
  have hwf : (works 1 c).fr = c.fr := rfl
  have hwe : ((works 1 c).em.length : Int) ≤ 801 := by omega
  refine aw_aload_n rfl rfl rfl ?_
  refine aw_dup rfl rfl rfl ?_
  refine aw_gk (v := (c.fr.length : Int)) (58) rfl rfl (hM1.f.k 42 rfl) rfl hM1.v58 rfl (fun _ _ => ?_)
  refine aw_iconst rfl rfl ?_
  refine aw_isub rfl rfl ?_
  refine aw_fw (58) hM1.mv rfl rfl (hM1.f.k 42 rfl) rfl rfl rfl ⟨by omega, by omega⟩ rfl (fun τ2 hV2 hD2 hU2 => ?_)
  have hM2 := hM1.pop hV2 hD2 hU2 he rfl
  refine aw_aload_n rfl rfl rfl ?_
  refine aw_dup rfl rfl rfl ?_
  refine aw_gk (v := c.op) (63) rfl rfl (hM2.f.k 42 rfl) rfl hM2.v63 rfl (fun _ _ => ?_)
  refine aw_iconst rfl rfl ?_
  refine aw_isub rfl rfl ?_
  refine aw_fw (63) hM2.mv rfl rfl (hM2.f.k 42 rfl) rfl rfl rfl ⟨by omega, by omega⟩ rfl (fun τ3 hV3 hD3 hU3 => ?_)
  have hM3 := hM2.opn hV3 hD3 hU3 (i := -1) rfl
  refine aw_aload_n rfl rfl rfl ?_
  refine aw_calc (x_next hI hN hTk hM3 hlt) rfl rfl rfl (Nat.le_of_ble_eq_true rfl) (Or.inr ⟨_, rfl, (hM3.f.k 42 rfl)⟩) rfl ?_
  rintro _ τ4 ⟨rfl, hM4⟩
  change aw _ _ _ _ 93 [some (.ref 42), some (.int (iI q.1))] [] _
  have hfv : fv c.fr.tail := by
    have h1 := hNN.1
    rw [he] at h1 ⊢
    cases r with
    | nil => have h2 : q.1 = 1 ∨ q.1 = 2 := h1; omega
    | cons q2 r2 => exact h1.1
  have htl : (c.fr.tail.length : Int) + 1 = c.fr.length := by rw [he, len_c]; rfl
  refine aw_aload_n rfl rfl rfl ?_
  refine aw_calc (x_ask hM4 hfv (by show ((works 1 c).em.length : Int) + (c.fr.tail.length : Int) ≤ 900; omega) (by show (c.fr.tail.length : Int) ≤ 64; omega) (by show c.op + -1 ≤ 100 ∧ -100 + (c.fr.tail.length : Int) ≤ c.op + -1; omega)) rfl rfl rfl (Nat.le_of_ble_eq_true rfl) (Or.inr ⟨_, rfl, (hM4.f.k 42 rfl)⟩) rfl ?_
  rintro _ τ5 ⟨rfl, hM5⟩
  change aw _ _ _ _ 97 [some (.ref 42), some (.int (iI q.1))] [] _
  refine aw_goto (p' := 155) rfl rfl ?_
  refine aw_retv rfl ⟨rfl, ?_⟩
  unfold sAsksOn
  rw [t.1, if_neg k6, if_neg k7, if_pos ⟨k3, k24⟩]
  exact hM5
set_option maxRecDepth 10000 in
set_option maxHeartbeats 2000000 in
theorem a100 {d : Nat} {sz : Nat} {A : Nat → Int → Int} {K V S E : Int → Int} {T N : Int} {σ0 σ : az_S} {c : Cf} (hI : MI sz A) (hN : 0 ≤ N ∧ N ≤ 400) (hTk : TkN (A 74) N K V S E T) (hM : MC sz A K V S E N σ0 σ c) (hC : CI T c) (h0 : c.wr = 0) (hst : c.st = 3) {q : Int × Int} {r : List (Int × Int)} (he : c.fr = q :: r) (k6 : K c.n ≠ 6) (k7 : K c.n ≠ 7) (k3 : ¬ (q.1 = 3 ∧ K c.n = 24)) : aw (d + 6) k_X12_asksOn none (fun r τ => r = none ∧ MC sz A K V S E N σ0 τ (sAsksOn K V S c)) 100 [some (.ref 42), some (.int (iI q.1))] [] σ := by
  obtain ⟨⟨bE, bF, bW⟩, bO, bN, bV⟩ := CI_b hTk hC
  have htf := hM.tf hTk bN
  obtain ⟨hNN, hW⟩ : CN T c ∧ aW (topF c) := by
    rcases bV with q | ⟨q1, q2⟩
    · omega
    · unfold SP at q2
      refine ⟨q1, ?_⟩
      rcases q2 with q | q | q | q
      · omega
      · exact q.2
      · omega
      · omega
  have t := topF_c he
  have hqb : q.1 = 1 ∨ q.1 = 3 := by rw [← t.1]; exact hW
  refine aw_iload_n rfl rfl rfl ?_
  refine aw_iconst rfl rfl ?_
  refine aw_icmp (p' := 150) rfl ⟨by omega, by omega⟩ ⟨by omega, by omega⟩ rfl rfl (fun c1 => ?_) (fun c1 => ?_)
  · dsimp only [zc] at c1
    exact a150 hI hN hTk hM hC h0 hst he k6 k7 k3 (fun z => c1 z.1)
  · dsimp only [zc] at c1
    refine aw_aload_n rfl rfl rfl ?_
    refine aw_iconst rfl rfl ?_
    refine aw_fnc (m_isWord (s := 1) hM.f ⟨by omega, by omega⟩) rfl rfl rfl (Nat.le_of_ble_eq_true rfl) (Or.inr ⟨_, rfl, (hM.f.k 42 rfl)⟩) rfl ?_
    refine aw_ifeqb (p' := 150) rfl rfl rfl (fun c2 => ?_) (fun c2 => ?_)
    · exact a150 hI hN hTk hM hC h0 hst he k6 k7 k3 (fun z => c2 ((tfw5 htf).mpr z.2))
    
    · exact a113 hI hN hTk hM hC h0 hst he k6 k7 ⟨by omega, (tfw5 htf).mp c2⟩
    
set_option maxRecDepth 10000 in
set_option maxHeartbeats 2000000 in
theorem a50 {d : Nat} {sz : Nat} {A : Nat → Int → Int} {K V S E : Int → Int} {T N : Int} {σ0 σ : az_S} {c : Cf} (hI : MI sz A) (hN : 0 ≤ N ∧ N ≤ 400) (hTk : TkN (A 74) N K V S E T) (hM : MC sz A K V S E N σ0 σ c) (hC : CI T c) (h0 : c.wr = 0) (hst : c.st = 3) {q : Int × Int} {r : List (Int × Int)} (he : c.fr = q :: r) (k6 : K c.n ≠ 6) (k7 : K c.n ≠ 7) : aw (d + 6) k_X12_asksOn none (fun r τ => r = none ∧ MC sz A K V S E N σ0 τ (sAsksOn K V S c)) 50 [some (.ref 42), some (.int (iI q.1))] [] σ := by
  obtain ⟨⟨bE, bF, bW⟩, bO, bN, bV⟩ := CI_b hTk hC
  have htf := hM.tf hTk bN
  obtain ⟨hNN, hW⟩ : CN T c ∧ aW (topF c) := by
    rcases bV with q | ⟨q1, q2⟩
    · omega
    · unfold SP at q2
      refine ⟨q1, ?_⟩
      rcases q2 with q | q | q | q
      · omega
      · exact q.2
      · omega
      · omega
  have t := topF_c he
  have hqb : q.1 = 1 ∨ q.1 = 3 := by rw [← t.1]; exact hW
  refine aw_iload_n rfl rfl rfl ?_
  refine aw_iconst rfl rfl ?_
  refine aw_icmp (p' := 100) rfl ⟨by omega, by omega⟩ ⟨by omega, by omega⟩ rfl rfl (fun c1 => ?_) (fun c1 => ?_)
  · dsimp only [zc] at c1
    exact a100 hI hN hTk hM hC h0 hst he k6 k7 (fun z => c1 z.1)
  · dsimp only [zc] at c1
    refine aw_aload_n rfl rfl rfl ?_
    refine aw_bipush rfl rfl rfl ?_
    refine aw_fnc (m_isSign (s := 93) hM.f ⟨by omega, by omega⟩) rfl rfl rfl (Nat.le_of_ble_eq_true rfl) (Or.inr ⟨_, rfl, (hM.f.k 42 rfl)⟩) rfl ?_
    refine aw_ifeqb (p' := 100) rfl rfl rfl (fun c2 => ?_) (fun c2 => ?_)
    · exact a100 hI hN hTk hM hC h0 hst he k6 k7 (fun z => c2 ((tfs24 htf).mpr z.2))
    
    · exact a64 hI hN hTk hM hC h0 hst he k6 k7 ⟨by omega, (tfs24 htf).mp c2⟩
    
set_option maxRecDepth 10000 in
set_option maxHeartbeats 2000000 in
theorem a21 {d : Nat} {sz : Nat} {A : Nat → Int → Int} {K V S E : Int → Int} {T N : Int} {σ0 σ : az_S} {c : Cf} (hI : MI sz A) (hN : 0 ≤ N ∧ N ≤ 400) (hTk : TkN (A 74) N K V S E T) (hM : MC sz A K V S E N σ0 σ c) (hC : CI T c) (h0 : c.wr = 0) (hst : c.st = 3) {q : Int × Int} {r : List (Int × Int)} (he : c.fr = q :: r) (k67 : K c.n = 6 ∨ K c.n = 7) : aw (d + 6) k_X12_asksOn none (fun r τ => r = none ∧ MC sz A K V S E N σ0 τ (sAsksOn K V S c)) 21 [some (.ref 42), some (.int (iI q.1))] [] σ := by
  obtain ⟨⟨bE, bF, bW⟩, bO, bN, bV⟩ := CI_b hTk hC
  have htf := hM.tf hTk bN
  obtain ⟨hNN, hW⟩ : CN T c ∧ aW (topF c) := by
    rcases bV with q | ⟨q1, q2⟩
    · omega
    · unfold SP at q2
      refine ⟨q1, ?_⟩
      rcases q2 with q | q | q | q
      · omega
      · exact q.2
      · omega
      · omega
  have hlt : 0 ≤ c.n ∧ c.n < T := ⟨bN.1, n_lt (fun n a b => (hTk.2.2 n a b).2) bN (by omega)⟩
  refine aw_aload_n rfl rfl rfl ?_
  refine aw_aload_n rfl rfl rfl ?_
  refine aw_iconst rfl rfl ?_
  refine aw_fnc (m_isWord (s := 2) hM.f ⟨by omega, by omega⟩) rfl rfl rfl (Nat.le_of_ble_eq_true rfl) (Or.inr ⟨_, rfl, (hM.f.k 42 rfl)⟩) rfl ?_
  refine aw_ifeqb (p' := 36) rfl rfl rfl (fun c1 => ?_) (fun c1 => ?_)
  · have k6 : K c.n ≠ 6 := fun z => c1 ((tfw6 htf).mpr z)
    refine aw_sipush rfl rfl rfl ?_
    refine aw_calc (x_waits hI hN hTk hM hlt (o := 406) ⟨by omega, by omega⟩ (by omega) (by omega) (by omega) hM.win) rfl rfl rfl (Nat.le_of_ble_eq_true rfl) (Or.inr ⟨_, rfl, (hM.f.k 42 rfl)⟩) rfl ?_
    rintro _ τ1 ⟨rfl, hM1⟩
    change aw _ _ _ _ 42 [some (.ref 42), some (.int (iI q.1))] [] _
    refine aw_aload_n rfl rfl rfl ?_
    refine aw_iconst rfl rfl ?_
    refine aw_fw (78) hM1.mv rfl rfl (hM1.f.k 42 rfl) rfl rfl rfl ⟨by omega, by omega⟩ rfl (fun τ2 hV2 hD2 hU2 => ?_)
    have hM2 := hM1.to hV2 hD2 hU2
    refine aw_goto (p' := 155) rfl rfl ?_
    refine aw_retv rfl ⟨rfl, ?_⟩
    unfold sAsksOn
    rw [if_neg k6, if_pos (by omega)]
    exact hM2
  · have k6 : K c.n = 6 := (tfw6 htf).mp c1
    refine aw_sipush rfl rfl rfl ?_
    refine aw_goto (p' := 39) rfl rfl ?_
    refine aw_calc (x_waits hI hN hTk hM hlt (o := 407) ⟨by omega, by omega⟩ (by omega) (by omega) (by omega) hM.win) rfl rfl rfl (Nat.le_of_ble_eq_true rfl) (Or.inr ⟨_, rfl, (hM.f.k 42 rfl)⟩) rfl ?_
    rintro _ τ1 ⟨rfl, hM1⟩
    change aw _ _ _ _ 42 [some (.ref 42), some (.int (iI q.1))] [] _
    refine aw_aload_n rfl rfl rfl ?_
    refine aw_iconst rfl rfl ?_
    refine aw_fw (78) hM1.mv rfl rfl (hM1.f.k 42 rfl) rfl rfl rfl ⟨by omega, by omega⟩ rfl (fun τ2 hV2 hD2 hU2 => ?_)
    have hM2 := hM1.to hV2 hD2 hU2
    refine aw_goto (p' := 155) rfl rfl ?_
    refine aw_retv rfl ⟨rfl, ?_⟩
    unfold sAsksOn
    rw [if_pos k6]
    exact hM2
set_option maxRecDepth 10000 in
set_option maxHeartbeats 2000000 in
theorem x_asksOn {d : Nat} {sz : Nat} {A : Nat → Int → Int} {K V S E : Int → Int} {T N : Int} {σ0 σ : az_S} {c : Cf} (hI : MI sz A) (hN : 0 ≤ N ∧ N ≤ 400) (hTk : TkN (A 74) N K V S E T) (hM : MC sz A K V S E N σ0 σ c) (hC : CI T c) (h0 : c.wr = 0) (hst : c.st = 3) : cal (d + 7) 228 [.ref 42] σ (fun r τ => r = none ∧ MC sz A K V S E N σ0 τ (sAsksOn K V S c)) := by
  obtain ⟨⟨bE, bF, bW⟩, bO, bN, bV⟩ := CI_b hTk hC
  have htf := hM.tf hTk bN
  obtain ⟨hNN, hW⟩ : CN T c ∧ aW (topF c) := by
    rcases bV with q | ⟨q1, q2⟩
    · omega
    · unfold SP at q2
      refine ⟨q1, ?_⟩
      rcases q2 with q | q | q | q
      · omega
      · exact q.2
      · omega
      · omega
  obtain ⟨q, r, he⟩ := hNN.hd
  have t := topF_c he
  have hqb : q.1 = 1 ∨ q.1 = 3 := by rw [← t.1]; exact hW
  refine cal_of (M := (yX12_asksOn, cX12_asksOn, 2, none)) (cd := k_X12_asksOn) (L := [some (.ref 42), none]) rfl (Nat.le_of_ble_eq_true rfl) rfl rfl ?_
  refine aw_aload_n rfl rfl rfl ?_
  refine aw_fnc (x_top hM he (by omega)) rfl rfl rfl (Nat.le_of_ble_eq_true rfl) (Or.inr ⟨_, rfl, (hM.f.k 42 rfl)⟩) rfl ?_
  refine aw_istore_n rfl (Nat.le_of_ble_eq_true rfl) rfl rfl ?_
  change aw _ _ _ _ 5 [some (.ref 42), some (.int (iI q.1))] [] _
  refine aw_aload_n rfl rfl rfl ?_
  refine aw_iconst rfl rfl ?_
  refine aw_fnc (m_isWord (s := 2) hM.f ⟨by omega, by omega⟩) rfl rfl rfl (Nat.le_of_ble_eq_true rfl) (Or.inr ⟨_, rfl, (hM.f.k 42 rfl)⟩) rfl ?_
  refine aw_ifneb (p' := 21) rfl rfl rfl (fun c1 => ?_) (fun c1 => ?_)
  · exact a21 hI hN hTk hM hC h0 hst he (Or.inl ((tfw6 htf).mp c1))
  · refine aw_aload_n rfl rfl rfl ?_
    refine aw_iconst rfl rfl ?_
    refine aw_fnc (m_isWord (s := 3) hM.f ⟨by omega, by omega⟩) rfl rfl rfl (Nat.le_of_ble_eq_true rfl) (Or.inr ⟨_, rfl, (hM.f.k 42 rfl)⟩) rfl ?_
    refine aw_ifeqb (p' := 50) rfl rfl rfl (fun c2 => ?_) (fun c2 => ?_)
    · exact a50 hI hN hTk hM hC h0 hst he (fun z => c1 ((tfw6 htf).mpr z)) (fun z => c2 ((tfw7 htf).mpr z))
    · exact a21 hI hN hTk hM hC h0 hst he (Or.inr ((tfw7 htf).mp c2))
set_option maxRecDepth 10000 in
set_option maxHeartbeats 2000000 in
theorem r22 {d : Nat} {sz : Nat} {A : Nat → Int → Int} {K V S E : Int → Int} {T N : Int} {σ0 σ : az_S} {c : Cf} (hI : MI sz A) (hN : 0 ≤ N ∧ N ≤ 400) (hTk : TkN (A 74) N K V S E T) (hM : MC sz A K V S E N σ0 σ c) (hC : CI T c) (h0 : c.wr = 0) (hst : c.st = 4)  (k45 : K c.n = 4 ∨ K c.n = 5) : aw (d + 5) k_X12_rule none (fun r τ => r = none ∧ MC sz A K V S E N σ0 τ (sRule K V S c)) 22 [some (.ref 42), none] [] σ := by
  obtain ⟨⟨bE, bF, bW⟩, bO, bN, bV⟩ := CI_b hTk hC
  have htf := hM.tf hTk bN

  have hru : c.fr = [] ∧ (0 ≤ c.ru ∧ c.ru ≤ 20) := by
    rcases bV with z | z
    · exact ⟨z.2.1, z.2.2⟩
    · have := z.2; unfold SP at this; omega
  have hlt : 0 ≤ c.n ∧ c.n < T := ⟨bN.1, n_lt (fun n a b => (hTk.2.2 n a b).2) bN (by omega)⟩
  refine aw_aload_n rfl rfl rfl ?_
  refine aw_gk (v := c.ru) (51) rfl rfl (hM.f.k 42 rfl) rfl hM.v51 rfl (fun _ _ => ?_)
  refine aw_bipush rfl rfl rfl ?_
  refine aw_icmp (p' := 37) rfl ⟨by omega, by omega⟩ ⟨by omega, by omega⟩ rfl rfl (fun c1 => ?_) (fun c1 => ?_)
  · dsimp only [zc] at c1
    refine aw_aload_n rfl rfl rfl ?_
    refine aw_dup rfl rfl rfl ?_
    refine aw_gk (v := c.ru) (51) rfl rfl (hM.f.k 42 rfl) rfl hM.v51 rfl (fun _ _ => ?_)
    refine aw_iconst rfl rfl ?_
    refine aw_iadd rfl rfl ?_
    refine aw_fw (51) hM.mv rfl rfl (hM.f.k 42 rfl) rfl rfl rfl ⟨by omega, by omega⟩ rfl (fun τ1 hV1 hD1 hU1 => ?_)
    have hM1 := hM.fld hV1 hD1 hU1 (by decide) (fr := c.fr) (ws := c.ws) (op := c.op) (ru := c.ru + 1) (st := c.st) rfl rfl rfl rfl rfl hM.2.2.2.2.2.1 hM.2.2.2.2.2.2
    have htf1 := hM1.tf hTk (show 0 ≤ c.n ∧ c.n ≤ T from bN)
    refine aw_aload_n rfl rfl rfl ?_
    refine aw_iconst rfl rfl ?_
    refine aw_fnc (m_isWord (s := 0) hM1.f ⟨by omega, by omega⟩) rfl rfl rfl (Nat.le_of_ble_eq_true rfl) (Or.inr ⟨_, rfl, (hM1.f.k 42 rfl)⟩) rfl ?_
    refine aw_istore_n rfl (Nat.le_of_ble_eq_true rfl) rfl rfl ?_
    change aw _ _ _ _ 53 [some (.ref 42), some (.int (iI (bI (zx τ1 42 44 = 1 ∧ zx τ1 42 45 = 0))))] [] _
    refine aw_aload_n rfl rfl rfl ?_
    refine aw_iload_n rfl rfl rfl ?_
    refine aw_ifeqb (p' := 62) rfl rfl rfl (fun c3 => ?_) (fun c3 => ?_)
    · have k4 : K c.n ≠ 4 := fun z => c3 ((tfw4 htf1).mpr z)
      refine aw_iconst rfl rfl ?_
      refine aw_calc (x_frame (x := 0) hM1 (by show (c.fr.length : Int) < 64; omega) (f := 2) ⟨by omega, by omega⟩ (fun z => by omega) (fun z => by omega)) rfl rfl rfl (Nat.le_of_ble_eq_true rfl) (Or.inr ⟨_, rfl, (hM1.f.k 42 rfl)⟩) rfl ?_
      rintro _ τ2 ⟨rfl, hM2⟩
      change aw _ _ _ _ 66 [some (.ref 42), some (.int (iI (bI (zx τ1 42 44 = 1 ∧ zx τ1 42 45 = 0))))] [] _
      refine aw_aload_n rfl rfl rfl ?_
      refine aw_iload_n rfl rfl rfl ?_
      refine aw_ifeqb (p' := 75) rfl rfl rfl (fun z1 => ?_) (fun z1 => ?_)
      · refine aw_iconst rfl rfl ?_
        refine aw_fw (78) hM2.mv rfl rfl (hM2.f.k 42 rfl) rfl rfl rfl ⟨by omega, by omega⟩ rfl (fun τ3 hV3 hD3 hU3 => ?_)
        have hM3 := hM2.to hV3 hD3 hU3
        refine aw_aload_n rfl rfl rfl ?_
        refine aw_calc (x_next hI hN hTk hM3 hlt) rfl rfl rfl (Nat.le_of_ble_eq_true rfl) (Or.inr ⟨_, rfl, (hM3.f.k 42 rfl)⟩) rfl ?_
        rintro _ τ4 ⟨rfl, hM4⟩
        change aw _ _ _ _ 83 [some (.ref 42), some (.int (iI (bI (zx τ1 42 44 = 1 ∧ zx τ1 42 45 = 0))))] [] _
        refine aw_retv rfl ⟨rfl, ?_⟩
        unfold sRule
        rw [if_neg (by omega), if_neg c1, if_neg k4, if_neg k4]
        exact hM4
      · exact absurd z1 c3
      
    · have k4 : K c.n = 4 := (tfw4 htf1).mp c3
      refine aw_iconst rfl rfl ?_
      refine aw_goto (p' := 63) rfl rfl ?_
      refine aw_calc (x_frame (x := 0) hM1 (by show (c.fr.length : Int) < 64; omega) (f := 1) ⟨by omega, by omega⟩ (fun z => by omega) (fun z => by omega)) rfl rfl rfl (Nat.le_of_ble_eq_true rfl) (Or.inr ⟨_, rfl, (hM1.f.k 42 rfl)⟩) rfl ?_
      rintro _ τ2 ⟨rfl, hM2⟩
      change aw _ _ _ _ 66 [some (.ref 42), some (.int (iI (bI (zx τ1 42 44 = 1 ∧ zx τ1 42 45 = 0))))] [] _
      refine aw_aload_n rfl rfl rfl ?_
      refine aw_iload_n rfl rfl rfl ?_
      refine aw_ifeqb (p' := 75) rfl rfl rfl (fun z1 => ?_) (fun z1 => ?_)
      · exact absurd c3 z1
      
      · refine aw_iconst rfl rfl ?_
        refine aw_goto (p' := 76) rfl rfl ?_
        refine aw_fw (78) hM2.mv rfl rfl (hM2.f.k 42 rfl) rfl rfl rfl ⟨by omega, by omega⟩ rfl (fun τ3 hV3 hD3 hU3 => ?_)
        have hM3 := hM2.to hV3 hD3 hU3
        refine aw_aload_n rfl rfl rfl ?_
        refine aw_calc (x_next hI hN hTk hM3 hlt) rfl rfl rfl (Nat.le_of_ble_eq_true rfl) (Or.inr ⟨_, rfl, (hM3.f.k 42 rfl)⟩) rfl ?_
        rintro _ τ4 ⟨rfl, hM4⟩
        change aw _ _ _ _ 83 [some (.ref 42), some (.int (iI (bI (zx τ1 42 44 = 1 ∧ zx τ1 42 45 = 0))))] [] _
        refine aw_retv rfl ⟨rfl, ?_⟩
        unfold sRule
        rw [if_neg (by omega), if_neg c1, if_pos k4, if_pos k4]
        exact hM4
  · dsimp only [zc] at c1
    refine aw_aload_n rfl rfl rfl ?_
    refine aw_iconst rfl rfl ?_
    refine aw_calc (x_errs hM h0 (f := 4) ⟨by omega, by omega⟩) rfl rfl rfl (Nat.le_of_ble_eq_true rfl) (Or.inr ⟨_, rfl, (hM.f.k 42 rfl)⟩) rfl ?_
    rintro _ τ9 ⟨rfl, hM9⟩
    change aw _ _ _ _ 36 [some (.ref 42), none] [] _
    refine aw_retv rfl ⟨rfl, ?_⟩
    unfold sRule
    rw [if_neg (by omega), if_pos (by omega)]
    exact hM9
set_option maxRecDepth 10000 in
set_option maxHeartbeats 2000000 in
theorem x_rule {d : Nat} {sz : Nat} {A : Nat → Int → Int} {K V S E : Int → Int} {T N : Int} {σ0 σ : az_S} {c : Cf} (hI : MI sz A) (hN : 0 ≤ N ∧ N ≤ 400) (hTk : TkN (A 74) N K V S E T) (hM : MC sz A K V S E N σ0 σ c) (hC : CI T c) (h0 : c.wr = 0) (hst : c.st = 4) : cal (d + 6) 229 [.ref 42] σ (fun r τ => r = none ∧ MC sz A K V S E N σ0 τ (sRule K V S c)) := by
  obtain ⟨⟨bE, bF, bW⟩, bO, bN, bV⟩ := CI_b hTk hC
  have htf := hM.tf hTk bN
  refine cal_of (M := (yX12_rule, cX12_rule, 2, none)) (cd := k_X12_rule) (L := [some (.ref 42), none]) rfl (Nat.le_of_ble_eq_true rfl) rfl rfl ?_
  refine aw_aload_n rfl rfl rfl ?_
  refine aw_iconst rfl rfl ?_
  refine aw_fnc (m_isWord (s := 0) hM.f ⟨by omega, by omega⟩) rfl rfl rfl (Nat.le_of_ble_eq_true rfl) (Or.inr ⟨_, rfl, (hM.f.k 42 rfl)⟩) rfl ?_
  refine aw_ifneb (p' := 22) rfl rfl rfl (fun c1 => ?_) (fun c1 => ?_)
  · exact r22 hI hN hTk hM hC h0 hst (Or.inl ((tfw4 htf).mp c1))
  · refine aw_aload_n rfl rfl rfl ?_
    refine aw_iconst rfl rfl ?_
    refine aw_fnc (m_isWord (s := 1) hM.f ⟨by omega, by omega⟩) rfl rfl rfl (Nat.le_of_ble_eq_true rfl) (Or.inr ⟨_, rfl, (hM.f.k 42 rfl)⟩) rfl ?_
    refine aw_ifneb (p' := 22) rfl rfl rfl (fun c2 => ?_) (fun c2 => ?_)
    · exact r22 hI hN hTk hM hC h0 hst (Or.inr ((tfw5 htf).mp c2))
    · have k4 : K c.n ≠ 4 := fun z => c1 ((tfw4 htf).mpr z)
      have k5 : K c.n ≠ 5 := fun z => c2 ((tfw5 htf).mpr z)
      refine aw_aload_n rfl rfl rfl ?_
      refine aw_iconst rfl rfl ?_
      refine aw_calc (x_errs hM h0 (f := 1) ⟨by omega, by omega⟩) rfl rfl rfl (Nat.le_of_ble_eq_true rfl) (Or.inr ⟨_, rfl, (hM.f.k 42 rfl)⟩) rfl ?_
      rintro _ τ9 ⟨rfl, hM9⟩
      change aw _ _ _ _ 21 [some (.ref 42), none] [] _
      refine aw_retv rfl ⟨rfl, ?_⟩
      unfold sRule
      rw [if_pos ⟨k4, k5⟩]
      exact hM9
