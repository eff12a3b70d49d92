/-- the tokens of a text of N bytes -/
def TkN (B : Int → Int) (N : Int) (K V S E : Int → Int) (T : Int) : Prop := E (-1) = 0 ∧ (0 ≤ T ∧ T ≤ 400) ∧ ∀ n : Int, 0 ≤ n → n ≤ T → Tk B N (E (n - 1)) (K n) (V n) (S n) (E n) ∧ (K n = 0 ↔ n = T)
theorem Tk_le {B : Int → Int} {N p k v s e : Int} (h : Tk B N p k v s e) : p ≤ s ∧ s ≤ e := by
  refine ⟨h.1.1.1, ?_⟩
  rcases h.2 with q | q | q | q | q
  · omega
  · exact q.2.2.1.1.1
  · exact q.2.2.1.1.1
  · omega
  · omega
theorem E_pos {B : Int → Int} {N : Int} {K V S E : Int → Int} {T : Int} (h : TkN B N K V S E T) : ∀ n : Nat, (n : Int) ≤ T → 0 ≤ E n := by
  intro n
  induction n with
  | zero =>
    intro h0
    have q := Tk_le (h.2.2 0 (by omega) h0).1
    have e : E (0 - 1) = 0 := h.1
    show 0 ≤ E 0
    omega
  | succ n ih =>
    intro h0
    have q := Tk_le (h.2.2 ((n + 1 : Nat) : Int) (by omega) h0).1
    have i := ih (by omega)
    rw [show (((n + 1 : Nat) : Int) - 1) = (n : Int) by omega] at q
    omega
theorem x_next {d : Nat} {sz : Nat} {A : Nat → Int → Int} {K V S E : Int → Int} {T N : Int} {σ0 σ : az_S} {c : Cf} (hI : MI sz A) (hN : 0 ≤ N ∧ N ≤ 400) (hTk : TkN (A 74) N K V S E T) (hM : MC sz A K V S E N σ0 σ c) (hn : 0 ≤ c.n ∧ c.n < T) : cal (d + 3) 210 [.ref 42] σ (fun r τ => r = none ∧ MC sz A K V S E N σ0 τ (c.nxt)) := by
  have q := (hTk.2.2 (c.n + 1) (by omega) (by omega)).1
  rw [show c.n + 1 - 1 = c.n by omega] at q
  have hp : 0 ≤ E c.n := by
    have := E_pos hTk c.n.toNat (by omega)
    rw [show (c.n.toNat : Int) = c.n by omega] at this
    exact this
  have h := m_next (d := d) hM.mv hI hN.1 hN.2 hM.2.2.1.1 hM.2.2.1.2.1 hp q
  refine h.imp ?_
  rintro r τ ⟨rfl, hV, hD, hU, h42, h43, h44, h45⟩
  obtain ⟨m1, m2, ⟨a1, a2, a3, a4, a5⟩, ⟨b1, b2, b3, b4, b5, b6, b7, b8⟩, e1, e2, e3⟩ := hM
  have u : ∀ w : Int, w ≠ 42 → w ≠ 43 → w ≠ 44 → w ≠ 45 → zx τ 42 w = zx σ 42 w := hU
  refine ⟨rfl, hV, m2.tr (hD.su rfl), ⟨?_, h42, h43, h44, h45⟩, ⟨?_, ?_, ?_, ?_, ?_, ?_, ?_, ?_⟩, ?_, ?_, ?_⟩
  · rw [u 41 (by decide) (by decide) (by decide) (by decide)]; exact a1
  · rw [u 46 (by decide) (by decide) (by decide) (by decide)]; exact b1
  · rw [u 47 (by decide) (by decide) (by decide) (by decide)]; exact b2
  · rw [u 50 (by decide) (by decide) (by decide) (by decide)]; exact b3
  · rw [u 51 (by decide) (by decide) (by decide) (by decide)]; exact b4
  · rw [u 58 (by decide) (by decide) (by decide) (by decide)]; exact b5
  · rw [u 60 (by decide) (by decide) (by decide) (by decide)]; exact b6
  · rw [u 63 (by decide) (by decide) (by decide) (by decide)]; exact b7
  · rw [u 78 (by decide) (by decide) (by decide) (by decide)]; exact b8
  · rw [hD.z 75 rfl, hD.z 76 rfl]; exact e1
  · rw [hD.z 79 rfl, hD.z 94 rfl, hD.z 95 rfl]; exact e2
  · rw [hD.z 80 rfl, hD.z 81 rfl]; exact e3
set_option maxRecDepth 10000 in
set_option maxHeartbeats 2000000 in
theorem x_opens {d : Nat} {sz : Nat} {A : Nat → Int → Int} {K V S E : Int → Int} {T N : Int} {σ0 σ : az_S} {c : Cf} (hI : MI sz A) (hN : 0 ≤ N ∧ N ≤ 400) (hTk : TkN (A 74) N K V S E T) (hM : MC sz A K V S E N σ0 σ c) (h0 : c.wr = 0) (hl : (c.fr.length : Int) < 64) (hop : 0 ≤ c.op ∧ c.op ≤ 10) (hn : 0 ≤ c.n ∧ c.n < T) {f x : Int} (hf : inI f) (hx1 : (f = 9 ∨ f = 10) → zx σ 94 ((c.fr.length : Int) + 1) = x) (hx2 : f ≠ 6) : cal (d + 4) 218 [.ref 42, .int (iI f)] σ (fun r τ => r = some (.int (iI (bI (c.op ≠ 10)))) ∧ MC sz A K V S E N σ0 τ (opensSign S f x c)) := by
  obtain ⟨hf1, hf2⟩ := hf
  refine cal_of (M := (yX12_opensSign, cX12_opensSign, 2, (some .boolean))) (cd := k_X12_opensSign) (L := [some (.ref 42), some (.int (iI f))]) rfl (Nat.le_of_ble_eq_true rfl) rfl rfl ?_
  refine aw_aload_n rfl rfl rfl ?_
  refine aw_gk (v := c.op) (63) rfl rfl (hM.f.k 42 rfl) rfl hM.v63 rfl (fun _ _ => ?_)
  refine aw_bipush rfl rfl rfl ?_
  refine aw_icmp (p' := 16) rfl ⟨by omega, by omega⟩ ⟨by omega, by omega⟩ rfl rfl (fun c1 => ?_) (fun c1 => ?_)
  · dsimp only [zc] at c1
    refine aw_aload_n rfl rfl rfl ?_
    refine aw_dup rfl rfl rfl ?_
    refine aw_gk (v := c.op) (63) rfl rfl (hM.f.k 42 rfl) rfl hM.v63 rfl (fun _ _ => ?_)
    refine aw_iconst rfl rfl ?_
    refine aw_iadd rfl rfl ?_
    refine aw_fw (63) hM.mv rfl rfl (hM.f.k 42 rfl) rfl rfl rfl ⟨by omega, by omega⟩ rfl (fun τ1 hV1 hD1 hU1 => ?_)
    have hM1 := hM.opn hV1 hD1 hU1 (i := 1) rfl
    refine aw_aload_n rfl rfl rfl ?_
    refine aw_iload_n rfl rfl rfl ?_
    refine aw_calc (x_frame (x := x) hM1 hl ⟨by omega, by omega⟩ (fun q => by rw [hD1.z 94 rfl]; exact hx1 q) (fun q => absurd q hx2)) rfl rfl rfl (Nat.le_of_ble_eq_true rfl) (Or.inr ⟨_, rfl, (hM1.f.k 42 rfl)⟩) rfl ?_
    rintro _ τ2 ⟨rfl, hM2⟩
    change aw _ _ _ _ 31 [some (.ref 42), some (.int (iI f))] [] _
    refine aw_aload_n rfl rfl rfl ?_
    refine aw_calc (x_next hI hN hTk hM2 hn) rfl rfl rfl (Nat.le_of_ble_eq_true rfl) (Or.inr ⟨_, rfl, (hM2.f.k 42 rfl)⟩) rfl ?_
    rintro _ τ3 ⟨rfl, hM3⟩
    change aw _ _ _ _ 35 [some (.ref 42), some (.int (iI f))] [] _
    refine aw_iconst rfl rfl ?_
    refine aw_retn rfl rfl ?_
    refine ⟨by rw [bI_t c1], ?_⟩
    unfold opensSign
    rw [if_neg c1]
    exact hM3
  · dsimp only [zc] at c1
    have c2 : c.op = 10 := by omega
    refine aw_aload_n rfl rfl rfl ?_
    refine aw_iconst rfl rfl ?_
    refine aw_calc (x_errs hM h0 (f := 3) ⟨by omega, by omega⟩) rfl rfl rfl (Nat.le_of_ble_eq_true rfl) (Or.inr ⟨_, rfl, (hM.f.k 42 rfl)⟩) rfl ?_
    rintro _ τ1 ⟨rfl, hM1⟩
    change aw _ _ _ _ 14 [some (.ref 42), some (.int (iI f))] [] _
    refine aw_iconst rfl rfl ?_
    refine aw_retn rfl rfl ?_
    refine ⟨by rw [bI_f (fun q => q c2)], ?_⟩
    unfold opensSign
    rw [if_pos c2]
    exact hM1
theorem works_p {c : Cf} {ρ : Int} {q : Int × Int} {w : List (Int × Int)} (he : c.ws = q :: w) (hq : q.2 = (c.fr.length : Int) ∧ ρ ≤ rnk q.1) : works ρ c = works ρ (c.n, c.st, c.fr, w, c.op, c.em ++ [(q.1, 0)], c.ru, c.wr, c.wa) := by
  have e : wk ρ c.fr.length c.ws = ((wk ρ c.fr.length w).1, (q.1, 0) :: (wk ρ c.fr.length w).2) := by
    rw [he]
    exact if_pos hq
  show ((c.n, c.st, c.fr, (wk ρ c.fr.length c.ws).1, c.op, c.em ++ (wk ρ c.fr.length c.ws).2, c.ru, c.wr, c.wa) : Cf) = (c.n, c.st, c.fr, (wk ρ c.fr.length w).1, c.op, (c.em ++ [(q.1, 0)]) ++ (wk ρ c.fr.length w).2, c.ru, c.wr, c.wa)
  rw [e, List.append_assoc]
  rfl
theorem works_s {c : Cf} {ρ : Int} (h : c.ws = [] ∨ ∃ q w, c.ws = q :: w ∧ ¬ (q.2 = (c.fr.length : Int) ∧ ρ ≤ rnk q.1)) : works ρ c = c := by
  have e : wk ρ c.fr.length c.ws = (c.ws, []) := by
    rcases h with h | ⟨q, w, h, k⟩
    · rw [h]; rfl
    · rw [h]; exact if_neg k
  show ((c.n, c.st, c.fr, (wk ρ c.fr.length c.ws).1, c.op, c.em ++ (wk ρ c.fr.length c.ws).2, c.ru, c.wr, c.wa) : Cf) = c
  rw [e, List.append_nil]
  rfl
set_option maxRecDepth 10000 in
set_option maxHeartbeats 2000000 in
theorem x_works_l {d : Nat} {sz : Nat} {A : Nat → Int → Int} {K V S E : Int → Int} {N : Int} {σ0 : az_S} {ρ : Int} (hρ : inI ρ) : ∀ (w : List (Int × Int)) (σ : az_S) (c : Cf), c.ws = w → MC sz A K V S E N σ0 σ c → (c.em.length : Int) + c.ws.length ≤ 900 → (c.ws.length : Int) ≤ 128 → (c.fr.length : Int) ≤ 64 → (∀ q, q ∈ c.ws → inI q.1 ∧ inI q.2) → aw (d + 1) k_X12_works none (fun r τ => r = none ∧ MC sz A K V S E N σ0 τ (works ρ c)) 0 [some (.ref 42), some (.int (iI ρ))] [] σ := by
  obtain ⟨hρ1, hρ2⟩ := hρ
  intro w
  induction w with
  | nil =>
    intro σ c he hM h1 h2 h3 h4
    refine aw_aload_n rfl rfl rfl ?_
    refine aw_gk (v := 0) (60) rfl rfl (hM.f.k 42 rfl) rfl (by rw [hM.v60, he]; rfl) rfl (fun _ _ => ?_)
    refine aw_if (p' := 70) rfl ⟨by omega, by omega⟩ rfl rfl (fun _ => ?_) (fun c1 => ?_)
    · refine aw_retv rfl ⟨rfl, ?_⟩
      rw [works_s (Or.inl he)]
      exact hM
    · dsimp only [zc] at c1
      omega
  | cons q w ih =>
    intro σ c he hM h1 h2 h3 h4
    have h60 := hM.v60
    have hw := hM.2.2.2.2.2.2
    have hq := h4 q (by rw [he]; exact List.mem_cons_self ..)
    obtain ⟨⟨hq1, hq2⟩, hq3, hq4⟩ := hq
    rw [he] at hw h1 h2
    rw [he, len_c] at h60
    rw [len_c] at h1 h2
    have hst : ¬ (q.2 = (c.fr.length : Int) ∧ ρ ≤ rnk q.1) → aw (d + 1) k_X12_works none (fun r τ => r = none ∧ MC sz A K V S E N σ0 τ (works ρ c)) 70 [some (.ref 42), some (.int (iI ρ))] [] σ := by
      intro hn
      refine aw_retv rfl ⟨rfl, ?_⟩
      rw [works_s (Or.inr ⟨q, w, he, hn⟩)]
      exact hM
    refine aw_aload_n rfl rfl rfl ?_
    refine aw_gk (v := ((w.length : Int) + 1)) (60) rfl rfl (hM.f.k 42 rfl) rfl h60 rfl (fun _ _ => ?_)
    refine aw_if (p' := 70) rfl ⟨by omega, by omega⟩ rfl rfl (fun c1 => ?_) (fun _ => ?_)
    · dsimp only [zc] at c1
      omega
    · refine aw_aload_n rfl rfl rfl ?_
      refine aw_getr (b := 81) rfl rfl (hM.f.k 42 rfl) (hM.f.r 42 62 81 rfl) rfl ?_
      refine aw_aload_n rfl rfl rfl ?_
      refine aw_gk (v := ((w.length : Int) + 1)) (60) rfl rfl (hM.f.k 42 rfl) rfl h60 rfl (fun _ _ => ?_)
      refine aw_iconst rfl rfl ?_
      refine aw_isub rfl rfl ?_
      refine aw_ak (v := q.2) (N := 128) rfl (hM.f.s 81 rfl) (by omega) (by omega) (by omega) (by rw [show (w.length : Int) + 1 - 1 = w.length by omega]; exact hw.1.2) rfl (fun _ _ => ?_)
      refine aw_aload_n rfl rfl rfl ?_
      refine aw_gk (v := (c.fr.length : Int)) (58) rfl rfl (hM.f.k 42 rfl) rfl hM.v58 rfl (fun _ _ => ?_)
      refine aw_icmp (p' := 70) rfl ⟨by omega, by omega⟩ ⟨by omega, by omega⟩ rfl rfl (fun c2 => ?_) (fun c2 => ?_)
      · dsimp only [zc] at c2
        exact hst (fun z => c2 z.1)
      · dsimp only [zc] at c2
        refine aw_aload_n rfl rfl rfl ?_
        refine aw_getr (b := 80) rfl rfl (hM.f.k 42 rfl) (hM.f.r 42 61 80 rfl) rfl ?_
        refine aw_aload_n rfl rfl rfl ?_
        refine aw_gk (v := ((w.length : Int) + 1)) (60) rfl rfl (hM.f.k 42 rfl) rfl h60 rfl (fun _ _ => ?_)
        refine aw_iconst rfl rfl ?_
        refine aw_isub rfl rfl ?_
        refine aw_ak (v := q.1) (N := 128) rfl (hM.f.s 80 rfl) (by omega) (by omega) (by omega) (by rw [show (w.length : Int) + 1 - 1 = w.length by omega]; exact hw.1.1) rfl (fun _ _ => ?_)
        refine aw_fnc (m_rank ⟨by omega, by omega⟩) rfl rfl rfl (Nat.le_of_ble_eq_true rfl) (Or.inl rfl) rfl ?_
        have hrb := rnk_b q.1
        refine aw_iload_n rfl rfl rfl ?_
        refine aw_icmp (p' := 70) rfl ⟨by omega, by omega⟩ ⟨by omega, by omega⟩ rfl rfl (fun c3 => ?_) (fun c3 => ?_)
        · dsimp only [zc] at c3
          exact hst (fun z => by omega)
        · dsimp only [zc] at c3
          refine aw_aload_n rfl rfl rfl ?_
          refine aw_dup rfl rfl rfl ?_
          refine aw_gk (v := ((w.length : Int) + 1)) (60) rfl rfl (hM.f.k 42 rfl) rfl h60 rfl (fun _ _ => ?_)
          refine aw_iconst rfl rfl ?_
          refine aw_isub rfl rfl ?_
          refine aw_fw (60) hM.mv rfl rfl (hM.f.k 42 rfl) rfl rfl rfl ⟨by omega, by omega⟩ rfl (fun τ1 hV1 hD1 hU1 => ?_)
          have hM1 := hM.wpop hV1 hD1 hU1 he (by rw [he, len_c])
          refine aw_aload_n rfl rfl rfl ?_
          refine aw_aload_n rfl rfl rfl ?_
          refine aw_getr (b := 80) rfl rfl (hM1.f.k 42 rfl) (hM1.f.r 42 61 80 rfl) rfl ?_
          refine aw_aload_n rfl rfl rfl ?_
          refine aw_gk (v := (w.length : Int)) (60) rfl rfl (hM1.f.k 42 rfl) rfl hM1.v60 rfl (fun _ _ => ?_)
          refine aw_ak (v := q.1) (N := 128) rfl (hM1.f.s 80 rfl) (by omega) (by omega) (by omega) (by rw [hD1.z 80 rfl]; exact hw.1.1) rfl (fun _ _ => ?_)
          refine aw_iconst rfl rfl ?_
          refine aw_calc (x_emits hM1 (by show (c.em.length : Int) < 900; omega) ⟨by omega, by omega⟩ ⟨by omega, by omega⟩) rfl rfl rfl (Nat.le_of_ble_eq_true rfl) (Or.inr ⟨_, rfl, (hM1.f.k 42 rfl)⟩) rfl ?_
          rintro _ τ2 ⟨rfl, hM2⟩
          change aw _ _ _ _ 67 [some (.ref 42), some (.int (iI ρ))] [] _
          refine aw_goto (p' := 0) rfl rfl ?_
          rw [works_p he ⟨by omega, by omega⟩]
          refine ih τ2 _ rfl hM2 ?_ (by show (w.length : Int) ≤ 128; omega) h3 (fun z hz => h4 z (by rw [he]; exact List.mem_cons_of_mem _ hz))
          show ((c.em ++ [(q.1, 0)]).length : Int) + (w.length : Int) ≤ 900
          rw [List.length_append]
          simp only [List.length_cons, List.length_nil]
          omega
theorem x_works {d : Nat} {sz : Nat} {A : Nat → Int → Int} {K V S E : Int → Int} {N : Int} {σ0 σ : az_S} {c : Cf} (hM : MC sz A K V S E N σ0 σ c) {ρ : Int} (hρ : inI ρ) (h1 : (c.em.length : Int) + c.ws.length ≤ 900) (h2 : (c.ws.length : Int) ≤ 128) (h3 : (c.fr.length : Int) ≤ 64) (h4 : ∀ q, q ∈ c.ws → inI q.1 ∧ inI q.2) : cal (d + 2) 220 [.ref 42, .int (iI ρ)] σ (fun r τ => r = none ∧ MC sz A K V S E N σ0 τ (works ρ c)) := by
  refine cal_of (M := (yX12_works, cX12_works, 2, none)) (cd := k_X12_works) (L := [some (.ref 42), some (.int (iI ρ))]) rfl (Nat.le_of_ble_eq_true rfl) rfl rfl ?_
  exact x_works_l hρ _ σ c rfl hM h1 h2 h3 h4
set_option maxRecDepth 10000 in
set_option maxHeartbeats 2000000 in
theorem x_waits {d : Nat} {sz : Nat} {A : Nat → Int → Int} {K V S E : Int → Int} {T N : Int} {σ0 σ : az_S} {c : Cf} (hI : MI sz A) (hN : 0 ≤ N ∧ N ≤ 400) (hTk : TkN (A 74) N K V S E T) (hM : MC sz A K V S E N σ0 σ c) (hn : 0 ≤ c.n ∧ c.n < T) {o : Int} (ho : inI o) (h1 : (c.em.length : Int) + c.ws.length ≤ 900) (h2 : (c.ws.length : Int) < 128) (h3 : (c.fr.length : Int) ≤ 64) (h4 : ∀ q, q ∈ c.ws → inI q.1 ∧ inI q.2) : cal (d + 4) 221 [.ref 42, .int (iI o)] σ (fun r τ => r = none ∧ MC sz A K V S E N σ0 τ (waitsFor o c)) := by
  obtain ⟨ho1, ho2⟩ := ho
  refine cal_of (M := (yX12_waitsFor, cX12_waitsFor, 2, none)) (cd := k_X12_waitsFor) (L := [some (.ref 42), some (.int (iI o))]) rfl (Nat.le_of_ble_eq_true rfl) rfl rfl ?_
  have hrb := rnk_b o
  refine aw_aload_n rfl rfl rfl ?_
  refine aw_iload_n rfl rfl rfl ?_
  refine aw_fnc (m_rank ⟨by omega, by omega⟩) rfl rfl rfl (Nat.le_of_ble_eq_true rfl) (Or.inl rfl) rfl ?_
  refine aw_calc (x_works hM ⟨by omega, by omega⟩ h1 (by omega) h3 h4) rfl rfl rfl (Nat.le_of_ble_eq_true rfl) (Or.inr ⟨_, rfl, (hM.f.k 42 rfl)⟩) rfl ?_
  rintro _ τ1 ⟨rfl, hM1⟩
  change aw _ _ _ _ 8 [some (.ref 42), some (.int (iI o))] [] _
  have hws := (wk_suf (ρ := rnk o) (m := (c.fr.length : Int)) c.ws).2
  obtain ⟨w, hw⟩ : ∃ w, (works (rnk o) c).ws = w := ⟨_, rfl⟩
  have hwl : (w.length : Int) < 128 := by
    have : (works (rnk o) c).ws.length ≤ c.ws.length := by
      show (wk (rnk o) c.fr.length c.ws).1.length ≤ _
      omega
    rw [hw] at this
    omega
  have h60 := hM1.v60
  rw [hw] at h60
  have h58 : zx τ1 42 58 = (c.fr.length : Int) := hM1.v58
  refine aw_aload_n rfl rfl rfl ?_
  refine aw_getr (b := 80) rfl rfl (hM1.f.k 42 rfl) (hM1.f.r 42 61 80 rfl) rfl ?_
  refine aw_aload_n rfl rfl rfl ?_
  refine aw_gk (v := (w.length : Int)) (60) rfl rfl (hM1.f.k 42 rfl) rfl h60 rfl (fun _ _ => ?_)
  refine aw_iload_n rfl rfl rfl ?_
  refine aw_ss (N := 128) hM1.mv rfl (hM1.f.s 80 rfl) (by omega) rfl (by omega) (by omega) ⟨by omega, by omega⟩ rfl (fun τ2 hV2 hD2 hU2 => ?_)
  refine aw_aload_n rfl rfl rfl ?_
  refine aw_getr (b := 81) rfl rfl (hV2.1.k 42 rfl) (hV2.1.r 42 62 81 rfl) rfl ?_
  refine aw_aload_n rfl rfl rfl ?_
  refine aw_gk (v := (w.length : Int)) (60) rfl rfl (hV2.1.k 42 rfl) rfl (by rw [hD2.z 42 rfl]; exact h60) rfl (fun _ _ => ?_)
  refine aw_aload_n rfl rfl rfl ?_
  refine aw_gk (v := (c.fr.length : Int)) (58) rfl rfl (hV2.1.k 42 rfl) rfl (by rw [hD2.z 42 rfl]; exact h58) rfl (fun _ _ => ?_)
  refine aw_ss (N := 128) hV2 rfl (hV2.1.s 81 rfl) (by omega) rfl (by omega) (by omega) ⟨by omega, by omega⟩ rfl (fun τ3 hV3 hD3 hU3 => ?_)
  refine aw_aload_n rfl rfl rfl ?_
  refine aw_dup rfl rfl rfl ?_
  refine aw_gk (v := (w.length : Int)) (60) rfl rfl (hV3.1.k 42 rfl) rfl (by rw [hD3.z 42 rfl, hD2.z 42 rfl]; exact h60) rfl (fun _ _ => ?_)
  refine aw_iconst rfl rfl ?_
  refine aw_iadd rfl rfl ?_
  refine aw_fw (60) hV3 rfl rfl (hV3.1.k 42 rfl) rfl rfl rfl ⟨by omega, by omega⟩ rfl (fun τ4 hV4 hD4 hU4 => ?_)
  have hM4 : MC sz A K V S E N σ0 τ4 ((works (rnk o) c).n, (works (rnk o) c).st, (works (rnk o) c).fr, (o, (c.fr.length : Int)) :: (works (rnk o) c).ws, (works (rnk o) c).op, (works (rnk o) c).em, (works (rnk o) c).ru, (works (rnk o) c).wr, (works (rnk o) c).wa) := by
    obtain ⟨m1, m2, ⟨a1, a2, a3, a4, a5⟩, ⟨b1, b2, b3, b4, b5, b6, b7, b8⟩, e1, e2, e3⟩ := hM1
    have z42 : zx τ3 42 = zx τ1 42 := by rw [hD3.z 42 rfl, hD2.z 42 rfl]
    have hD : Mod τ1 τ4 [42, 75, 76, 79, 80, 81, 94, 95] := ((hD2.su rfl).tr (hD3.su rfl)).tr (hD4.su rfl)
    refine ⟨hV4, m2.tr hD, ⟨?_, ?_, ?_, ?_, ?_⟩, ⟨?_, ?_, ?_, ?_, ?_, ?_, ?_, ?_⟩, ?_, ?_, ?_⟩
    · rw [hU4, if_neg (by decide), z42]; exact a1
    · rw [hU4, if_neg (by decide), z42]; exact a2
    · rw [hU4, if_neg (by decide), z42]; exact a3
    · rw [hU4, if_neg (by decide), z42]; exact a4
    · rw [hU4, if_neg (by decide), z42]; exact a5
    · rw [hU4, if_neg (by decide), z42]; exact b1
    · rw [hU4, if_neg (by decide), z42]; exact b2
    · rw [hU4, if_neg (by decide), z42]; exact b3
    · rw [hU4, if_neg (by decide), z42]; exact b4
    · rw [hU4, if_neg (by decide), z42]; exact b5
    · rw [hU4, if_pos rfl]
      show _ = (((o, (c.fr.length : Int)) :: (works (rnk o) c).ws).length : Int)
      rw [len_c, hw]
    · rw [hU4, if_neg (by decide), z42]; exact b7
    · rw [hU4, if_neg (by decide), z42]; exact b8
    · rw [hD4.z 75 rfl, hD4.z 76 rfl, hD3.z 75 rfl, hD3.z 76 rfl, hD2.z 75 rfl, hD2.z 76 rfl]; exact e1
    · rw [hD4.z 79 rfl, hD4.z 94 rfl, hD4.z 95 rfl, hD3.z 79 rfl, hD3.z 94 rfl, hD3.z 95 rfl, hD2.z 79 rfl, hD2.z 94 rfl, hD2.z 95 rfl]; exact e2
    · rw [hD4.z 80 rfl, hD4.z 81 rfl, hD3.z 80 rfl]
      show wsC _ _ ((o, (c.fr.length : Int)) :: (works (rnk o) c).ws)
      rw [hw] at e3 ⊢
      refine ⟨⟨by rw [hU2, if_pos rfl], by rw [hU3, if_pos rfl]⟩, wsC_up _ e3 (fun z hz => ?_)⟩
      rw [hU2, hU3, hD2.z 81 rfl, if_neg (by omega), if_neg (by omega)]
      exact ⟨rfl, rfl⟩
  refine aw_aload_n rfl rfl rfl ?_
  refine aw_calc (x_next hI hN hTk hM4 hn) rfl rfl rfl (Nat.le_of_ble_eq_true rfl) (Or.inr ⟨_, rfl, (hM4.f.k 42 rfl)⟩) rfl ?_
  rintro _ τ5 ⟨rfl, hM5⟩
  change aw _ _ _ _ 45 [some (.ref 42), some (.int (iI o))] [] _
  exact aw_retv rfl ⟨rfl, hM5⟩
theorem oneOver_p {c : Cf} {q : Int × Int} {r : List (Int × Int)} (he : c.fr = q :: r) (hq : q.1 = 8) : oneOver c = oneOver ((c.pop.opn (-1)).emit 402 0) := by
  have e : ovr 8 402 c.fr c.op c.em = ovr 8 402 r (c.op + -1) (c.em ++ [(402, 0)]) := by
    rw [he]
    exact if_pos hq
  have e2 : c.pop.fr = r := by
    show c.fr.tail = r
    rw [he]; rfl
  show ((c.n, 2, (ovr 8 402 c.fr c.op c.em).1, c.ws, (ovr 8 402 c.fr c.op c.em).2.1, (ovr 8 402 c.fr c.op c.em).2.2, c.ru, c.wr, c.wa) : Cf) = (c.n, 2, (ovr 8 402 c.pop.fr (c.op + -1) (c.em ++ [(402, 0)])).1, c.ws, (ovr 8 402 c.pop.fr (c.op + -1) (c.em ++ [(402, 0)])).2.1, (ovr 8 402 c.pop.fr (c.op + -1) (c.em ++ [(402, 0)])).2.2, c.ru, c.wr, c.wa)
  rw [e, e2]
theorem oneOver_s {c : Cf} {q : Int × Int} {r : List (Int × Int)} (he : c.fr = q :: r) (hq : q.1 ≠ 8) : oneOver c = c.to 2 := by
  have e : ovr 8 402 c.fr c.op c.em = (c.fr, c.op, c.em) := by
    rw [he]
    exact if_neg hq
  show ((c.n, 2, (ovr 8 402 c.fr c.op c.em).1, c.ws, (ovr 8 402 c.fr c.op c.em).2.1, (ovr 8 402 c.fr c.op c.em).2.2, c.ru, c.wr, c.wa) : Cf) = _
  rw [e]
  rfl
set_option maxRecDepth 10000 in
set_option maxHeartbeats 2000000 in
theorem x_one_l {d : Nat} {sz : Nat} {A : Nat → Int → Int} {K V S E : Int → Int} {N : Int} {σ0 : az_S} : ∀ (r : List (Int × Int)) (q : Int × Int) (σ : az_S) (c : Cf), c.fr = q :: r → fv (q :: r) → MC sz A K V S E N σ0 σ c → (c.em.length : Int) + c.fr.length ≤ 900 → (c.fr.length : Int) ≤ 64 → (c.op ≤ 100 ∧ -100 + (c.fr.length : Int) ≤ c.op) → aw (d + 1) k_X12_oneIsOver none (fun r τ => r = none ∧ MC sz A K V S E N σ0 τ (oneOver c)) 0 [some (.ref 42)] [] σ := by
  intro r
  induction r with
  | nil =>
    intro q σ c he hv hM h1 h2 h3
    have hq : q.1 = 1 ∨ q.1 = 2 := hv
    refine aw_aload_n rfl rfl rfl ?_
    refine aw_fnc (x_top hM he h2) rfl rfl rfl (Nat.le_of_ble_eq_true rfl) (Or.inr ⟨_, rfl, (hM.f.k 42 rfl)⟩) rfl ?_
    refine aw_bipush rfl rfl rfl ?_
    refine aw_icmp (p' := 40) rfl ⟨by omega, by omega⟩ ⟨by omega, by omega⟩ rfl rfl (fun _ => ?_) (fun c1 => ?_)
    · refine aw_aload_n rfl rfl rfl ?_
      refine aw_iconst rfl rfl ?_
      refine aw_fw (78) hM.mv rfl rfl (hM.f.k 42 rfl) rfl rfl rfl ⟨by omega, by omega⟩ rfl (fun τ1 hV1 hD1 hU1 => ?_)
      have hM1 := hM.to hV1 hD1 hU1
      refine aw_retv rfl ⟨rfl, ?_⟩
      rw [oneOver_s he (by omega)]
      exact hM1
    · dsimp only [zc] at c1
      omega
  | cons q' r ih =>
    intro q σ c he hv hM h1 h2 h3
    have hqb : 1 ≤ q.1 ∧ q.1 ≤ 10 := by have := hv.2; omega
    have he1 : (c.fr.length : Int) = ((q' :: r).length : Int) + 1 := by rw [he, len_c]
    refine aw_aload_n rfl rfl rfl ?_
    refine aw_fnc (x_top hM he h2) rfl rfl rfl (Nat.le_of_ble_eq_true rfl) (Or.inr ⟨_, rfl, (hM.f.k 42 rfl)⟩) rfl ?_
    refine aw_bipush rfl rfl rfl ?_
    refine aw_icmp (p' := 40) rfl ⟨by omega, by omega⟩ ⟨by omega, by omega⟩ rfl rfl (fun c1 => ?_) (fun c1 => ?_)
    · dsimp only [zc] at c1
      refine aw_aload_n rfl rfl rfl ?_
      refine aw_iconst rfl rfl ?_
      refine aw_fw (78) hM.mv rfl rfl (hM.f.k 42 rfl) rfl rfl rfl ⟨by omega, by omega⟩ rfl (fun τ1 hV1 hD1 hU1 => ?_)
      have hM1 := hM.to hV1 hD1 hU1
      refine aw_retv rfl ⟨rfl, ?_⟩
      rw [oneOver_s he c1]
      exact hM1
    · dsimp only [zc] at c1
      refine aw_aload_n rfl rfl rfl ?_
      refine aw_dup rfl rfl rfl ?_
      refine aw_gk (v := (c.fr.length : Int)) (58) rfl rfl (hM.f.k 42 rfl) rfl hM.v58 rfl (fun _ _ => ?_)
      refine aw_iconst rfl rfl ?_
      refine aw_isub rfl rfl ?_
      refine aw_fw (58) hM.mv rfl rfl (hM.f.k 42 rfl) rfl rfl rfl ⟨by omega, by omega⟩ rfl (fun τ1 hV1 hD1 hU1 => ?_)
      have hM1 := hM.pop hV1 hD1 hU1 he rfl
      refine aw_aload_n rfl rfl rfl ?_
      refine aw_dup rfl rfl rfl ?_
      refine aw_gk (v := c.op) (63) rfl rfl (hM1.f.k 42 rfl) rfl hM1.v63 rfl (fun _ _ => ?_)
      refine aw_iconst rfl rfl ?_
      refine aw_isub rfl rfl ?_
      refine aw_fw (63) hM1.mv rfl rfl (hM1.f.k 42 rfl) rfl rfl rfl ⟨by omega, by omega⟩ rfl (fun τ2 hV2 hD2 hU2 => ?_)
      have hM2 := hM1.opn hV2 hD2 hU2 (i := -1) rfl
      refine aw_aload_n rfl rfl rfl ?_
      refine aw_sipush rfl rfl rfl ?_
      refine aw_iconst rfl rfl ?_
      refine aw_calc (x_emits hM2 (by show (c.em.length : Int) < 900; omega) ⟨by omega, by omega⟩ ⟨by omega, by omega⟩) rfl rfl rfl (Nat.le_of_ble_eq_true rfl) (Or.inr ⟨_, rfl, (hM2.f.k 42 rfl)⟩) rfl ?_
      rintro _ τ3 ⟨rfl, hM3⟩
      change aw _ _ _ _ 37 [some (.ref 42)] [] _
      refine aw_goto (p' := 0) rfl rfl ?_
      rw [oneOver_p he (by omega)]
      have e2 : c.pop.fr = q' :: r := by
        show c.fr.tail = _
        rw [he]; rfl
      refine ih q' τ3 _ e2 hv.1 hM3 ?_ ?_ ?_
      · show ((c.em ++ [(402, 0)]).length : Int) + (c.pop.fr.length : Int) ≤ 900
        rw [e2, List.length_append]
        simp only [List.length_cons, List.length_nil] at *
        omega
      · show (c.pop.fr.length : Int) ≤ 64
        rw [e2]; omega
      · show c.op + -1 ≤ 100 ∧ -100 + (c.pop.fr.length : Int) ≤ c.op + -1
        rw [e2]; omega
theorem x_one {d : Nat} {sz : Nat} {A : Nat → Int → Int} {K V S E : Int → Int} {N : Int} {σ0 σ : az_S} {c : Cf} (hM : MC sz A K V S E N σ0 σ c) (hv : fv c.fr) (h1 : (c.em.length : Int) + c.fr.length ≤ 900) (h2 : (c.fr.length : Int) ≤ 64) (h3 : c.op ≤ 100 ∧ -100 + (c.fr.length : Int) ≤ c.op) : cal (d + 2) 224 [.ref 42] σ (fun r τ => r = none ∧ MC sz A K V S E N σ0 τ (oneOver c)) := by
  refine cal_of (M := (yX12_oneIsOver, cX12_oneIsOver, 1, none)) (cd := k_X12_oneIsOver) (L := [some (.ref 42)]) rfl (Nat.le_of_ble_eq_true rfl) rfl rfl ?_
  cases he : c.fr with
  | nil => rw [he] at hv; exact absurd hv (fun x => x)
  | cons q r => exact x_one_l r q σ c he (by rw [← he]; exact hv) hM h1 h2 h3
theorem askOver_p {c : Cf} {q : Int × Int} {r : List (Int × Int)} (he : c.fr = q :: r) (hq : q.1 = 4) : askOver c = askOver ((c.pop.opn (-1)).emit 405 0) := by
  have e : ovr 4 405 c.fr c.op c.em = ovr 4 405 r (c.op + -1) (c.em ++ [(405, 0)]) := by
    rw [he]
    exact if_pos hq
  have e2 : c.pop.fr = r := by
    show c.fr.tail = r
    rw [he]; rfl
  show ((c.n, 3, (ovr 4 405 c.fr c.op c.em).1, c.ws, (ovr 4 405 c.fr c.op c.em).2.1, (ovr 4 405 c.fr c.op c.em).2.2, c.ru, c.wr, c.wa) : Cf) = (c.n, 3, (ovr 4 405 c.pop.fr (c.op + -1) (c.em ++ [(405, 0)])).1, c.ws, (ovr 4 405 c.pop.fr (c.op + -1) (c.em ++ [(405, 0)])).2.1, (ovr 4 405 c.pop.fr (c.op + -1) (c.em ++ [(405, 0)])).2.2, c.ru, c.wr, c.wa)
  rw [e, e2]
theorem askOver_s {c : Cf} {q : Int × Int} {r : List (Int × Int)} (he : c.fr = q :: r) (hq : q.1 ≠ 4) : askOver c = c.to 3 := by
  have e : ovr 4 405 c.fr c.op c.em = (c.fr, c.op, c.em) := by
    rw [he]
    exact if_neg hq
  show ((c.n, 3, (ovr 4 405 c.fr c.op c.em).1, c.ws, (ovr 4 405 c.fr c.op c.em).2.1, (ovr 4 405 c.fr c.op c.em).2.2, c.ru, c.wr, c.wa) : Cf) = _
  rw [e]
  rfl
set_option maxRecDepth 10000 in
set_option maxHeartbeats 2000000 in
theorem x_ask_l {d : Nat} {sz : Nat} {A : Nat → Int → Int} {K V S E : Int → Int} {N : Int} {σ0 : az_S} : ∀ (r : List (Int × Int)) (q : Int × Int) (σ : az_S) (c : Cf), c.fr = q :: r → fv (q :: r) → MC sz A K V S E N σ0 σ c → (c.em.length : Int) + c.fr.length ≤ 900 → (c.fr.length : Int) ≤ 64 → (c.op ≤ 100 ∧ -100 + (c.fr.length : Int) ≤ c.op) → aw (d + 1) k_X12_askIsOver none (fun r τ => r = none ∧ MC sz A K V S E N σ0 τ (askOver c)) 0 [some (.ref 42)] [] σ := by
  intro r
  induction r with
  | nil =>
    intro q σ c he hv hM h1 h2 h3
    have hq : q.1 = 1 ∨ q.1 = 2 := hv
    refine aw_aload_n rfl rfl rfl ?_
    refine aw_fnc (x_top hM he h2) rfl rfl rfl (Nat.le_of_ble_eq_true rfl) (Or.inr ⟨_, rfl, (hM.f.k 42 rfl)⟩) rfl ?_
    refine aw_iconst rfl rfl ?_
    refine aw_icmp (p' := 39) rfl ⟨by omega, by omega⟩ ⟨by omega, by omega⟩ rfl rfl (fun _ => ?_) (fun c1 => ?_)
    · refine aw_aload_n rfl rfl rfl ?_
      refine aw_iconst rfl rfl ?_
      refine aw_fw (78) hM.mv rfl rfl (hM.f.k 42 rfl) rfl rfl rfl ⟨by omega, by omega⟩ rfl (fun τ1 hV1 hD1 hU1 => ?_)
      have hM1 := hM.to hV1 hD1 hU1
      refine aw_retv rfl ⟨rfl, ?_⟩
      rw [askOver_s he (by omega)]
      exact hM1
    · dsimp only [zc] at c1
      omega
  | cons q' r ih =>
    intro q σ c he hv hM h1 h2 h3
    have hqb : 1 ≤ q.1 ∧ q.1 ≤ 10 := by have := hv.2; omega
    have he1 : (c.fr.length : Int) = ((q' :: r).length : Int) + 1 := by rw [he, len_c]
    refine aw_aload_n rfl rfl rfl ?_
    refine aw_fnc (x_top hM he h2) rfl rfl rfl (Nat.le_of_ble_eq_true rfl) (Or.inr ⟨_, rfl, (hM.f.k 42 rfl)⟩) rfl ?_
    refine aw_iconst rfl rfl ?_
    refine aw_icmp (p' := 39) rfl ⟨by omega, by omega⟩ ⟨by omega, by omega⟩ rfl rfl (fun c1 => ?_) (fun c1 => ?_)
    · dsimp only [zc] at c1
      refine aw_aload_n rfl rfl rfl ?_
      refine aw_iconst rfl rfl ?_
      refine aw_fw (78) hM.mv rfl rfl (hM.f.k 42 rfl) rfl rfl rfl ⟨by omega, by omega⟩ rfl (fun τ1 hV1 hD1 hU1 => ?_)
      have hM1 := hM.to hV1 hD1 hU1
      refine aw_retv rfl ⟨rfl, ?_⟩
      rw [askOver_s he c1]
      exact hM1
    · dsimp only [zc] at c1
      refine aw_aload_n rfl rfl rfl ?_
      refine aw_dup rfl rfl rfl ?_
      refine aw_gk (v := (c.fr.length : Int)) (58) rfl rfl (hM.f.k 42 rfl) rfl hM.v58 rfl (fun _ _ => ?_)
      refine aw_iconst rfl rfl ?_
      refine aw_isub rfl rfl ?_
      refine aw_fw (58) hM.mv rfl rfl (hM.f.k 42 rfl) rfl rfl rfl ⟨by omega, by omega⟩ rfl (fun τ1 hV1 hD1 hU1 => ?_)
      have hM1 := hM.pop hV1 hD1 hU1 he rfl
      refine aw_aload_n rfl rfl rfl ?_
      refine aw_dup rfl rfl rfl ?_
      refine aw_gk (v := c.op) (63) rfl rfl (hM1.f.k 42 rfl) rfl hM1.v63 rfl (fun _ _ => ?_)
      refine aw_iconst rfl rfl ?_
      refine aw_isub rfl rfl ?_
      refine aw_fw (63) hM1.mv rfl rfl (hM1.f.k 42 rfl) rfl rfl rfl ⟨by omega, by omega⟩ rfl (fun τ2 hV2 hD2 hU2 => ?_)
      have hM2 := hM1.opn hV2 hD2 hU2 (i := -1) rfl
      refine aw_aload_n rfl rfl rfl ?_
      refine aw_sipush rfl rfl rfl ?_
      refine aw_iconst rfl rfl ?_
      refine aw_calc (x_emits hM2 (by show (c.em.length : Int) < 900; omega) ⟨by omega, by omega⟩ ⟨by omega, by omega⟩) rfl rfl rfl (Nat.le_of_ble_eq_true rfl) (Or.inr ⟨_, rfl, (hM2.f.k 42 rfl)⟩) rfl ?_
      rintro _ τ3 ⟨rfl, hM3⟩
      change aw _ _ _ _ 36 [some (.ref 42)] [] _
      refine aw_goto (p' := 0) rfl rfl ?_
      rw [askOver_p he (by omega)]
      have e2 : c.pop.fr = q' :: r := by
        show c.fr.tail = _
        rw [he]; rfl
      refine ih q' τ3 _ e2 hv.1 hM3 ?_ ?_ ?_
      · show ((c.em ++ [(405, 0)]).length : Int) + (c.pop.fr.length : Int) ≤ 900
        rw [e2, List.length_append]
        simp only [List.length_cons, List.length_nil] at *
        omega
      · show (c.pop.fr.length : Int) ≤ 64
        rw [e2]; omega
      · show c.op + -1 ≤ 100 ∧ -100 + (c.pop.fr.length : Int) ≤ c.op + -1
        rw [e2]; omega
theorem x_ask {d : Nat} {sz : Nat} {A : Nat → Int → Int} {K V S E : Int → Int} {N : Int} {σ0 σ : az_S} {c : Cf} (hM : MC sz A K V S E N σ0 σ c) (hv : fv c.fr) (h1 : (c.em.length : Int) + c.fr.length ≤ 900) (h2 : (c.fr.length : Int) ≤ 64) (h3 : c.op ≤ 100 ∧ -100 + (c.fr.length : Int) ≤ c.op) : cal (d + 2) 225 [.ref 42] σ (fun r τ => r = none ∧ MC sz A K V S E N σ0 τ (askOver c)) := by
  refine cal_of (M := (yX12_askIsOver, cX12_askIsOver, 1, none)) (cd := k_X12_askIsOver) (L := [some (.ref 42)]) rfl (Nat.le_of_ble_eq_true rfl) rfl rfl ?_
  cases he : c.fr with
  | nil => rw [he] at hv; exact absurd hv (fun x => x)
  | cons q r => exact x_ask_l r q σ c he (by rw [← he]; exact hv) hM h1 h2 h3
set_option maxRecDepth 10000 in
set_option maxHeartbeats 2000000 in
theorem m_isAsking {d : Nat} {σ : az_S} {o : Int} (ho : inI o) : fn (d + 1) 226 [.int (iI o)] σ (.int (iI (bI (opC o)))) := by
  obtain ⟨ho1, ho2⟩ := ho
  refine fn_of (M := (yX12_isAsking, cX12_isAsking, 1, (some .boolean))) (cd := k_X12_isAsking) (L := [some (.int (iI o))]) rfl (Nat.le_of_ble_eq_true rfl) rfl rfl ?_
  have h1 : opC o → aw d k_X12_isAsking (some .boolean) (fun r τ => r = some (.int (iI (bI (opC o)))) ∧ τ = σ) 38 [some (.int (iI o))] [] σ := by
    intro h
    refine aw_iconst rfl rfl ?_
    refine aw_goto (p' := 43) rfl rfl ?_
    refine aw_retn rfl rfl ?_
    exact ⟨by rw [bI_t h], rfl⟩
  refine aw_iload_n rfl rfl rfl ?_
  refine aw_bipush rfl rfl rfl ?_
  refine aw_icmp (p' := 38) rfl ⟨by omega, by omega⟩ ⟨by omega, by omega⟩ rfl rfl (fun c1 => h1 (Or.inl c1)) (fun c1 => ?_)
  refine aw_iload_n rfl rfl rfl ?_
  refine aw_bipush rfl rfl rfl ?_
  refine aw_icmp (p' := 38) rfl ⟨by omega, by omega⟩ ⟨by omega, by omega⟩ rfl rfl (fun c2 => h1 (Or.inr (Or.inl c2))) (fun c2 => ?_)
  refine aw_iload_n rfl rfl rfl ?_
  refine aw_bipush rfl rfl rfl ?_
  refine aw_icmp (p' := 38) rfl ⟨by omega, by omega⟩ ⟨by omega, by omega⟩ rfl rfl (fun c3 => h1 (Or.inr (Or.inr (Or.inl c3)))) (fun c3 => ?_)
  refine aw_iload_n rfl rfl rfl ?_
  refine aw_bipush rfl rfl rfl ?_
  refine aw_icmp (p' := 38) rfl ⟨by omega, by omega⟩ ⟨by omega, by omega⟩ rfl rfl (fun c4 => h1 (Or.inr (Or.inr (Or.inr (Or.inl c4))))) (fun c4 => ?_)
  refine aw_iload_n rfl rfl rfl ?_
  refine aw_sipush rfl rfl rfl ?_
  refine aw_icmp (p' := 38) rfl ⟨by omega, by omega⟩ ⟨by omega, by omega⟩ rfl rfl (fun c5 => h1 (Or.inr (Or.inr (Or.inr (Or.inr (Or.inl c5)))))) (fun c5 => ?_)
  refine aw_iload_n rfl rfl rfl ?_
  refine aw_sipush rfl rfl rfl ?_
  refine aw_icmp (p' := 42) rfl ⟨by omega, by omega⟩ ⟨by omega, by omega⟩ rfl rfl (fun c6 => ?_) (fun c6 => ?_)
  · dsimp only [zc] at c1 c2 c3 c4 c5 c6
    refine aw_iconst rfl rfl ?_
    refine aw_retn rfl rfl ?_
    exact ⟨by rw [bI_f (by unfold opC; omega)], rfl⟩
  · dsimp only [zc] at c6
    exact h1 (Or.inr (Or.inr (Or.inr (Or.inr (Or.inr (by omega))))))
