theorem Co.mono {sz : Nat} {κ : Nat × (Nat → Int32) × Option Nat} {A : Nat → Int → Int} {g : Nat → Nat} {E : Int → Int} {T : Int} {b y L L' : Nat} {p : Int} {Q : az_S → Int → Int → List (Int × Int) → Prop} {F : az_S → Int → Int → Int → Prop} (h : Co sz κ A g E T b y L p Q F) (hL : L ≤ L') : Co sz κ A g E T b y L' p Q F := fun σ a l hP => (h σ a l hP).mono hL
theorem c_os {d : Nat} {sz : Nat} {κ : Nat × (Nat → Int32) × Option Nat} {A : Nat → Int → Int} {g : Nat → Nat} {E : Int → Int} {T : Int} {b : Nat} (hb : b = 16 ∨ b = 22) (hI : MI sz A) {p : Int} (hp0 : 0 ≤ p) (hp1 : p ≤ 10) (h : Co sz κ A g E T b 22 (d + 5) p (fun σ a => Q1 σ a p) (fun σ a => FQ σ a 1 p (fun _ => True))) : Co sz κ A g E T b 20 (d + 7) p (fun σ a a' n => Qr 3 σ a p a' n ∧ zx σ 11 a' ≠ 17 ∧ zx σ 11 a' ≠ 18 ∧ zx σ 11 a' ≠ 19 ∧ zx σ 11 a' ≠ 20) (fun σ a => FQ σ a 1 p (Zr 3)) := c_sum (d := d + 2) hb hI hp0 hp1 (c_prod (d := d + 2) hb hI hp0 hp1 h)
/-- the nest -/
theorem c_nest {d : Nat} {sz : Nat} {κ : Nat × (Nat → Int32) × Option Nat} {A : Nat → Int → Int} {g : Nat → Nat} {E : Int → Int} {T : Int} {b : Nat} (hb : b = 16 ∨ b = 22) (hI : MI sz A) : ∀ (k : Nat) (p : Int), 10 - p = k → 0 ≤ p → Co sz κ A g E T b 22 (d + 3 * k + 5) p (fun σ a => Q1 σ a p) (fun σ a => FQ σ a 1 p (fun _ => True)) := by
  intro k
  induction k with
  | zero =>
    intro p hk hp
    exact c_one_w (d := d) hb hI hp (by omega) (fun q => absurd q (by omega)) (fun q => absurd q (by omega))
  | succ k ih =>
    intro p hk hp
    have h1 := ih (p + 1) (by omega) (by omega)
    have h2 := c_os hb hI (by omega) (by omega) h1
    have h3 : Co sz κ A g E T b 22 (d + 3 * k + 3 + 5) p (fun σ a => Q1 σ a p) (fun σ a => FQ σ a 1 p (fun _ => True)) := c_one_w (d := d + 3 * k + 3) hb hI hp (by omega) (fun _ => h2) (fun _ => h1.mono (by omega))
    exact h3.mono (by omega)
theorem c_sum_p {d : Nat} {sz : Nat} {κ : Nat × (Nat → Int32) × Option Nat} {A : Nat → Int → Int} {g : Nat → Nat} {E : Int → Int} {T : Int} {b : Nat} (hb : b = 16 ∨ b = 22) (hI : MI sz A) {k : Nat} {p : Int} (hk : 10 - p = k) (hp : 0 ≤ p) : Co sz κ A g E T b 20 (d + 3 * k + 7) p (fun σ a a' n => Qr 3 σ a p a' n ∧ zx σ 11 a' ≠ 17 ∧ zx σ 11 a' ≠ 18 ∧ zx σ 11 a' ≠ 19 ∧ zx σ 11 a' ≠ 20) (fun σ a => FQ σ a 1 p (Zr 3)) := c_os hb hI hp (by omega) (c_nest hb hI k p hk hp)
/-! ASKING -/
def Zb (r : Int) (c : Cf) : Prop := topF c ≠ 4 ∧ wk r c.fr.length c.ws = (c.ws, [])
def Qa (σ : az_S) (a p : Int) (a' : Int) (new : List (Int × Int)) : Prop := (∀ t : List Bool, (t.length : Int) + 3 * (10 - p) + 4 ≤ 64 → tyR new t (true :: t)) ∧ ∀ c : Cf, fit c 0 a p → Rch (zx σ 11) (zx σ 13) (zx σ 12) c (askOver (c.go a' new 0))
/-- what both (r = 2) and either (r = 1) say -/
def Qb (r : Int) (σ : az_S) (a p : Int) (a' : Int) (new : List (Int × Int)) : Prop := (∀ t : List Bool, (t.length : Int) + 3 * (10 - p) + (7 - r) ≤ 64 → tyR new t (true :: t)) ∧ ∀ c : Cf, fit c 0 a p → Zb r c → ∃ e : Cf, Rch (zx σ 11) (zx σ 13) (zx σ 12) c e ∧ e.st = 3 ∧ e.n = a' ∧ works r e = c.go a' new 3
theorem Qa.tk {σ τ : az_S} {a p a' : Int} {n : List (Int × Int)} (e1 : zx τ 11 = zx σ 11) (e2 : zx τ 12 = zx σ 12) (e3 : zx τ 13 = zx σ 13) (h : Qa τ a p a' n) : Qa σ a p a' n := by
  unfold Qa at h ⊢
  rw [e1, e2, e3] at h
  exact h
theorem Qb.tk {σ τ : az_S} {r a p a' : Int} {n : List (Int × Int)} (e1 : zx τ 11 = zx σ 11) (e2 : zx τ 12 = zx σ 12) (e3 : zx τ 13 = zx σ 13) (h : Qb r τ a p a' n) : Qb r σ a p a' n := by
  unfold Qb at h ⊢
  rw [e1, e2, e3] at h
  exact h
theorem asksOn_w {K V S : Int → Int} {c e : Cf} {a' r o : Int} {new : List (Int × Int)} (hst : e.st = 3) (hn : e.n = a') (hw : works r e = c.go a' new 3) (hwr : c.wr = 0) (hk : (K a' = 6 ∧ o = 407 ∧ r = 1) ∨ (K a' = 7 ∧ o = 406 ∧ r = 2)) : Rch K V S e (c.wt (a' + 1) new o 0) := by
  obtain ⟨e0, e1⟩ := w_fr hw
  refine Rch.one (e0.trans hwr) (Or.inl (by rw [hst]; decide)) ?_
  unfold stp
  rw [if_neg (by rw [hst]; decide), if_neg (by rw [hst]; decide), if_neg (by rw [hst]; decide), if_pos hst]
  unfold sAsksOn
  rcases hk with ⟨k, rfl, rfl⟩ | ⟨k, rfl, rfl⟩
  · rw [hn, if_pos k]
    unfold waitsFor
    rw [show rnk 407 = 1 from rfl, hw, e1]
    rfl
  · rw [hn, if_neg (by omega), if_pos k]
    unfold waitsFor
    rw [show rnk 406 = 2 from rfl, hw, e1]
    rfl
theorem ovr4 (f : List (Int × Int)) (p : Int) (m : List (Int × Int)) (hf : (f.headD (0, 0)).1 ≠ 4) : ovr 4 405 f p m = (f, p, m) := by
  cases f with
  | nil => rfl
  | cons x f => exact if_neg hf
theorem ask_w {c : Cf} {a'' : Int} {n1 n2 : List (Int × Int)} {o : Int} {a' : Int} (h : topF c ≠ 4) : askOver ((c.wt a' n1 o 0).go a'' n2 0) = (c.wt a'' (n1 ++ n2) o 3) := by
  have q2 := ovr4 c.fr c.op ((c.em ++ n1) ++ n2) h
  show ((a'', (3 : Int), (ovr 4 405 c.fr c.op ((c.em ++ n1) ++ n2)).1, (o, (c.fr.length : Int)) :: c.ws, (ovr 4 405 c.fr c.op ((c.em ++ n1) ++ n2)).2.1, (ovr 4 405 c.fr c.op ((c.em ++ n1) ++ n2)).2.2, c.ru, c.wr, c.wa) : Cf) = _
  rw [q2, List.append_assoc]
  rfl
theorem ask_z {c : Cf} {a' : Int} {new : List (Int × Int)} (h : topF c ≠ 4) : askOver (c.go a' new 0) = c.go a' new 3 := by
  have q2 := ovr4 c.fr c.op (c.em ++ new) h
  show ((a', (3 : Int), (ovr 4 405 c.fr c.op (c.em ++ new)).1, c.ws, (ovr 4 405 c.fr c.op (c.em ++ new)).2.1, (ovr 4 405 c.fr c.op (c.em ++ new)).2.2, c.ru, c.wr, c.wa) : Cf) = _
  rw [q2]
  rfl
theorem works_wb {c : Cf} {r o a s : Int} {new : List (Int × Int)} (h : Zb r c) (ho : r ≤ rnk o) : works r (c.wt a new o s) = c.go a (new ++ [(o, 0)]) s := by
  have q : wk r (c.fr.length : Int) ((o, (c.fr.length : Int)) :: c.ws) = (c.ws, [(o, 0)]) := by
    show (if (c.fr.length : Int) = c.fr.length ∧ r ≤ rnk o then _ else _) = _
    rw [if_pos ⟨rfl, ho⟩, h.2]
  show ((a, s, c.fr, (wk r (c.fr.length : Int) ((o, (c.fr.length : Int)) :: c.ws)).1, c.op, (c.em ++ new) ++ (wk r (c.fr.length : Int) ((o, (c.fr.length : Int)) :: c.ws)).2, c.ru, c.wr, c.wa) : Cf) = _
  rw [q, List.append_assoc]
  rfl
theorem works_gb {c : Cf} {r a s : Int} {new : List (Int × Int)} (h : Zb r c) : works r (c.go a new s) = c.go a new s := by
  show ((a, s, c.fr, (wk r (c.fr.length : Int) c.ws).1, c.op, (c.em ++ new) ++ (wk r (c.fr.length : Int) c.ws).2, c.ru, c.wr, c.wa) : Cf) = _
  rw [h.2, List.append_nil]
  rfl
theorem Zb_wt {c : Cf} {r o a s : Int} {new : List (Int × Int)} (h : topF c ≠ 4) (ho : rnk o < r) : Zb r (c.wt a new o s) := by
  refine ⟨h, ?_⟩
  show wk r (c.fr.length : Int) ((o, (c.fr.length : Int)) :: c.ws) = ((o, (c.fr.length : Int)) :: c.ws, [])
  exact if_neg (fun q => absurd (show r ≤ rnk o from q.2) (by omega))
theorem Zb_12 {c : Cf} (h : Zb 1 c) : Zb 2 c := by
  refine ⟨h.1, ?_⟩
  have q := wk_2 (m := (c.fr.length : Int)) (r := 1) (r' := 2) (by decide) c.ws
  have q2 := h.2
  have a1 : (wk 2 c.fr.length c.ws).2 = [] := by
    have : (wk 2 c.fr.length c.ws).2 ++ (wk 1 c.fr.length (wk 2 c.fr.length c.ws).1).2 = [] := by rw [q.2, q2]
    exact (List.append_eq_nil_iff.mp this).1
  have a2 : ∀ (w : List (Int × Int)), (wk 2 c.fr.length w).2 = [] → (wk 2 c.fr.length w).1 = w := by
    intro w hw
    cases w with
    | nil => rfl
    | cons x w =>
      by_cases k : x.2 = (c.fr.length : Int) ∧ 2 ≤ rnk x.1
      · simp only [wk, if_pos k] at hw
        exact absurd hw (by simp)
      · simp only [wk, if_neg k]
  exact Prod.ext (a2 _ a1) a1
theorem Zb_sub {c : Cf} {s0 a p f x a' s i r : Int} {m : List (Int × Int)} (h : fit c s0 a p) (hf : f ≠ 4) : Zb r (c.sub f x a' s i m) := ⟨hf, wk_sub c.ws h.2.2.1.2⟩
theorem Qb_1 {σ : az_S} {a p a' : Int} {new : List (Int × Int)} (h : Qa σ a p a' new) : Qb 2 σ a p a' new := by
  refine ⟨fun t ht => h.1 t (by omega), fun c hc hz => ⟨c.go a' new 3, ?_, rfl, rfl, works_gb hz⟩⟩
  have q := h.2 c hc
  rw [ask_z hz.1] at q
  exact q
theorem Qb_2 {σ : az_S} {a p a' : Int} {new : List (Int × Int)} (h : Qb 2 σ a p a' new) : Qb 1 σ a p a' new := by
  refine ⟨fun t ht => h.1 t (by omega), fun c hc hz => ?_⟩
  obtain ⟨e, h1, h2, h3, h4⟩ := h.2 c hc (Zb_12 hz)
  refine ⟨e, h1, h2, h3, ?_⟩
  rw [← works_2 (r := 1) (r' := 2) (by decide), h4, works_gb hz]
theorem tyP_b {o : Int} (h : opB o) (t : List Bool) : tyP (o, 0) (true :: true :: t) (true :: t) := Or.inr (Or.inr (Or.inr (Or.inr (Or.inl ⟨h, t, rfl, rfl⟩))))
theorem tyP_c {o : Int} (h : opC o) (t : List Bool) : tyP (o, 0) (false :: false :: t) (true :: t) := Or.inr (Or.inr (Or.inr (Or.inr (Or.inr (Or.inl ⟨h, t, rfl, rfl⟩)))))
theorem B2_step {σ : az_S} {a p a' a'' : Int} {n1 n2 : List (Int × Int)} (h1 : Qb 2 σ a p a' n1) (hk : zx σ 11 a' = 7) (h2 : Qa σ (a' + 1) p a'' n2) : Qb 2 σ a p a'' (n1 ++ n2 ++ [(406, 0)]) := by
  refine ⟨fun t ht => ?_, fun c hc hz => ?_⟩
  · refine tyR_app _ _ _ _ _ (tyR_app _ _ _ _ _ (h1.1 t ht) (h2.1 (true :: t) (by simp only [List.length_cons]; omega))) ⟨_, tyP_b (by unfold opB; decide) t, rfl⟩
  · obtain ⟨e, q1, q2, q3, q4⟩ := h1.2 c hc hz
    have q5 := asksOn_w (K := zx σ 11) (V := zx σ 13) (S := zx σ 12) q2 q3 q4 hc.2.2.2 (Or.inr ⟨hk, rfl, rfl⟩)
    have q6 := h2.2 (c.wt (a' + 1) n1 406 0) ⟨rfl, rfl, fit_wt hc, hc.2.2.2⟩
    rw [ask_w hz.1] at q6
    exact ⟨_, (q1.tr q5).tr q6, rfl, rfl, works_wb hz (by decide)⟩
theorem FB2_step {σ : az_S} {a p a' x f : Int} {n1 : List (Int × Int)} (h1 : Qb 2 σ a p a' n1) (hk : zx σ 11 a' = 7) (h2 : FQ σ (a' + 1) 0 p (fun _ => True) x f) : FQ σ a 0 p (Zb 2) x f := by
  intro c hc hz
  obtain ⟨e, q1, q2, q3, q4⟩ := h1.2 c hc hz
  have q5 := asksOn_w (K := zx σ 11) (V := zx σ 13) (S := zx σ 12) q2 q3 q4 hc.2.2.2 (Or.inr ⟨hk, rfl, rfl⟩)
  obtain ⟨e', q6, q7⟩ := h2 (c.wt (a' + 1) n1 406 0) ⟨rfl, rfl, fit_wt hc, hc.2.2.2⟩ trivial
  exact ⟨e', (q1.tr q5).tr q6, q7⟩
theorem B1_step {σ : az_S} {a p a' a'' : Int} {n1 n2 : List (Int × Int)} (h1 : Qb 1 σ a p a' n1) (hk : zx σ 11 a' = 6) (h2 : Qb 2 σ (a' + 1) p a'' n2) : Qb 1 σ a p a'' (n1 ++ n2 ++ [(407, 0)]) := by
  refine ⟨fun t ht => ?_, fun c hc hz => ?_⟩
  · refine tyR_app _ _ _ _ _ (tyR_app _ _ _ _ _ (h1.1 t ht) (h2.1 (true :: t) (by simp only [List.length_cons]; omega))) ⟨_, tyP_b (by unfold opB; decide) t, rfl⟩
  · obtain ⟨e, q1, q2, q3, q4⟩ := h1.2 c hc hz
    have q5 := asksOn_w (K := zx σ 11) (V := zx σ 13) (S := zx σ 12) q2 q3 q4 hc.2.2.2 (Or.inl ⟨hk, rfl, rfl⟩)
    obtain ⟨e', q6, q7, q8, q9⟩ := h2.2 (c.wt (a' + 1) n1 407 0) ⟨rfl, rfl, fit_wt hc, hc.2.2.2⟩ (Zb_wt hz.1 (by decide))
    refine ⟨e', (q1.tr q5).tr q6, q7, q8, ?_⟩
    rw [← works_2 (r := 1) (r' := 2) (by decide), q9]
    have q10 := works_wb (a := a'') (s := 3) (new := n1 ++ n2) hz (show 1 ≤ rnk 407 by decide)
    rw [← q10]
    congr 1
    show ((a'', (3 : Int), c.fr, (407, (c.fr.length : Int)) :: c.ws, c.op, (c.em ++ n1) ++ n2, c.ru, c.wr, c.wa) : Cf) = (a'', 3, c.fr, (407, (c.fr.length : Int)) :: c.ws, c.op, c.em ++ (n1 ++ n2), c.ru, c.wr, c.wa)
    rw [List.append_assoc]
theorem FB1_step {σ : az_S} {a p a' x f : Int} {n1 : List (Int × Int)} (h1 : Qb 1 σ a p a' n1) (hk : zx σ 11 a' = 6) (h2 : FQ σ (a' + 1) 0 p (Zb 2) x f) : FQ σ a 0 p (Zb 1) x f := by
  intro c hc hz
  obtain ⟨e, q1, q2, q3, q4⟩ := h1.2 c hc hz
  have q5 := asksOn_w (K := zx σ 11) (V := zx σ 13) (S := zx σ 12) q2 q3 q4 hc.2.2.2 (Or.inl ⟨hk, rfl, rfl⟩)
  obtain ⟨e', q6, q7⟩ := h2 (c.wt (a' + 1) n1 407 0) ⟨rfl, rfl, fit_wt hc, hc.2.2.2⟩ (Zb_wt hz.1 (by decide))
  exact ⟨e', (q1.tr q5).tr q6, q7⟩
theorem stp_0 {K V S : Int → Int} {c : Cf} {a p : Int} (h : fit c 0 a p) : stp K V S c = sAsks K V S c := by
  unfold stp
  rw [if_pos h.2.1]
theorem live_0 {K : Int → Int} {c : Cf} {a p : Int} (h : fit c 0 a p) : c.st ≠ 4 ∨ K c.n ≠ 0 := Or.inl (by rw [h.2.1]; decide)
theorem ask_op {K V S : Int → Int} {c : Cf} {a p f : Int} (h : fit c 0 a p) (hk : (K a = 8 ∧ f = 4) ∨ (K a = 23 ∧ f = 3)) (hp : p < 10) : Rch K V S c (c.sub f 0 (a + 1) 0 1 []) := by
  refine Rch.one h.2.2.2 (live_0 h) ?_
  rw [stp_0 h]
  unfold sAsks opensSign
  rcases hk with ⟨k, rfl⟩ | ⟨k, rfl⟩
  · rw [h.1, if_pos k, if_neg (by rw [h.2.2.1.1]; omega)]
    show ((c.n + 1, c.st, (4, 0) :: c.fr, c.ws, c.op + 1, c.em, c.ru, c.wr, c.wa) : Cf) = (a + 1, 0, (4, 0) :: c.fr, c.ws, c.op + 1, c.em ++ [], c.ru, c.wr, c.wa)
    rw [h.1, h.2.1, List.append_nil]
  · rw [h.1, if_neg (by omega), if_pos k, if_neg (by rw [h.2.2.1.1]; omega)]
    show ((c.n + 1, c.st, (3, 0) :: c.fr, c.ws, c.op + 1, c.em, c.ru, c.wr, c.wa) : Cf) = (a + 1, 0, (3, 0) :: c.fr, c.ws, c.op + 1, c.em ++ [], c.ru, c.wr, c.wa)
    rw [h.1, h.2.1, List.append_nil]
theorem ask_cmp {K V S : Int → Int} {c : Cf} {a p : Int} (h : fit c 0 a p) (hk : K a ≠ 8 ∧ K a ≠ 23) : Rch K V S c (c.sub 5 0 a 1 0 []) := by
  refine Rch.one h.2.2.2 (live_0 h) ?_
  rw [stp_0 h]
  unfold sAsks
  rw [h.1, if_neg hk.1, if_neg hk.2]
  show ((c.n, 1, (5, 0) :: c.fr, c.ws, c.op, c.em, c.ru, c.wr, c.wa) : Cf) = (a, 1, (5, 0) :: c.fr, c.ws, c.op + 0, c.em ++ [], c.ru, c.wr, c.wa)
  rw [h.1, List.append_nil, Int.add_zero]
theorem ask_err {K V S : Int → Int} {c : Cf} {a p : Int} (h : fit c 0 a p) (hk : K a = 8 ∨ K a = 23) (hp : p = 10) : ∃ e : Cf, Rch K V S c e ∧ e.wr = 3 ∧ e.wa = S a := by
  refine ⟨_, Rch.one h.2.2.2 (live_0 h) rfl, ?_⟩
  rw [stp_0 h]
  unfold sAsks opensSign
  have h10 : c.op = 10 := by rw [h.2.2.1.1]; exact hp
  rcases hk with k | k
  · rw [h.1, if_pos k, if_pos h10]
    exact ⟨rfl, by show S c.n = _; rw [h.1]⟩
  · rw [h.1, if_neg (by omega), if_pos k, if_pos h10]
    exact ⟨rfl, by show S c.n = _; rw [h.1]⟩
theorem fit_s0 {c : Cf} {s0 a p f x a' s : Int} {m : List (Int × Int)} (h : fit c s0 a p) : fit (c.sub f x a' s 0 m) s a' p := by
  have q := fit_sub (f := f) (x := x) (a' := a') (s := s) (i := 0) (m := m) h
  rw [Int.add_zero] at q
  exact q
theorem Qa_not {σ : az_S} {a p a' : Int} {n : List (Int × Int)} (hk : zx σ 11 a = 8) (hp : p < 10) (h : Qa σ (a + 1) (p + 1) a' n) : Qa σ a p a' (n ++ [(405, 0)]) := by
  refine ⟨fun t ht => tyR_app _ _ _ _ _ (h.1 t (by omega)) ⟨_, Or.inr (Or.inr (Or.inr (Or.inl ⟨rfl, t, rfl, rfl⟩))), rfl⟩, fun c hc => ?_⟩
  have q := h.2 _ (fit_sub (f := 4) (x := 0) (a' := a + 1) (s := 0) (i := 1) (m := []) hc)
  rw [ask_not] at q
  exact (ask_op hc (Or.inl ⟨hk, rfl⟩) hp).tr q
theorem Fa_not {σ : az_S} {a p x f : Int} {Z : Cf → Prop} (hk : zx σ 11 a = 8) (hp : p < 10) (h : FQ σ (a + 1) 0 (p + 1) (fun _ => True) x f) : FQ σ a 0 p Z x f := by
  intro c hc _
  obtain ⟨e, q1, q2⟩ := h _ (fit_sub (f := 4) (x := 0) (a' := a + 1) (s := 0) (i := 1) (m := []) hc) trivial
  exact ⟨e, (ask_op hc (Or.inl ⟨hk, rfl⟩) hp).tr q1, q2⟩
theorem br_1 {σ : az_S} {a p a' : Int} {n : List (Int × Int)} (hk : zx σ 11 a = 23) (hp : p < 10) (h : Qb 1 σ (a + 1) (p + 1) a' n) : ∀ c : Cf, fit c 0 a p → ∃ e : Cf, Rch (zx σ 11) (zx σ 13) (zx σ 12) c e ∧ e.st = 3 ∧ e.n = a' ∧ works 1 e = (c.sub 3 0 (a + 1) 0 1 []).go a' n 3 := by
  intro c hc
  obtain ⟨e, q1, q2, q3, q4⟩ := h.2 _ (fit_sub (f := 3) (x := 0) (a' := a + 1) (s := 0) (i := 1) (m := []) hc) (Zb_sub hc (by decide))
  exact ⟨e, (ask_op hc (Or.inr ⟨hk, rfl⟩) hp).tr q1, q2, q3, q4⟩
theorem Qa_br {σ : az_S} {a p a' : Int} {n : List (Int × Int)} (hk : zx σ 11 a = 23) (hp : p < 10) (h : Qb 1 σ (a + 1) (p + 1) a' n) (h2 : zx σ 11 a' = 24) : Qa σ a p (a' + 1) n := by
  refine ⟨fun t ht => h.1 t (by omega), fun c hc => ?_⟩
  obtain ⟨e, q1, q2, q3, q4⟩ := br_1 hk hp h c hc
  exact q1.tr (as_close q2 q3 q4 hc.2.2.2 ⟨by omega, by omega⟩ h2 rfl rfl)
theorem Fa_br {σ : az_S} {a p x f : Int} {Z : Cf → Prop} (hk : zx σ 11 a = 23) (hp : p < 10) (h : FQ σ (a + 1) 0 (p + 1) (Zb 1) x f) : FQ σ a 0 p Z x f := by
  intro c hc _
  obtain ⟨e, q1, q2⟩ := h _ (fit_sub (f := 3) (x := 0) (a' := a + 1) (s := 0) (i := 1) (m := []) hc) (Zb_sub hc (by decide))
  exact ⟨e, (ask_op hc (Or.inr ⟨hk, rfl⟩) hp).tr q1, q2⟩
theorem Fa_br2 {σ : az_S} {a p a' : Int} {n : List (Int × Int)} {Z : Cf → Prop} (hk : zx σ 11 a = 23) (hp : p < 10) (h : Qb 1 σ (a + 1) (p + 1) a' n) (hs : zx σ 11 a' ≠ 6 ∧ zx σ 11 a' ≠ 7) (h2 : zx σ 11 a' ≠ 24) : FQ σ a 0 p Z a' 1 := by
  intro c hc _
  obtain ⟨e, q1, q2, q3, q4⟩ := br_1 hk hp h c hc
  obtain ⟨e', r1, r2⟩ := as_err (K := zx σ 11) (V := zx σ 13) (S := zx σ 12) q2 q3 q4 hc.2.2.2 hs (Or.inl ⟨rfl, h2⟩)
  exact ⟨e', q1.tr r1, r2⟩
theorem cm_1 {σ : az_S} {a p a' : Int} {n : List (Int × Int)} (hk : zx σ 11 a ≠ 8 ∧ zx σ 11 a ≠ 23) (h : Qr 3 σ a p a' n) : ∀ c : Cf, fit c 0 a p → ∃ e : Cf, Rch (zx σ 11) (zx σ 13) (zx σ 12) c e ∧ e.st = 2 ∧ e.n = a' ∧ works 3 e = (c.sub 5 0 a 1 0 []).go a' n 2 := by
  intro c hc
  obtain ⟨e, q1, q2, q3, q4⟩ := h.2 _ (fit_s0 (f := 5) (x := 0) (a' := a) (s := 1) (m := []) hc) (Zr_sub hc (by decide))
  exact ⟨e, (ask_cmp hc hk).tr q1, q2, q3, q4⟩
theorem cm_2 {σ : az_S} {a p a' : Int} {n : List (Int × Int)} (hk : zx σ 11 a ≠ 8 ∧ zx σ 11 a ≠ 23) (h : Qr 3 σ a p a' n) (h2 : 11 ≤ zx σ 11 a' ∧ zx σ 11 a' ≤ 16) : ∀ c : Cf, fit c 0 a p → Rch (zx σ 11) (zx σ 13) (zx σ 12) c (c.sub 6 (sgn (zx σ 11 a')) (a' + 1) 1 0 ([] ++ n)) := by
  intro c hc
  obtain ⟨e, q1, q2, q3, q4⟩ := cm_1 hk h c hc
  exact q1.tr (gs_sign q2 q3 q4 hc.2.2.2 ⟨by omega, by omega, by omega, by omega⟩ h2 rfl)
theorem opC_s {k : Int} (h : 11 ≤ k ∧ k ≤ 16) : opC (sgn k) ∧ trO (sgn k) = k := by
  have : k = 11 ∨ k = 12 ∨ k = 13 ∨ k = 14 ∨ k = 15 ∨ k = 16 := by omega
  rcases this with rfl | rfl | rfl | rfl | rfl | rfl <;> exact ⟨by unfold opC sgn; decide, rfl⟩
theorem Qa_cmp {σ : az_S} {a p a1 a' : Int} {n n2 : List (Int × Int)} (hk : zx σ 11 a ≠ 8 ∧ zx σ 11 a ≠ 23) (h : Qr 3 σ a p a1 n) (h1 : 11 ≤ zx σ 11 a1 ∧ zx σ 11 a1 ≤ 16) (h2 : Qr 3 σ (a1 + 1) p a' n2) (hs : zx σ 11 a' ≠ 17 ∧ zx σ 11 a' ≠ 18 ∧ zx σ 11 a' ≠ 19 ∧ zx σ 11 a' ≠ 20) : Qa σ a p a' (n ++ n2 ++ [(sgn (zx σ 11 a1), 0)]) := by
  refine ⟨fun t ht => tyR_app _ _ _ _ _ (tyR_app _ _ _ _ _ (h.1 t (by omega)) (h2.1 (false :: t) (by simp only [List.length_cons]; omega))) ⟨_, tyP_c (opC_s h1).1 t, rfl⟩, fun c hc => ?_⟩
  obtain ⟨e, q1, q2, q3, q4⟩ := h2.2 _ (fit_s0 (f := 6) (x := sgn (zx σ 11 a1)) (a' := a1 + 1) (s := 1) (m := [] ++ n) hc) (Zr_sub hc (by decide))
  have q5 := gs_cmp (K := zx σ 11) (V := zx σ 13) (S := zx σ 12) q2 q3 q4 hc.2.2.2 hs rfl rfl
  rw [List.nil_append] at q5
  exact ((cm_2 hk h h1 c hc).tr q1).tr q5
theorem Fa_cm1 {σ : az_S} {a p x f : Int} {Z : Cf → Prop} (hk : zx σ 11 a ≠ 8 ∧ zx σ 11 a ≠ 23) (h : FQ σ a 1 p (Zr 3) x f) : FQ σ a 0 p Z x f := by
  intro c hc _
  obtain ⟨e, q1, q2⟩ := h _ (fit_s0 (f := 5) (x := 0) (a' := a) (s := 1) (m := []) hc) (Zr_sub hc (by decide))
  exact ⟨e, (ask_cmp hc hk).tr q1, q2⟩
theorem Fa_cm2 {σ : az_S} {a p a' : Int} {n : List (Int × Int)} {Z : Cf → Prop} (hk : zx σ 11 a ≠ 8 ∧ zx σ 11 a ≠ 23) (h : Qr 3 σ a p a' n) (hs : zx σ 11 a' ≠ 17 ∧ zx σ 11 a' ≠ 18 ∧ zx σ 11 a' ≠ 19 ∧ zx σ 11 a' ≠ 20) (h2 : ¬ (11 ≤ zx σ 11 a' ∧ zx σ 11 a' ≤ 16)) : FQ σ a 0 p Z a' 1 := by
  intro c hc _
  obtain ⟨e, q1, q2, q3, q4⟩ := cm_1 hk h c hc
  obtain ⟨e', r1, r2⟩ := gs_err (K := zx σ 11) (V := zx σ 13) (S := zx σ 12) q2 q3 q4 hc.2.2.2 hs (Or.inr (Or.inr (Or.inl ⟨rfl, h2⟩)))
  exact ⟨e', q1.tr r1, r2⟩
theorem Fa_cm3 {σ : az_S} {a p a' x f : Int} {n : List (Int × Int)} {Z : Cf → Prop} (hk : zx σ 11 a ≠ 8 ∧ zx σ 11 a ≠ 23) (h : Qr 3 σ a p a' n) (h1 : 11 ≤ zx σ 11 a' ∧ zx σ 11 a' ≤ 16) (h2 : FQ σ (a' + 1) 1 p (Zr 3) x f) : FQ σ a 0 p Z x f := by
  intro c hc _
  obtain ⟨e, q1, q2⟩ := h2 _ (fit_s0 (f := 6) (x := sgn (zx σ 11 a')) (a' := a' + 1) (s := 1) (m := [] ++ n) hc) (Zr_sub hc (by decide))
  exact ⟨e, (cm_2 hk h h1 c hc).tr q1, q2⟩
