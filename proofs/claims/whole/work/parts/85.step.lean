theorem fit_wt {c : Cf} {s a p a' o s' : Int} {new : List (Int × Int)} (h : fit c s a p) : (c.wt a' new o s').op = p ∧ ∀ q ∈ (c.wt a' new o s').ws, q.2 ≤ ((c.wt a' new o s').fr.length : Int) := by
  refine ⟨h.2.2.1.1, fun q hq => ?_⟩
  have hq' : q ∈ (o, (c.fr.length : Int)) :: c.ws := hq
  show q.2 ≤ (c.fr.length : Int)
  rcases List.mem_cons.mp hq' with rfl | hm
  · exact Int.le_refl _
  · exact h.2.2.1.2 q hm
theorem tyP_n {o : Int} (h : opN o) (t : List Bool) : tyP (o, 0) (false :: false :: t) (false :: t) := Or.inr (Or.inr (Or.inr (Or.inr (Or.inr (Or.inr ⟨h, t, rfl, rfl⟩)))))
theorem Q4_step {σ σ2 : az_S} {a p a' a'' o : Int} {n1 n2 : List (Int × Int)} (h1 : Qr 4 σ a p a' n1) (hk : zx σ 11 a' = 19 ∨ zx σ 11 a' = 20) (ho : o = sgn (zx σ 11 a')) (e1 : zx σ2 11 = zx σ 11) (e2 : zx σ2 12 = zx σ 12) (e3 : zx σ2 13 = zx σ 13) (h2 : Q1 σ2 (a' + 1) p a'' n2) : Qr 4 σ a p a'' (n1 ++ n2 ++ [(o, 0)]) := by
  have hr : rnk o = 4 ∧ opN o := by rcases hk with q | q <;> rw [ho, q] <;> exact ⟨rfl, by unfold opN sgn; decide⟩
  refine ⟨fun t ht => ?_, fun c hc hz => ?_⟩
  · refine tyR_app _ _ _ _ _ (tyR_app _ _ _ _ _ (h1.1 t ht) (h2.1 (false :: t) (by simp only [List.length_cons]; omega))) ⟨_, tyP_n hr.2 t, rfl⟩
  · obtain ⟨e, q1, q2, q3, q4⟩ := h1.2 c hc hz
    have q5 := goesOn_w (K := zx σ 11) (V := zx σ 13) (S := zx σ 12) q2 q3 q4 hc.2.2.2 (by omega) (by rw [← ho]; exact hr.1)
    rw [← ho] at q5
    have q6 := h2.2 (c.wt (a' + 1) n1 o 1) ⟨rfl, rfl, fit_wt hc, hc.2.2.2⟩
    rw [one_w hz.1, e1, e2, e3] at q6
    exact ⟨_, (q1.tr q5).tr q6, rfl, rfl, works_wt hz (by omega)⟩
theorem F4_step {σ σ2 : az_S} {a p a' o x f : Int} {n1 : List (Int × Int)} (h1 : Qr 4 σ a p a' n1) (hk : zx σ 11 a' = 19 ∨ zx σ 11 a' = 20) (ho : o = sgn (zx σ 11 a')) (e1 : zx σ2 11 = zx σ 11) (e2 : zx σ2 12 = zx σ 12) (e3 : zx σ2 13 = zx σ 13) (h2 : FQ σ2 (a' + 1) 1 p (fun _ => True) x f) : FQ σ a 1 p (Zr 4) x f := by
  have hr : rnk o = 4 := by rcases hk with q | q <;> rw [ho, q] <;> rfl
  intro c hc hz
  obtain ⟨e, q1, q2, q3, q4⟩ := h1.2 c hc hz
  have q5 := goesOn_w (K := zx σ 11) (V := zx σ 13) (S := zx σ 12) q2 q3 q4 hc.2.2.2 (by omega) (by rw [← ho]; exact hr)
  rw [← ho] at q5
  obtain ⟨e', q6, q7, q8⟩ := h2 (c.wt (a' + 1) n1 o 1) ⟨rfl, rfl, fit_wt hc, hc.2.2.2⟩ trivial
  rw [e1, e2, e3] at q6
  rw [e2] at q8
  exact ⟨e', (q1.tr q5).tr q6, q7, q8⟩
theorem Q3_step {σ σ2 : az_S} {a p a' a'' o : Int} {n1 n2 : List (Int × Int)} (h1 : Qr 3 σ a p a' n1) (hk : zx σ 11 a' = 17 ∨ zx σ 11 a' = 18) (ho : o = sgn (zx σ 11 a')) (e1 : zx σ2 11 = zx σ 11) (e2 : zx σ2 12 = zx σ 12) (e3 : zx σ2 13 = zx σ 13) (h2 : Qr 4 σ2 (a' + 1) p a'' n2) : Qr 3 σ a p a'' (n1 ++ n2 ++ [(o, 0)]) := by
  have hr : rnk o = 3 ∧ opN o := by rcases hk with q | q <;> rw [ho, q] <;> exact ⟨rfl, by unfold opN sgn; decide⟩
  refine ⟨fun t ht => ?_, fun c hc hz => ?_⟩
  · refine tyR_app _ _ _ _ _ (tyR_app _ _ _ _ _ (h1.1 t ht) (h2.1 (false :: t) (by simp only [List.length_cons]; omega))) ⟨_, tyP_n hr.2 t, rfl⟩
  · obtain ⟨e, q1, q2, q3, q4⟩ := h1.2 c hc hz
    have q5 := goesOn_w (K := zx σ 11) (V := zx σ 13) (S := zx σ 12) q2 q3 q4 hc.2.2.2 (by omega) (by rw [← ho]; exact hr.1)
    rw [← ho] at q5
    obtain ⟨e', q6, q7, q8, q9⟩ := h2.2 (c.wt (a' + 1) n1 o 1) ⟨rfl, rfl, fit_wt hc, hc.2.2.2⟩ (Zr_wt hz.1 (by omega))
    rw [e1, e2, e3] at q6
    refine ⟨e', (q1.tr q5).tr q6, q7, q8, ?_⟩
    rw [← works_2 (r := 3) (r' := 4) (by decide), q9]
    have q10 := works_wt (a := a'') (s := 2) (new := n1 ++ n2) hz (show 3 ≤ rnk o by omega)
    rw [← q10]
    congr 1
    show ((a'', (2 : Int), c.fr, (o, (c.fr.length : Int)) :: c.ws, c.op, (c.em ++ n1) ++ n2, c.ru, c.wr, c.wa) : Cf) = (a'', 2, c.fr, (o, (c.fr.length : Int)) :: c.ws, c.op, c.em ++ (n1 ++ n2), c.ru, c.wr, c.wa)
    rw [List.append_assoc]
theorem F3_step {σ σ2 : az_S} {a p a' o x f : Int} {n1 : List (Int × Int)} (h1 : Qr 3 σ a p a' n1) (hk : zx σ 11 a' = 17 ∨ zx σ 11 a' = 18) (ho : o = sgn (zx σ 11 a')) (e1 : zx σ2 11 = zx σ 11) (e2 : zx σ2 12 = zx σ 12) (e3 : zx σ2 13 = zx σ 13) (h2 : FQ σ2 (a' + 1) 1 p (Zr 4) x f) : FQ σ a 1 p (Zr 3) x f := by
  have hr : rnk o = 3 := by rcases hk with q | q <;> rw [ho, q] <;> rfl
  intro c hc hz
  obtain ⟨e, q1, q2, q3, q4⟩ := h1.2 c hc hz
  have q5 := goesOn_w (K := zx σ 11) (V := zx σ 13) (S := zx σ 12) q2 q3 q4 hc.2.2.2 (by omega) (by rw [← ho]; exact hr)
  rw [← ho] at q5
  obtain ⟨e', q6, q7, q8⟩ := h2 (c.wt (a' + 1) n1 o 1) ⟨rfl, rfl, fit_wt hc, hc.2.2.2⟩ (Zr_wt hz.1 (by omega))
  rw [e1, e2, e3] at q6
  rw [e2] at q8
  exact ⟨e', (q1.tr q5).tr q6, q7, q8⟩
