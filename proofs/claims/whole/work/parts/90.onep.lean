theorem Qr.tk {σ τ : az_S} {r a p a' : Int} {n : List (Int × Int)} (e1 : zx τ 11 = zx σ 11) (e2 : zx τ 12 = zx σ 12) (e3 : zx τ 13 = zx σ 13) (h : Qr r τ a p a' n) : Qr r σ a p a' n := by
  unfold Qr at h ⊢
  rw [e1, e2, e3] at h
  exact h
theorem Q1.tk {σ τ : az_S} {a p a' : Int} {n : List (Int × Int)} (e1 : zx τ 11 = zx σ 11) (e2 : zx τ 12 = zx σ 12) (e3 : zx τ 13 = zx σ 13) (h : Q1 τ a p a' n) : Q1 σ a p a' n := by
  unfold Q1 at h ⊢
  rw [e1, e2, e3] at h
  exact h
theorem FQ.tk {σ τ : az_S} {a s p x f : Int} {Z : Cf → Prop} (e1 : zx τ 11 = zx σ 11) (e2 : zx τ 12 = zx σ 12) (e3 : zx τ 13 = zx σ 13) (h : FQ τ a s p Z x f) : FQ σ a s p Z x f := by
  unfold FQ at h ⊢
  rw [e1, e2, e3] at h
  exact h
/-- behind the first operand of a bracket -/
theorem par_1 {σ : az_S} {a p a' : Int} {n : List (Int × Int)} (hk : zx σ 11 a = 21) (hp : p < 10) (h : Qr 3 σ (a + 1) (p + 1) a' n) : ∀ c : Cf, fit c 1 a p → ∃ e : Cf, Rch (zx σ 11) (zx σ 13) (zx σ 12) c e ∧ e.st = 2 ∧ e.n = a' ∧ works 3 e = (c.sub 7 0 (a + 1) 1 1 []).go a' n 2 := by
  intro c hc
  obtain ⟨e, q1, q2, q3, q4⟩ := h.2 _ (fit_sub (f := 7) (x := 0) (a' := a + 1) (s := 1) (i := 1) (m := []) hc) (Zr_sub hc (by decide))
  exact ⟨e, (beg_par hc hk hp).tr q1, q2, q3, q4⟩
theorem Q1_par {σ : az_S} {a p a' : Int} {n : List (Int × Int)} (hk : zx σ 11 a = 21) (hp : p < 10) (h : Qr 3 σ (a + 1) (p + 1) a' n) (hs : zx σ 11 a' ≠ 17 ∧ zx σ 11 a' ≠ 18 ∧ zx σ 11 a' ≠ 19 ∧ zx σ 11 a' ≠ 20) (h2 : zx σ 11 a' = 22) : Q1 σ a p (a' + 1) n := by
  refine ⟨fun t ht => h.1 t (by omega), fun c hc => ?_⟩
  obtain ⟨e, q1, q2, q3, q4⟩ := par_1 hk hp h c hc
  exact q1.tr (gs_close q2 q3 q4 hc.2.2.2 hs h2 rfl rfl)
theorem F1_par {σ : az_S} {a p x f : Int} {Z : Cf → Prop} (hk : zx σ 11 a = 21) (hp : p < 10) (h : FQ σ (a + 1) 1 (p + 1) (Zr 3) x f) : FQ σ a 1 p Z x f := by
  intro c hc _
  obtain ⟨e, q1, q2⟩ := h _ (fit_sub (f := 7) (x := 0) (a' := a + 1) (s := 1) (i := 1) (m := []) hc) (Zr_sub hc (by decide))
  exact ⟨e, (beg_par hc hk hp).tr q1, q2⟩
theorem F1_par2 {σ : az_S} {a p a' : Int} {n : List (Int × Int)} {Z : Cf → Prop} (hk : zx σ 11 a = 21) (hp : p < 10) (h : Qr 3 σ (a + 1) (p + 1) a' n) (hs : zx σ 11 a' ≠ 17 ∧ zx σ 11 a' ≠ 18 ∧ zx σ 11 a' ≠ 19 ∧ zx σ 11 a' ≠ 20) (h2 : zx σ 11 a' ≠ 22) : FQ σ a 1 p Z a' 1 := by
  intro c hc _
  obtain ⟨e, q1, q2, q3, q4⟩ := par_1 hk hp h c hc
  obtain ⟨e', r1, r2⟩ := gs_err (K := zx σ 11) (V := zx σ 13) (S := zx σ 12) q2 q3 q4 hc.2.2.2 hs (Or.inl ⟨Or.inl rfl, h2⟩)
  exact ⟨e', q1.tr r1, r2⟩
theorem Q1_neg {σ : az_S} {a p a' : Int} {n : List (Int × Int)} (hk : zx σ 11 a = 18) (hp : p < 10) (h : Q1 σ (a + 1) (p + 1) a' n) : Q1 σ a p a' (n ++ [(402, 0)]) := by
  refine ⟨fun t ht => tyR_app _ _ _ _ _ (h.1 t (by omega)) ⟨_, Or.inr (Or.inr (Or.inl ⟨rfl, t, rfl, rfl⟩)), rfl⟩, fun c hc => ?_⟩
  have q := h.2 _ (fit_sub (f := 8) (x := 0) (a' := a + 1) (s := 1) (i := 1) (m := []) hc)
  rw [one_neg] at q
  exact (beg_neg hc hk hp).tr q
theorem F1_neg {σ : az_S} {a p x f : Int} {Z : Cf → Prop} (hk : zx σ 11 a = 18) (hp : p < 10) (h : FQ σ (a + 1) 1 (p + 1) (fun _ => True) x f) : FQ σ a 1 p Z x f := by
  intro c hc _
  obtain ⟨e, q1, q2⟩ := h _ (fit_sub (f := 8) (x := 0) (a' := a + 1) (s := 1) (i := 1) (m := []) hc) trivial
  exact ⟨e, (beg_neg hc hk hp).tr q1, q2⟩
theorem mm_1 {σ : az_S} {a p a' : Int} {n : List (Int × Int)} (hk : zx σ 11 a = 9 ∨ zx σ 11 a = 10) (hk2 : zx σ 11 (a + 1) = 21) (hp : p < 10) (h : Qr 3 σ (a + 1 + 1) (p + 1) a' n) : ∀ c : Cf, fit c 1 a p → ∃ e : Cf, Rch (zx σ 11) (zx σ 13) (zx σ 12) c e ∧ e.st = 2 ∧ e.n = a' ∧ works 3 e = (c.sub 9 (zx σ 11 a - 4) (a + 1 + 1) 1 1 []).go a' n 2 := by
  intro c hc
  obtain ⟨e, q1, q2, q3, q4⟩ := h.2 _ (fit_sub (f := 9) (x := zx σ 11 a - 4) (a' := a + 1 + 1) (s := 1) (i := 1) (m := []) hc) (Zr_sub hc (by decide))
  exact ⟨e, (beg_mm hc hk hk2 hp).tr q1, q2, q3, q4⟩
theorem mm_2 {σ : az_S} {a p a' : Int} {n : List (Int × Int)} (hk : zx σ 11 a = 9 ∨ zx σ 11 a = 10) (hk2 : zx σ 11 (a + 1) = 21) (hp : p < 10) (h : Qr 3 σ (a + 1 + 1) (p + 1) a' n) (h25 : zx σ 11 a' = 25) : ∀ c : Cf, fit c 1 a p → Rch (zx σ 11) (zx σ 13) (zx σ 12) c (c.sub 10 (zx σ 11 a - 4) (a' + 1) 1 1 ([] ++ n)) := by
  intro c hc
  obtain ⟨e, q1, q2, q3, q4⟩ := mm_1 hk hk2 hp h c hc
  exact q1.tr (gs_comma q2 q3 q4 hc.2.2.2 ⟨by omega, by omega, by omega, by omega⟩ h25 rfl)
theorem mm_3 {σ : az_S} {a p a' a'' : Int} {n n2 : List (Int × Int)} (hk : zx σ 11 a = 9 ∨ zx σ 11 a = 10) (hk2 : zx σ 11 (a + 1) = 21) (hp : p < 10) (h : Qr 3 σ (a + 1 + 1) (p + 1) a' n) (h25 : zx σ 11 a' = 25) (h2 : Qr 3 σ (a' + 1) (p + 1) a'' n2) : ∀ c : Cf, fit c 1 a p → ∃ e : Cf, Rch (zx σ 11) (zx σ 13) (zx σ 12) c e ∧ e.st = 2 ∧ e.n = a'' ∧ works 3 e = (c.sub 10 (zx σ 11 a - 4) (a' + 1) 1 1 ([] ++ n)).go a'' n2 2 := by
  intro c hc
  obtain ⟨e, q1, q2, q3, q4⟩ := h2.2 _ (fit_sub (f := 10) (x := zx σ 11 a - 4) (a' := a' + 1) (s := 1) (i := 1) (m := [] ++ n) hc) (Zr_sub hc (by decide))
  exact ⟨e, (mm_2 hk hk2 hp h h25 c hc).tr q1, q2, q3, q4⟩
theorem Q1_mm {σ : az_S} {a p a1 a' o : Int} {n n2 : List (Int × Int)} (hk : zx σ 11 a = 9 ∨ zx σ 11 a = 10) (hk2 : zx σ 11 (a + 1) = 21) (hp : p < 10) (h : Qr 3 σ (a + 1 + 1) (p + 1) a1 n) (h25 : zx σ 11 a1 = 25) (h2 : Qr 3 σ (a1 + 1) (p + 1) a' n2) (h22 : zx σ 11 a' = 22) (ho : o = if zx σ 11 a = 9 then 403 else 404) : Q1 σ a p (a' + 1) (n ++ n2 ++ [(o, 0)]) := by
  have hon : opN o := by
    rw [ho]
    unfold opN
    split <;> decide
  refine ⟨fun t ht => tyR_app _ _ _ _ _ (tyR_app _ _ _ _ _ (h.1 t (by omega)) (h2.1 (false :: t) (by simp only [List.length_cons]; omega))) ⟨_, tyP_n hon t, rfl⟩, fun c hc => ?_⟩
  obtain ⟨e, q1, q2, q3, q4⟩ := mm_3 hk hk2 hp h h25 h2 c hc
  have q5 := gs_close2 (K := zx σ 11) (V := zx σ 13) (S := zx σ 12) q2 q3 q4 hc.2.2.2 ⟨by omega, by omega, by omega, by omega⟩ h22 rfl rfl
  have e5 : (if zx σ 11 a - 4 = 5 then (403 : Int) else 404) = o := by
    rw [ho]
    by_cases k : zx σ 11 a = 9
    · rw [if_pos (by omega), if_pos k]
    · rw [if_neg (by omega), if_neg k]
  rw [e5, List.nil_append] at q5
  exact q1.tr q5
theorem F1_mm1 {σ : az_S} {a p x f : Int} {Z : Cf → Prop} (hk : zx σ 11 a = 9 ∨ zx σ 11 a = 10) (hk2 : zx σ 11 (a + 1) = 21) (hp : p < 10) (h : FQ σ (a + 1 + 1) 1 (p + 1) (Zr 3) x f) : FQ σ a 1 p Z x f := by
  intro c hc _
  obtain ⟨e, q1, q2⟩ := h _ (fit_sub (f := 9) (x := zx σ 11 a - 4) (a' := a + 1 + 1) (s := 1) (i := 1) (m := []) hc) (Zr_sub hc (by decide))
  exact ⟨e, (beg_mm hc hk hk2 hp).tr q1, q2⟩
theorem F1_mm2 {σ : az_S} {a p a' : Int} {n : List (Int × Int)} {Z : Cf → Prop} (hk : zx σ 11 a = 9 ∨ zx σ 11 a = 10) (hk2 : zx σ 11 (a + 1) = 21) (hp : p < 10) (h : Qr 3 σ (a + 1 + 1) (p + 1) a' n) (hs : zx σ 11 a' ≠ 17 ∧ zx σ 11 a' ≠ 18 ∧ zx σ 11 a' ≠ 19 ∧ zx σ 11 a' ≠ 20) (h2 : zx σ 11 a' ≠ 25) : FQ σ a 1 p Z a' 1 := by
  intro c hc _
  obtain ⟨e, q1, q2, q3, q4⟩ := mm_1 hk hk2 hp h c hc
  obtain ⟨e', r1, r2⟩ := gs_err (K := zx σ 11) (V := zx σ 13) (S := zx σ 12) q2 q3 q4 hc.2.2.2 hs (Or.inr (Or.inl ⟨rfl, h2⟩))
  exact ⟨e', q1.tr r1, r2⟩
theorem F1_mm3 {σ : az_S} {a p a' x f : Int} {n : List (Int × Int)} {Z : Cf → Prop} (hk : zx σ 11 a = 9 ∨ zx σ 11 a = 10) (hk2 : zx σ 11 (a + 1) = 21) (hp : p < 10) (h : Qr 3 σ (a + 1 + 1) (p + 1) a' n) (h25 : zx σ 11 a' = 25) (h2 : FQ σ (a' + 1) 1 (p + 1) (Zr 3) x f) : FQ σ a 1 p Z x f := by
  intro c hc _
  obtain ⟨e, q1, q2⟩ := h2 _ (fit_sub (f := 10) (x := zx σ 11 a - 4) (a' := a' + 1) (s := 1) (i := 1) (m := [] ++ n) hc) (Zr_sub hc (by decide))
  exact ⟨e, (mm_2 hk hk2 hp h h25 c hc).tr q1, q2⟩
theorem F1_mm4 {σ : az_S} {a p a1 a' : Int} {n n2 : List (Int × Int)} {Z : Cf → Prop} (hk : zx σ 11 a = 9 ∨ zx σ 11 a = 10) (hk2 : zx σ 11 (a + 1) = 21) (hp : p < 10) (h : Qr 3 σ (a + 1 + 1) (p + 1) a1 n) (h25 : zx σ 11 a1 = 25) (h2 : Qr 3 σ (a1 + 1) (p + 1) a' n2) (hs : zx σ 11 a' ≠ 17 ∧ zx σ 11 a' ≠ 18 ∧ zx σ 11 a' ≠ 19 ∧ zx σ 11 a' ≠ 20) (h22 : zx σ 11 a' ≠ 22) : FQ σ a 1 p Z a' 1 := by
  intro c hc _
  obtain ⟨e, q1, q2, q3, q4⟩ := mm_3 hk hk2 hp h h25 h2 c hc
  obtain ⟨e', r1, r2⟩ := gs_err (K := zx σ 11) (V := zx σ 13) (S := zx σ 12) q2 q3 q4 hc.2.2.2 hs (Or.inl ⟨Or.inr rfl, h22⟩)
  exact ⟨e', q1.tr r1, r2⟩
