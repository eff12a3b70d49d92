/-! BRACKETS -/
/-- a frame more, with what has been emitted since -/
def Cf.sub (f x a s i : Int) (m : List (Int × Int)) (c : Cf) : Cf := (a, s, (f, x) :: c.fr, c.ws, c.op + i, c.em ++ m, c.ru, c.wr, c.wa)
theorem w_fr {e X : Cf} {r : Int} (h : works r e = X) : e.wr = X.wr ∧ e.fr = X.fr := by
  subst h
  exact ⟨rfl, rfl⟩
theorem fit_sub {c : Cf} {s0 a p f x a' s i : Int} {m : List (Int × Int)} (h : fit c s0 a p) : fit (c.sub f x a' s i m) s a' (p + i) := by
  refine ⟨rfl, rfl, ⟨by show c.op + i = p + i; rw [h.2.2.1.1], fun q hq => ?_⟩, h.2.2.2⟩
  have := h.2.2.1.2 q hq
  show q.2 ≤ (((f, x) :: c.fr).length : Int)
  simp only [List.length_cons]
  omega
theorem wk_sub {r : Int} {k : Nat} : ∀ (w : List (Int × Int)), (∀ q ∈ w, q.2 ≤ (k : Int)) → wk r ((k + 1 : Nat) : Int) w = (w, []) := by
  intro w h
  cases w with
  | nil => rfl
  | cons q w =>
    have := h q (List.mem_cons_self ..)
    exact if_neg (fun z => by have := z.1; omega)
theorem Zr_sub {c : Cf} {s0 a p f x a' s i r : Int} {m : List (Int × Int)} (h : fit c s0 a p) (hf : f ≠ 8) : Zr r (c.sub f x a' s i m) := ⟨hf, wk_sub c.ws h.2.2.1.2⟩
theorem stp_1n {K V S : Int → Int} {c : Cf} {a p : Int} (h : fit c 1 a p) : stp K V S c = sBegins K V S c := stp_1 h
theorem beg_par {K V S : Int → Int} {c : Cf} {a p : Int} (h : fit c 1 a p) (hk : K a = 21) (hp : p < 10) : Rch K V S c (c.sub 7 0 (a + 1) 1 1 []) := by
  refine Rch.one h.2.2.2 (live_1 h) ?_
  rw [stp_1 h]
  unfold sBegins opensSign
  rw [h.1, hk, if_neg (by decide), if_neg (by decide), if_pos rfl, if_neg (by rw [h.2.2.1.1]; omega)]
  show ((c.n + 1, c.st, (7, 0) :: c.fr, c.ws, c.op + 1, c.em, c.ru, c.wr, c.wa) : Cf) = (a + 1, 1, (7, 0) :: c.fr, c.ws, c.op + 1, c.em ++ [], c.ru, c.wr, c.wa)
  rw [h.1, h.2.1, List.append_nil]
theorem beg_neg {K V S : Int → Int} {c : Cf} {a p : Int} (h : fit c 1 a p) (hk : K a = 18) (hp : p < 10) : Rch K V S c (c.sub 8 0 (a + 1) 1 1 []) := by
  refine Rch.one h.2.2.2 (live_1 h) ?_
  rw [stp_1 h]
  unfold sBegins opensSign
  rw [h.1, hk, if_neg (by decide), if_neg (by decide), if_neg (by decide), if_pos rfl, if_neg (by rw [h.2.2.1.1]; omega)]
  show ((c.n + 1, c.st, (8, 0) :: c.fr, c.ws, c.op + 1, c.em, c.ru, c.wr, c.wa) : Cf) = (a + 1, 1, (8, 0) :: c.fr, c.ws, c.op + 1, c.em ++ [], c.ru, c.wr, c.wa)
  rw [h.1, h.2.1, List.append_nil]
theorem beg_mm {K V S : Int → Int} {c : Cf} {a p : Int} (h : fit c 1 a p) (hk : K a = 9 ∨ K a = 10) (hk2 : K (a + 1) = 21) (hp : p < 10) : Rch K V S c (c.sub 9 (K a - 4) (a + 1 + 1) 1 1 []) := by
  refine Rch.one h.2.2.2 (live_1 h) ?_
  rw [stp_1 h]
  unfold sBegins opensSign
  rw [h.1, if_neg (by omega), if_neg (by omega), if_neg (by omega), if_neg (by omega), if_pos hk, if_pos hk2, if_neg (by show ¬ c.op = 10; rw [h.2.2.1.1]; omega)]
  show ((c.n + 1 + 1, c.st, (9, K a - 4) :: c.fr, c.ws, c.op + 1, c.em, c.ru, c.wr, c.wa) : Cf) = (a + 1 + 1, 1, (9, K a - 4) :: c.fr, c.ws, c.op + 1, c.em ++ [], c.ru, c.wr, c.wa)
  rw [h.1, h.2.1, List.append_nil]
/-- a fault at once -/
theorem beg_err {K V S : Int → Int} {c : Cf} {a p x f : Int} (h : fit c 1 a p) (hk : ((K a ≠ 2 ∧ K a ≠ 3 ∧ K a ≠ 21 ∧ K a ≠ 18 ∧ K a ≠ 9 ∧ K a ≠ 10) ∧ x = a ∧ f = 1) ∨ ((K a = 21 ∨ K a = 18) ∧ p = 10 ∧ x = a ∧ f = 3) ∨ ((K a = 9 ∨ K a = 10) ∧ K (a + 1) ≠ 21 ∧ x = a + 1 ∧ f = 1) ∨ ((K a = 9 ∨ K a = 10) ∧ K (a + 1) = 21 ∧ p = 10 ∧ x = a + 1 ∧ f = 3)) : ∃ e : Cf, Rch K V S c e ∧ e.wr = f ∧ e.wa = S x := by
  refine ⟨_, Rch.one h.2.2.2 (live_1 h) rfl, ?_⟩
  rw [stp_1 h]
  unfold sBegins opensSign
  rcases hk with ⟨k, rfl, rfl⟩ | ⟨k, k2, rfl, rfl⟩ | ⟨k, k2, rfl, rfl⟩ | ⟨k, k2, k3, rfl, rfl⟩
  · rw [h.1, if_neg k.1, if_neg k.2.1, if_neg k.2.2.1, if_neg k.2.2.2.1, if_neg (by omega)]
    exact ⟨rfl, by show S c.n = _; rw [h.1]⟩
  · have h10 : c.op = 10 := by rw [h.2.2.1.1]; exact k2
    rcases k with k | k
    · rw [h.1, if_neg (by omega), if_neg (by omega), if_pos k, if_pos h10]
      exact ⟨rfl, by show S c.n = _; rw [h.1]⟩
    · rw [h.1, if_neg (by omega), if_neg (by omega), if_neg (by omega), if_pos k, if_pos h10]
      exact ⟨rfl, by show S c.n = _; rw [h.1]⟩
  · rw [h.1, if_neg (by omega), if_neg (by omega), if_neg (by omega), if_neg (by omega), if_pos k, if_neg k2]
    exact ⟨rfl, by show S (c.n + 1) = _; rw [h.1]⟩
  · rw [h.1, if_neg (by omega), if_neg (by omega), if_neg (by omega), if_neg (by omega), if_pos k, if_pos k2, if_pos (show c.nxt.op = 10 from h.2.2.1.1.trans k3)]
    exact ⟨rfl, by show S (c.n + 1) = _; rw [h.1]⟩
theorem one_st {c : Cf} {a' s s' : Int} {n : List (Int × Int)} : oneOver (c.go a' n s) = oneOver (c.go a' n s') := rfl
theorem ask_st {c : Cf} {a' s s' : Int} {n : List (Int × Int)} : askOver (c.go a' n s) = askOver (c.go a' n s') := rfl
theorem one_neg {c : Cf} {a1 a' s s' : Int} {n : List (Int × Int)} : oneOver ((c.sub 8 0 a1 s 1 []).go a' n s') = oneOver (c.go a' (n ++ [(402, 0)]) s') := by
  have q : ovr 8 402 ((8, 0) :: c.fr) (c.op + 1) ((c.em ++ []) ++ n) = ovr 8 402 c.fr c.op (c.em ++ (n ++ [(402, 0)])) := by
    show ovr 8 402 c.fr (c.op + 1 - 1) (((c.em ++ []) ++ n) ++ [(402, 0)]) = _
    rw [List.append_nil, List.append_assoc, show c.op + 1 - 1 = c.op by omega]
  show ((a', 2, (ovr 8 402 ((8, 0) :: c.fr) (c.op + 1) ((c.em ++ []) ++ n)).1, c.ws, (ovr 8 402 ((8, 0) :: c.fr) (c.op + 1) ((c.em ++ []) ++ n)).2.1, (ovr 8 402 ((8, 0) :: c.fr) (c.op + 1) ((c.em ++ []) ++ n)).2.2, c.ru, c.wr, c.wa) : Cf) = _
  rw [q]
  rfl
theorem ask_not {c : Cf} {a1 a' s s' : Int} {n : List (Int × Int)} : askOver ((c.sub 4 0 a1 s 1 []).go a' n s') = askOver (c.go a' (n ++ [(405, 0)]) s') := by
  have q : ovr 4 405 ((4, 0) :: c.fr) (c.op + 1) ((c.em ++ []) ++ n) = ovr 4 405 c.fr c.op (c.em ++ (n ++ [(405, 0)])) := by
    show ovr 4 405 c.fr (c.op + 1 - 1) (((c.em ++ []) ++ n) ++ [(405, 0)]) = _
    rw [List.append_nil, List.append_assoc, show c.op + 1 - 1 = c.op by omega]
  show ((a', 3, (ovr 4 405 ((4, 0) :: c.fr) (c.op + 1) ((c.em ++ []) ++ n)).1, c.ws, (ovr 4 405 ((4, 0) :: c.fr) (c.op + 1) ((c.em ++ []) ++ n)).2.1, (ovr 4 405 ((4, 0) :: c.fr) (c.op + 1) ((c.em ++ []) ++ n)).2.2, c.ru, c.wr, c.wa) : Cf) = _
  rw [q]
  rfl
theorem over_eq {c : Cf} {a s o : Int} {m : List (Int × Int)} (h : o = c.op) : oneOver ((a, s, c.fr, c.ws, o, c.em ++ m, c.ru, c.wr, c.wa) : Cf) = oneOver (c.go a m 1) := by rw [h]; rfl
theorem aver_eq {c : Cf} {a s o : Int} {m : List (Int × Int)} (h : o = c.op) : askOver ((a, s, c.fr, c.ws, o, c.em ++ m, c.ru, c.wr, c.wa) : Cf) = askOver (c.go a m 0) := by rw [h]; rfl
theorem gs_close {K V S : Int → Int} {c e : Cf} {a1 a' f x s i : Int} {m n : List (Int × Int)} (hst : e.st = 2) (hn : e.n = a') (hw : works 3 e = (c.sub f x a1 s i m).go a' n 2) (hwr : c.wr = 0) (hs : K a' ≠ 17 ∧ K a' ≠ 18 ∧ K a' ≠ 19 ∧ K a' ≠ 20) (hk : K a' = 22) (hf : f = 7) (hi : i = 1) : Rch K V S e (oneOver (c.go (a' + 1) (m ++ n) 1)) := by
  obtain ⟨e0, e1⟩ := w_fr hw
  have t1 : topF e = f := by unfold topF; rw [e1]; rfl
  have t2 : topA e = x := by unfold topA; rw [e1]; rfl
  have e0 : e.wr = 0 := e0.trans hwr
  have es : stp K V S e = sGoesOn K V S e := by
    unfold stp
    rw [if_neg (by rw [hst]; decide), if_neg (by rw [hst]; decide), if_pos hst]
  refine Rch.one e0 (Or.inl (by rw [hst]; decide)) ?_
  rw [es]
  unfold sGoesOn
  rw [hn, if_neg (by omega), t1, if_pos ⟨Or.inl hf, hk⟩, if_neg (by omega), hw]
  show oneOver ((a' + 1, 2, c.fr, c.ws, c.op + i + -1, (c.em ++ m) ++ n, c.ru, c.wr, c.wa) : Cf) = _
  rw [List.append_assoc]
  exact over_eq (by omega)
theorem gs_close2 {K V S : Int → Int} {c e : Cf} {a1 a' f x s i : Int} {m n : List (Int × Int)} (hst : e.st = 2) (hn : e.n = a') (hw : works 3 e = (c.sub f x a1 s i m).go a' n 2) (hwr : c.wr = 0) (hs : K a' ≠ 17 ∧ K a' ≠ 18 ∧ K a' ≠ 19 ∧ K a' ≠ 20) (hk : K a' = 22) (hf : f = 10) (hi : i = 1) : Rch K V S e (oneOver (c.go (a' + 1) (m ++ n ++ [(if x = 5 then 403 else 404, 0)]) 1)) := by
  obtain ⟨e0, e1⟩ := w_fr hw
  have t1 : topF e = f := by unfold topF; rw [e1]; rfl
  have t2 : topA e = x := by unfold topA; rw [e1]; rfl
  have e0 : e.wr = 0 := e0.trans hwr
  have es : stp K V S e = sGoesOn K V S e := by
    unfold stp
    rw [if_neg (by rw [hst]; decide), if_neg (by rw [hst]; decide), if_pos hst]
  refine Rch.one e0 (Or.inl (by rw [hst]; decide)) ?_
  rw [es]
  unfold sGoesOn
  rw [hn, if_neg (by omega), t1, if_pos ⟨Or.inr hf, hk⟩, if_pos hf, t2, hw]
  show oneOver ((a' + 1, 2, c.fr, c.ws, c.op + i + -1, ((c.em ++ m) ++ n) ++ [(if x = 5 then 403 else 404, 0)], c.ru, c.wr, c.wa) : Cf) = _
  rw [List.append_assoc, List.append_assoc, ← List.append_assoc m]
  exact over_eq (by omega)
theorem gs_comma {K V S : Int → Int} {c e : Cf} {a1 a' f x s i : Int} {m n : List (Int × Int)} (hst : e.st = 2) (hn : e.n = a') (hw : works 3 e = (c.sub f x a1 s i m).go a' n 2) (hwr : c.wr = 0) (hs : K a' ≠ 17 ∧ K a' ≠ 18 ∧ K a' ≠ 19 ∧ K a' ≠ 20) (hk : K a' = 25) (hf : f = 9) : Rch K V S e (c.sub 10 x (a' + 1) 1 i (m ++ n)) := by
  obtain ⟨e0, e1⟩ := w_fr hw
  have t1 : topF e = f := by unfold topF; rw [e1]; rfl
  have t2 : topA e = x := by unfold topA; rw [e1]; rfl
  have e0 : e.wr = 0 := e0.trans hwr
  have es : stp K V S e = sGoesOn K V S e := by
    unfold stp
    rw [if_neg (by rw [hst]; decide), if_neg (by rw [hst]; decide), if_pos hst]
  refine Rch.one e0 (Or.inl (by rw [hst]; decide)) ?_
  rw [es]
  unfold sGoesOn
  rw [hn, if_neg (by omega), t1, if_neg (by omega), if_pos ⟨hf, hk⟩, t2, hw]
  show ((a' + 1, 1, (10, x) :: c.fr, c.ws, c.op + i, (c.em ++ m) ++ n, c.ru, c.wr, c.wa) : Cf) = _
  rw [List.append_assoc]
  rfl
theorem gs_sign {K V S : Int → Int} {c e : Cf} {a1 a' f x s i : Int} {m n : List (Int × Int)} (hst : e.st = 2) (hn : e.n = a') (hw : works 3 e = (c.sub f x a1 s i m).go a' n 2) (hwr : c.wr = 0) (hs : K a' ≠ 17 ∧ K a' ≠ 18 ∧ K a' ≠ 19 ∧ K a' ≠ 20) (hk : 11 ≤ K a' ∧ K a' ≤ 16) (hf : f = 5) : Rch K V S e (c.sub 6 (sgn (K a')) (a' + 1) 1 i (m ++ n)) := by
  obtain ⟨e0, e1⟩ := w_fr hw
  have t1 : topF e = f := by unfold topF; rw [e1]; rfl
  have t2 : topA e = x := by unfold topA; rw [e1]; rfl
  have e0 : e.wr = 0 := e0.trans hwr
  have es : stp K V S e = sGoesOn K V S e := by
    unfold stp
    rw [if_neg (by rw [hst]; decide), if_neg (by rw [hst]; decide), if_pos hst]
  refine Rch.one e0 (Or.inl (by rw [hst]; decide)) ?_
  rw [es]
  unfold sGoesOn
  rw [hn, if_neg (by omega), t1, if_neg (by omega), if_neg (by omega), if_pos ⟨hf, hk⟩, hw]
  show ((a' + 1, 1, (6, sgn (K a')) :: c.fr, c.ws, c.op + i, (c.em ++ m) ++ n, c.ru, c.wr, c.wa) : Cf) = _
  rw [List.append_assoc]
  rfl
theorem gs_cmp {K V S : Int → Int} {c e : Cf} {a1 a' f x s i : Int} {m n : List (Int × Int)} (hst : e.st = 2) (hn : e.n = a') (hw : works 3 e = (c.sub f x a1 s i m).go a' n 2) (hwr : c.wr = 0) (hs : K a' ≠ 17 ∧ K a' ≠ 18 ∧ K a' ≠ 19 ∧ K a' ≠ 20) (hf : f = 6) (hi : i = 0) : Rch K V S e (askOver (c.go a' (m ++ n ++ [(x, 0)]) 0)) := by
  obtain ⟨e0, e1⟩ := w_fr hw
  have t1 : topF e = f := by unfold topF; rw [e1]; rfl
  have t2 : topA e = x := by unfold topA; rw [e1]; rfl
  have e0 : e.wr = 0 := e0.trans hwr
  have es : stp K V S e = sGoesOn K V S e := by
    unfold stp
    rw [if_neg (by rw [hst]; decide), if_neg (by rw [hst]; decide), if_pos hst]
  refine Rch.one e0 (Or.inl (by rw [hst]; decide)) ?_
  rw [es]
  unfold sGoesOn
  rw [hn, if_neg (by omega), t1, if_neg (by omega), if_neg (by omega), if_neg (by omega), if_pos hf, t2, hw]
  show askOver ((a', 2, c.fr, c.ws, c.op + i, ((c.em ++ m) ++ n) ++ [(x, 0)], c.ru, c.wr, c.wa) : Cf) = _
  rw [List.append_assoc, List.append_assoc, ← List.append_assoc m]
  exact aver_eq (by omega)
theorem gs_end {K V S : Int → Int} {c e : Cf} {a1 a' f x s i : Int} {m n : List (Int × Int)} (hst : e.st = 2) (hn : e.n = a') (hw : works 3 e = (c.sub f x a1 s i m).go a' n 2) (hwr : c.wr = 0) (hs : K a' ≠ 17 ∧ K a' ≠ 18 ∧ K a' ≠ 19 ∧ K a' ≠ 20) (hk : K a' = 26) (hf : f = 2) : Rch K V S e ((a' + 1, 4, c.fr, c.ws, c.op + i, c.em ++ (m ++ n ++ [(409, 0)]), c.ru, c.wr, c.wa) : Cf) := by
  obtain ⟨e0, e1⟩ := w_fr hw
  have t1 : topF e = f := by unfold topF; rw [e1]; rfl
  have t2 : topA e = x := by unfold topA; rw [e1]; rfl
  have e0 : e.wr = 0 := e0.trans hwr
  have es : stp K V S e = sGoesOn K V S e := by
    unfold stp
    rw [if_neg (by rw [hst]; decide), if_neg (by rw [hst]; decide), if_pos hst]
  refine Rch.one e0 (Or.inl (by rw [hst]; decide)) ?_
  rw [es]
  unfold sGoesOn
  rw [hn, if_neg (by omega), t1, if_neg (by omega), if_neg (by omega), if_neg (by omega), if_neg (by omega), if_pos ⟨hf, hk⟩, hw]
  show ((a' + 1, 4, c.fr, c.ws, c.op + i, ((c.em ++ m) ++ n) ++ [(409, 0)], c.ru, c.wr, c.wa) : Cf) = _
  rw [List.append_assoc, List.append_assoc, ← List.append_assoc m]
theorem gs_err {K V S : Int → Int} {c e : Cf} {a1 a' f x s i : Int} {m n : List (Int × Int)} (hst : e.st = 2) (hn : e.n = a') (hw : works 3 e = (c.sub f x a1 s i m).go a' n 2) (hwr : c.wr = 0) (hs : K a' ≠ 17 ∧ K a' ≠ 18 ∧ K a' ≠ 19 ∧ K a' ≠ 20) (hk : ((f = 7 ∨ f = 10) ∧ K a' ≠ 22) ∨ (f = 9 ∧ K a' ≠ 25) ∨ (f = 5 ∧ ¬ (11 ≤ K a' ∧ K a' ≤ 16)) ∨ (f = 2 ∧ K a' ≠ 26)) : ∃ e' : Cf, Rch K V S e e' ∧ e'.wr = 1 ∧ e'.wa = S a' := by
  obtain ⟨e0, e1⟩ := w_fr hw
  have t1 : topF e = f := by unfold topF; rw [e1]; rfl
  have t2 : topA e = x := by unfold topA; rw [e1]; rfl
  have e0 : e.wr = 0 := e0.trans hwr
  have es : stp K V S e = sGoesOn K V S e := by
    unfold stp
    rw [if_neg (by rw [hst]; decide), if_neg (by rw [hst]; decide), if_pos hst]
  refine ⟨_, Rch.one e0 (Or.inl (by rw [hst]; decide)) rfl, ?_⟩
  rw [es]
  unfold sGoesOn
  rw [hn, if_neg (by omega), t1, if_neg (by omega), if_neg (by omega), if_neg (by omega), if_neg (by omega), if_neg (by omega)]
  exact ⟨rfl, by show S e.n = _; rw [hn]⟩
theorem as_close {K V S : Int → Int} {c e : Cf} {a1 a' f x s i : Int} {m n : List (Int × Int)} (hst : e.st = 3) (hn : e.n = a') (hw : works 1 e = (c.sub f x a1 s i m).go a' n 3) (hwr : c.wr = 0) (hs : K a' ≠ 6 ∧ K a' ≠ 7) (hk : K a' = 24) (hf : f = 3) (hi : i = 1) : Rch K V S e (askOver (c.go (a' + 1) (m ++ n) 0)) := by
  obtain ⟨e0, e1⟩ := w_fr hw
  have t1 : topF e = f := by unfold topF; rw [e1]; rfl
  have t2 : topA e = x := by unfold topA; rw [e1]; rfl
  have e0 : e.wr = 0 := e0.trans hwr
  have es : stp K V S e = sAsksOn K V S e := by
    unfold stp
    rw [if_neg (by rw [hst]; decide), if_neg (by rw [hst]; decide), if_neg (by rw [hst]; decide), if_pos hst]
  refine Rch.one e0 (Or.inl (by rw [hst]; decide)) ?_
  rw [es]
  unfold sAsksOn
  rw [hn, if_neg hs.1, if_neg hs.2, t1, if_pos ⟨hf, hk⟩, hw]
  show askOver ((a' + 1, 3, c.fr, c.ws, c.op + i + -1, (c.em ++ m) ++ n, c.ru, c.wr, c.wa) : Cf) = _
  rw [List.append_assoc]
  exact aver_eq (by omega)
theorem as_give {K V S : Int → Int} {c e : Cf} {a1 a' f x s i : Int} {m n : List (Int × Int)} (hst : e.st = 3) (hn : e.n = a') (hw : works 1 e = (c.sub f x a1 s i m).go a' n 3) (hwr : c.wr = 0) (hs : K a' ≠ 6 ∧ K a' ≠ 7) (hk : K a' = 5) (hf : f = 1) : Rch K V S e (c.sub 2 x (a' + 1) 1 i (m ++ n ++ [(408, 0)])) := by
  obtain ⟨e0, e1⟩ := w_fr hw
  have t1 : topF e = f := by unfold topF; rw [e1]; rfl
  have t2 : topA e = x := by unfold topA; rw [e1]; rfl
  have e0 : e.wr = 0 := e0.trans hwr
  have es : stp K V S e = sAsksOn K V S e := by
    unfold stp
    rw [if_neg (by rw [hst]; decide), if_neg (by rw [hst]; decide), if_neg (by rw [hst]; decide), if_pos hst]
  refine Rch.one e0 (Or.inl (by rw [hst]; decide)) ?_
  rw [es]
  unfold sAsksOn
  rw [hn, if_neg hs.1, if_neg hs.2, t1, if_neg (by omega), if_pos ⟨hf, hk⟩, t2, hw]
  show ((a' + 1, 1, (2, x) :: c.fr, c.ws, c.op + i, ((c.em ++ m) ++ n) ++ [(408, 0)], c.ru, c.wr, c.wa) : Cf) = _
  rw [List.append_assoc, List.append_assoc, ← List.append_assoc m]
  rfl
theorem as_err {K V S : Int → Int} {c e : Cf} {a1 a' f x s i : Int} {m n : List (Int × Int)} (hst : e.st = 3) (hn : e.n = a') (hw : works 1 e = (c.sub f x a1 s i m).go a' n 3) (hwr : c.wr = 0) (hs : K a' ≠ 6 ∧ K a' ≠ 7) (hk : (f = 3 ∧ K a' ≠ 24) ∨ (f = 1 ∧ K a' ≠ 5)) : ∃ e' : Cf, Rch K V S e e' ∧ e'.wr = 1 ∧ e'.wa = S a' := by
  obtain ⟨e0, e1⟩ := w_fr hw
  have t1 : topF e = f := by unfold topF; rw [e1]; rfl
  have t2 : topA e = x := by unfold topA; rw [e1]; rfl
  have e0 : e.wr = 0 := e0.trans hwr
  have es : stp K V S e = sAsksOn K V S e := by
    unfold stp
    rw [if_neg (by rw [hst]; decide), if_neg (by rw [hst]; decide), if_neg (by rw [hst]; decide), if_pos hst]
  refine ⟨_, Rch.one e0 (Or.inl (by rw [hst]; decide)) rfl, ?_⟩
  rw [es]
  unfold sAsksOn
  rw [hn, if_neg hs.1, if_neg hs.2, t1, if_neg (by omega), if_neg (by omega)]
  exact ⟨rfl, by show S e.n = _; rw [hn]⟩
