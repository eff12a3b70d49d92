theorem CI_errs {T : Int} {c : Cf} {S : Int → Int} {f : Int} (h : CI T c) : CI T (c.errs S f) := h
theorem n_lt {K : Int → Int} {T n : Int} (hT : ∀ n : Int, 0 ≤ n → n ≤ T → (K n = 0 ↔ n = T)) (h : 0 ≤ n ∧ n ≤ T) (hk : K n ≠ 0) : n < T := by
  have : n ≠ T := fun q => hk ((hT n h.1 h.2).mpr q)
  omega
theorem CI_open {K S : Int → Int} {T : Int} {c : Cf} (hT : ∀ n : Int, 0 ≤ n → n ≤ T → (K n = 0 ↔ n = T)) (h : CN T c) {f x : Int} (hk : K c.n ≠ 0) (hf : (aK (topF c) ∧ (f = 3 ∨ f = 4) ∧ c.st = 0) ∨ (nK (topF c) ∧ (f = 7 ∨ f = 8 ∨ f = 9) ∧ c.st = 1)) (hp : Ph c (if c.st = 0 then 0 else 1)) (hs : CI T c) : CI T (opensSign S f x c) := by
  unfold opensSign
  have hlt := n_lt hT h.2.2.2.2.2 hk
  have h6 := h.2.2.2.2.2
  by_cases q : c.op = 10
  · rw [if_pos q]; exact CI_errs hs
  · rw [if_neg q]
    have hpp : (c.em.length : Int) + c.ws.length + c.fr.length ≤ 2 * c.n + (if c.st = 0 then 0 else 1) := hp
    have h10 := h.2.2.1
    have hN := CN_push (x := x) (n := c.n + 1) (i := 1) (s := c.st) h (f := f) (hf.elim (fun q => Or.inl ⟨q.1, by have := q.2.1; omega⟩) (fun q => Or.inr ⟨q.1, by have := q.2.1; omega⟩)) (by rw [if_neg (by omega)]) (by omega) ⟨by omega, by omega⟩
    refine ⟨Or.inr ⟨hN, ?_⟩, ?_⟩
    · rcases hf with ⟨_, k, s⟩ | ⟨_, k, s⟩
      · refine Or.inl ⟨s, ?_⟩
        show aK f
        unfold aK; omega
      · refine Or.inr (Or.inr (Or.inl ⟨s, ?_⟩))
        show nK f
        unfold nK; omega
    · show (c.em.length : Int) + c.ws.length + (((f, x) :: c.fr).length : Int) ≤ 2 * (c.n + 1) + (if c.st = 0 then 0 else 1)
      rw [len_c]
      omega
theorem CI_asks {K V S : Int → Int} {T : Int} {c : Cf} (hT : ∀ n : Int, 0 ≤ n → n ≤ T → (K n = 0 ↔ n = T)) (h : CN T c) (hst : c.st = 0) (hk : aK (topF c)) (hp : Ph c 0) (hs : CI T c) : CI T (sAsks K V S c) := by
  unfold sAsks
  have hp0 : Ph c (if c.st = 0 then 0 else 1) := by rw [if_pos hst]; exact hp
  by_cases k8 : K c.n = 8
  · rw [if_pos k8]
    exact CI_open hT h (by omega) (Or.inl ⟨hk, Or.inr rfl, hst⟩) hp0 hs
  · rw [if_neg k8]
    by_cases k23 : K c.n = 23
    · rw [if_pos k23]
      exact CI_open hT h (by omega) (Or.inl ⟨hk, Or.inl rfl, hst⟩) hp0 hs
    · rw [if_neg k23]
      have hpp : (c.em.length : Int) + c.ws.length + c.fr.length ≤ 2 * c.n + 0 := hp
      have hN := CN_push (x := 0) (n := c.n) (i := 0) (s := 1) h (f := 5) (Or.inl ⟨hk, by omega⟩) (by rw [if_pos (Or.inl rfl)]) (by have := h.2.2.1; omega) h.2.2.2.2.2
      rw [Int.add_zero] at hN
      refine ⟨Or.inr ⟨hN, Or.inr (Or.inr (Or.inl ⟨rfl, ?_⟩))⟩, ?_⟩
      · show nK 5
        unfold nK; omega
      · show (c.em.length : Int) + c.ws.length + (((5, 0) :: c.fr).length : Int) ≤ 2 * c.n + 1
        rw [len_c]
        omega
theorem CI_begins {K V S : Int → Int} {T : Int} {c : Cf} (hT : ∀ n : Int, 0 ≤ n → n ≤ T → (K n = 0 ↔ n = T)) (h : CN T c) (hst : c.st = 1) (hk : nK (topF c)) (hp : Ph c 1) (hs : CI T c) : CI T (sBegins K V S c) := by
  unfold sBegins
  have hp0 : Ph c (if c.st = 0 then 0 else 1) := by rw [if_neg (by omega)]; exact hp
  have h6 := h.2.2.2.2.2
  have hpp : (c.em.length : Int) + c.ws.length + c.fr.length ≤ 2 * c.n + 1 := hp
  have hE : ∀ o v : Int, K c.n ≠ 0 → CI T (oneOver (c.emit o v).nxt) := by
    intro o v k0
    have hlt := n_lt hT h6 k0
    refine CI_one (CN_nx h (n := c.n + 1) (s := c.st) (e := c.em ++ [(o, v)]) (w := c.wr) (z := c.wa) ⟨by omega, by omega⟩) hk ?_
    show ((c.em ++ [(o, v)]).length : Int) + c.ws.length + c.fr.length ≤ 2 * (c.n + 1) + 1
    rw [List.length_append]
    simp only [List.length_cons, List.length_nil]
    omega
  by_cases k2 : K c.n = 2
  · rw [if_pos k2]
    by_cases v : 100000 < V c.n
    · rw [if_pos v]; exact CI_errs hs
    · rw [if_neg v]; exact hE _ _ (by omega)
  · rw [if_neg k2]
    by_cases k3 : K c.n = 3
    · rw [if_pos k3]; exact hE _ _ (by omega)
    · rw [if_neg k3]
      by_cases k21 : K c.n = 21
      · rw [if_pos k21]
        exact CI_open hT h (by omega) (Or.inr ⟨hk, Or.inl rfl, hst⟩) hp0 hs
      · rw [if_neg k21]
        by_cases k18 : K c.n = 18
        · rw [if_pos k18]
          exact CI_open hT h (by omega) (Or.inr ⟨hk, Or.inr (Or.inl rfl), hst⟩) hp0 hs
        · rw [if_neg k18]
          by_cases k9 : K c.n = 9 ∨ K c.n = 10
          · rw [if_pos k9]
            have hlt := n_lt hT h6 (show K c.n ≠ 0 by omega)
            have hN : CN T c.nxt := CN_nx h (n := c.n + 1) (s := c.st) (e := c.em) (w := c.wr) (z := c.wa) ⟨by omega, by omega⟩
            have hP : Ph c.nxt (if c.nxt.st = 0 then 0 else 1) := by
              show (c.em.length : Int) + c.ws.length + c.fr.length ≤ 2 * (c.n + 1) + (if c.st = 0 then 0 else 1)
              rw [if_neg (by omega)]
              omega
            have hS : CI T c.nxt := ⟨Or.inr ⟨hN, Or.inr (Or.inr (Or.inl ⟨hst, hk⟩))⟩, hP⟩
            by_cases q : K (c.n + 1) = 21
            · rw [if_pos q]
              exact CI_open hT hN (show K (c.n + 1) ≠ 0 by omega) (Or.inr ⟨hk, Or.inr (Or.inr rfl), hst⟩) hP hS
            · rw [if_neg q]; exact CI_errs hS
          · rw [if_neg k9]; exact CI_errs hs
theorem CN_two {T : Int} {c : Cf} (h : CN T c) (hf : topF c ≠ 1 ∧ topF c ≠ 2) : ∃ q q' r, c.fr = q :: q' :: r ∧ topF c = q.1 ∧ topA c = q.2 := by
  obtain ⟨q, r, he⟩ := h.hd
  have t := topF_c he
  cases r with
  | nil =>
    have h1 := h.1
    rw [he] at h1
    have h2 : q.1 = 1 ∨ q.1 = 2 := h1
    omega
  | cons q' r => exact ⟨q, q', r, he, t.1, t.2⟩
theorem wl {c : Cf} {ρ : Int} : ((c.em ++ (wk ρ c.fr.length c.ws).2).length : Int) + ((wk ρ c.fr.length c.ws).1.length : Int) = c.em.length + c.ws.length := works_len (c := c) (ρ := ρ)
theorem CI_goesOn {K V S : Int → Int} {T : Int} {c : Cf} (hT : ∀ n : Int, 0 ≤ n → n ≤ T → (K n = 0 ↔ n = T)) (h : CN T c) (hst : c.st = 2) (hk : nW (topF c)) (hp : Ph c 1) (hs : CI T c) : CI T (sGoesOn K V S c) := by
  unfold sGoesOn
  have h6 := h.2.2.2.2.2
  have hpp : (c.em.length : Int) + c.ws.length + c.fr.length ≤ 2 * c.n + 1 := hp
  have hw := wl (c := c) (ρ := 3)
  by_cases k17 : 17 ≤ K c.n ∧ K c.n ≤ 20
  · rw [if_pos k17]
    have hlt := n_lt hT h6 (show K c.n ≠ 0 by omega)
    have hr : 3 ≤ rnk (sgn (K c.n)) := by
      have : K c.n = 17 ∨ K c.n = 18 ∨ K c.n = 19 ∨ K c.n = 20 := by omega
      rcases this with q | q | q | q <;> rw [q] <;> decide
    obtain ⟨i1, i2, i3, i4⟩ := CI_wait h (o := sgn (K c.n)) (Or.inl ⟨hk, hr⟩) ⟨by omega, by omega⟩
    have i4' : (((waitsFor (sgn (K c.n)) c).em.length : Nat) : Int) + ((waitsFor (sgn (K c.n)) c).ws.length : Int) = c.em.length + c.ws.length + 1 := i4
    have i5 : (((waitsFor (sgn (K c.n)) c).fr.length : Nat) : Int) = c.fr.length := by rw [i2]
    refine ⟨Or.inr ⟨CN_nx i1 (s := 1) (e := (waitsFor (sgn (K c.n)) c).em) (w := (waitsFor (sgn (K c.n)) c).wr) (z := (waitsFor (sgn (K c.n)) c).wa) i1.2.2.2.2.2, Or.inr (Or.inr (Or.inl ⟨rfl, ?_⟩))⟩, ?_⟩
    · show nK (topF c)
      unfold nW nK at *
      omega
    · show (((waitsFor (sgn (K c.n)) c).em.length : Nat) : Int) + ((waitsFor (sgn (K c.n)) c).ws.length : Int) + ((waitsFor (sgn (K c.n)) c).fr.length : Int) ≤ 2 * (waitsFor (sgn (K c.n)) c).n + 1
      rw [i3]
      omega
  · rw [if_neg k17]
    by_cases k7 : (topF c = 7 ∨ topF c = 10) ∧ K c.n = 22
    · rw [if_pos k7]
      have hlt := n_lt hT h6 (show K c.n ≠ 0 by omega)
      obtain ⟨q, q', r, he, t1, t2⟩ := CN_two h (by omega)
      rw [t1] at hk k7
      have e3 : (c.fr.length : Int) = (r.length : Int) + 1 + 1 := by rw [he, len_c, len_c]
      have hN : ∀ e, CN T (c.n + 1, c.st, q' :: r, (wk 3 c.fr.length c.ws).1, c.op + (-1), e, c.ru, c.wr, c.wa) ∧ nK q'.1 := by
        intro e
        obtain ⟨i1, i2⟩ := CN_close h he (ρ := 3) (n := c.n + 1) (s := c.st) (i := -1) (e := e) (Or.inl ⟨hk, by omega⟩) (by rw [if_neg (by omega)]) ⟨by omega, by omega⟩
        exact ⟨i1, by unfold nK aK at *; omega⟩
      have hfr : (works 3 c).pop.fr = q' :: r := by
        show c.fr.tail = _
        rw [he]; rfl
      by_cases k10 : topF c = 10
      · rw [if_pos k10]
        have hc : (((works 3 c).pop.opn (-1)).emit (if topA c = 5 then 403 else 404) 0).nxt = ((c.n + 1, c.st, q' :: r, (wk 3 c.fr.length c.ws).1, c.op + (-1), (c.em ++ (wk 3 c.fr.length c.ws).2) ++ [(if topA c = 5 then 403 else 404, 0)], c.ru, c.wr, c.wa) : Cf) := by
          show ((c.n + 1, c.st, c.fr.tail, (wk 3 c.fr.length c.ws).1, c.op + (-1), (c.em ++ (wk 3 c.fr.length c.ws).2) ++ [(if topA c = 5 then 403 else 404, 0)], c.ru, c.wr, c.wa) : Cf) = _
          rw [he]; rfl
        rw [hc]
        refine CI_one (hN _).1 (hN []).2 ?_
        show (((c.em ++ (wk 3 c.fr.length c.ws).2) ++ [(if topA c = 5 then 403 else 404, 0)]).length : Int) + ((wk 3 c.fr.length c.ws).1.length : Int) + ((q' :: r).length : Int) ≤ 2 * (c.n + 1) + 1
        rw [List.length_append, len_c]
        simp only [List.length_cons, List.length_nil]
        omega
      · rw [if_neg k10]
        have hc : ((works 3 c).pop.opn (-1)).nxt = ((c.n + 1, c.st, q' :: r, (wk 3 c.fr.length c.ws).1, c.op + (-1), c.em ++ (wk 3 c.fr.length c.ws).2, c.ru, c.wr, c.wa) : Cf) := by
          show ((c.n + 1, c.st, c.fr.tail, (wk 3 c.fr.length c.ws).1, c.op + (-1), c.em ++ (wk 3 c.fr.length c.ws).2, c.ru, c.wr, c.wa) : Cf) = _
          rw [he]; rfl
        rw [hc]
        refine CI_one (hN _).1 (hN []).2 ?_
        show ((c.em ++ (wk 3 c.fr.length c.ws).2).length : Int) + ((wk 3 c.fr.length c.ws).1.length : Int) + ((q' :: r).length : Int) ≤ 2 * (c.n + 1) + 1
        rw [len_c]
        omega
    · rw [if_neg k7]
      -- a frame at the top becomes another
      have hX : ∀ (f x : Int), K c.n ≠ 0 → (topF c = 9 ∧ f = 10) ∨ (topF c = 5 ∧ f = 6) → CI T ((((works 3 c).pop.push f x).nxt).to 1) := by
        intro f x k0 hf
        have hlt := n_lt hT h6 k0
        obtain ⟨q, q', r, he, t1, t2⟩ := CN_two h (by omega)
        rw [t1] at hk hf
        have e3 : (c.fr.length : Int) = (r.length : Int) + 1 + 1 := by rw [he, len_c, len_c]
        obtain ⟨i1, i2⟩ := CN_close h he (ρ := 3) (n := c.n + 1) (s := 1) (i := if q.1 = 5 ∨ q.1 = 6 then 0 else -1) (e := c.em ++ (wk 3 c.fr.length c.ws).2) (Or.inl ⟨hk, by omega⟩) rfl ⟨by omega, by omega⟩
        have i3 := CN_push (x := x) (n := c.n + 1) (s := 1) (f := f) (i := if f = 5 ∨ f = 6 then 0 else 1) i1 (by show (aK q'.1 ∧ _) ∨ (nK q'.1 ∧ _); unfold aK nK at *; omega) rfl (by
          show c.op + (if q.1 = 5 ∨ q.1 = 6 then 0 else -1) + (if f = 5 ∨ f = 6 then 0 else 1) ≤ 10
          have := h.2.2.1
          rcases hf with ⟨a, b⟩ | ⟨a, b⟩
          · rw [if_neg (by omega), if_neg (by omega)]; omega
          · rw [if_pos (by omega), if_pos (by omega)]; omega) ⟨by omega, by omega⟩
        have ho : c.op + (if q.1 = 5 ∨ q.1 = 6 then 0 else -1) + (if f = 5 ∨ f = 6 then 0 else 1) = c.op := by
          rcases hf with ⟨a, b⟩ | ⟨a, b⟩
          · rw [if_neg (by omega), if_neg (by omega)]; omega
          · rw [if_pos (by omega), if_pos (by omega)]; omega
        have i4 : CN T ((c.n + 1, 1, (f, x) :: q' :: r, (wk 3 c.fr.length c.ws).1, c.op + (if q.1 = 5 ∨ q.1 = 6 then 0 else -1) + (if f = 5 ∨ f = 6 then 0 else 1), c.em ++ (wk 3 c.fr.length c.ws).2, c.ru, c.wr, c.wa) : Cf) := i3
        rw [ho] at i4
        have hc : (((works 3 c).pop.push f x).nxt).to 1 = ((c.n + 1, 1, (f, x) :: q' :: r, (wk 3 c.fr.length c.ws).1, c.op, c.em ++ (wk 3 c.fr.length c.ws).2, c.ru, c.wr, c.wa) : Cf) := by
          show ((c.n + 1, 1, (f, x) :: c.fr.tail, (wk 3 c.fr.length c.ws).1, c.op, c.em ++ (wk 3 c.fr.length c.ws).2, c.ru, c.wr, c.wa) : Cf) = _
          rw [he]; rfl
        rw [hc]
        refine ⟨Or.inr ⟨i4, Or.inr (Or.inr (Or.inl ⟨rfl, ?_⟩))⟩, ?_⟩
        · show nK f
          unfold nK; omega
        · show ((c.em ++ (wk 3 c.fr.length c.ws).2).length : Int) + ((wk 3 c.fr.length c.ws).1.length : Int) + (((f, x) :: q' :: r).length : Int) ≤ 2 * (c.n + 1) + 1
          rw [len_c, len_c]
          omega
      by_cases k9 : topF c = 9 ∧ K c.n = 25
      · rw [if_pos k9]
        exact hX 10 _ (by omega) (Or.inl ⟨k9.1, rfl⟩)
      · rw [if_neg k9]
        by_cases k5 : topF c = 5 ∧ 11 ≤ K c.n ∧ K c.n ≤ 16
        · rw [if_pos k5]
          exact hX 6 _ (by omega) (Or.inr ⟨k5.1, rfl⟩)
        · rw [if_neg k5]
          by_cases k6 : topF c = 6
          · rw [if_pos k6]
            obtain ⟨q, q', r, he, t1, t2⟩ := CN_two h (by omega)
            rw [t1] at hk k6
            have e3 : (c.fr.length : Int) = (r.length : Int) + 1 + 1 := by rw [he, len_c, len_c]
            obtain ⟨i1, i2⟩ := CN_close h he (ρ := 3) (n := c.n) (s := c.st) (i := 0) (e := (c.em ++ (wk 3 c.fr.length c.ws).2) ++ [(topA c, 0)]) (Or.inl ⟨hk, by omega⟩) (by rw [if_pos (by omega)]) h6
            rw [Int.add_zero] at i1
            have hc : (works 3 c).pop.emit (topA c) 0 = ((c.n, c.st, q' :: r, (wk 3 c.fr.length c.ws).1, c.op, (c.em ++ (wk 3 c.fr.length c.ws).2) ++ [(topA c, 0)], c.ru, c.wr, c.wa) : Cf) := by
              show ((c.n, c.st, c.fr.tail, (wk 3 c.fr.length c.ws).1, c.op, (c.em ++ (wk 3 c.fr.length c.ws).2) ++ [(topA c, 0)], c.ru, c.wr, c.wa) : Cf) = _
              rw [he]; rfl
            rw [hc]
            refine CI_ask i1 ?_ ?_
            · show aK q'.1
              unfold aK nK at *; omega
            · show (((c.em ++ (wk 3 c.fr.length c.ws).2) ++ [(topA c, 0)]).length : Int) + ((wk 3 c.fr.length c.ws).1.length : Int) + ((q' :: r).length : Int) ≤ 2 * c.n + 1
              rw [List.length_append, len_c]
              simp only [List.length_cons, List.length_nil]
              omega
          · rw [if_neg k6]
            by_cases k2 : topF c = 2 ∧ K c.n = 26
            · rw [if_pos k2]
              have hlt := n_lt hT h6 (show K c.n ≠ 0 by omega)
              obtain ⟨q, r, he⟩ := h.hd
              have t := (topF_c he).1
              have hr0 : r = [] := by
                have h1 := h.1
                rw [he] at h1
                cases r with
                | nil => rfl
                | cons q' r => have := h1.2; unfold aK nK at this; omega
              subst hr0
              have e3 : (c.fr.length : Int) = 1 := by rw [he]; rfl
              have h4 := h.2.2.2.1
              rw [he] at h4
              rw [t] at hk
              have i5 := WV.works (ρ := 3) (Or.inl ⟨hk, by omega⟩) c.ws h4
              have i6 : (wk 3 c.fr.length c.ws).1 = [] := by
                rw [he]
                cases e : (wk 3 (([q] : List (Int × Int)).length : Int) c.ws).1 with
                | nil => rfl
                | cons a b =>
                  rw [e] at i5
                  have := i5.2 a (List.mem_cons_self ..)
                  have e0 : ((([] : List (Int × Int)).length : Nat) : Int) = 0 := rfl
                  rw [e0] at this
                  omega
              have hop : c.op = 0 := by
                rw [h.2.1, he]
                show (if q.1 = 3 ∨ q.1 = 4 ∨ q.1 = 7 ∨ q.1 = 8 ∨ q.1 = 9 ∨ q.1 = 10 then (1 : Int) else 0) + 0 = 0
                rw [if_neg (by omega)]; rfl
              refine ⟨Or.inl ⟨rfl, ?_, i6, hop, h.2.2.2.2.1, by show 0 ≤ c.n + 1; omega, by show c.n + 1 ≤ T; omega⟩, ?_⟩
              · show c.fr.tail = []
                rw [he]; rfl
              · show (((c.em ++ (wk 3 c.fr.length c.ws).2) ++ [(409, 0)]).length : Int) + ((wk 3 c.fr.length c.ws).1.length : Int) + (c.fr.tail.length : Int) ≤ 2 * (c.n + 1) + 1
                rw [he] at hw ⊢
                rw [List.length_append]
                simp only [List.length_cons, List.length_nil, List.tail_cons] at *
                omega
            · rw [if_neg k2]; exact CI_errs hs
theorem CI_asksOn {K V S : Int → Int} {T : Int} {c : Cf} (hT : ∀ n : Int, 0 ≤ n → n ≤ T → (K n = 0 ↔ n = T)) (h : CN T c) (hst : c.st = 3) (hk : aW (topF c)) (hp : Ph c 1) (hs : CI T c) : CI T (sAsksOn K V S c) := by
  unfold sAsksOn
  have h6 := h.2.2.2.2.2
  have hpp : (c.em.length : Int) + c.ws.length + c.fr.length ≤ 2 * c.n + 1 := hp
  have hw := wl (c := c) (ρ := 1)
  have hW : ∀ o, rnk o ≤ 2 → K c.n ≠ 0 → CI T ((waitsFor o c).to 0) := by
    intro o hr k0
    have hlt := n_lt hT h6 k0
    obtain ⟨i1, i2, i3, i4⟩ := CI_wait h (o := o) (Or.inr ⟨hk, hr⟩) ⟨by omega, by omega⟩
    have i5 : (((waitsFor o c).fr.length : Nat) : Int) = c.fr.length := by rw [i2]
    refine ⟨Or.inr ⟨CN_nx i1 (s := 0) (e := (waitsFor o c).em) (w := (waitsFor o c).wr) (z := (waitsFor o c).wa) i1.2.2.2.2.2, Or.inl ⟨rfl, ?_⟩⟩, ?_⟩
    · show aK (topF c)
      unfold aW aK at *
      omega
    · show (((waitsFor o c).em.length : Nat) : Int) + ((waitsFor o c).ws.length : Int) + ((waitsFor o c).fr.length : Int) ≤ 2 * (waitsFor o c).n + 0
      rw [i3]
      omega
  by_cases k6 : K c.n = 6
  · rw [if_pos k6]; exact hW 407 (by decide) (by omega)
  · rw [if_neg k6]
    by_cases k7 : K c.n = 7
    · rw [if_pos k7]; exact hW 406 (by decide) (by omega)
    · rw [if_neg k7]
      by_cases k3 : topF c = 3 ∧ K c.n = 24
      · rw [if_pos k3]
        have hlt := n_lt hT h6 (show K c.n ≠ 0 by omega)
        obtain ⟨q, q', r, he, t1, t2⟩ := CN_two h (by omega)
        rw [t1] at hk k3
        have e3 : (c.fr.length : Int) = (r.length : Int) + 1 + 1 := by rw [he, len_c, len_c]
        obtain ⟨i1, i2⟩ := CN_close h he (ρ := 1) (n := c.n + 1) (s := c.st) (i := -1) (e := c.em ++ (wk 1 c.fr.length c.ws).2) (Or.inr ⟨hk, by omega⟩) (by rw [if_neg (by omega)]) ⟨by omega, by omega⟩
        have hc : ((works 1 c).pop.opn (-1)).nxt = ((c.n + 1, c.st, q' :: r, (wk 1 c.fr.length c.ws).1, c.op + (-1), c.em ++ (wk 1 c.fr.length c.ws).2, c.ru, c.wr, c.wa) : Cf) := by
          show ((c.n + 1, c.st, c.fr.tail, (wk 1 c.fr.length c.ws).1, c.op + (-1), c.em ++ (wk 1 c.fr.length c.ws).2, c.ru, c.wr, c.wa) : Cf) = _
          rw [he]; rfl
        rw [hc]
        refine CI_ask i1 ?_ ?_
        · show aK q'.1
          unfold aK nK at *; omega
        · show ((c.em ++ (wk 1 c.fr.length c.ws).2).length : Int) + ((wk 1 c.fr.length c.ws).1.length : Int) + ((q' :: r).length : Int) ≤ 2 * (c.n + 1) + 1
          rw [len_c]
          omega
      · rw [if_neg k3]
        by_cases k1 : topF c = 1 ∧ K c.n = 5
        · rw [if_pos k1]
          have hlt := n_lt hT h6 (show K c.n ≠ 0 by omega)
          obtain ⟨q, r, he⟩ := h.hd
          have t := (topF_c he).1
          have hr0 : r = [] := by
            have h1 := h.1
            rw [he] at h1
            cases r with
            | nil => rfl
            | cons q' r => have := h1.2; unfold aK nK at this; omega
          subst hr0
          have e3 : (c.fr.length : Int) = 1 := by rw [he]; rfl
          have h4 := h.2.2.2.1
          rw [he] at h4
          rw [t] at hk
          have i5 := WV.works (ρ := 1) (Or.inr ⟨hk, by omega⟩) c.ws h4
          have hop : c.op = 0 := by
            rw [h.2.1, he]
            show (if q.1 = 3 ∨ q.1 = 4 ∨ q.1 = 7 ∨ q.1 = 8 ∨ q.1 = 9 ∨ q.1 = 10 then (1 : Int) else 0) + 0 = 0
            rw [if_neg (by omega)]; rfl
          have hc : ((((works 1 c).emit 408 0).pop.push 2 (topA c)).nxt).to 1 = ((c.n + 1, 1, [(2, topA c)], (wk 1 c.fr.length c.ws).1, c.op, (c.em ++ (wk 1 c.fr.length c.ws).2) ++ [(408, 0)], c.ru, c.wr, c.wa) : Cf) := by
            show ((c.n + 1, 1, (2, topA c) :: c.fr.tail, (wk 1 c.fr.length c.ws).1, c.op, (c.em ++ (wk 1 c.fr.length c.ws).2) ++ [(408, 0)], c.ru, c.wr, c.wa) : Cf) = _
            rw [he]; rfl
          rw [hc]
          refine ⟨Or.inr ⟨⟨Or.inr rfl, ?_, ?_, ?_, h.2.2.2.2.1, by show 0 ≤ c.n + 1; omega, by show c.n + 1 ≤ T; omega⟩, Or.inr (Or.inr (Or.inl ⟨rfl, Or.inl rfl⟩))⟩, ?_⟩
          · show c.op = 0 + 0
            rw [hop]; rfl
          · show c.op ≤ 10
            omega
          · show WV [(2, topA c)] (wk 1 c.fr.length c.ws).1
            rw [he]
            exact WV.push i5
          · show (((c.em ++ (wk 1 c.fr.length c.ws).2) ++ [(408, 0)]).length : Int) + ((wk 1 c.fr.length c.ws).1.length : Int) + (([(2, topA c)] : List (Int × Int)).length : Int) ≤ 2 * (c.n + 1) + 1
            rw [List.length_append]
            simp only [List.length_cons, List.length_nil]
            omega
        · rw [if_neg k1]; exact CI_errs hs
theorem CI_stp {K V S : Int → Int} {T : Int} {c : Cf} (hT : ∀ n : Int, 0 ≤ n → n ≤ T → (K n = 0 ↔ n = T)) (h : CI T c) (hl : c.st ≠ 4 ∨ K c.n ≠ 0) : CI T (stp K V S c) := by
  obtain ⟨h1, hp⟩ := id h
  unfold stp
  rcases h1 with ⟨s4, f0, w0, o0, r0, n0⟩ | ⟨hN, hS⟩
  · rw [if_neg (by omega), if_neg (by omega), if_neg (by omega), if_neg (by omega)]
    unfold sRule
    have hlt := n_lt hT n0 (by omega)
    by_cases k : K c.n ≠ 4 ∧ K c.n ≠ 5
    · rw [if_pos k]; exact CI_errs h
    · rw [if_neg k]
      by_cases k20 : c.ru = 20
      · rw [if_pos k20]; exact CI_errs h
      · rw [if_neg k20]
        have hpp : (c.em.length : Int) + c.ws.length + c.fr.length ≤ 2 * c.n + (if c.st = 0 then 0 else 1) := hp
        rw [if_neg (by omega), w0, f0] at hpp
        simp only [List.length_nil] at hpp
        by_cases k4 : K c.n = 4
        · rw [if_pos k4, if_pos k4]
          refine ⟨Or.inr ⟨⟨?_, ?_, ?_, ?_, ?_, by show 0 ≤ c.n + 1; omega, by show c.n + 1 ≤ T; omega⟩, Or.inl ⟨rfl, Or.inl rfl⟩⟩, ?_⟩
          · show fv ((1, 0) :: c.fr)
            rw [f0]; exact Or.inl rfl
          · show c.op = 0 + cO c.fr
            rw [o0, f0]; rfl
          · show c.op ≤ 10
            omega
          · show WV ((1, 0) :: c.fr) c.ws
            rw [w0]; exact ⟨List.Pairwise.nil, fun q hq => by cases hq⟩
          · show 0 ≤ c.ru + 1 ∧ c.ru + 1 ≤ 20
            omega
          · show (c.em.length : Int) + c.ws.length + (((1, 0) :: c.fr).length : Int) ≤ 2 * (c.n + 1) + 0
            rw [w0, f0]
            simp only [List.length_cons, List.length_nil]
            omega
        · rw [if_neg k4, if_neg k4]
          refine ⟨Or.inr ⟨⟨?_, ?_, ?_, ?_, ?_, by show 0 ≤ c.n + 1; omega, by show c.n + 1 ≤ T; omega⟩, Or.inr (Or.inr (Or.inl ⟨rfl, Or.inl rfl⟩))⟩, ?_⟩
          · show fv ((2, 0) :: c.fr)
            rw [f0]; exact Or.inr rfl
          · show c.op = 0 + cO c.fr
            rw [o0, f0]; rfl
          · show c.op ≤ 10
            omega
          · show WV ((2, 0) :: c.fr) c.ws
            rw [w0]; exact ⟨List.Pairwise.nil, fun q hq => by cases hq⟩
          · show 0 ≤ c.ru + 1 ∧ c.ru + 1 ≤ 20
            omega
          · show (c.em.length : Int) + c.ws.length + (((2, 0) :: c.fr).length : Int) ≤ 2 * (c.n + 1) + 1
            rw [w0, f0]
            simp only [List.length_cons, List.length_nil]
            omega
  · rcases hS with ⟨s, k⟩ | ⟨s, k⟩ | ⟨s, k⟩ | ⟨s, k⟩
    · rw [if_pos s]
      rw [if_pos s] at hp
      exact CI_asks hT hN s k hp h
    · rw [if_neg (by omega)] at hp
      rw [if_neg (by omega), if_neg (by omega), if_neg (by omega), if_pos s]
      exact CI_asksOn hT hN s k hp h
    · rw [if_neg (by omega)] at hp
      rw [if_neg (by omega), if_pos s]
      exact CI_begins hT hN s k hp h
    · rw [if_neg (by omega)] at hp
      rw [if_neg (by omega), if_neg (by omega), if_pos s]
      exact CI_goesOn hT hN s k hp h
