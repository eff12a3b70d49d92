/-- nothing of rank r waits in the frame at the top -/
def Zr (r : Int) (c : Cf) : Prop := topF c ≠ 8 ∧ wk r c.fr.length c.ws = (c.ws, [])
/-- a sign waits -/
def Cf.wt (a : Int) (new : List (Int × Int)) (o s : Int) (c : Cf) : Cf := (a, s, c.fr, (o, (c.fr.length : Int)) :: c.ws, c.op, c.em ++ new, c.ru, c.wr, c.wa)
theorem goesOn_w {K V S : Int → Int} {c e : Cf} {a' r : Int} {new : List (Int × Int)} (hst : e.st = 2) (hn : e.n = a') (hw : works r e = c.go a' new 2) (hwr : c.wr = 0) (hk : 17 ≤ K a' ∧ K a' ≤ 20) (hr : rnk (sgn (K a')) = r) : Rch K V S e (c.wt (a' + 1) new (sgn (K a')) 1) := by
  have e0 : e.wr = 0 := by
    have q : (works r e).wr = (c.go a' new 2).wr := by rw [hw]
    exact q.trans hwr
  have e1 : e.fr = c.fr := by
    have q : (works r e).fr = (c.go a' new 2).fr := by rw [hw]
    exact q
  refine Rch.one e0 (Or.inl (by rw [hst]; decide)) ?_
  unfold stp
  rw [if_neg (by rw [hst]; decide), if_neg (by rw [hst]; decide), if_pos hst]
  unfold sGoesOn
  rw [hn, if_pos hk]
  unfold waitsFor
  rw [hr, hw, e1]
  rfl
theorem one_w {c : Cf} {a'' : Int} {n1 n2 : List (Int × Int)} {o : Int} {a' : Int} (h : topF c ≠ 8) : oneOver ((c.wt a' n1 o 1).go a'' n2 1) = (c.wt a'' (n1 ++ n2) o 2) := by
  have q : ∀ (f : List (Int × Int)) (p : Int) (m : List (Int × Int)), (f.headD (0, 0)).1 ≠ 8 → ovr 8 402 f p m = (f, p, m) := by
    intro f p m hf
    cases f with
    | nil => rfl
    | cons x f => exact if_neg hf
  have q2 := q c.fr c.op ((c.em ++ n1) ++ n2) h
  show ((a'', (2 : Int), (ovr 8 402 c.fr c.op ((c.em ++ n1) ++ n2)).1, (o, (c.fr.length : Int)) :: c.ws, (ovr 8 402 c.fr c.op ((c.em ++ n1) ++ n2)).2.1, (ovr 8 402 c.fr c.op ((c.em ++ n1) ++ n2)).2.2, c.ru, c.wr, c.wa) : Cf) = _
  rw [q2, List.append_assoc]
  rfl
theorem one_z {c : Cf} {a' : Int} {new : List (Int × Int)} (h : topF c ≠ 8) : oneOver (c.go a' new 1) = c.go a' new 2 := by
  have q : ∀ (f : List (Int × Int)) (p : Int) (m : List (Int × Int)), (f.headD (0, 0)).1 ≠ 8 → ovr 8 402 f p m = (f, p, m) := by
    intro f p m hf
    cases f with
    | nil => rfl
    | cons x f => exact if_neg hf
  have q2 := q c.fr c.op (c.em ++ new) h
  show ((a', (2 : Int), (ovr 8 402 c.fr c.op (c.em ++ new)).1, c.ws, (ovr 8 402 c.fr c.op (c.em ++ new)).2.1, (ovr 8 402 c.fr c.op (c.em ++ new)).2.2, c.ru, c.wr, c.wa) : Cf) = _
  rw [q2]
  rfl
theorem works_wt {c : Cf} {r o a s : Int} {new : List (Int × Int)} (h : Zr r c) (ho : r ≤ rnk o) : works r (c.wt a new o s) = c.go a (new ++ [(o, 0)]) s := by
  have q : wk r (c.fr.length : Int) ((o, (c.fr.length : Int)) :: c.ws) = (c.ws, [(o, 0)]) := by
    show (if (c.fr.length : Int) = c.fr.length ∧ r ≤ rnk o then _ else _) = _
    rw [if_pos ⟨rfl, ho⟩, h.2]
  show ((a, s, c.fr, (wk r (c.fr.length : Int) ((o, (c.fr.length : Int)) :: c.ws)).1, c.op, (c.em ++ new) ++ (wk r (c.fr.length : Int) ((o, (c.fr.length : Int)) :: c.ws)).2, c.ru, c.wr, c.wa) : Cf) = _
  rw [q, List.append_assoc]
  rfl
theorem works_go {c : Cf} {r a s : Int} {new : List (Int × Int)} (h : Zr r c) : works r (c.go a new s) = c.go a new s := by
  show ((a, s, c.fr, (wk r (c.fr.length : Int) c.ws).1, c.op, (c.em ++ new) ++ (wk r (c.fr.length : Int) c.ws).2, c.ru, c.wr, c.wa) : Cf) = _
  rw [h.2, List.append_nil]
  rfl
theorem Zr_wt {c : Cf} {r o a s : Int} {new : List (Int × Int)} (h : topF c ≠ 8) (ho : rnk o < r) : Zr r (c.wt a new o s) := by
  refine ⟨h, ?_⟩
  show wk r (c.fr.length : Int) ((o, (c.fr.length : Int)) :: c.ws) = ((o, (c.fr.length : Int)) :: c.ws, [])
  exact if_neg (fun q => absurd (show r ≤ rnk o from q.2) (by omega))
