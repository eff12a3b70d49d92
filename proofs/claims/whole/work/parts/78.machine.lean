/-! THE PARSING MACHINE OF THE REFERENCE, over a stream of tokens (kinds as the class numbers them) -/
abbrev Cf : Type := Int × Int × List (Int × Int) × List (Int × Int) × Int × List (Int × Int) × Int × Int × Int
def Cf.n (c : Cf) : Int := c.1
def Cf.st (c : Cf) : Int := c.2.1
def Cf.fr (c : Cf) : List (Int × Int) := c.2.2.1
def Cf.ws (c : Cf) : List (Int × Int) := c.2.2.2.1
def Cf.op (c : Cf) : Int := c.2.2.2.2.1
def Cf.em (c : Cf) : List (Int × Int) := c.2.2.2.2.2.1
def Cf.ru (c : Cf) : Int := c.2.2.2.2.2.2.1
def Cf.wr (c : Cf) : Int := c.2.2.2.2.2.2.2.1
def Cf.wa (c : Cf) : Int := c.2.2.2.2.2.2.2.2
def Cf.errs (S : Int → Int) (f : Int) (c : Cf) : Cf := (c.n, c.st, c.fr, c.ws, c.op, c.em, c.ru, f, S c.n)
def Cf.emit (o v : Int) (c : Cf) : Cf := (c.n, c.st, c.fr, c.ws, c.op, c.em ++ [(o, v)], c.ru, c.wr, c.wa)
def Cf.nxt (c : Cf) : Cf := (c.n + 1, c.st, c.fr, c.ws, c.op, c.em, c.ru, c.wr, c.wa)
def Cf.to (s : Int) (c : Cf) : Cf := (c.n, s, c.fr, c.ws, c.op, c.em, c.ru, c.wr, c.wa)
def Cf.pop (c : Cf) : Cf := (c.n, c.st, c.fr.tail, c.ws, c.op, c.em, c.ru, c.wr, c.wa)
def Cf.push (f a : Int) (c : Cf) : Cf := (c.n, c.st, (f, a) :: c.fr, c.ws, c.op, c.em, c.ru, c.wr, c.wa)
def Cf.opn (i : Int) (c : Cf) : Cf := (c.n, c.st, c.fr, c.ws, c.op + i, c.em, c.ru, c.wr, c.wa)
def rnk (o : Int) : Int := if o = 407 then 1 else if o = 406 then 2 else if o = 43 ∨ o = 45 then 3 else 4
/-- what stays waiting, and what is emitted -/
def wk (r m : Int) : List (Int × Int) → List (Int × Int) × List (Int × Int)
  | [] => ([], [])
  | q :: w => if q.2 = m ∧ r ≤ rnk q.1 then ((wk r m w).1, (q.1, 0) :: (wk r m w).2) else (q :: w, [])
def works (r : Int) (c : Cf) : Cf := (c.n, c.st, c.fr, (wk r c.fr.length c.ws).1, c.op, c.em ++ (wk r c.fr.length c.ws).2, c.ru, c.wr, c.wa)
def waitsFor (o : Int) (c : Cf) : Cf := Cf.nxt ((works (rnk o) c).n, (works (rnk o) c).st, (works (rnk o) c).fr, (o, (c.fr.length : Int)) :: (works (rnk o) c).ws, (works (rnk o) c).op, (works (rnk o) c).em, (works (rnk o) c).ru, (works (rnk o) c).wr, (works (rnk o) c).wa)
def opensSign (S : Int → Int) (f a : Int) (c : Cf) : Cf := if c.op = 10 then c.errs S 3 else ((c.opn 1).push f a).nxt
/-- the frames of one kind at the top closed, each with its order -/
def ovr (k o : Int) : List (Int × Int) → Int → List (Int × Int) → List (Int × Int) × Int × List (Int × Int)
  | [], p, e => ([], p, e)
  | q :: r, p, e => if q.1 = k then ovr k o r (p - 1) (e ++ [(o, 0)]) else (q :: r, p, e)
def oneOver (c : Cf) : Cf := (c.n, 2, (ovr 8 402 c.fr c.op c.em).1, c.ws, (ovr 8 402 c.fr c.op c.em).2.1, (ovr 8 402 c.fr c.op c.em).2.2, c.ru, c.wr, c.wa)
def askOver (c : Cf) : Cf := (c.n, 3, (ovr 4 405 c.fr c.op c.em).1, c.ws, (ovr 4 405 c.fr c.op c.em).2.1, (ovr 4 405 c.fr c.op c.em).2.2, c.ru, c.wr, c.wa)
def topF (c : Cf) : Int := (c.fr.headD (0, 0)).1
def topA (c : Cf) : Int := (c.fr.headD (0, 0)).2
def sAsks (K V S : Int → Int) (c : Cf) : Cf := if K c.n = 8 then opensSign S 4 0 c else if K c.n = 23 then opensSign S 3 0 c else (c.push 5 0).to 1
def sBegins (K V S : Int → Int) (c : Cf) : Cf := if K c.n = 2 then (if 100000 < V c.n then c.errs S 2 else oneOver (c.emit 400 (V c.n)).nxt) else if K c.n = 3 then oneOver (c.emit 401 (V c.n)).nxt else if K c.n = 21 then opensSign S 7 0 c else if K c.n = 18 then opensSign S 8 0 c else if K c.n = 9 ∨ K c.n = 10 then (if K (c.n + 1) = 21 then opensSign S 9 (K c.n - 4) c.nxt else c.nxt.errs S 1) else c.errs S 1
def sGoesOn (K V S : Int → Int) (c : Cf) : Cf := if 17 ≤ K c.n ∧ K c.n ≤ 20 then (waitsFor (sgn (K c.n)) c).to 1 else if (topF c = 7 ∨ topF c = 10) ∧ K c.n = 22 then oneOver (if topF c = 10 then ((works 3 c).pop.opn (-1)).emit (if topA c = 5 then 403 else 404) 0 else (works 3 c).pop.opn (-1)).nxt else if topF c = 9 ∧ K c.n = 25 then (((works 3 c).pop.push 10 (topA c)).nxt).to 1 else if topF c = 5 ∧ 11 ≤ K c.n ∧ K c.n ≤ 16 then (((works 3 c).pop.push 6 (sgn (K c.n))).nxt).to 1 else if topF c = 6 then askOver ((works 3 c).pop.emit (topA c) 0) else if topF c = 2 ∧ K c.n = 26 then (((works 3 c).pop.emit 409 0).nxt).to 4 else c.errs S 1
def sAsksOn (K V S : Int → Int) (c : Cf) : Cf := if K c.n = 6 then (waitsFor 407 c).to 0 else if K c.n = 7 then (waitsFor 406 c).to 0 else if topF c = 3 ∧ K c.n = 24 then askOver ((works 1 c).pop.opn (-1)).nxt else if topF c = 1 ∧ K c.n = 5 then ((((works 1 c).emit 408 0).pop.push 2 (topA c)).nxt).to 1 else c.errs S 1
def sRule (K V S : Int → Int) (c : Cf) : Cf := if K c.n ≠ 4 ∧ K c.n ≠ 5 then c.errs S 1 else if c.ru = 20 then c.errs S 4 else (((show Cf from (c.n, c.st, c.fr, c.ws, c.op, c.em, c.ru + 1, c.wr, c.wa)).push (if K c.n = 4 then 1 else 2) 0).to (if K c.n = 4 then 0 else 1)).nxt
def stp (K V S : Int → Int) (c : Cf) : Cf := if c.st = 0 then sAsks K V S c else if c.st = 1 then sBegins K V S c else if c.st = 2 then sGoesOn K V S c else if c.st = 3 then sAsksOn K V S c else sRule K V S c
def RcN (K V S : Int → Int) : Nat → Cf → Cf → Prop
  | 0, c, e => c = e
  | k + 1, c, e => c.wr = 0 ∧ (c.st ≠ 4 ∨ K c.n ≠ 0) ∧ RcN K V S k (stp K V S c) e
def Rch (K V S : Int → Int) (c e : Cf) : Prop := ∃ k, RcN K V S k c e
theorem Rch.rf {K V S : Int → Int} (c : Cf) : Rch K V S c c := ⟨0, rfl⟩
theorem Rch.st {K V S : Int → Int} {c e : Cf} (h0 : c.wr = 0) (h1 : c.st ≠ 4 ∨ K c.n ≠ 0) (h : Rch K V S (stp K V S c) e) : Rch K V S c e := by
  obtain ⟨k, hk⟩ := h
  exact ⟨k + 1, h0, h1, hk⟩
theorem Rch.tr {K V S : Int → Int} {a b c : Cf} (h : Rch K V S a b) (k : Rch K V S b c) : Rch K V S a c := by
  obtain ⟨m, hm⟩ := h
  induction m generalizing a with
  | zero => have e : a = b := hm; rw [e]; exact k
  | succ m ih => exact Rch.st hm.1 hm.2.1 (ih hm.2.2)
theorem Rch.one {K V S : Int → Int} {c e : Cf} (h0 : c.wr = 0) (h1 : c.st ≠ 4 ∨ K c.n ≠ 0) (h : stp K V S c = e) : Rch K V S c e := Rch.st h0 h1 (by rw [h]; exact Rch.rf _)
theorem wk_2 {r r' m : Int} (h : r ≤ r') : ∀ (w : List (Int × Int)), (wk r m (wk r' m w).1).1 = (wk r m w).1 ∧ (wk r' m w).2 ++ (wk r m (wk r' m w).1).2 = (wk r m w).2 := by
  intro w
  induction w with
  | nil => exact ⟨rfl, rfl⟩
  | cons q w ih =>
    by_cases a : q.2 = m ∧ r' ≤ rnk q.1
    · have b : q.2 = m ∧ r ≤ rnk q.1 := ⟨a.1, by omega⟩
      simp only [wk, if_pos a, if_pos b, List.cons_append]
      exact ⟨ih.1, by rw [ih.2]⟩
    · simp only [wk, if_neg a, List.nil_append, and_self]
theorem works_2 {r r' : Int} (h : r ≤ r') (c : Cf) : works r (works r' c) = works r c := by
  have q := wk_2 (m := (c.fr.length : Int)) h c.ws
  show ((c.n, c.st, c.fr, (wk r c.fr.length (wk r' c.fr.length c.ws).1).1, c.op, (c.em ++ (wk r' c.fr.length c.ws).2) ++ (wk r c.fr.length (wk r' c.fr.length c.ws).1).2, c.ru, c.wr, c.wa) : Cf) = (c.n, c.st, c.fr, (wk r c.fr.length c.ws).1, c.op, c.em ++ (wk r c.fr.length c.ws).2, c.ru, c.wr, c.wa)
  rw [List.append_assoc, q.1, q.2]
