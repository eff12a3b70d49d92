/-! WHAT A TARIFF GIVES -/
def opB (o : Int) : Prop := o = 406 ∨ o = 407
def opC (o : Int) : Prop := o = 60 ∨ o = 62 ∨ o = 61 ∨ o = 35 ∨ o = 300 ∨ o = 301
def opN (o : Int) : Prop := o = 43 ∨ o = 45 ∨ o = 42 ∨ o = 47 ∨ o = 403 ∨ o = 404
/-- the types of the stack before and behind a step: true is an answer, false a number -/
def tyP (q : Int × Int) (t t' : List Bool) : Prop := (q.1 = 400 ∧ (0 ≤ q.2 ∧ q.2 ≤ 100000) ∧ t.length < 64 ∧ t' = false :: t) ∨ (q.1 = 401 ∧ (0 ≤ q.2 ∧ q.2 ≤ 7) ∧ t.length < 64 ∧ t' = false :: t) ∨ (q.1 = 402 ∧ ∃ r, t = false :: r ∧ t' = false :: r) ∨ (q.1 = 405 ∧ ∃ r, t = true :: r ∧ t' = true :: r) ∨ (opB q.1 ∧ ∃ r, t = true :: true :: r ∧ t' = true :: r) ∨ (opC q.1 ∧ ∃ r, t = false :: false :: r ∧ t' = true :: r) ∨ (opN q.1 ∧ ∃ r, t = false :: false :: r ∧ t' = false :: r)
def tyR : List (Int × Int) → List Bool → List Bool → Prop
  | [], t, t' => t = t'
  | q :: r, t, t' => ∃ u, tyP q t u ∧ tyR r u t'
def bd (v : Int) : Int := if 1000000000 < v then 1000000000 else if v < -1000000000 then -1000000000 else v
def vW (o a b : Int) : Int := if o = 43 then bd (a + b) else if o = 45 then bd (a - b) else if o = 42 then bd (a * b) else if o = 47 then (if b = 0 then 0 else a.tdiv b) else if o = 403 then (if a < b then a else b) else if o = 404 then (if b < a then a else b) else if o = 60 then (if a < b then 1 else 0) else if o = 62 then (if b < a then 1 else 0) else if o = 61 then (if a = b then 1 else 0) else if o = 35 then (if a = b then 0 else 1) else if o = 300 then (if a ≤ b then 1 else 0) else if o = 301 then (if b ≤ a then 1 else 0) else if o = 406 then a * b else (if 0 < a + b then 1 else 0)
def vS (nm : Int → Int) (q : Int × Int) (s : List Int) : List Int := if q.1 = 400 then q.2 :: s else if q.1 = 401 then nm q.2 :: s else if q.1 = 402 then (match s with | a :: r => (-a) :: r | [] => []) else if q.1 = 405 then (match s with | a :: r => (1 - a) :: r | [] => []) else (match s with | b :: a :: r => vW q.1 a b :: r | _ => [])
def vR (nm : Int → Int) : List (Int × Int) → List Int → List Int
  | [], s => s
  | q :: r, s => vR nm r (vS nm q s)
def okV : List Bool → List Int → Prop
  | [], [] => True
  | b :: t, v :: s => ((-1000000000 ≤ v ∧ v ≤ 1000000000) ∧ (b = true → v = 0 ∨ v = 1)) ∧ okV t s
  | _, _ => False
theorem okV_len : ∀ {t : List Bool} {s : List Int}, okV t s → s.length = t.length := by
  intro t
  induction t with
  | nil => intro s h; cases s with
    | nil => rfl
    | cons v s => exact h.elim
  | cons b t ih => intro s h; cases s with
    | nil => exact h.elim
    | cons v s => simp only [List.length_cons]; rw [ih h.2]
theorem okV_c {b : Bool} {t : List Bool} {s : List Int} (h : okV (b :: t) s) : ∃ v s', s = v :: s' ∧ ((-1000000000 ≤ v ∧ v ≤ 1000000000) ∧ (b = true → v = 0 ∨ v = 1)) ∧ okV t s' := by
  cases s with
  | nil => exact h.elim
  | cons v s => exact ⟨v, s, rfl, h.1, h.2⟩
theorem okV_h {t : List Bool} {v : Int} {s : List Int} (h : okV t (v :: s)) : -1000000000 ≤ v ∧ v ≤ 1000000000 := by
  cases t with
  | nil => exact h.elim
  | cons b t => exact h.1.1
theorem bd_b (v : Int) : -1000000000 ≤ bd v ∧ bd v ≤ 1000000000 := by unfold bd; split <;> (try split) <;> omega
theorem tdiv_bb {a b : Int} (h1 : -1000000000 ≤ a) (h2 : a ≤ 1000000000) : -1000000000 ≤ a.tdiv b ∧ a.tdiv b ≤ 1000000000 := by
  have h := Int.natAbs_tdiv a b
  have h3 : (a.tdiv b).natAbs ≤ a.natAbs := by rw [h]; exact Nat.div_le_self a.natAbs b.natAbs
  omega
theorem vW_n {o a b : Int} (ho : opN o) (ha : -1000000000 ≤ a ∧ a ≤ 1000000000) (hb : -1000000000 ≤ b ∧ b ≤ 1000000000) : -1000000000 ≤ vW o a b ∧ vW o a b ≤ 1000000000 := by
  unfold vW
  have b1 := bd_b (a + b)
  have b2 := bd_b (a - b)
  have b3 := bd_b (a * b)
  have b4 := tdiv_bb (b := b) ha.1 ha.2
  rcases ho with rfl | rfl | rfl | rfl | rfl | rfl <;> (repeat (first | rw [if_pos rfl] | rw [if_neg (by decide)]))
  · exact b1
  · exact b2
  · exact b3
  · split <;> omega
  · split <;> omega
  · split <;> omega
theorem vW_c {o a b : Int} (ho : opC o) : vW o a b = 0 ∨ vW o a b = 1 := by
  unfold vW
  rcases ho with rfl | rfl | rfl | rfl | rfl | rfl <;> simp <;> omega
theorem vW_b {o a b : Int} (ho : opB o) (ha : a = 0 ∨ a = 1) (hb : b = 0 ∨ b = 1) : vW o a b = 0 ∨ vW o a b = 1 := by
  unfold vW
  rcases ho with rfl | rfl <;> rcases ha with rfl | rfl <;> rcases hb with rfl | rfl <;> simp
theorem tyP_r {q : Int × Int} {t t' : List Bool} (h : tyP q t t') : 35 ≤ q.1 ∧ q.1 ≤ 407 := by
  unfold tyP opB opC opN at h
  omega
theorem tyP_len {q : Int × Int} {t t' : List Bool} (h : tyP q t t') (hl : t.length ≤ 64) : t'.length ≤ 64 := by
  rcases h with ⟨-, -, h1, rfl⟩ | ⟨-, -, h1, rfl⟩ | ⟨-, r, rfl, rfl⟩ | ⟨-, r, rfl, rfl⟩ | ⟨-, r, rfl, rfl⟩ | ⟨-, r, rfl, rfl⟩ | ⟨-, r, rfl, rfl⟩ <;> simp only [List.length_cons] at * <;> omega
def nmOk (nm : Int → Int) : Prop := ∀ i : Int, 0 ≤ i → i ≤ 7 → -1000000 ≤ nm i ∧ nm i ≤ 1000000
theorem vS_bin {nm : Int → Int} {q : Int × Int} {a b : Int} {s : List Int} (h1 : q.1 ≠ 400) (h2 : q.1 ≠ 401) (h3 : q.1 ≠ 402) (h4 : q.1 ≠ 405) : vS nm q (b :: a :: s) = vW q.1 a b :: s := by
  unfold vS
  rw [if_neg h1, if_neg h2, if_neg h3, if_neg h4]
theorem okV_step {nm : Int → Int} (hnm : nmOk nm) {q : Int × Int} {t t' : List Bool} {s : List Int} (h : tyP q t t') (hv : okV t s) : okV t' (vS nm q s) := by
  rcases h with ⟨h0, h1, h2, rfl⟩ | ⟨h0, h1, h2, rfl⟩ | ⟨h0, r, rfl, rfl⟩ | ⟨h0, r, rfl, rfl⟩ | ⟨h0, r, rfl, rfl⟩ | ⟨h0, r, rfl, rfl⟩ | ⟨h0, r, rfl, rfl⟩
  · unfold vS
    rw [if_pos h0]
    exact ⟨⟨by omega, fun q => by cases q⟩, hv⟩
  · unfold vS
    rw [if_neg (by omega), if_pos h0]
    have := hnm q.2 h1.1 h1.2
    exact ⟨⟨by omega, fun q => by cases q⟩, hv⟩
  · obtain ⟨v, s', rfl, h3, h4⟩ := okV_c hv
    unfold vS
    rw [if_neg (by omega), if_neg (by omega), if_pos h0]
    exact ⟨⟨by omega, fun q => by cases q⟩, h4⟩
  · obtain ⟨v, s', rfl, h3, h4⟩ := okV_c hv
    have h5 := h3.2 rfl
    unfold vS
    rw [if_neg (by omega), if_neg (by omega), if_neg (by omega), if_pos h0]
    exact ⟨⟨by omega, fun _ => by omega⟩, h4⟩
  · obtain ⟨v, s', rfl, h3, h4⟩ := okV_c hv
    obtain ⟨u, s', rfl, h5, h6⟩ := okV_c h4
    have h7 := vW_b h0 (h5.2 rfl) (h3.2 rfl)
    unfold opB at h0
    rw [vS_bin (by omega) (by omega) (by omega) (by omega)]
    exact ⟨⟨by omega, fun _ => h7⟩, h6⟩
  · obtain ⟨v, s', rfl, h3, h4⟩ := okV_c hv
    obtain ⟨u, s', rfl, h5, h6⟩ := okV_c h4
    have h7 := vW_c (a := u) (b := v) h0
    unfold opC at h0
    rw [vS_bin (by omega) (by omega) (by omega) (by omega)]
    exact ⟨⟨by omega, fun _ => h7⟩, h6⟩
  · obtain ⟨v, s', rfl, h3, h4⟩ := okV_c hv
    obtain ⟨u, s', rfl, h5, h6⟩ := okV_c h4
    have h7 := vW_n h0 h5.1 h3.1
    unfold opN at h0
    rw [vS_bin (by omega) (by omega) (by omega) (by omega)]
    exact ⟨⟨h7, fun q => by cases q⟩, h6⟩
theorem okV_run {nm : Int → Int} (hnm : nmOk nm) : ∀ {c : List (Int × Int)} {t t' : List Bool} {s : List Int}, tyR c t t' → okV t s → okV t' (vR nm c s) := by
  intro c
  induction c with
  | nil => intro t t' s h hv; rw [← show t = t' from h]; exact hv
  | cons q r ih => intro t t' s h hv; obtain ⟨u, h1, h2⟩ := h; exact ih h2 (okV_step hnm h1 hv)
/-- the whole text at once, as the reference has it -/
def gvF (nm : Int → Int) : List (Int × Int) → Bool → List Int → Int
  | [], _, _ => 0
  | q :: r, true, _ => gvF nm r (decide (q.1 ≠ 409)) []
  | q :: r, false, s => if q.1 = 408 then gvF nm r (decide (s.headD 0 = 0)) s.tail else if q.1 = 409 then s.headD 0 else gvF nm r false (vS nm q s)
def tyG : List (Int × Int) → List Bool → Prop
  | [], _ => True
  | q :: r, t => (q.1 = 408 ∧ t = [true] ∧ tyG r []) ∨ (q.1 = 409 ∧ t = [false] ∧ tyG r []) ∨ ∃ t', tyP q t t' ∧ tyG r t'
theorem tyG_op {q : Int × Int} {r : List (Int × Int)} {t : List Bool} (h : tyG (q :: r) t) (h1 : q.1 ≠ 408) (h2 : q.1 ≠ 409) : ∃ t', tyP q t t' ∧ tyG r t' := by
  rcases h with ⟨e, -⟩ | ⟨e, -⟩ | h
  · exact absurd e h1
  · exact absurd e h2
  · exact h
theorem tyG_8 {q : Int × Int} {r : List (Int × Int)} {t : List Bool} (h : tyG (q :: r) t) (h1 : q.1 = 408) : t = [true] ∧ tyG r [] := by
  rcases h with ⟨e, h⟩ | ⟨e, -⟩ | ⟨t', h, -⟩
  · exact h
  · omega
  · have := tyP_r h; omega
theorem tyG_9 {q : Int × Int} {r : List (Int × Int)} {t : List Bool} (h : tyG (q :: r) t) (h1 : q.1 = 409) : t = [false] ∧ tyG r [] := by
  rcases h with ⟨e, -⟩ | ⟨e, h⟩ | ⟨t', h, -⟩
  · omega
  · exact h
  · have := tyP_r h; omega
theorem tyG_r {q : Int × Int} {r : List (Int × Int)} {t : List Bool} (h : tyG (q :: r) t) : 35 ≤ q.1 ∧ q.1 ≤ 409 := by
  rcases h with ⟨e, -⟩ | ⟨e, -⟩ | ⟨t', h, -⟩
  · omega
  · omega
  · have := tyP_r h; omega
theorem tyG_any {q : Int × Int} {r : List (Int × Int)} {t : List Bool} (h : tyG (q :: r) t) (hl : t.length ≤ 64) : ∃ t', tyG r t' ∧ t'.length ≤ 64 := by
  rcases h with ⟨-, -, h⟩ | ⟨-, -, h⟩ | ⟨t', h, h2⟩
  · exact ⟨[], h, by simp⟩
  · exact ⟨[], h, by simp⟩
  · exact ⟨t', h2, tyP_len h hl⟩
theorem gvF_op {nm : Int → Int} {q : Int × Int} {r : List (Int × Int)} {s : List Int} (h1 : q.1 ≠ 408) (h2 : q.1 ≠ 409) : gvF nm (q :: r) false s = gvF nm r false (vS nm q s) := by
  show (if q.1 = 408 then _ else if q.1 = 409 then _ else _) = _
  rw [if_neg h1, if_neg h2]
theorem gvF_8 {nm : Int → Int} {q : Int × Int} {r : List (Int × Int)} {s : List Int} (h1 : q.1 = 408) : gvF nm (q :: r) false s = gvF nm r (decide (s.headD 0 = 0)) s.tail := by
  show (if q.1 = 408 then _ else if q.1 = 409 then _ else _) = _
  rw [if_pos h1]
theorem gvF_9 {nm : Int → Int} {q : Int × Int} {r : List (Int × Int)} {s : List Int} (h1 : q.1 = 409) : gvF nm (q :: r) false s = s.headD 0 := by
  show (if q.1 = 408 then _ else if q.1 = 409 then _ else _) = _
  rw [if_neg (by omega), if_pos h1]
theorem gvF_sk {nm : Int → Int} {q : Int × Int} {r : List (Int × Int)} {s : List Int} : gvF nm (q :: r) true s = gvF nm r (decide (q.1 ≠ 409)) [] := rfl
theorem gvF_app {nm : Int → Int} {r : List (Int × Int)} : ∀ {c : List (Int × Int)} {t t' : List Bool} {s : List Int}, tyR c t t' → gvF nm (c ++ r) false s = gvF nm r false (vR nm c s) := by
  intro c
  induction c with
  | nil => intro t t' s h; rfl
  | cons q c ih =>
    intro t t' s h
    obtain ⟨u, h1, h2⟩ := h
    have := tyP_r h1
    rw [List.cons_append, gvF_op (by omega) (by omega)]
    exact ih h2
theorem gvF_skip {nm : Int → Int} {r : List (Int × Int)} : ∀ {c : List (Int × Int)} {t t' : List Bool} {s : List Int}, tyR c t t' → gvF nm (c ++ (409, 0) :: r) true s = gvF nm r false [] := by
  intro c
  induction c with
  | nil => intro t t' s h; rfl
  | cons q c ih =>
    intro t t' s h
    obtain ⟨u, h1, h2⟩ := h
    have := tyP_r h1
    rw [List.cons_append, gvF_sk, show decide (q.1 ≠ 409) = true from decide_eq_true (by omega)]
    exact ih h2
theorem tyG_app {r : List (Int × Int)} : ∀ {c : List (Int × Int)} {t t' : List Bool}, tyR c t t' → tyG r t' → tyG (c ++ r) t := by
  intro c
  induction c with
  | nil => intro t t' h h2; rw [show t = t' from h]; exact h2
  | cons q c ih =>
    intro t t' h h2
    obtain ⟨u, h1, h3⟩ := h
    exact Or.inr (Or.inr ⟨u, h1, ih h3 h2⟩)
/-- rules: what each asks, what it gives -/
abbrev tRules : Type := List (List (Int × Int) × List (Int × Int))
def flat : tRules → List (Int × Int)
  | [] => []
  | p :: r => (match p.1 with | [] => [] | q :: c => (q :: c) ++ [(408, 0)]) ++ p.2 ++ [(409, 0)] ++ flat r
def tLen : tRules → Nat
  | [] => 0
  | p :: r => p.1.length + p.2.length + tLen r
noncomputable def gvR (nm : Int → Int) : tRules → Int
  | [] => 0
  | p :: r => zit (p.1 = [] ∨ (vR nm p.1 []).headD 0 ≠ 0) ((vR nm p.2 []).headD 0) (gvR nm r)
def rOk (p : List (Int × Int) × List (Int × Int)) : Prop := (p.1 = [] ∨ tyR p.1 [] [true]) ∧ tyR p.2 [] [false]
def PW (R : tRules) : Prop := R.length ≤ 20 ∧ tLen R ≤ 400 ∧ ∀ p, p ∈ R → rOk p
theorem tyR_one {c : List (Int × Int)} {b : Bool} {nm : Int → Int} (hnm : nmOk nm) (h : tyR c [] [b]) : ∃ v, vR nm c [] = [v] ∧ (-1000000000 ≤ v ∧ v ≤ 1000000000) ∧ (b = true → v = 0 ∨ v = 1) := by
  have h1 := okV_run hnm (s := []) h trivial
  obtain ⟨v, s', e, h2, h3⟩ := okV_c h1
  cases s' with
  | nil => exact ⟨v, e, h2⟩
  | cons w s' => exact h3.elim
theorem flat_gv {nm : Int → Int} (hnm : nmOk nm) : ∀ (R : tRules), (∀ p, p ∈ R → rOk p) → gvF nm (flat R) false [] = gvR nm R ∧ tyG (flat R) [] := by
  intro R
  induction R with
  | nil => intro _; exact ⟨rfl, trivial⟩
  | cons p R ih =>
    intro h
    obtain ⟨i1, i2⟩ := ih (fun q hq => h q (List.mem_cons_of_mem _ hq))
    obtain ⟨h1, h2⟩ := h p (List.mem_cons_self)
    obtain ⟨a, g⟩ := p
    obtain ⟨v2, e2, -, -⟩ := tyR_one hnm h2
    show gvF nm (_ ++ g ++ [(409, 0)] ++ flat R) false [] = zit (a = [] ∨ (vR nm a []).headD 0 ≠ 0) ((vR nm g []).headD 0) (gvR nm R) ∧ _
    cases a with
    | nil =>
      have e : flat (([], g) :: R) = g ++ (409, 0) :: flat R := by simp [flat]
      refine ⟨?_, ?_⟩
      · show gvF nm ([] ++ g ++ [(409, 0)] ++ flat R) false [] = _
        rw [show ([] : List (Int × Int)) ++ g ++ [(409, 0)] ++ flat R = g ++ (409, 0) :: flat R by simp, gvF_app h2, gvF_9 rfl, zit_t (Or.inl rfl)]
      · rw [e]
        exact tyG_app h2 (Or.inr (Or.inl ⟨rfl, rfl, i2⟩))
    | cons q c =>
      have h1' : tyR (q :: c) [] [true] := h1.resolve_left (by simp)
      obtain ⟨v1, e1, -, -⟩ := tyR_one hnm h1'
      have e : flat ((q :: c, g) :: R) = (q :: c) ++ (408, 0) :: (g ++ (409, 0) :: flat R) := by simp [flat]
      refine ⟨?_, ?_⟩
      · show gvF nm ((q :: c) ++ [(408, 0)] ++ g ++ [(409, 0)] ++ flat R) false [] = _
        rw [show (q :: c) ++ [(408, 0)] ++ g ++ [(409, 0)] ++ flat R = (q :: c) ++ (408, 0) :: (g ++ (409, 0) :: flat R) by simp, gvF_app h1', gvF_8 rfl, e1]
        show gvF nm (g ++ (409, 0) :: flat R) (decide (v1 = 0)) [] = zit (q :: c = [] ∨ v1 ≠ 0) _ _
        by_cases hv : v1 = 0
        · rw [show decide (v1 = 0) = true from decide_eq_true hv, gvF_skip h2, i1, zit_f (by simp [hv])]
        · rw [show decide (v1 = 0) = false from decide_eq_false hv, gvF_app h2, gvF_9 rfl, zit_t (Or.inr hv)]
      · rw [e]
        exact tyG_app h1' (Or.inl ⟨rfl, rfl, tyG_app h2 (Or.inr (Or.inl ⟨rfl, rfl, i2⟩))⟩)
theorem gvR_b {nm : Int → Int} (hnm : nmOk nm) : ∀ (R : tRules), (∀ p, p ∈ R → rOk p) → -1000000000 ≤ gvR nm R ∧ gvR nm R ≤ 1000000000 := by
  intro R
  induction R with
  | nil => intro _; exact ⟨by show (-1000000000 : Int) ≤ 0; decide, by show (0 : Int) ≤ 1000000000; decide⟩
  | cons p R ih =>
    intro h
    have i := ih (fun q hq => h q (List.mem_cons_of_mem _ hq))
    obtain ⟨h1, h2⟩ := h p (List.mem_cons_self)
    obtain ⟨v2, e2, h3, -⟩ := tyR_one hnm h2
    show -1000000000 ≤ zit _ _ _ ∧ zit _ _ _ ≤ _
    rcases zit_or (p.1 = [] ∨ (vR nm p.1 []).headD 0 ≠ 0) ((vR nm p.2 []).headD 0) (gvR nm R) with ⟨-, e⟩ | ⟨-, e⟩
    · rw [e, e2]; exact h3
    · rw [e]; exact i
/-- the names agree where they are asked -/
theorem vR_nm {nm nm' : Int → Int} (hn : ∀ i : Int, 0 ≤ i → i ≤ 7 → nm i = nm' i) : ∀ {c : List (Int × Int)} {t t' : List Bool} {s : List Int}, tyR c t t' → vR nm c s = vR nm' c s := by
  intro c
  induction c with
  | nil => intro t t' s h; rfl
  | cons q c ih =>
    intro t t' s h
    obtain ⟨u, h1, h2⟩ := h
    have e : vS nm q s = vS nm' q s := by
      unfold vS
      by_cases e4 : q.1 = 401
      · rw [if_neg (by omega), if_pos e4, if_neg (by omega), if_pos e4]
        rcases h1 with ⟨h0, -⟩ | ⟨-, h0, -⟩ | ⟨h0, -⟩ | ⟨h0, -⟩ | ⟨h0, -⟩ | ⟨h0, -⟩ | ⟨h0, -⟩
        · omega
        · rw [hn _ h0.1 h0.2]
        · omega
        · omega
        · unfold opB at h0; omega
        · unfold opC at h0; omega
        · unfold opN at h0; omega
      · rw [if_neg e4, if_neg e4]
    show vR nm c (vS nm q s) = vR nm' c (vS nm' q s)
    rw [e]
    exact ih h2
theorem gvR_nm {nm nm' : Int → Int} (hn : ∀ i : Int, 0 ≤ i → i ≤ 7 → nm i = nm' i) : ∀ (R : tRules), (∀ p, p ∈ R → rOk p) → gvR nm R = gvR nm' R := by
  intro R
  induction R with
  | nil => intro _; rfl
  | cons p R ih =>
    intro h
    obtain ⟨h1, h2⟩ := h p (List.mem_cons_self)
    show zit _ _ _ = zit _ _ _
    rw [ih (fun q hq => h q (List.mem_cons_of_mem _ hq)), vR_nm hn h2]
    rcases h1 with h1 | h1
    · rw [zit_t (Or.inl h1), zit_t (Or.inl h1)]
    · rw [vR_nm hn h1]
/-- a row that holds a stack, the bottom at 0 -/
def Pl (f : Int → Int) : List Int → Prop
  | [] => True
  | v :: s => f s.length = v ∧ Pl f s
theorem Pl.up {f f' : Int → Int} : ∀ {s : List Int}, Pl f s → (∀ w : Int, 0 ≤ w → w < s.length → f' w = f w) → Pl f' s := by
  intro s
  induction s with
  | nil => intro _ _; trivial
  | cons v s ih =>
    intro h h2
    refine ⟨by rw [h2 _ (by omega) (by simp only [List.length_cons]; omega)]; exact h.1, ih h.2 (fun w a b => h2 w a (by simp only [List.length_cons]; omega))⟩
def mCode (A : Nat → Int → Int) : Int → List (Int × Int) → Prop
  | _, [] => True
  | k, q :: r => A 77 k = q.1 ∧ A 78 k = q.2 ∧ mCode A (k + 1) r
def mTar (A : Nat → Int → Int) (R : tRules) : Prop := A 42 54 = (flat R).length ∧ A 42 55 = R.length ∧ mCode A 0 (flat R)
theorem flat_len : ∀ (R : tRules), (flat R).length ≤ tLen R + 2 * R.length := by
  intro R
  induction R with
  | nil => exact Nat.le_refl _
  | cons p R ih =>
    obtain ⟨a, g⟩ := p
    cases a <;> simp only [flat, tLen, List.length_append, List.length_cons, List.length_nil] <;> omega
theorem lI_tdiv {a b : Int} (ha : -1000000000 ≤ a) (ha2 : a ≤ 1000000000) (hb : -1000000000 ≤ b) (hb2 : b ≤ 1000000000) : lI a / lI b = lI (a.tdiv b) := by
  have h := tdiv_bb (b := b) ha ha2
  rw [← Int64.toInt_inj, Int64.toInt_div, lI_toInt (by omega) (by omega), lI_toInt (by omega) (by omega), lI_toInt (by omega) (by omega)]
  exact Int.bmod_eq_of_le (by omega) (by omega)
theorem l2i_eq {a : Int} (h1 : -2147483648 ≤ a) (h2 : a < 2147483648) : (lI a).toInt32 = iI a := by
  rw [← Int32.toInt_inj, Int64.toInt_toInt32, lI_toInt (by omega) (by omega), iI_toInt ⟨h1, h2⟩]
  exact Int.bmod_eq_of_le (by omega) (by omega)
theorem mulb2 {a b M N : Int} (h1 : -M ≤ a) (h2 : a ≤ M) (h3 : -N ≤ b) (h4 : b ≤ N) : -(M * N) ≤ a * b ∧ a * b ≤ M * N := by
  rcases Int.lt_or_le a 0 with q | q
  · have := mul_b (j := -a) (u := b) (J := M) (U := N) (by omega) (by omega) h3 h4
    rw [Int.neg_mul] at this
    omega
  · exact mul_b q h2 h3 h4
section AwLong
variable {d : Nat} {cd : List az_I} {rt : Option FieldType} {P : Option Value → az_S → Prop} {pc p' : Nat} {L : az_V} {st : List Value} {σ : az_S}
theorem aw_ldiv {a b : Int} (hf : az_fetch cd pc = some (1, .ldiv, [])) (ha : -1000000000 ≤ a) (ha2 : a ≤ 1000000000) (hb : -1000000000 ≤ b) (hb2 : b ≤ 1000000000) (h0 : b ≠ 0) (hp : pc + 1 = p') (h : aw d cd rt P p' L (.long (lI (a.tdiv b)) :: st) σ) : aw d cd rt P pc L (.long (lI b) :: .long (lI a) :: st) σ := by
  subst hp
  rw [← lI_tdiv ha ha2 hb hb2] at h
  refine aw_nx hf (Nat.le_of_ble_eq_true rfl) ⟨_, _, st, rfl, fun e => h0 ?_, rfl⟩ h
  have e2 := congrArg Int64.toInt e
  rw [lI_toInt (by omega) (by omega)] at e2
  exact e2
theorem aw_l2i {a : Int} (hf : az_fetch cd pc = some (1, .l2i, [])) (h1 : -2147483648 ≤ a) (h2 : a < 2147483648) (hp : pc + 1 = p') (h : aw d cd rt P p' L (.int (iI a) :: st) σ) : aw d cd rt P pc L (.long (lI a) :: st) σ := by
  subst hp
  rw [← l2i_eq h1 h2] at h
  exact aw_nx hf (Nat.le_of_ble_eq_true rfl) ⟨_, st, rfl, rfl⟩ h
end AwLong
set_option maxRecDepth 10000 in
set_option maxHeartbeats 2000000 in
theorem m_bound {d : Nat} {σ : az_S} {v : Int} (h1 : -9223372036854775808 ≤ v) (h2 : v < 9223372036854775808) : fn (d + 1) 232 [.long (lI v)] σ (.long (lI (bd v))) := by
  refine fn_of (M := (yX12_bound, cX12_bound, 2, (some .long))) (cd := k_X12_bound) (L := [some (.long (lI v)), none]) rfl (Nat.le_of_ble_eq_true rfl) rfl rfl ?_
  refine aw_lload_n rfl rfl rfl ?_
  refine aw_ldc2 (1000000000) rfl rfl rfl ?_
  refine aw_lcif (p' := 14) rfl rfl (by omega) (by omega) (by omega) (by omega) rfl rfl (fun c1 => ?_) (fun c1 => ?_)
  · dsimp only [zc] at c1
    refine aw_lload_n rfl rfl rfl ?_
    refine aw_ldc2 (-1000000000) rfl rfl rfl ?_
    refine aw_lcif (p' := 28) rfl rfl (by omega) (by omega) (by omega) (by omega) rfl rfl (fun c2 => ?_) (fun c2 => ?_)
    · dsimp only [zc] at c2
      refine aw_lload_n rfl rfl rfl ?_
      refine aw_retl rfl ?_
      refine ⟨?_, rfl⟩
      unfold bd
      (repeat (first | rw [if_pos (by omega)] | rw [if_neg (by omega)]))
    · dsimp only [zc] at c2
      refine aw_ldc2 (-1000000000) rfl rfl rfl ?_
      refine aw_goto (p' := 29) rfl rfl ?_
      refine aw_retl rfl ?_
      refine ⟨?_, rfl⟩
      unfold bd
      (repeat (first | rw [if_pos (by omega)] | rw [if_neg (by omega)]))
  · dsimp only [zc] at c1
    refine aw_ldc2 (1000000000) rfl rfl rfl ?_
    refine aw_goto (p' := 29) rfl rfl ?_
    refine aw_retl rfl ?_
    refine ⟨?_, rfl⟩
    unfold bd
    (repeat (first | rw [if_pos (by omega)] | rw [if_neg (by omega)]))
set_option maxRecDepth 10000 in
set_option maxHeartbeats 2000000 in
theorem m_worked {d : Nat} {σ : az_S} {o a b : Int} (ho : inI o) (ha : -1000000000 ≤ a ∧ a ≤ 1000000000) (hb : -1000000000 ≤ b ∧ b ≤ 1000000000) : fn (d + 2) 233 [.int (iI o), .long (lI a), .long (lI b)] σ (.long (lI (vW o a b))) := by
  obtain ⟨ho1, ho2⟩ := ho
  have hm := mulb2 ha.1 ha.2 hb.1 hb.2
  refine fn_of (M := (yX12_worked, cX12_worked, 5, (some .long))) (cd := k_X12_worked) (L := [some (.int (iI o)), some (.long (lI a)), none, some (.long (lI b)), none]) rfl (Nat.le_of_ble_eq_true rfl) rfl rfl ?_
  refine aw_iload_n rfl rfl rfl ?_
  refine aw_lsb (p' := 211) (35) rfl rfl rfl ⟨by omega, by omega⟩ rfl (fun c1 => ?_) (fun c1 => ?_)
  · refine aw_lload_n rfl rfl rfl ?_
    refine aw_lload_n rfl rfl rfl ?_
    refine aw_lcif (p' := 221) rfl rfl (by omega) (by omega) (by omega) (by omega) rfl rfl (fun c2 => ?_) (fun c2 => ?_)
    · dsimp only [zc] at c2
      refine aw_lconst 0 rfl rfl rfl ?_
      refine aw_retl rfl ?_
      refine ⟨?_, rfl⟩
      unfold vW
      (repeat (first | rw [if_pos (by omega)] | rw [if_neg (by omega)]))
    · dsimp only [zc] at c2
      refine aw_lconst 1 rfl rfl rfl ?_
      refine aw_goto (p' := 222) rfl rfl ?_
      refine aw_retl rfl ?_
      refine ⟨?_, rfl⟩
      unfold vW
      (repeat (first | rw [if_pos (by omega)] | rw [if_neg (by omega)]))
  refine aw_lsb (p' := 130) (42) rfl rfl rfl ⟨by omega, by omega⟩ rfl (fun c3 => ?_) (fun c3 => ?_)
  · refine aw_lload_n rfl rfl rfl ?_
    refine aw_lload_n rfl rfl rfl ?_
    refine aw_lmul rfl rfl ?_
    refine aw_fnc (m_bound (by omega) (by omega)) rfl rfl rfl (Nat.le_of_ble_eq_true rfl) (Or.inl rfl) rfl ?_
    refine aw_retl rfl ?_
    refine ⟨?_, rfl⟩
    unfold vW
    (repeat (first | rw [if_pos (by omega)] | rw [if_neg (by omega)]))
  refine aw_lsb (p' := 116) (43) rfl rfl rfl ⟨by omega, by omega⟩ rfl (fun c4 => ?_) (fun c4 => ?_)
  · refine aw_lload_n rfl rfl rfl ?_
    refine aw_lload_n rfl rfl rfl ?_
    refine aw_ladd rfl rfl ?_
    refine aw_fnc (m_bound (by omega) (by omega)) rfl rfl rfl (Nat.le_of_ble_eq_true rfl) (Or.inl rfl) rfl ?_
    refine aw_retl rfl ?_
    refine ⟨?_, rfl⟩
    unfold vW
    (repeat (first | rw [if_pos (by omega)] | rw [if_neg (by omega)]))
  refine aw_lsb (p' := 123) (45) rfl rfl rfl ⟨by omega, by omega⟩ rfl (fun c5 => ?_) (fun c5 => ?_)
  · refine aw_lload_n rfl rfl rfl ?_
    refine aw_lload_n rfl rfl rfl ?_
    refine aw_lsub rfl rfl ?_
    refine aw_fnc (m_bound (by omega) (by omega)) rfl rfl rfl (Nat.le_of_ble_eq_true rfl) (Or.inl rfl) rfl ?_
    refine aw_retl rfl ?_
    refine ⟨?_, rfl⟩
    unfold vW
    (repeat (first | rw [if_pos (by omega)] | rw [if_neg (by omega)]))
  refine aw_lsb (p' := 137) (47) rfl rfl rfl ⟨by omega, by omega⟩ rfl (fun c6 => ?_) (fun c6 => ?_)
  · refine aw_lload_n rfl rfl rfl ?_
    refine aw_lconst 0 rfl rfl rfl ?_
    refine aw_lcif (p' := 147) rfl rfl (by omega) (by omega) (by omega) (by omega) rfl rfl (fun c7 => ?_) (fun c7 => ?_)
    · dsimp only [zc] at c7
      refine aw_lload_n rfl rfl rfl ?_
      refine aw_lload_n rfl rfl rfl ?_
      refine aw_ldiv rfl (by omega) (by omega) (by omega) (by omega) (by omega) rfl ?_
      refine aw_retl rfl ?_
      refine ⟨?_, rfl⟩
      unfold vW
      (repeat (first | rw [if_pos (by omega)] | rw [if_neg (by omega)]))
    · dsimp only [zc] at c7
      refine aw_lconst 0 rfl rfl rfl ?_
      refine aw_goto (p' := 150) rfl rfl ?_
      refine aw_retl rfl ?_
      refine ⟨?_, rfl⟩
      unfold vW
      (repeat (first | rw [if_pos (by omega)] | rw [if_neg (by omega)]))
  refine aw_lsb (p' := 175) (60) rfl rfl rfl ⟨by omega, by omega⟩ rfl (fun c8 => ?_) (fun c8 => ?_)
  · refine aw_lload_n rfl rfl rfl ?_
    refine aw_lload_n rfl rfl rfl ?_
    refine aw_lcif (p' := 185) rfl rfl (by omega) (by omega) (by omega) (by omega) rfl rfl (fun c9 => ?_) (fun c9 => ?_)
    · dsimp only [zc] at c9
      refine aw_lconst 0 rfl rfl rfl ?_
      refine aw_retl rfl ?_
      refine ⟨?_, rfl⟩
      unfold vW
      (repeat (first | rw [if_pos (by omega)] | rw [if_neg (by omega)]))
    · dsimp only [zc] at c9
      refine aw_lconst 1 rfl rfl rfl ?_
      refine aw_goto (p' := 186) rfl rfl ?_
      refine aw_retl rfl ?_
      refine ⟨?_, rfl⟩
      unfold vW
      (repeat (first | rw [if_pos (by omega)] | rw [if_neg (by omega)]))
  refine aw_lsb (p' := 199) (61) rfl rfl rfl ⟨by omega, by omega⟩ rfl (fun c10 => ?_) (fun c10 => ?_)
  · refine aw_lload_n rfl rfl rfl ?_
    refine aw_lload_n rfl rfl rfl ?_
    refine aw_lcif (p' := 209) rfl rfl (by omega) (by omega) (by omega) (by omega) rfl rfl (fun c11 => ?_) (fun c11 => ?_)
    · dsimp only [zc] at c11
      refine aw_lconst 0 rfl rfl rfl ?_
      refine aw_retl rfl ?_
      refine ⟨?_, rfl⟩
      unfold vW
      (repeat (first | rw [if_pos (by omega)] | rw [if_neg (by omega)]))
    · dsimp only [zc] at c11
      refine aw_lconst 1 rfl rfl rfl ?_
      refine aw_goto (p' := 210) rfl rfl ?_
      refine aw_retl rfl ?_
      refine ⟨?_, rfl⟩
      unfold vW
      (repeat (first | rw [if_pos (by omega)] | rw [if_neg (by omega)]))
  refine aw_lsb (p' := 187) (62) rfl rfl rfl ⟨by omega, by omega⟩ rfl (fun c12 => ?_) (fun c12 => ?_)
  · refine aw_lload_n rfl rfl rfl ?_
    refine aw_lload_n rfl rfl rfl ?_
    refine aw_lcif (p' := 197) rfl rfl (by omega) (by omega) (by omega) (by omega) rfl rfl (fun c13 => ?_) (fun c13 => ?_)
    · dsimp only [zc] at c13
      refine aw_lconst 0 rfl rfl rfl ?_
      refine aw_retl rfl ?_
      refine ⟨?_, rfl⟩
      unfold vW
      (repeat (first | rw [if_pos (by omega)] | rw [if_neg (by omega)]))
    · dsimp only [zc] at c13
      refine aw_lconst 1 rfl rfl rfl ?_
      refine aw_goto (p' := 198) rfl rfl ?_
      refine aw_retl rfl ?_
      refine ⟨?_, rfl⟩
      unfold vW
      (repeat (first | rw [if_pos (by omega)] | rw [if_neg (by omega)]))
  refine aw_lsb (p' := 223) (300) rfl rfl rfl ⟨by omega, by omega⟩ rfl (fun c14 => ?_) (fun c14 => ?_)
  · refine aw_lload_n rfl rfl rfl ?_
    refine aw_lload_n rfl rfl rfl ?_
    refine aw_lcif (p' := 233) rfl rfl (by omega) (by omega) (by omega) (by omega) rfl rfl (fun c15 => ?_) (fun c15 => ?_)
    · dsimp only [zc] at c15
      refine aw_lconst 0 rfl rfl rfl ?_
      refine aw_retl rfl ?_
      refine ⟨?_, rfl⟩
      unfold vW
      (repeat (first | rw [if_pos (by omega)] | rw [if_neg (by omega)]))
    · dsimp only [zc] at c15
      refine aw_lconst 1 rfl rfl rfl ?_
      refine aw_goto (p' := 234) rfl rfl ?_
      refine aw_retl rfl ?_
      refine ⟨?_, rfl⟩
      unfold vW
      (repeat (first | rw [if_pos (by omega)] | rw [if_neg (by omega)]))
  refine aw_lsb (p' := 235) (301) rfl rfl rfl ⟨by omega, by omega⟩ rfl (fun c16 => ?_) (fun c16 => ?_)
  · refine aw_lload_n rfl rfl rfl ?_
    refine aw_lload_n rfl rfl rfl ?_
    refine aw_lcif (p' := 245) rfl rfl (by omega) (by omega) (by omega) (by omega) rfl rfl (fun c17 => ?_) (fun c17 => ?_)
    · dsimp only [zc] at c17
      refine aw_lconst 0 rfl rfl rfl ?_
      refine aw_retl rfl ?_
      refine ⟨?_, rfl⟩
      unfold vW
      (repeat (first | rw [if_pos (by omega)] | rw [if_neg (by omega)]))
    · dsimp only [zc] at c17
      refine aw_lconst 1 rfl rfl rfl ?_
      refine aw_goto (p' := 246) rfl rfl ?_
      refine aw_retl rfl ?_
      refine ⟨?_, rfl⟩
      unfold vW
      (repeat (first | rw [if_pos (by omega)] | rw [if_neg (by omega)]))
  refine aw_lsb (p' := 151) (403) rfl rfl rfl ⟨by omega, by omega⟩ rfl (fun c18 => ?_) (fun c18 => ?_)
  · refine aw_lload_n rfl rfl rfl ?_
    refine aw_lload_n rfl rfl rfl ?_
    refine aw_lcif (p' := 161) rfl rfl (by omega) (by omega) (by omega) (by omega) rfl rfl (fun c19 => ?_) (fun c19 => ?_)
    · dsimp only [zc] at c19
      refine aw_lload_n rfl rfl rfl ?_
      refine aw_retl rfl ?_
      refine ⟨?_, rfl⟩
      unfold vW
      (repeat (first | rw [if_pos (by omega)] | rw [if_neg (by omega)]))
    · dsimp only [zc] at c19
      refine aw_lload_n rfl rfl rfl ?_
      refine aw_goto (p' := 162) rfl rfl ?_
      refine aw_retl rfl ?_
      refine ⟨?_, rfl⟩
      unfold vW
      (repeat (first | rw [if_pos (by omega)] | rw [if_neg (by omega)]))
  refine aw_lsb (p' := 163) (404) rfl rfl rfl ⟨by omega, by omega⟩ rfl (fun c20 => ?_) (fun c20 => ?_)
  · refine aw_lload_n rfl rfl rfl ?_
    refine aw_lload_n rfl rfl rfl ?_
    refine aw_lcif (p' := 173) rfl rfl (by omega) (by omega) (by omega) (by omega) rfl rfl (fun c21 => ?_) (fun c21 => ?_)
    · dsimp only [zc] at c21
      refine aw_lload_n rfl rfl rfl ?_
      refine aw_retl rfl ?_
      refine ⟨?_, rfl⟩
      unfold vW
      (repeat (first | rw [if_pos (by omega)] | rw [if_neg (by omega)]))
    · dsimp only [zc] at c21
      refine aw_lload_n rfl rfl rfl ?_
      refine aw_goto (p' := 174) rfl rfl ?_
      refine aw_retl rfl ?_
      refine ⟨?_, rfl⟩
      unfold vW
      (repeat (first | rw [if_pos (by omega)] | rw [if_neg (by omega)]))
  refine aw_lsb (p' := 247) (406) rfl rfl rfl ⟨by omega, by omega⟩ rfl (fun c22 => ?_) (fun c22 => ?_)
  · refine aw_lload_n rfl rfl rfl ?_
    refine aw_lload_n rfl rfl rfl ?_
    refine aw_lmul rfl rfl ?_
    refine aw_retl rfl ?_
    refine ⟨?_, rfl⟩
    unfold vW
    (repeat (first | rw [if_pos (by omega)] | rw [if_neg (by omega)]))
  refine aw_lsd (p' := 251) rfl rfl (by simp only [Op.lookupswitch.offset]; (repeat rw [if_neg (by omega)])) ⟨by omega, by omega⟩ rfl ?_
  refine aw_lload_n rfl rfl rfl ?_
  refine aw_lload_n rfl rfl rfl ?_
  refine aw_ladd rfl rfl ?_
  refine aw_lconst 0 rfl rfl rfl ?_
  refine aw_lcif (p' := 263) rfl rfl (by omega) (by omega) (by omega) (by omega) rfl rfl (fun c23 => ?_) (fun c23 => ?_)
  · dsimp only [zc] at c23
    refine aw_lconst 0 rfl rfl rfl ?_
    refine aw_retl rfl ?_
    refine ⟨?_, rfl⟩
    unfold vW
    (repeat (first | rw [if_pos (by omega)] | rw [if_neg (by omega)]))
  · dsimp only [zc] at c23
    refine aw_lconst 1 rfl rfl rfl ?_
    refine aw_goto (p' := 264) rfl rfl ?_
    refine aw_retl rfl ?_
    refine ⟨?_, rfl⟩
    unfold vW
    (repeat (first | rw [if_pos (by omega)] | rw [if_neg (by omega)]))
set_option maxRecDepth 10000 in
set_option maxHeartbeats 2000000 in
theorem m_given_l6 {d : Nat} {sz : Nat} {A : Nat → Int → Int} {σ : az_S} (hM : MV sz A σ) {R : tRules} {nm : Int → Int} (hR : PW R) (hA : mTar A R) (hnk : nmOk nm) (hnm : ∀ i : Int, 0 ≤ i → i ≤ 7 → zx σ 83 i = nm i ∧ -1000000 ≤ nm i ∧ nm i ≤ 1000000) : ∀ (n : Nat) (τ : az_S) (k hh sk : Int) (w : Option Value) (r : List (Int × Int)) (t : List Bool) (s : List Int), (A 42 54 - k).toNat = n → MV sz A τ → Mod σ τ [82] → 0 ≤ k → k + r.length = A 42 54 → mCode A k r → tyG r t → t.length ≤ 64 → ((sk = 0 ∧ okV t s ∧ Pl (zq τ 82) s ∧ hh = s.length ∧ gvF nm r false s = gvR nm R) ∨ (sk = 1 ∧ hh = 0 ∧ gvF nm r true [] = gvR nm R)) → aw (d + 2) k_X12_given (some .long) (fun r τ => r = some (.long (lI (gvR nm R))) ∧ MV sz A τ ∧ Mod σ τ [82]) 6 [some (.ref 42), some (.int (iI hh)), some (.int (iI sk)), some (.int (iI k)), w] [] τ := by
  intro n
  induction n using Nat.strongRecOn with
  | ind n ih =>
    intro τ k hh sk w r t s hn hN hD hk0 hkr hmc hty htl hst
    obtain ⟨hR1, hR2, hR3⟩ := hR
    obtain ⟨hA1, hA2, hA3⟩ := hA
    have hfl := flat_len R
    have hskr : sk = 0 ∨ sk = 1 := by rcases hst with h | h <;> omega
    refine aw_iload_n rfl rfl rfl ?_
    refine aw_aload_n rfl rfl rfl ?_
    refine aw_gp (54) hN rfl rfl (hN.f.k 42 rfl) rfl rfl (fun _ _ => ?_)
    refine aw_icmp (p' := 245) rfl ⟨by omega, by omega⟩ ⟨by omega, by omega⟩ rfl rfl (fun c1 => ?_) (fun c1 => ?_)
    · dsimp only [zc] at c1
      refine aw_lconst 0 rfl rfl rfl ?_
      refine aw_retl rfl ?_
      refine ⟨?_, hN, (hD.su (T := [82]) rfl)⟩
      have hr0 : r = [] := by cases r with | nil => rfl | cons a b => simp at hkr; omega
      subst hr0
      rcases hst with ⟨-, -, -, -, h⟩ | ⟨-, -, h⟩ <;> (rw [← h]; rfl)
    · dsimp only [zc] at c1
      have hrn : r ≠ [] := by rintro rfl; simp at hkr; omega
      obtain ⟨q, r', rfl⟩ := List.exists_cons_of_ne_nil hrn
      have hqr := tyG_r hty
      simp only [List.length_cons] at hkr
      have hmc' := hmc
      obtain ⟨hm1, hm2, hm3⟩ := hmc
      refine aw_aload_n rfl rfl rfl ?_
      refine aw_getr (b := 77) rfl rfl (hN.f.k 42 rfl) (hN.f.r 42 56 77 rfl) rfl ?_
      refine aw_iload_n rfl rfl rfl ?_
      refine aw_ap (N := 900) hN rfl (hN.f.s 77 rfl) (by omega) rfl (by omega) (by omega) rfl (fun _ _ => ?_)
      rw [hm1]
      refine aw_istore rfl (Nat.le_of_ble_eq_true rfl) rfl rfl ?_
      change aw _ _ _ _ 22 [some (.ref 42), some (.int (iI _)), some (.int (iI _)), some (.int (iI _)), some (.int (iI _))] _ _
      skip
      refine aw_iload_n rfl rfl rfl ?_
      refine aw_if (p' := 45) rfl ⟨by omega, by omega⟩ rfl rfl (fun c2 => ?_) (fun c2 => ?_)
      · dsimp only [zc] at c2
        refine aw_iload rfl rfl rfl ?_
        refine aw_sipush rfl rfl rfl ?_
        refine aw_icmp (p' := 72) rfl ⟨by omega, by omega⟩ ⟨by omega, by omega⟩ rfl rfl (fun c3 => ?_) (fun c3 => ?_)
        · dsimp only [zc] at c3
          refine aw_iload rfl rfl rfl ?_
          refine aw_sipush rfl rfl rfl ?_
          refine aw_icmp (p' := 104) rfl ⟨by omega, by omega⟩ ⟨by omega, by omega⟩ rfl rfl (fun c4 => ?_) (fun c4 => ?_)
          · dsimp only [zc] at c4
            refine aw_iload rfl rfl rfl ?_
            refine aw_sipush rfl rfl rfl ?_
            refine aw_icmp (p' := 132) rfl ⟨by omega, by omega⟩ ⟨by omega, by omega⟩ rfl rfl (fun c5 => ?_) (fun c5 => ?_)
            · dsimp only [zc] at c5
              refine aw_iload rfl rfl rfl ?_
              refine aw_sipush rfl rfl rfl ?_
              refine aw_icmp (p' := 161) rfl ⟨by omega, by omega⟩ ⟨by omega, by omega⟩ rfl rfl (fun c6 => ?_) (fun c6 => ?_)
              · dsimp only [zc] at c6
                refine aw_iload rfl rfl rfl ?_
                refine aw_sipush rfl rfl rfl ?_
                refine aw_icmp (p' := 192) rfl ⟨by omega, by omega⟩ ⟨by omega, by omega⟩ rfl rfl (fun c7 => ?_) (fun c7 => ?_)
                · dsimp only [zc] at c7
                  refine aw_iload rfl rfl rfl ?_
                  refine aw_sipush rfl rfl rfl ?_
                  refine aw_icmp (p' := 209) rfl ⟨by omega, by omega⟩ ⟨by omega, by omega⟩ rfl rfl (fun c8 => ?_) (fun c8 => ?_)
                  · dsimp only [zc] at c8
                    have hs := hst.resolve_right (by omega)
                    obtain ⟨-, hov, hpl0, hhl, hG1⟩ := hs
                    obtain ⟨t1, hp, hg⟩ := tyG_op hty (by omega) (by omega)
                    have htl2 := okV_len hov
                    have hp2 : ∃ b1 b2 u, t = b1 :: b2 :: u := by rcases hp with ⟨h0, -⟩ | ⟨h0, -⟩ | ⟨h0, -⟩ | ⟨h0, -⟩ | ⟨h0, u, h1, -⟩ | ⟨h0, u, h1, -⟩ | ⟨h0, u, h1, -⟩ <;> (try exact ⟨_, _, u, h1⟩) <;> omega
                    obtain ⟨b1, b2, u, hu⟩ := hp2
                    rw [hu] at hov
                    obtain ⟨v, s1, hs1, hv1, hv2⟩ := okV_c hov
                    obtain ⟨v2, s2, hs2, hv3, hv4⟩ := okV_c hv2
                    rw [← hu] at hov
                    subst hs1
                    subst hs2
                    obtain ⟨hpv, hpv2, hpl⟩ := hpl0
                    simp only [List.length_cons] at hhl htl2 hpv
                    have hvs : vS nm q (v :: v2 :: s2) = vW q.1 v2 v :: s2 := vS_bin (by omega) (by omega) (by omega) (by omega)
                    have hvb := okV_step hnk hp hov
                    rw [hvs] at hvb
                    have hvb2 := okV_h hvb
                    refine aw_iinc rfl rfl rfl rfl ?_
                    change aw _ _ _ _ 212 [some (.ref 42), some (.int (iI _)), some (.int (iI _)), some (.int (iI _)), some (.int (iI _))] _ _
                    refine aw_aload_n rfl rfl rfl ?_
                    refine aw_getr (b := 82) rfl rfl (hN.f.k 42 rfl) (hN.f.r 42 64 82 rfl) rfl ?_
                    refine aw_iload_n rfl rfl rfl ?_
                    refine aw_iconst rfl rfl ?_
                    refine aw_isub rfl rfl ?_
                    refine aw_iload rfl rfl rfl ?_
                    refine aw_aload_n rfl rfl rfl ?_
                    refine aw_getr (b := 82) rfl rfl (hN.f.k 42 rfl) (hN.f.r 42 64 82 rfl) rfl ?_
                    refine aw_iload_n rfl rfl rfl ?_
                    refine aw_iconst rfl rfl ?_
                    refine aw_isub rfl rfl ?_
                    refine aw_lz (N := 300) rfl (hN.f.s 82 rfl) (by omega) (by omega) (by omega) rfl (fun _ _ => ?_)
                    rw [show hh + (-1) - 1 = ((s2.length : Nat) : Int) by omega, hpv2]
                    refine aw_aload_n rfl rfl rfl ?_
                    refine aw_getr (b := 82) rfl rfl (hN.f.k 42 rfl) (hN.f.r 42 64 82 rfl) rfl ?_
                    refine aw_iload_n rfl rfl rfl ?_
                    refine aw_lz (N := 300) rfl (hN.f.s 82 rfl) (by omega) (by omega) (by omega) rfl (fun _ _ => ?_)
                    rw [show hh + (-1) = ((s2.length + 1 : Nat) : Int) by omega, hpv]
                    refine aw_fnc (m_worked ⟨by omega, by omega⟩ (by omega) (by omega)) rfl rfl rfl (Nat.le_of_ble_eq_true rfl) (Or.inl rfl) rfl ?_
                    refine aw_sl (N := 300) hN rfl (hN.f.s 82 rfl) (by omega) rfl (by omega) (by omega) (by omega) (by omega) rfl (fun τ9 hM9 hD9 hU9 => ?_)
                    refine aw_iinc rfl rfl rfl rfl ?_
                    change aw _ _ _ _ 242 [some (.ref 42), some (.int (iI _)), some (.int (iI _)), some (.int (iI _)), some (.int (iI _))] _ _
                    refine aw_goto (p' := 6) rfl rfl ?_
                    refine ih _ (by omega) _ _ _ _ _ r' t1 (vS nm q (v :: v2 :: s2)) rfl hM9 ((hD.su (T := [82]) rfl).tr (hD9.su (T := [82]) rfl)) (by omega) (by omega) hm3 hg (tyP_len hp htl) (Or.inl ⟨by omega, okV_step hnk hp hov, ?_, ?_, ?_⟩)
                    · rw [hvs]
                      exact ⟨by rw [hU9, if_pos (by omega)], hpl.up (fun w a b => by rw [hU9, if_neg (by omega)])⟩
                    · rw [hvs]; simp only [List.length_cons]; try omega
                    · rw [← hG1, gvF_op (by omega) (by omega)]
                  · dsimp only [zc] at c8
                    have hs := hst.resolve_right (by omega)
                    obtain ⟨-, hov, hpl0, hhl, hG1⟩ := hs
                    have hg := tyG_9 hty (by omega)
                    rw [hg.1] at hov
                    obtain ⟨v, s2, hs2, hv1, hv2⟩ := okV_c hov
                    have hs3 : s2 = [] := by cases s2 with | nil => rfl | cons a b => exact hv2.elim
                    subst hs3
                    subst hs2
                    obtain ⟨hpv, -⟩ := hpl0
                    simp only [List.length_cons, List.length_nil] at hhl hpv
                    refine aw_aload_n rfl rfl rfl ?_
                    refine aw_getr (b := 82) rfl rfl (hN.f.k 42 rfl) (hN.f.r 42 64 82 rfl) rfl ?_
                    refine aw_iload_n rfl rfl rfl ?_
                    refine aw_iconst rfl rfl ?_
                    refine aw_isub rfl rfl ?_
                    refine aw_lz (N := 300) rfl (hN.f.s 82 rfl) (by omega) (by omega) (by omega) rfl (fun _ _ => ?_)
                    rw [show hh - 1 = ((0 : Nat) : Int) by omega, hpv]
                    refine aw_retl rfl ?_
                    refine ⟨?_, hN, (hD.su (T := [82]) rfl)⟩
                    rw [← hG1, gvF_9 (by omega)]
                    rfl
                · dsimp only [zc] at c7
                  have hs := hst.resolve_right (by omega)
                  obtain ⟨-, hov, hpl0, hhl, hG1⟩ := hs
                  have hg := tyG_8 hty (by omega)
                  rw [hg.1] at hov
                  obtain ⟨v, s2, hs2, hv1, hv2⟩ := okV_c hov
                  have hs3 : s2 = [] := by cases s2 with | nil => rfl | cons a b => exact hv2.elim
                  subst hs3
                  subst hs2
                  obtain ⟨hpv, -⟩ := hpl0
                  simp only [List.length_cons, List.length_nil] at hhl hpv
                  refine aw_iinc rfl rfl rfl rfl ?_
                  change aw _ _ _ _ 172 [some (.ref 42), some (.int (iI _)), some (.int (iI _)), some (.int (iI _)), some (.int (iI _))] _ _
                  refine aw_aload_n rfl rfl rfl ?_
                  refine aw_getr (b := 82) rfl rfl (hN.f.k 42 rfl) (hN.f.r 42 64 82 rfl) rfl ?_
                  refine aw_iload_n rfl rfl rfl ?_
                  refine aw_lz (N := 300) rfl (hN.f.s 82 rfl) (by omega) (by omega) (by omega) rfl (fun _ _ => ?_)
                  rw [show hh + (-1) = ((0 : Nat) : Int) by omega, hpv]
                  refine aw_lconst 0 rfl rfl rfl ?_
                  refine aw_lcif (p' := 187) rfl rfl (by omega) (by omega) (by omega) (by omega) rfl rfl (fun c10 => ?_) (fun c10 => ?_)
                  · dsimp only [zc] at c10
                    skip
                    refine aw_iconst rfl rfl ?_
                    refine aw_istore_n rfl (Nat.le_of_ble_eq_true rfl) rfl rfl ?_
                    change aw _ _ _ _ 189 [some (.ref 42), some (.int (iI _)), some (.int (iI _)), some (.int (iI _)), some (.int (iI _))] _ _
                    refine aw_goto (p' := 239) rfl rfl ?_
                    refine aw_iinc rfl rfl rfl rfl ?_
                    change aw _ _ _ _ 242 [some (.ref 42), some (.int (iI _)), some (.int (iI _)), some (.int (iI _)), some (.int (iI _))] _ _
                    refine aw_goto (p' := 6) rfl rfl ?_
                    refine ih _ (by omega) _ _ _ _ _ r' [] [] rfl hN (hD.su (T := [82]) rfl) (by omega) (by omega) hm3 hg.2 (by simp) (Or.inl ⟨rfl, trivial, trivial, by (try rw [List.length_nil]); (try simp); (try omega), ?_⟩)
                    rw [← hG1, gvF_8 (by omega)]
                    show _ = gvF nm r' (decide (v = 0)) []
                    rw [show decide (v = 0) = false from decide_eq_false (by omega)]
                  · dsimp only [zc] at c10
                    skip
                    refine aw_iconst rfl rfl ?_
                    refine aw_goto (p' := 188) rfl rfl ?_
                    refine aw_istore_n rfl (Nat.le_of_ble_eq_true rfl) rfl rfl ?_
                    change aw _ _ _ _ 189 [some (.ref 42), some (.int (iI _)), some (.int (iI _)), some (.int (iI _)), some (.int (iI _))] _ _
                    refine aw_goto (p' := 239) rfl rfl ?_
                    refine aw_iinc rfl rfl rfl rfl ?_
                    change aw _ _ _ _ 242 [some (.ref 42), some (.int (iI _)), some (.int (iI _)), some (.int (iI _)), some (.int (iI _))] _ _
                    refine aw_goto (p' := 6) rfl rfl ?_
                    refine ih _ (by omega) _ _ _ _ _ r' [] [] rfl hN (hD.su (T := [82]) rfl) (by omega) (by omega) hm3 hg.2 (by simp) (Or.inr ⟨rfl, by omega, ?_⟩)
                    rw [← hG1, gvF_8 (by omega)]
                    show _ = gvF nm r' (decide (v = 0)) []
                    rw [show decide (v = 0) = true from decide_eq_true (by omega)]
              · dsimp only [zc] at c6
                have hs := hst.resolve_right (by omega)
                obtain ⟨-, hov, hpl0, hhl, hG1⟩ := hs
                obtain ⟨t1, hp, hg⟩ := tyG_op hty (by omega) (by omega)
                have htl2 := okV_len hov
                have hp2 : ∃ u, t = true :: u := by rcases hp with ⟨h0, -⟩ | ⟨h0, -⟩ | ⟨h0, -⟩ | ⟨h0, u, h1, -⟩ | ⟨h0, -⟩ | ⟨h0, -⟩ | ⟨h0, -⟩ <;> (try exact ⟨u, h1⟩) <;> (try unfold opB at h0) <;> (try unfold opC at h0) <;> (try unfold opN at h0) <;> omega
                obtain ⟨u, hu⟩ := hp2
                rw [hu] at hov
                obtain ⟨v, s2, hs2, hv1, hv2⟩ := okV_c hov
                rw [← hu] at hov
                subst hs2
                obtain ⟨hpv, hpl⟩ := hpl0
                simp only [List.length_cons] at hhl htl2
                have hvs : vS nm q (v :: s2) = (1 - v) :: s2 := by unfold vS; rw [if_neg (by omega), if_neg (by omega), if_neg (by omega), if_pos (by omega)]
                refine aw_aload_n rfl rfl rfl ?_
                refine aw_getr (b := 82) rfl rfl (hN.f.k 42 rfl) (hN.f.r 42 64 82 rfl) rfl ?_
                refine aw_iload_n rfl rfl rfl ?_
                refine aw_iconst rfl rfl ?_
                refine aw_isub rfl rfl ?_
                refine aw_lconst 1 rfl rfl rfl ?_
                refine aw_aload_n rfl rfl rfl ?_
                refine aw_getr (b := 82) rfl rfl (hN.f.k 42 rfl) (hN.f.r 42 64 82 rfl) rfl ?_
                refine aw_iload_n rfl rfl rfl ?_
                refine aw_iconst rfl rfl ?_
                refine aw_isub rfl rfl ?_
                refine aw_lz (N := 300) rfl (hN.f.s 82 rfl) (by omega) (by omega) (by omega) rfl (fun _ _ => ?_)
                rw [show hh - 1 = ((s2.length : Nat) : Int) by omega, hpv]
                refine aw_lsub rfl rfl ?_
                refine aw_sl (N := 300) hN rfl (hN.f.s 82 rfl) (by omega) rfl (by omega) (by omega) (by omega) (by omega) rfl (fun τ11 hM11 hD11 hU11 => ?_)
                refine aw_goto (p' := 239) rfl rfl ?_
                refine aw_iinc rfl rfl rfl rfl ?_
                change aw _ _ _ _ 242 [some (.ref 42), some (.int (iI _)), some (.int (iI _)), some (.int (iI _)), some (.int (iI _))] _ _
                refine aw_goto (p' := 6) rfl rfl ?_
                refine ih _ (by omega) _ _ _ _ _ r' t1 (vS nm q (v :: s2)) rfl hM11 ((hD.su (T := [82]) rfl).tr (hD11.su (T := [82]) rfl)) (by omega) (by omega) hm3 hg (tyP_len hp htl) (Or.inl ⟨by omega, okV_step hnk hp hov, ?_, ?_, ?_⟩)
                · rw [hvs]
                  exact ⟨by rw [hU11, if_pos (by omega)], hpl.up (fun w a b => by rw [hU11, if_neg (by omega)])⟩
                · rw [hvs]; simp only [List.length_cons]; try omega
                · rw [← hG1, gvF_op (by omega) (by omega)]
            · dsimp only [zc] at c5
              have hs := hst.resolve_right (by omega)
              obtain ⟨-, hov, hpl0, hhl, hG1⟩ := hs
              obtain ⟨t1, hp, hg⟩ := tyG_op hty (by omega) (by omega)
              have htl2 := okV_len hov
              have hp2 : ∃ u, t = false :: u := by rcases hp with ⟨h0, -⟩ | ⟨h0, -⟩ | ⟨h0, u, h1, -⟩ | ⟨h0, -⟩ | ⟨h0, -⟩ | ⟨h0, -⟩ | ⟨h0, -⟩ <;> (try exact ⟨u, h1⟩) <;> (try unfold opB at h0) <;> (try unfold opC at h0) <;> (try unfold opN at h0) <;> omega
              obtain ⟨u, hu⟩ := hp2
              rw [hu] at hov
              obtain ⟨v, s2, hs2, hv1, hv2⟩ := okV_c hov
              rw [← hu] at hov
              subst hs2
              obtain ⟨hpv, hpl⟩ := hpl0
              simp only [List.length_cons] at hhl htl2
              have hvs : vS nm q (v :: s2) = (-v) :: s2 := by unfold vS; rw [if_neg (by omega), if_neg (by omega), if_pos (by omega)]
              refine aw_aload_n rfl rfl rfl ?_
              refine aw_getr (b := 82) rfl rfl (hN.f.k 42 rfl) (hN.f.r 42 64 82 rfl) rfl ?_
              refine aw_iload_n rfl rfl rfl ?_
              refine aw_iconst rfl rfl ?_
              refine aw_isub rfl rfl ?_
              refine aw_aload_n rfl rfl rfl ?_
              refine aw_getr (b := 82) rfl rfl (hN.f.k 42 rfl) (hN.f.r 42 64 82 rfl) rfl ?_
              refine aw_iload_n rfl rfl rfl ?_
              refine aw_iconst rfl rfl ?_
              refine aw_isub rfl rfl ?_
              refine aw_lz (N := 300) rfl (hN.f.s 82 rfl) (by omega) (by omega) (by omega) rfl (fun _ _ => ?_)
              rw [show hh - 1 = ((s2.length : Nat) : Int) by omega, hpv]
              refine aw_lneg rfl rfl ?_
              refine aw_sl (N := 300) hN rfl (hN.f.s 82 rfl) (by omega) rfl (by omega) (by omega) (by omega) (by omega) rfl (fun τ12 hM12 hD12 hU12 => ?_)
              refine aw_goto (p' := 239) rfl rfl ?_
              refine aw_iinc rfl rfl rfl rfl ?_
              change aw _ _ _ _ 242 [some (.ref 42), some (.int (iI _)), some (.int (iI _)), some (.int (iI _)), some (.int (iI _))] _ _
              refine aw_goto (p' := 6) rfl rfl ?_
              refine ih _ (by omega) _ _ _ _ _ r' t1 (vS nm q (v :: s2)) rfl hM12 ((hD.su (T := [82]) rfl).tr (hD12.su (T := [82]) rfl)) (by omega) (by omega) hm3 hg (tyP_len hp htl) (Or.inl ⟨by omega, okV_step hnk hp hov, ?_, ?_, ?_⟩)
              · rw [hvs]
                exact ⟨by rw [hU12, if_pos (by omega)], hpl.up (fun w a b => by rw [hU12, if_neg (by omega)])⟩
              · rw [hvs]; simp only [List.length_cons]; try omega
              · rw [← hG1, gvF_op (by omega) (by omega)]
          · dsimp only [zc] at c4
            have hs := hst.resolve_right (by omega)
            obtain ⟨-, hov, hpl0, hhl, hG1⟩ := hs
            obtain ⟨t1, hp, hg⟩ := tyG_op hty (by omega) (by omega)
            have htl2 := okV_len hov
            have hpl := hpl0
            have hvs : vS nm q s = nm q.2 :: s := by unfold vS; rw [if_neg (by omega), if_pos (by omega)]
            have hp2 : 0 ≤ q.2 ∧ q.2 ≤ 7 ∧ t.length < 64 := by rcases hp with ⟨h0, -⟩ | ⟨h0, h1, h2, -⟩ | ⟨h0, -⟩ | ⟨h0, -⟩ | ⟨h0, -⟩ | ⟨h0, -⟩ | ⟨h0, -⟩ <;> (try unfold opB at h0) <;> (try unfold opC at h0) <;> (try unfold opN at h0) <;> omega
            have hnq := hnm q.2 hp2.1 hp2.2.1
            refine aw_aload_n rfl rfl rfl ?_
            refine aw_getr (b := 82) rfl rfl (hN.f.k 42 rfl) (hN.f.r 42 64 82 rfl) rfl ?_
            refine aw_iload_n rfl rfl rfl ?_
            refine aw_aload_n rfl rfl rfl ?_
            refine aw_getr (b := 83) rfl rfl (hN.f.k 42 rfl) (hN.f.r 42 65 83 rfl) rfl ?_
            refine aw_aload_n rfl rfl rfl ?_
            refine aw_getr (b := 78) rfl rfl (hN.f.k 42 rfl) (hN.f.r 42 57 78 rfl) rfl ?_
            refine aw_iload_n rfl rfl rfl ?_
            refine aw_ap (N := 900) hN rfl (hN.f.s 78 rfl) (by omega) rfl (by omega) (by omega) rfl (fun _ _ => ?_)
            rw [hm2]
            refine aw_as (N := 8) rfl (hN.f.s 83 rfl) (by omega) (by omega) (by omega) rfl (fun _ _ => ?_)
            rw [hD.z 83 rfl, hnq.1]
            refine aw_i2l rfl ⟨by omega, by omega⟩ rfl ?_
            refine aw_sl (N := 300) hN rfl (hN.f.s 82 rfl) (by omega) rfl (by omega) (by omega) (by omega) (by omega) rfl (fun τ13 hM13 hD13 hU13 => ?_)
            refine aw_iinc rfl rfl rfl rfl ?_
            change aw _ _ _ _ 101 [some (.ref 42), some (.int (iI _)), some (.int (iI _)), some (.int (iI _)), some (.int (iI _))] _ _
            refine aw_goto (p' := 239) rfl rfl ?_
            refine aw_iinc rfl rfl rfl rfl ?_
            change aw _ _ _ _ 242 [some (.ref 42), some (.int (iI _)), some (.int (iI _)), some (.int (iI _)), some (.int (iI _))] _ _
            refine aw_goto (p' := 6) rfl rfl ?_
            refine ih _ (by omega) _ _ _ _ _ r' t1 (vS nm q s) rfl hM13 ((hD.su (T := [82]) rfl).tr (hD13.su (T := [82]) rfl)) (by omega) (by omega) hm3 hg (tyP_len hp htl) (Or.inl ⟨by omega, okV_step hnk hp hov, ?_, ?_, ?_⟩)
            · rw [hvs]
              exact ⟨by rw [hU13, if_pos (by omega)], hpl.up (fun w a b => by rw [hU13, if_neg (by omega)])⟩
            · rw [hvs]; simp only [List.length_cons]; try omega
            · rw [← hG1, gvF_op (by omega) (by omega)]
        · dsimp only [zc] at c3
          have hs := hst.resolve_right (by omega)
          obtain ⟨-, hov, hpl0, hhl, hG1⟩ := hs
          obtain ⟨t1, hp, hg⟩ := tyG_op hty (by omega) (by omega)
          have htl2 := okV_len hov
          have hpl := hpl0
          have hvs : vS nm q s = q.2 :: s := by unfold vS; rw [if_pos (by omega)]
          have hp2 : 0 ≤ q.2 ∧ q.2 ≤ 100000 ∧ t.length < 64 := by rcases hp with ⟨h0, h1, h2, -⟩ | ⟨h0, -⟩ | ⟨h0, -⟩ | ⟨h0, -⟩ | ⟨h0, -⟩ | ⟨h0, -⟩ | ⟨h0, -⟩ <;> (try unfold opB at h0) <;> (try unfold opC at h0) <;> (try unfold opN at h0) <;> omega
          refine aw_aload_n rfl rfl rfl ?_
          refine aw_getr (b := 82) rfl rfl (hN.f.k 42 rfl) (hN.f.r 42 64 82 rfl) rfl ?_
          refine aw_iload_n rfl rfl rfl ?_
          refine aw_aload_n rfl rfl rfl ?_
          refine aw_getr (b := 78) rfl rfl (hN.f.k 42 rfl) (hN.f.r 42 57 78 rfl) rfl ?_
          refine aw_iload_n rfl rfl rfl ?_
          refine aw_ap (N := 900) hN rfl (hN.f.s 78 rfl) (by omega) rfl (by omega) (by omega) rfl (fun _ _ => ?_)
          rw [hm2]
          refine aw_i2l rfl ⟨by omega, by omega⟩ rfl ?_
          refine aw_sl (N := 300) hN rfl (hN.f.s 82 rfl) (by omega) rfl (by omega) (by omega) (by omega) (by omega) rfl (fun τ14 hM14 hD14 hU14 => ?_)
          refine aw_iinc rfl rfl rfl rfl ?_
          change aw _ _ _ _ 69 [some (.ref 42), some (.int (iI _)), some (.int (iI _)), some (.int (iI _)), some (.int (iI _))] _ _
          refine aw_goto (p' := 239) rfl rfl ?_
          refine aw_iinc rfl rfl rfl rfl ?_
          change aw _ _ _ _ 242 [some (.ref 42), some (.int (iI _)), some (.int (iI _)), some (.int (iI _)), some (.int (iI _))] _ _
          refine aw_goto (p' := 6) rfl rfl ?_
          refine ih _ (by omega) _ _ _ _ _ r' t1 (vS nm q s) rfl hM14 ((hD.su (T := [82]) rfl).tr (hD14.su (T := [82]) rfl)) (by omega) (by omega) hm3 hg (tyP_len hp htl) (Or.inl ⟨by omega, okV_step hnk hp hov, ?_, ?_, ?_⟩)
          · rw [hvs]
            exact ⟨by rw [hU14, if_pos (by omega)], hpl.up (fun w a b => by rw [hU14, if_neg (by omega)])⟩
          · rw [hvs]; simp only [List.length_cons]; try omega
          · rw [← hG1, gvF_op (by omega) (by omega)]
      · dsimp only [zc] at c2
        have hG2 : gvF nm (q :: r') true [] = gvR nm R := by rcases hst with h | h; omega; exact h.2.2
        refine aw_iload rfl rfl rfl ?_
        refine aw_sipush rfl rfl rfl ?_
        refine aw_icmp (p' := 38) rfl ⟨by omega, by omega⟩ ⟨by omega, by omega⟩ rfl rfl (fun c15 => ?_) (fun c15 => ?_)
        · dsimp only [zc] at c15
          skip
          refine aw_iconst rfl rfl ?_
          refine aw_istore_n rfl (Nat.le_of_ble_eq_true rfl) rfl rfl ?_
          change aw _ _ _ _ 40 [some (.ref 42), some (.int (iI _)), some (.int (iI _)), some (.int (iI _)), some (.int (iI _))] _ _
          refine aw_iconst rfl rfl ?_
          refine aw_istore_n rfl (Nat.le_of_ble_eq_true rfl) rfl rfl ?_
          change aw _ _ _ _ 42 [some (.ref 42), some (.int (iI _)), some (.int (iI _)), some (.int (iI _)), some (.int (iI _))] _ _
          refine aw_goto (p' := 239) rfl rfl ?_
          refine aw_iinc rfl rfl rfl rfl ?_
          change aw _ _ _ _ 242 [some (.ref 42), some (.int (iI _)), some (.int (iI _)), some (.int (iI _)), some (.int (iI _))] _ _
          refine aw_goto (p' := 6) rfl rfl ?_
          have hg := tyG_9 hty (by omega)
          refine ih _ (by omega) _ _ _ _ _ r' [] [] rfl hN (hD.su (T := [82]) rfl) (by omega) (by omega) hm3 hg.2 (by simp) (Or.inl ⟨rfl, trivial, trivial, rfl, ?_⟩)
          rw [← hG2, gvF_sk, show decide (q.1 ≠ 409) = false from decide_eq_false (by omega)]
        · dsimp only [zc] at c15
          skip
          refine aw_iconst rfl rfl ?_
          refine aw_goto (p' := 39) rfl rfl ?_
          refine aw_istore_n rfl (Nat.le_of_ble_eq_true rfl) rfl rfl ?_
          change aw _ _ _ _ 40 [some (.ref 42), some (.int (iI _)), some (.int (iI _)), some (.int (iI _)), some (.int (iI _))] _ _
          refine aw_iconst rfl rfl ?_
          refine aw_istore_n rfl (Nat.le_of_ble_eq_true rfl) rfl rfl ?_
          change aw _ _ _ _ 42 [some (.ref 42), some (.int (iI _)), some (.int (iI _)), some (.int (iI _)), some (.int (iI _))] _ _
          refine aw_goto (p' := 239) rfl rfl ?_
          refine aw_iinc rfl rfl rfl rfl ?_
          change aw _ _ _ _ 242 [some (.ref 42), some (.int (iI _)), some (.int (iI _)), some (.int (iI _)), some (.int (iI _))] _ _
          refine aw_goto (p' := 6) rfl rfl ?_
          obtain ⟨t1, hg, hl1⟩ := tyG_any hty htl
          refine ih _ (by omega) _ _ _ _ _ r' t1 [] rfl hN (hD.su (T := [82]) rfl) (by omega) (by omega) hm3 hg hl1 (Or.inr ⟨rfl, rfl, ?_⟩)
          rw [← hG2, gvF_sk, show decide (q.1 ≠ 409) = true from decide_eq_true (by omega)]
set_option maxRecDepth 10000 in
set_option maxHeartbeats 2000000 in
theorem m_given {d : Nat} {sz : Nat} {A : Nat → Int → Int} {σ : az_S} (hM : MV sz A σ) {R : tRules} {nm : Int → Int} (hR : PW R) (hA : mTar A R) (hnk : nmOk nm) (hnm : ∀ i : Int, 0 ≤ i → i ≤ 7 → zx σ 83 i = nm i ∧ -1000000 ≤ nm i ∧ nm i ≤ 1000000) : cal (d + 3) 234 [.ref 42] σ (fun r τ => r = some (.long (lI (gvR nm R))) ∧ MV sz A τ ∧ Mod σ τ [82]) := by
  obtain ⟨hR1, hR2, hR3⟩ := hR
  obtain ⟨hA1, hA2, hA3⟩ := hA
  have hfl := flat_len R
  refine cal_of (M := (yX12_given, cX12_given, 5, (some .long))) (cd := k_X12_given) (L := [some (.ref 42), none, none, none, none]) rfl (Nat.le_of_ble_eq_true rfl) rfl rfl ?_
  refine aw_iconst rfl rfl ?_
  refine aw_istore_n rfl (Nat.le_of_ble_eq_true rfl) rfl rfl ?_
  change aw _ _ _ _ 2 [some (.ref 42), some (.int (iI _)), none, none, none] _ _
  refine aw_iconst rfl rfl ?_
  refine aw_istore_n rfl (Nat.le_of_ble_eq_true rfl) rfl rfl ?_
  change aw _ _ _ _ 4 [some (.ref 42), some (.int (iI _)), some (.int (iI _)), none, none] _ _
  refine aw_iconst rfl rfl ?_
  refine aw_istore_n rfl (Nat.le_of_ble_eq_true rfl) rfl rfl ?_
  change aw _ _ _ _ 6 [some (.ref 42), some (.int (iI _)), some (.int (iI _)), some (.int (iI _)), none] _ _
  exact m_given_l6 hM ⟨hR1, hR2, hR3⟩ ⟨hA1, hA2, hA3⟩ hnk hnm _ _ 0 0 0 _ (flat R) [] [] rfl hM Mod.rf (by omega) (by omega) hA3 (flat_gv hnk R hR3).2 (by simp) (Or.inl ⟨rfl, trivial, trivial, rfl, (flat_gv hnk R hR3).1⟩)
