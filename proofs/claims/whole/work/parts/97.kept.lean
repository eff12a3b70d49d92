/-! WHAT THE PARSING MACHINE KEEPS -/
def aK (k : Int) : Prop := k = 1 ∨ k = 3 ∨ k = 4
def nK (k : Int) : Prop := k = 2 ∨ k = 5 ∨ k = 6 ∨ k = 7 ∨ k = 8 ∨ k = 9 ∨ k = 10
def aW (k : Int) : Prop := k = 1 ∨ k = 3
def nW (k : Int) : Prop := k = 2 ∨ k = 5 ∨ k = 6 ∨ k = 7 ∨ k = 9 ∨ k = 10
def fv : List (Int × Int) → Prop
  | [] => False
  | [q] => q.1 = 1 ∨ q.1 = 2
  | q :: q' :: r => fv (q' :: r) ∧ ((aK q'.1 ∧ (q.1 = 3 ∨ q.1 = 4 ∨ q.1 = 5 ∨ q.1 = 6)) ∨ (nK q'.1 ∧ (q.1 = 7 ∨ q.1 = 8 ∨ q.1 = 9 ∨ q.1 = 10)))
def cO : List (Int × Int) → Int
  | [] => 0
  | q :: r => (if q.1 = 3 ∨ q.1 = 4 ∨ q.1 = 7 ∨ q.1 = 8 ∨ q.1 = 9 ∨ q.1 = 10 then 1 else 0) + cO r
def c56 : List (Int × Int) → Int
  | [] => 0
  | q :: r => (if q.1 = 5 ∨ q.1 = 6 then 1 else 0) + c56 r
def kd : List (Int × Int) → Int → Int
  | [], _ => 0
  | q :: r, m => if m = (r.length : Int) + 1 then q.1 else kd r m
def WV (fr ws : List (Int × Int)) : Prop := List.Pairwise (fun q q' => 4 * q'.2 + rnk q'.1 < 4 * q.2 + rnk q.1) ws ∧ ∀ q, q ∈ ws → (1 ≤ q.2 ∧ q.2 ≤ (fr.length : Int)) ∧ ((nW (kd fr q.2) ∧ 3 ≤ rnk q.1) ∨ (aW (kd fr q.2) ∧ rnk q.1 ≤ 2))
theorem rnk_b (o : Int) : 1 ≤ rnk o ∧ rnk o ≤ 4 := by
  unfold rnk
  repeat' split
  all_goals omega
theorem cO_0 : ∀ fr, 0 ≤ cO fr := by
  intro fr
  induction fr with
  | nil => exact Int.le_refl _
  | cons q r ih =>
    show 0 ≤ (if _ then (1 : Int) else 0) + cO r
    split <;> omega
theorem fv_len : ∀ (r : List (Int × Int)) (q : Int × Int), fv (q :: r) → ((q :: r).length : Int) = cO (q :: r) + 1 + c56 (q :: r) ∧ (c56 (q :: r) = 0 ∨ (c56 (q :: r) = 1 ∧ nK q.1)) := by
  intro r
  induction r with
  | nil =>
    intro q h
    have h1 : q.1 = 1 ∨ q.1 = 2 := h
    have e1 : cO [q] = 0 := by show (if _ then (1 : Int) else 0) + 0 = 0; rw [if_neg (by omega)]; rfl
    have e2 : c56 [q] = 0 := by show (if _ then (1 : Int) else 0) + 0 = 0; rw [if_neg (by omega)]; rfl
    rw [e1, e2]
    exact ⟨rfl, Or.inl rfl⟩
  | cons q' r ih =>
    intro q h
    obtain ⟨h1, h2⟩ := h
    obtain ⟨i1, i2⟩ := ih q' h1
    have e1 : cO (q :: q' :: r) = (if q.1 = 3 ∨ q.1 = 4 ∨ q.1 = 7 ∨ q.1 = 8 ∨ q.1 = 9 ∨ q.1 = 10 then 1 else 0) + cO (q' :: r) := rfl
    have e2 : c56 (q :: q' :: r) = (if q.1 = 5 ∨ q.1 = 6 then 1 else 0) + c56 (q' :: r) := rfl
    have e3 : ((q :: q' :: r).length : Int) = ((q' :: r).length : Int) + 1 := by simp
    rw [e1, e2, e3]
    unfold nK aK at *
    by_cases k : q.1 = 5 ∨ q.1 = 6
    · rw [if_neg (by omega), if_pos k]
      have : c56 (q' :: r) = 0 := by omega
      exact ⟨by omega, Or.inr ⟨by omega, by omega⟩⟩
    · rw [if_pos (by omega), if_neg k]
      exact ⟨by omega, by omega⟩
theorem kd_le {f : Int × Int} {r : List (Int × Int)} {m : Int} (h : m ≤ (r.length : Int)) : kd (f :: r) m = kd r m := if_neg (by omega)
theorem kd_top {f : Int × Int} {r : List (Int × Int)} {m : Int} (h : m = (r.length : Int) + 1) : kd (f :: r) m = f.1 := if_pos h
theorem len_c {f : Int × Int} {r : List (Int × Int)} : ((f :: r).length : Int) = (r.length : Int) + 1 := by simp
theorem WV.push {f : Int × Int} {fr ws : List (Int × Int)} (h : WV fr ws) : WV (f :: fr) ws := by
  refine ⟨h.1, fun q hq => ?_⟩
  have := h.2 q hq
  rw [kd_le this.1.2, len_c]
  exact ⟨⟨this.1.1, by omega⟩, this.2⟩
theorem WV.pop48 {f : Int × Int} {r ws : List (Int × Int)} (h : WV (f :: r) ws) (hf : f.1 = 8 ∨ f.1 = 4) : WV r ws := by
  refine ⟨h.1, fun q hq => ?_⟩
  have := h.2 q hq
  rw [len_c] at this
  by_cases e : q.2 = (r.length : Int) + 1
  · rw [kd_top e] at this
    have h2 := this.2
    unfold nW aW at h2
    omega
  · rw [kd_le (by omega)] at this
    exact ⟨⟨this.1.1, by omega⟩, this.2⟩
theorem WV.works {f : Int × Int} {r : List (Int × Int)} {ρ : Int} (hf : (nW f.1 ∧ ρ ≤ 3) ∨ (aW f.1 ∧ ρ ≤ 1)) : ∀ ws : List (Int × Int), WV (f :: r) ws → WV r (wk ρ ((f :: r).length : Int) ws).1 := by
  intro ws
  induction ws with
  | nil => intro _; exact ⟨List.Pairwise.nil, fun q hq => by cases hq⟩
  | cons q w ih =>
    intro h
    by_cases k : q.2 = ((f :: r).length : Int) ∧ ρ ≤ rnk q.1
    · simp only [wk, if_pos k]
      exact ih ⟨(List.pairwise_cons.mp h.1).2, fun q' hq' => h.2 q' (List.mem_cons_of_mem _ hq')⟩
    · simp only [wk, if_neg k]
      have hq := h.2 q (List.mem_cons_self ..)
      have hb := rnk_b q.1
      rw [len_c] at k hq
      have hle : q.2 ≤ (r.length : Int) := by
        by_cases e : q.2 = (r.length : Int) + 1
        · exfalso
          rw [kd_top e] at hq
          have h2 := hq.2
          unfold nW aW at h2 hf
          exact k ⟨e, by omega⟩
        · omega
      refine ⟨h.1, fun q' hq' => ?_⟩
      have hle' : q'.2 ≤ (r.length : Int) := by
        rcases List.mem_cons.mp hq' with rfl | hm
        · exact hle
        · have := (List.pairwise_cons.mp h.1).1 q' hm
          have hb' := rnk_b q'.1
          omega
      have := h.2 q' hq'
      rw [kd_le hle'] at this
      exact ⟨⟨this.1.1, hle'⟩, this.2⟩
theorem wk_suf {ρ m : Int} : ∀ ws : List (Int × Int), (∀ q, q ∈ (wk ρ m ws).1 → q ∈ ws) ∧ (wk ρ m ws).1.length + (wk ρ m ws).2.length = ws.length := by
  intro ws
  induction ws with
  | nil => exact ⟨fun q hq => hq, rfl⟩
  | cons q w ih =>
    by_cases k : q.2 = m ∧ ρ ≤ rnk q.1
    · simp only [wk, if_pos k]
      exact ⟨fun q' hq' => List.mem_cons_of_mem _ (ih.1 q' hq'), by simp only [List.length_cons]; omega⟩
    · simp only [wk, if_neg k]
      exact ⟨fun q' hq' => hq', by simp⟩
theorem wk_lt {L ρ : Int} : ∀ ws : List (Int × Int), List.Pairwise (fun q q' => 4 * q'.2 + rnk q'.1 < 4 * q.2 + rnk q.1) ws → (∀ q, q ∈ ws → q.2 ≤ L) → List.Pairwise (fun q q' => 4 * q'.2 + rnk q'.1 < 4 * q.2 + rnk q.1) (wk ρ L ws).1 ∧ ∀ q, q ∈ (wk ρ L ws).1 → 4 * q.2 + rnk q.1 < 4 * L + ρ ∨ 4 * q.2 + rnk q.1 < 4 * L + 1 := by
  intro ws
  induction ws with
  | nil => intro _ _; exact ⟨List.Pairwise.nil, fun q hq => by cases hq⟩
  | cons q w ih =>
    intro h hL
    by_cases k : q.2 = L ∧ ρ ≤ rnk q.1
    · simp only [wk, if_pos k]
      exact ih (List.pairwise_cons.mp h).2 (fun q' hq' => hL q' (List.mem_cons_of_mem _ hq'))
    · simp only [wk, if_neg k]
      have h1 := hL q (List.mem_cons_self ..)
      have hb := rnk_b q.1
      refine ⟨h, fun q' hq' => ?_⟩
      rcases List.mem_cons.mp hq' with rfl | hm
      · omega
      · have := (List.pairwise_cons.mp h).1 q' hm
        omega
theorem WV.wait {f : Int × Int} {r ws : List (Int × Int)} {o : Int} (h : WV (f :: r) ws) (ho : (nW f.1 ∧ 3 ≤ rnk o) ∨ (aW f.1 ∧ rnk o ≤ 2)) : WV (f :: r) ((o, ((f :: r).length : Int)) :: (wk (rnk o) ((f :: r).length : Int) ws).1) := by
  have q1 := wk_lt (L := ((f :: r).length : Int)) (ρ := rnk o) ws h.1 (fun q hq => (h.2 q hq).1.2)
  have hb := rnk_b o
  refine ⟨List.pairwise_cons.mpr ⟨fun q hq => ?_, q1.1⟩, fun q hq => ?_⟩
  · have := q1.2 q hq
    show 4 * q.2 + rnk q.1 < 4 * ((f :: r).length : Int) + rnk o
    omega
  · rcases List.mem_cons.mp hq with rfl | hm
    · show (1 ≤ ((f :: r).length : Int) ∧ _) ∧ ((nW (kd (f :: r) ((f :: r).length : Int)) ∧ 3 ≤ rnk o) ∨ _)
      rw [len_c, kd_top rfl]
      exact ⟨⟨by omega, by omega⟩, ho⟩
    · exact h.2 q ((wk_suf ws).1 q hm)
theorem pw_len : ∀ (ws : List (Int × Int)) (B : Int), List.Pairwise (fun q q' => 4 * q'.2 + rnk q'.1 < 4 * q.2 + rnk q.1) ws → 0 ≤ B → (∀ q, q ∈ ws → 0 < 4 * q.2 + rnk q.1 ∧ 4 * q.2 + rnk q.1 ≤ B) → (ws.length : Int) ≤ B := by
  intro ws
  induction ws with
  | nil => intro B _ h0 _; exact h0
  | cons q w ih =>
    intro B h h0 hb
    have h1 := hb q (List.mem_cons_self ..)
    have h2 := ih (B - 1) (List.pairwise_cons.mp h).2 (by omega) (fun q' hq' => by
      have a := (List.pairwise_cons.mp h).1 q' hq'
      have b := hb q' (List.mem_cons_of_mem _ hq')
      omega)
    rw [len_c]
    omega
theorem WV.len {fr ws : List (Int × Int)} (h : WV fr ws) : (ws.length : Int) ≤ 4 * (fr.length : Int) + 4 := by
  refine pw_len ws _ h.1 (by omega) (fun q hq => ?_)
  have := h.2 q hq
  have hb := rnk_b q.1
  omega
/-- frames of one kind at the top closed -/
theorem ovr_ok {k o : Int} (hk : k = 8 ∨ k = 4) : ∀ (r : List (Int × Int)) (q : Int × Int) (p : Int) (e ws : List (Int × Int)), fv (q :: r) → p = cO (q :: r) → WV (q :: r) ws → ((k = 8 → nK q.1) ∧ (k = 4 → aK q.1)) → ∃ q' r' p' e', ovr k o (q :: r) p e = (q' :: r', p', e') ∧ fv (q' :: r') ∧ p' = cO (q' :: r') ∧ p' ≤ p ∧ WV (q' :: r') ws ∧ q'.1 ≠ k ∧ ((k = 8 → nK q'.1) ∧ (k = 4 → aK q'.1)) ∧ (e'.length : Int) + ((q' :: r').length : Int) = e.length + ((q :: r).length : Int) := by
  intro r
  induction r with
  | nil =>
    intro q p e ws h1 h2 h3 h4
    have h5 : q.1 = 1 ∨ q.1 = 2 := h1
    have hn : q.1 ≠ k := by omega
    exact ⟨q, [], p, e, if_neg hn, h1, h2, Int.le_refl _, h3, hn, h4, rfl⟩
  | cons q' r ih =>
    intro q p e ws h1 h2 h3 h4
    by_cases hq : q.1 = k
    · obtain ⟨h5, h6⟩ := h1
      have e1 : cO (q :: q' :: r) = (if q.1 = 3 ∨ q.1 = 4 ∨ q.1 = 7 ∨ q.1 = 8 ∨ q.1 = 9 ∨ q.1 = 10 then 1 else 0) + cO (q' :: r) := rfl
      rw [if_pos (by omega)] at e1
      obtain ⟨a, b, c, d, i1, i2, i3, i4, i5, i6, i7, i8⟩ := ih q' (p - 1) (e ++ [(o, 0)]) ws h5 (by omega) (h3.pop48 (by omega)) (by unfold nK aK at *; omega)
      refine ⟨a, b, c, d, ?_, i2, i3, by omega, i5, i6, i7, ?_⟩
      · show (if q.1 = k then ovr k o (q' :: r) (p - 1) (e ++ [(o, 0)]) else _) = _
        rw [if_pos hq]; exact i1
      · rw [i8, len_c, List.length_append]
        simp only [List.length_cons, List.length_nil]
        omega
    · exact ⟨q, q' :: r, p, e, if_neg hq, h1, h2, Int.le_refl _, h3, hq, h4, rfl⟩
/-- what is kept, between the ends of rules -/
def CN (T : Int) (c : Cf) : Prop := fv c.fr ∧ c.op = cO c.fr ∧ c.op ≤ 10 ∧ WV c.fr c.ws ∧ (0 ≤ c.ru ∧ c.ru ≤ 20) ∧ (0 ≤ c.n ∧ c.n ≤ T)
def SP (c : Cf) : Prop := (c.st = 0 ∧ aK (topF c)) ∨ (c.st = 3 ∧ aW (topF c)) ∨ (c.st = 1 ∧ nK (topF c)) ∨ (c.st = 2 ∧ nW (topF c))
def Ph (c : Cf) (k : Int) : Prop := (c.em.length : Int) + c.ws.length + c.fr.length ≤ 2 * c.n + k
def CI (T : Int) (c : Cf) : Prop := ((c.st = 4 ∧ c.fr = [] ∧ c.ws = [] ∧ c.op = 0 ∧ (0 ≤ c.ru ∧ c.ru ≤ 20) ∧ (0 ≤ c.n ∧ c.n ≤ T)) ∨ (CN T c ∧ SP c)) ∧ Ph c (if c.st = 0 then 0 else 1)
theorem CN.hd {T : Int} {c : Cf} (h : CN T c) : ∃ q r, c.fr = q :: r := by
  have h1 := h.1
  cases e : c.fr with
  | nil => rw [e] at h1; exact absurd h1 (fun x => x)
  | cons q r => exact ⟨q, r, rfl⟩
theorem topF_c {c : Cf} {q : Int × Int} {r : List (Int × Int)} (h : c.fr = q :: r) : topF c = q.1 ∧ topA c = q.2 := by
  unfold topF topA
  rw [h]
  exact ⟨rfl, rfl⟩
theorem CI_one {T : Int} {c : Cf} (h : CN T c) (hk : nK (topF c)) (hp : Ph c 1) : CI T (oneOver c) := by
  obtain ⟨q, r, hf⟩ := h.hd
  obtain ⟨h1, h2, h3, h4, h5, h6⟩ := h
  rw [hf] at h1 h2 h4
  have t := (topF_c hf).1
  rw [t] at hk
  obtain ⟨a, b, p, e, i1, i2, i3, i4, i5, i6, i7, i8⟩ := ovr_ok (o := 402) (Or.inl rfl) r q c.op c.em c.ws h1 h2 h4 ⟨fun _ => hk, fun x => absurd x (by decide)⟩
  have ee : oneOver c = (c.n, 2, a :: b, c.ws, p, e, c.ru, c.wr, c.wa) := by
    unfold oneOver
    rw [hf, i1]
  have hpp : (c.em.length : Int) + c.ws.length + c.fr.length ≤ 2 * c.n + 1 := hp
  rw [hf] at hpp
  rw [ee]
  have k7 := i7.1 rfl
  refine ⟨Or.inr ⟨⟨i2, i3, by show p ≤ 10; omega, i5, h5, h6⟩, Or.inr (Or.inr (Or.inr ⟨rfl, ?_⟩))⟩, ?_⟩
  · show nW a.1
    unfold nK nW at *
    omega
  · show (e.length : Int) + c.ws.length + ((a :: b).length : Int) ≤ 2 * c.n + 1
    omega
theorem CI_ask {T : Int} {c : Cf} (h : CN T c) (hk : aK (topF c)) (hp : Ph c 1) : CI T (askOver c) := by
  obtain ⟨q, r, hf⟩ := h.hd
  obtain ⟨h1, h2, h3, h4, h5, h6⟩ := h
  rw [hf] at h1 h2 h4
  have t := (topF_c hf).1
  rw [t] at hk
  obtain ⟨a, b, p, e, i1, i2, i3, i4, i5, i6, i7, i8⟩ := ovr_ok (o := 405) (Or.inr rfl) r q c.op c.em c.ws h1 h2 h4 ⟨fun x => absurd x (by decide), fun _ => hk⟩
  have ee : askOver c = (c.n, 3, a :: b, c.ws, p, e, c.ru, c.wr, c.wa) := by
    unfold askOver
    rw [hf, i1]
  have hpp : (c.em.length : Int) + c.ws.length + c.fr.length ≤ 2 * c.n + 1 := hp
  rw [hf] at hpp
  rw [ee]
  have k7 := i7.2 rfl
  refine ⟨Or.inr ⟨⟨i2, i3, by show p ≤ 10; omega, i5, h5, h6⟩, Or.inr (Or.inl ⟨rfl, ?_⟩)⟩, ?_⟩
  · show aW a.1
    unfold aK aW at *
    omega
  · show (e.length : Int) + c.ws.length + ((a :: b).length : Int) ≤ 2 * c.n + 1
    omega
/-- a frame more -/
theorem CN_push {T : Int} {c : Cf} (h : CN T c) {f x n i s : Int} (hf : (aK (topF c) ∧ (f = 3 ∨ f = 4 ∨ f = 5 ∨ f = 6)) ∨ (nK (topF c) ∧ (f = 7 ∨ f = 8 ∨ f = 9 ∨ f = 10))) (hi : i = if f = 5 ∨ f = 6 then 0 else 1) (h10 : c.op + i ≤ 10) (hn : 0 ≤ n ∧ n ≤ T) : CN T (n, s, (f, x) :: c.fr, c.ws, c.op + i, c.em, c.ru, c.wr, c.wa) := by
  obtain ⟨q, r, he⟩ := h.hd
  obtain ⟨h1, h2, h3, h4, h5, h6⟩ := h
  have t := (topF_c he).1
  refine ⟨?_, ?_, h10, h4.push, h5, hn⟩
  · show fv ((f, x) :: c.fr)
    rw [he] at h1 ⊢
    rw [t] at hf
    exact ⟨h1, hf⟩
  · show c.op + i = (if f = 3 ∨ f = 4 ∨ f = 7 ∨ f = 8 ∨ f = 9 ∨ f = 10 then 1 else 0) + cO c.fr
    rw [hi, h2]
    by_cases k : f = 5 ∨ f = 6
    · rw [if_pos k, if_neg (by omega)]; omega
    · rw [if_neg k, if_pos (by omega)]; omega
theorem CN_nx {T : Int} {c : Cf} (h : CN T c) {n s : Int} {e : List (Int × Int)} {w z : Int} (hn : 0 ≤ n ∧ n ≤ T) : CN T (n, s, c.fr, c.ws, c.op, e, c.ru, w, z) := ⟨h.1, h.2.1, h.2.2.1, h.2.2.2.1, h.2.2.2.2.1, hn⟩
/-- what waited in the frame at the top is done, the frame is closed -/
theorem CN_close {T : Int} {c : Cf} (h : CN T c) {q q' : Int × Int} {r : List (Int × Int)} (he : c.fr = q :: q' :: r) {ρ n s i : Int} {e : List (Int × Int)} (hr : (nW q.1 ∧ ρ ≤ 3) ∨ (aW q.1 ∧ ρ ≤ 1)) (hi : i = if q.1 = 5 ∨ q.1 = 6 then 0 else -1) (hn : 0 ≤ n ∧ n ≤ T) : CN T (n, s, q' :: r, (wk ρ c.fr.length c.ws).1, c.op + i, e, c.ru, c.wr, c.wa) ∧ ((aK q'.1 ∧ (q.1 = 3 ∨ q.1 = 4 ∨ q.1 = 5 ∨ q.1 = 6)) ∨ (nK q'.1 ∧ (q.1 = 7 ∨ q.1 = 8 ∨ q.1 = 9 ∨ q.1 = 10))) := by
  obtain ⟨h1, h2, h3, h4, h5, h6⟩ := h
  rw [he] at h1 h2 h4
  have e1 : cO (q :: q' :: r) = (if q.1 = 3 ∨ q.1 = 4 ∨ q.1 = 7 ∨ q.1 = 8 ∨ q.1 = 9 ∨ q.1 = 10 then 1 else 0) + cO (q' :: r) := rfl
  have h7 := h1.2
  have hi2 : c.op + i = cO (q' :: r) := by
    rw [h2, e1, hi]
    by_cases k : q.1 = 5 ∨ q.1 = 6
    · rw [if_pos k, if_neg (by omega)]; omega
    · rw [if_neg k, if_pos (by omega)]; omega
  refine ⟨⟨h1.1, hi2, ?_, ?_, h5, hn⟩, h7⟩
  · show c.op + i ≤ 10
    rw [hi]
    split <;> omega
  · show WV (q' :: r) (wk ρ c.fr.length c.ws).1
    rw [he]
    exact WV.works hr c.ws h4
theorem works_len {c : Cf} {ρ : Int} : ((works ρ c).em.length : Int) + (works ρ c).ws.length = c.em.length + c.ws.length := by
  have := (wk_suf (ρ := ρ) (m := (c.fr.length : Int)) c.ws).2
  show ((c.em ++ (wk ρ c.fr.length c.ws).2).length : Int) + ((wk ρ c.fr.length c.ws).1.length : Int) = _
  rw [List.length_append]
  omega
theorem CI_wait {T : Int} {c : Cf} (h : CN T c) {o : Int} (ho : (nW (topF c) ∧ 3 ≤ rnk o) ∨ (aW (topF c) ∧ rnk o ≤ 2)) (hn : 0 ≤ c.n + 1 ∧ c.n + 1 ≤ T) : CN T (waitsFor o c) ∧ (waitsFor o c).fr = c.fr ∧ (waitsFor o c).n = c.n + 1 ∧ ((waitsFor o c).em.length : Int) + (waitsFor o c).ws.length = c.em.length + c.ws.length + 1 := by
  obtain ⟨q, r, he⟩ := h.hd
  obtain ⟨h1, h2, h3, h4, h5, h6⟩ := h
  have t := (topF_c he).1
  rw [t] at ho
  refine ⟨⟨h1, h2, h3, ?_, h5, hn⟩, rfl, rfl, ?_⟩
  · show WV c.fr ((o, (c.fr.length : Int)) :: (wk (rnk o) c.fr.length c.ws).1)
    rw [he] at h4 ⊢
    exact h4.wait ho
  · have := works_len (c := c) (ρ := rnk o)
    show ((works (rnk o) c).em.length : Int) + (((o, (c.fr.length : Int)) :: (works (rnk o) c).ws).length : Int) = _
    rw [len_c]
    omega
