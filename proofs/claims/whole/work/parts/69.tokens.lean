/-! TOKENS -/
def isL (x : Int) : Prop := (97 ≤ x ∧ x ≤ 122) ∨ (65 ≤ x ∧ x ≤ 90)
def isD (x : Int) : Prop := 48 ≤ x ∧ x ≤ 57
def isB (x : Int) : Prop := x = 32 ∨ x = 10
/-- from i on the bytes up to j are such, and the one at j isn't, or is none -/
def ER (p : Int → Prop) (B : Int → Int) (N i j : Int) : Prop := (i ≤ j ∧ j ≤ N) ∧ (∀ k : Int, i ≤ k → k < j → p (B k)) ∧ (j = N ∨ ¬ p (B j))
theorem ER_un {p : Int → Prop} {B : Int → Int} {N i j k : Int} (h1 : ER p B N i j) (h2 : ER p B N i k) : j = k := by
  obtain ⟨⟨a1, a2⟩, a3, a4⟩ := h1
  obtain ⟨⟨b1, b2⟩, b3, b4⟩ := h2
  by_cases q : j < k
  · rcases a4 with a4 | a4
    · omega
    · exact absurd (b3 j a1 q) a4
  · by_cases r : k < j
    · rcases b4 with b4 | b4
      · omega
      · exact absurd (a3 k b1 r) b4
    · omega
def wX : List (List Int) := [[104, 111, 117, 114], [109, 111, 110, 116, 104], [100, 97, 121], [104, 101, 105, 103, 104, 116], [109, 97, 110, 121], [107, 105, 110, 100], [116, 104, 105, 110, 103], [115, 116, 97, 108, 108], [119, 104, 101, 110], [103, 105, 118, 101], [111, 114], [97, 110, 100], [110, 111, 116], [109, 105, 110], [109, 97, 120]]
def mWd (B : Int → Int) : Int → List Int → Prop
  | _, [] => True
  | s, c :: w => B s = c ∧ mWd B (s + 1) w
theorem mWd_iff {B : Int → Int} : ∀ (w : List Int) (s : Int), mWd B s w ↔ ∀ j : Nat, j < w.length → B (s + j) = w.getD j 0 := by
  intro w
  induction w with
  | nil => intro s; exact ⟨fun _ j hj => absurd hj (Nat.not_lt_zero j), fun _ => trivial⟩
  | cons c w ih =>
    intro s
    show (B s = c ∧ mWd B (s + 1) w) ↔ _
    rw [ih (s + 1)]
    constructor
    · rintro ⟨h1, h2⟩ j hj
      cases j with
      | zero => simpa using h1
      | succ j =>
        have := h2 j (by simpa using hj)
        rw [show s + ((j + 1 : Nat) : Int) = s + 1 + j by omega, this]
        simp
    · intro h
      refine ⟨?_, fun j hj => ?_⟩
      · simpa using h 0 (by simp)
      · have := h (j + 1) (by simpa using hj)
        rw [show s + ((j + 1 : Nat) : Int) = s + 1 + j by omega] at this
        rw [this]
        simp
def wM (B : Int → Int) (s e : Int) (i : Nat) : Prop := e - s = (wX.getD i []).length ∧ mWd B s (wX.getD i [])
def KW (B : Int → Int) (s e k v : Int) : Prop := (∃ i : Nat, i < 8 ∧ wM B s e i ∧ k = 3 ∧ v = i) ∨ (∃ i : Nat, 8 ≤ i ∧ i < 15 ∧ wM B s e i ∧ k = i - 4 ∧ v = 0) ∨ ((∀ i : Nat, i < 15 → ¬ wM B s e i) ∧ k = 1 ∧ v = 0)
def ltF (B : Int → Int) : Int → Int → Nat → Int
  | _, a, 0 => a
  | s, a, m + 1 => ltF B (s + 1) (64 * a + B s - 64) m
theorem ltF_s {B : Int → Int} : ∀ (m : Nat) (s a : Int), ltF B s a (m + 1) = 64 * ltF B s a m + B (s + m) - 64 := by
  intro m
  induction m with
  | zero => intro s a; show 64 * a + B s - 64 = 64 * a + B (s + (0 : Nat)) - 64; rw [show s + ((0 : Nat) : Int) = s by omega]
  | succ m ih =>
    intro s a
    show ltF B (s + 1) (64 * a + B s - 64) (m + 1) = 64 * ltF B (s + 1) (64 * a + B s - 64) m + _ - 64
    rw [ih, show s + ((m + 1 : Nat) : Int) = s + 1 + m by omega]
theorem ltF_b {B : Int → Int} {s : Int} : ∀ (m : Nat), (∀ k : Int, s ≤ k → k < s + m → isL (B k)) → 0 ≤ ltF B s 0 m ∧ ltF B s 0 m + 1 ≤ 64 ^ m := by
  intro m
  induction m with
  | zero => intro _; show (0 : Int) ≤ 0 ∧ (0 : Int) + 1 ≤ 1; omega
  | succ m ih =>
    intro h
    have h1 := ih (fun k k0 k1 => h k k0 (by omega))
    have h2 := h (s + m) (by omega) (by omega)
    rw [ltF_s, Int.pow_succ]
    unfold isL at h2
    omega
def wO (l : Int) : Int := if l = 14584174 then 0 else if l = 10395045 then 1 else if l = 3058 then 2 else if l = 138148 then 3 else if l = 191476 then 4 else if l = 186990 then 5 else if l = 186488 then 6 else if l = 10681714 then 7 else if l = 767487272 then 8 else if l = 149625 then 9 else if l = 43581340212 then 10 else if l = 11934649 then 11 else if l = 11443108 then 12 else if l = 883071911 then 13 else if l = 869407532 then 14 else -1
theorem wX_i (i : Nat) (hi : 15 ≤ i) : wX.getD i [] = [] := by
  unfold wX
  rw [List.getD_eq_getElem?_getD, List.getElem?_eq_none (by simpa using hi)]
  rfl
theorem isL_b {x : Int} (h : isL x) : 65 ≤ x ∧ x ≤ 122 := by unfold isL at h; omega
theorem lt_w0 {B : Int → Int} {s : Int} {m : Nat} (h1 : 1 ≤ m) (h6 : m ≤ 6) (h : ∀ k : Int, s ≤ k → k < s + m → isL (B k)) : wM B s (s + m) 0 ↔ ltF B s 0 m = 10681714 := by
  have hm : m = 1 ∨ m = 2 ∨ m = 3 ∨ m = 4 ∨ m = 5 ∨ m = 6 := by omega
  rcases hm with rfl | rfl | rfl | rfl | rfl | rfl
  · have b0 := isL_b (h (s) (by omega) (by omega))
    simp only [wM, wX, List.getD_cons_succ, List.getD_cons_zero, mWd, ltF, List.length_cons, List.length_nil, and_true]
    omega
  · have b0 := isL_b (h (s) (by omega) (by omega))
    have b1 := isL_b (h (s + 1) (by omega) (by omega))
    simp only [wM, wX, List.getD_cons_succ, List.getD_cons_zero, mWd, ltF, List.length_cons, List.length_nil, and_true]
    omega
  · have b0 := isL_b (h (s) (by omega) (by omega))
    have b1 := isL_b (h (s + 1) (by omega) (by omega))
    have b2 := isL_b (h (s + 1 + 1) (by omega) (by omega))
    simp only [wM, wX, List.getD_cons_succ, List.getD_cons_zero, mWd, ltF, List.length_cons, List.length_nil, and_true]
    omega
  · have b0 := isL_b (h (s) (by omega) (by omega))
    have b1 := isL_b (h (s + 1) (by omega) (by omega))
    have b2 := isL_b (h (s + 1 + 1) (by omega) (by omega))
    have b3 := isL_b (h (s + 1 + 1 + 1) (by omega) (by omega))
    simp only [wM, wX, List.getD_cons_succ, List.getD_cons_zero, mWd, ltF, List.length_cons, List.length_nil, and_true]
    omega
  · have b0 := isL_b (h (s) (by omega) (by omega))
    have b1 := isL_b (h (s + 1) (by omega) (by omega))
    have b2 := isL_b (h (s + 1 + 1) (by omega) (by omega))
    have b3 := isL_b (h (s + 1 + 1 + 1) (by omega) (by omega))
    have b4 := isL_b (h (s + 1 + 1 + 1 + 1) (by omega) (by omega))
    simp only [wM, wX, List.getD_cons_succ, List.getD_cons_zero, mWd, ltF, List.length_cons, List.length_nil, and_true]
    omega
  · have b0 := isL_b (h (s) (by omega) (by omega))
    have b1 := isL_b (h (s + 1) (by omega) (by omega))
    have b2 := isL_b (h (s + 1 + 1) (by omega) (by omega))
    have b3 := isL_b (h (s + 1 + 1 + 1) (by omega) (by omega))
    have b4 := isL_b (h (s + 1 + 1 + 1 + 1) (by omega) (by omega))
    have b5 := isL_b (h (s + 1 + 1 + 1 + 1 + 1) (by omega) (by omega))
    simp only [wM, wX, List.getD_cons_succ, List.getD_cons_zero, mWd, ltF, List.length_cons, List.length_nil, and_true]
    omega
theorem lt_w1 {B : Int → Int} {s : Int} {m : Nat} (h1 : 1 ≤ m) (h6 : m ≤ 6) (h : ∀ k : Int, s ≤ k → k < s + m → isL (B k)) : wM B s (s + m) 1 ↔ ltF B s 0 m = 767487272 := by
  have hm : m = 1 ∨ m = 2 ∨ m = 3 ∨ m = 4 ∨ m = 5 ∨ m = 6 := by omega
  rcases hm with rfl | rfl | rfl | rfl | rfl | rfl
  · have b0 := isL_b (h (s) (by omega) (by omega))
    simp only [wM, wX, List.getD_cons_succ, List.getD_cons_zero, mWd, ltF, List.length_cons, List.length_nil, and_true]
    omega
  · have b0 := isL_b (h (s) (by omega) (by omega))
    have b1 := isL_b (h (s + 1) (by omega) (by omega))
    simp only [wM, wX, List.getD_cons_succ, List.getD_cons_zero, mWd, ltF, List.length_cons, List.length_nil, and_true]
    omega
  · have b0 := isL_b (h (s) (by omega) (by omega))
    have b1 := isL_b (h (s + 1) (by omega) (by omega))
    have b2 := isL_b (h (s + 1 + 1) (by omega) (by omega))
    simp only [wM, wX, List.getD_cons_succ, List.getD_cons_zero, mWd, ltF, List.length_cons, List.length_nil, and_true]
    omega
  · have b0 := isL_b (h (s) (by omega) (by omega))
    have b1 := isL_b (h (s + 1) (by omega) (by omega))
    have b2 := isL_b (h (s + 1 + 1) (by omega) (by omega))
    have b3 := isL_b (h (s + 1 + 1 + 1) (by omega) (by omega))
    simp only [wM, wX, List.getD_cons_succ, List.getD_cons_zero, mWd, ltF, List.length_cons, List.length_nil, and_true]
    omega
  · have b0 := isL_b (h (s) (by omega) (by omega))
    have b1 := isL_b (h (s + 1) (by omega) (by omega))
    have b2 := isL_b (h (s + 1 + 1) (by omega) (by omega))
    have b3 := isL_b (h (s + 1 + 1 + 1) (by omega) (by omega))
    have b4 := isL_b (h (s + 1 + 1 + 1 + 1) (by omega) (by omega))
    simp only [wM, wX, List.getD_cons_succ, List.getD_cons_zero, mWd, ltF, List.length_cons, List.length_nil, and_true]
    omega
  · have b0 := isL_b (h (s) (by omega) (by omega))
    have b1 := isL_b (h (s + 1) (by omega) (by omega))
    have b2 := isL_b (h (s + 1 + 1) (by omega) (by omega))
    have b3 := isL_b (h (s + 1 + 1 + 1) (by omega) (by omega))
    have b4 := isL_b (h (s + 1 + 1 + 1 + 1) (by omega) (by omega))
    have b5 := isL_b (h (s + 1 + 1 + 1 + 1 + 1) (by omega) (by omega))
    simp only [wM, wX, List.getD_cons_succ, List.getD_cons_zero, mWd, ltF, List.length_cons, List.length_nil, and_true]
    omega
theorem lt_w2 {B : Int → Int} {s : Int} {m : Nat} (h1 : 1 ≤ m) (h6 : m ≤ 6) (h : ∀ k : Int, s ≤ k → k < s + m → isL (B k)) : wM B s (s + m) 2 ↔ ltF B s 0 m = 149625 := by
  have hm : m = 1 ∨ m = 2 ∨ m = 3 ∨ m = 4 ∨ m = 5 ∨ m = 6 := by omega
  rcases hm with rfl | rfl | rfl | rfl | rfl | rfl
  · have b0 := isL_b (h (s) (by omega) (by omega))
    simp only [wM, wX, List.getD_cons_succ, List.getD_cons_zero, mWd, ltF, List.length_cons, List.length_nil, and_true]
    omega
  · have b0 := isL_b (h (s) (by omega) (by omega))
    have b1 := isL_b (h (s + 1) (by omega) (by omega))
    simp only [wM, wX, List.getD_cons_succ, List.getD_cons_zero, mWd, ltF, List.length_cons, List.length_nil, and_true]
    omega
  · have b0 := isL_b (h (s) (by omega) (by omega))
    have b1 := isL_b (h (s + 1) (by omega) (by omega))
    have b2 := isL_b (h (s + 1 + 1) (by omega) (by omega))
    simp only [wM, wX, List.getD_cons_succ, List.getD_cons_zero, mWd, ltF, List.length_cons, List.length_nil, and_true]
    omega
  · have b0 := isL_b (h (s) (by omega) (by omega))
    have b1 := isL_b (h (s + 1) (by omega) (by omega))
    have b2 := isL_b (h (s + 1 + 1) (by omega) (by omega))
    have b3 := isL_b (h (s + 1 + 1 + 1) (by omega) (by omega))
    simp only [wM, wX, List.getD_cons_succ, List.getD_cons_zero, mWd, ltF, List.length_cons, List.length_nil, and_true]
    omega
  · have b0 := isL_b (h (s) (by omega) (by omega))
    have b1 := isL_b (h (s + 1) (by omega) (by omega))
    have b2 := isL_b (h (s + 1 + 1) (by omega) (by omega))
    have b3 := isL_b (h (s + 1 + 1 + 1) (by omega) (by omega))
    have b4 := isL_b (h (s + 1 + 1 + 1 + 1) (by omega) (by omega))
    simp only [wM, wX, List.getD_cons_succ, List.getD_cons_zero, mWd, ltF, List.length_cons, List.length_nil, and_true]
    omega
  · have b0 := isL_b (h (s) (by omega) (by omega))
    have b1 := isL_b (h (s + 1) (by omega) (by omega))
    have b2 := isL_b (h (s + 1 + 1) (by omega) (by omega))
    have b3 := isL_b (h (s + 1 + 1 + 1) (by omega) (by omega))
    have b4 := isL_b (h (s + 1 + 1 + 1 + 1) (by omega) (by omega))
    have b5 := isL_b (h (s + 1 + 1 + 1 + 1 + 1) (by omega) (by omega))
    simp only [wM, wX, List.getD_cons_succ, List.getD_cons_zero, mWd, ltF, List.length_cons, List.length_nil, and_true]
    omega
theorem lt_w3 {B : Int → Int} {s : Int} {m : Nat} (h1 : 1 ≤ m) (h6 : m ≤ 6) (h : ∀ k : Int, s ≤ k → k < s + m → isL (B k)) : wM B s (s + m) 3 ↔ ltF B s 0 m = 43581340212 := by
  have hm : m = 1 ∨ m = 2 ∨ m = 3 ∨ m = 4 ∨ m = 5 ∨ m = 6 := by omega
  rcases hm with rfl | rfl | rfl | rfl | rfl | rfl
  · have b0 := isL_b (h (s) (by omega) (by omega))
    simp only [wM, wX, List.getD_cons_succ, List.getD_cons_zero, mWd, ltF, List.length_cons, List.length_nil, and_true]
    omega
  · have b0 := isL_b (h (s) (by omega) (by omega))
    have b1 := isL_b (h (s + 1) (by omega) (by omega))
    simp only [wM, wX, List.getD_cons_succ, List.getD_cons_zero, mWd, ltF, List.length_cons, List.length_nil, and_true]
    omega
  · have b0 := isL_b (h (s) (by omega) (by omega))
    have b1 := isL_b (h (s + 1) (by omega) (by omega))
    have b2 := isL_b (h (s + 1 + 1) (by omega) (by omega))
    simp only [wM, wX, List.getD_cons_succ, List.getD_cons_zero, mWd, ltF, List.length_cons, List.length_nil, and_true]
    omega
  · have b0 := isL_b (h (s) (by omega) (by omega))
    have b1 := isL_b (h (s + 1) (by omega) (by omega))
    have b2 := isL_b (h (s + 1 + 1) (by omega) (by omega))
    have b3 := isL_b (h (s + 1 + 1 + 1) (by omega) (by omega))
    simp only [wM, wX, List.getD_cons_succ, List.getD_cons_zero, mWd, ltF, List.length_cons, List.length_nil, and_true]
    omega
  · have b0 := isL_b (h (s) (by omega) (by omega))
    have b1 := isL_b (h (s + 1) (by omega) (by omega))
    have b2 := isL_b (h (s + 1 + 1) (by omega) (by omega))
    have b3 := isL_b (h (s + 1 + 1 + 1) (by omega) (by omega))
    have b4 := isL_b (h (s + 1 + 1 + 1 + 1) (by omega) (by omega))
    simp only [wM, wX, List.getD_cons_succ, List.getD_cons_zero, mWd, ltF, List.length_cons, List.length_nil, and_true]
    omega
  · have b0 := isL_b (h (s) (by omega) (by omega))
    have b1 := isL_b (h (s + 1) (by omega) (by omega))
    have b2 := isL_b (h (s + 1 + 1) (by omega) (by omega))
    have b3 := isL_b (h (s + 1 + 1 + 1) (by omega) (by omega))
    have b4 := isL_b (h (s + 1 + 1 + 1 + 1) (by omega) (by omega))
    have b5 := isL_b (h (s + 1 + 1 + 1 + 1 + 1) (by omega) (by omega))
    simp only [wM, wX, List.getD_cons_succ, List.getD_cons_zero, mWd, ltF, List.length_cons, List.length_nil, and_true]
    omega
theorem lt_w4 {B : Int → Int} {s : Int} {m : Nat} (h1 : 1 ≤ m) (h6 : m ≤ 6) (h : ∀ k : Int, s ≤ k → k < s + m → isL (B k)) : wM B s (s + m) 4 ↔ ltF B s 0 m = 11934649 := by
  have hm : m = 1 ∨ m = 2 ∨ m = 3 ∨ m = 4 ∨ m = 5 ∨ m = 6 := by omega
  rcases hm with rfl | rfl | rfl | rfl | rfl | rfl
  · have b0 := isL_b (h (s) (by omega) (by omega))
    simp only [wM, wX, List.getD_cons_succ, List.getD_cons_zero, mWd, ltF, List.length_cons, List.length_nil, and_true]
    omega
  · have b0 := isL_b (h (s) (by omega) (by omega))
    have b1 := isL_b (h (s + 1) (by omega) (by omega))
    simp only [wM, wX, List.getD_cons_succ, List.getD_cons_zero, mWd, ltF, List.length_cons, List.length_nil, and_true]
    omega
  · have b0 := isL_b (h (s) (by omega) (by omega))
    have b1 := isL_b (h (s + 1) (by omega) (by omega))
    have b2 := isL_b (h (s + 1 + 1) (by omega) (by omega))
    simp only [wM, wX, List.getD_cons_succ, List.getD_cons_zero, mWd, ltF, List.length_cons, List.length_nil, and_true]
    omega
  · have b0 := isL_b (h (s) (by omega) (by omega))
    have b1 := isL_b (h (s + 1) (by omega) (by omega))
    have b2 := isL_b (h (s + 1 + 1) (by omega) (by omega))
    have b3 := isL_b (h (s + 1 + 1 + 1) (by omega) (by omega))
    simp only [wM, wX, List.getD_cons_succ, List.getD_cons_zero, mWd, ltF, List.length_cons, List.length_nil, and_true]
    omega
  · have b0 := isL_b (h (s) (by omega) (by omega))
    have b1 := isL_b (h (s + 1) (by omega) (by omega))
    have b2 := isL_b (h (s + 1 + 1) (by omega) (by omega))
    have b3 := isL_b (h (s + 1 + 1 + 1) (by omega) (by omega))
    have b4 := isL_b (h (s + 1 + 1 + 1 + 1) (by omega) (by omega))
    simp only [wM, wX, List.getD_cons_succ, List.getD_cons_zero, mWd, ltF, List.length_cons, List.length_nil, and_true]
    omega
  · have b0 := isL_b (h (s) (by omega) (by omega))
    have b1 := isL_b (h (s + 1) (by omega) (by omega))
    have b2 := isL_b (h (s + 1 + 1) (by omega) (by omega))
    have b3 := isL_b (h (s + 1 + 1 + 1) (by omega) (by omega))
    have b4 := isL_b (h (s + 1 + 1 + 1 + 1) (by omega) (by omega))
    have b5 := isL_b (h (s + 1 + 1 + 1 + 1 + 1) (by omega) (by omega))
    simp only [wM, wX, List.getD_cons_succ, List.getD_cons_zero, mWd, ltF, List.length_cons, List.length_nil, and_true]
    omega
theorem lt_w5 {B : Int → Int} {s : Int} {m : Nat} (h1 : 1 ≤ m) (h6 : m ≤ 6) (h : ∀ k : Int, s ≤ k → k < s + m → isL (B k)) : wM B s (s + m) 5 ↔ ltF B s 0 m = 11443108 := by
  have hm : m = 1 ∨ m = 2 ∨ m = 3 ∨ m = 4 ∨ m = 5 ∨ m = 6 := by omega
  rcases hm with rfl | rfl | rfl | rfl | rfl | rfl
  · have b0 := isL_b (h (s) (by omega) (by omega))
    simp only [wM, wX, List.getD_cons_succ, List.getD_cons_zero, mWd, ltF, List.length_cons, List.length_nil, and_true]
    omega
  · have b0 := isL_b (h (s) (by omega) (by omega))
    have b1 := isL_b (h (s + 1) (by omega) (by omega))
    simp only [wM, wX, List.getD_cons_succ, List.getD_cons_zero, mWd, ltF, List.length_cons, List.length_nil, and_true]
    omega
  · have b0 := isL_b (h (s) (by omega) (by omega))
    have b1 := isL_b (h (s + 1) (by omega) (by omega))
    have b2 := isL_b (h (s + 1 + 1) (by omega) (by omega))
    simp only [wM, wX, List.getD_cons_succ, List.getD_cons_zero, mWd, ltF, List.length_cons, List.length_nil, and_true]
    omega
  · have b0 := isL_b (h (s) (by omega) (by omega))
    have b1 := isL_b (h (s + 1) (by omega) (by omega))
    have b2 := isL_b (h (s + 1 + 1) (by omega) (by omega))
    have b3 := isL_b (h (s + 1 + 1 + 1) (by omega) (by omega))
    simp only [wM, wX, List.getD_cons_succ, List.getD_cons_zero, mWd, ltF, List.length_cons, List.length_nil, and_true]
    omega
  · have b0 := isL_b (h (s) (by omega) (by omega))
    have b1 := isL_b (h (s + 1) (by omega) (by omega))
    have b2 := isL_b (h (s + 1 + 1) (by omega) (by omega))
    have b3 := isL_b (h (s + 1 + 1 + 1) (by omega) (by omega))
    have b4 := isL_b (h (s + 1 + 1 + 1 + 1) (by omega) (by omega))
    simp only [wM, wX, List.getD_cons_succ, List.getD_cons_zero, mWd, ltF, List.length_cons, List.length_nil, and_true]
    omega
  · have b0 := isL_b (h (s) (by omega) (by omega))
    have b1 := isL_b (h (s + 1) (by omega) (by omega))
    have b2 := isL_b (h (s + 1 + 1) (by omega) (by omega))
    have b3 := isL_b (h (s + 1 + 1 + 1) (by omega) (by omega))
    have b4 := isL_b (h (s + 1 + 1 + 1 + 1) (by omega) (by omega))
    have b5 := isL_b (h (s + 1 + 1 + 1 + 1 + 1) (by omega) (by omega))
    simp only [wM, wX, List.getD_cons_succ, List.getD_cons_zero, mWd, ltF, List.length_cons, List.length_nil, and_true]
    omega
theorem lt_w6 {B : Int → Int} {s : Int} {m : Nat} (h1 : 1 ≤ m) (h6 : m ≤ 6) (h : ∀ k : Int, s ≤ k → k < s + m → isL (B k)) : wM B s (s + m) 6 ↔ ltF B s 0 m = 883071911 := by
  have hm : m = 1 ∨ m = 2 ∨ m = 3 ∨ m = 4 ∨ m = 5 ∨ m = 6 := by omega
  rcases hm with rfl | rfl | rfl | rfl | rfl | rfl
  · have b0 := isL_b (h (s) (by omega) (by omega))
    simp only [wM, wX, List.getD_cons_succ, List.getD_cons_zero, mWd, ltF, List.length_cons, List.length_nil, and_true]
    omega
  · have b0 := isL_b (h (s) (by omega) (by omega))
    have b1 := isL_b (h (s + 1) (by omega) (by omega))
    simp only [wM, wX, List.getD_cons_succ, List.getD_cons_zero, mWd, ltF, List.length_cons, List.length_nil, and_true]
    omega
  · have b0 := isL_b (h (s) (by omega) (by omega))
    have b1 := isL_b (h (s + 1) (by omega) (by omega))
    have b2 := isL_b (h (s + 1 + 1) (by omega) (by omega))
    simp only [wM, wX, List.getD_cons_succ, List.getD_cons_zero, mWd, ltF, List.length_cons, List.length_nil, and_true]
    omega
  · have b0 := isL_b (h (s) (by omega) (by omega))
    have b1 := isL_b (h (s + 1) (by omega) (by omega))
    have b2 := isL_b (h (s + 1 + 1) (by omega) (by omega))
    have b3 := isL_b (h (s + 1 + 1 + 1) (by omega) (by omega))
    simp only [wM, wX, List.getD_cons_succ, List.getD_cons_zero, mWd, ltF, List.length_cons, List.length_nil, and_true]
    omega
  · have b0 := isL_b (h (s) (by omega) (by omega))
    have b1 := isL_b (h (s + 1) (by omega) (by omega))
    have b2 := isL_b (h (s + 1 + 1) (by omega) (by omega))
    have b3 := isL_b (h (s + 1 + 1 + 1) (by omega) (by omega))
    have b4 := isL_b (h (s + 1 + 1 + 1 + 1) (by omega) (by omega))
    simp only [wM, wX, List.getD_cons_succ, List.getD_cons_zero, mWd, ltF, List.length_cons, List.length_nil, and_true]
    omega
  · have b0 := isL_b (h (s) (by omega) (by omega))
    have b1 := isL_b (h (s + 1) (by omega) (by omega))
    have b2 := isL_b (h (s + 1 + 1) (by omega) (by omega))
    have b3 := isL_b (h (s + 1 + 1 + 1) (by omega) (by omega))
    have b4 := isL_b (h (s + 1 + 1 + 1 + 1) (by omega) (by omega))
    have b5 := isL_b (h (s + 1 + 1 + 1 + 1 + 1) (by omega) (by omega))
    simp only [wM, wX, List.getD_cons_succ, List.getD_cons_zero, mWd, ltF, List.length_cons, List.length_nil, and_true]
    omega
theorem lt_w7 {B : Int → Int} {s : Int} {m : Nat} (h1 : 1 ≤ m) (h6 : m ≤ 6) (h : ∀ k : Int, s ≤ k → k < s + m → isL (B k)) : wM B s (s + m) 7 ↔ ltF B s 0 m = 869407532 := by
  have hm : m = 1 ∨ m = 2 ∨ m = 3 ∨ m = 4 ∨ m = 5 ∨ m = 6 := by omega
  rcases hm with rfl | rfl | rfl | rfl | rfl | rfl
  · have b0 := isL_b (h (s) (by omega) (by omega))
    simp only [wM, wX, List.getD_cons_succ, List.getD_cons_zero, mWd, ltF, List.length_cons, List.length_nil, and_true]
    omega
  · have b0 := isL_b (h (s) (by omega) (by omega))
    have b1 := isL_b (h (s + 1) (by omega) (by omega))
    simp only [wM, wX, List.getD_cons_succ, List.getD_cons_zero, mWd, ltF, List.length_cons, List.length_nil, and_true]
    omega
  · have b0 := isL_b (h (s) (by omega) (by omega))
    have b1 := isL_b (h (s + 1) (by omega) (by omega))
    have b2 := isL_b (h (s + 1 + 1) (by omega) (by omega))
    simp only [wM, wX, List.getD_cons_succ, List.getD_cons_zero, mWd, ltF, List.length_cons, List.length_nil, and_true]
    omega
  · have b0 := isL_b (h (s) (by omega) (by omega))
    have b1 := isL_b (h (s + 1) (by omega) (by omega))
    have b2 := isL_b (h (s + 1 + 1) (by omega) (by omega))
    have b3 := isL_b (h (s + 1 + 1 + 1) (by omega) (by omega))
    simp only [wM, wX, List.getD_cons_succ, List.getD_cons_zero, mWd, ltF, List.length_cons, List.length_nil, and_true]
    omega
  · have b0 := isL_b (h (s) (by omega) (by omega))
    have b1 := isL_b (h (s + 1) (by omega) (by omega))
    have b2 := isL_b (h (s + 1 + 1) (by omega) (by omega))
    have b3 := isL_b (h (s + 1 + 1 + 1) (by omega) (by omega))
    have b4 := isL_b (h (s + 1 + 1 + 1 + 1) (by omega) (by omega))
    simp only [wM, wX, List.getD_cons_succ, List.getD_cons_zero, mWd, ltF, List.length_cons, List.length_nil, and_true]
    omega
  · have b0 := isL_b (h (s) (by omega) (by omega))
    have b1 := isL_b (h (s + 1) (by omega) (by omega))
    have b2 := isL_b (h (s + 1 + 1) (by omega) (by omega))
    have b3 := isL_b (h (s + 1 + 1 + 1) (by omega) (by omega))
    have b4 := isL_b (h (s + 1 + 1 + 1 + 1) (by omega) (by omega))
    have b5 := isL_b (h (s + 1 + 1 + 1 + 1 + 1) (by omega) (by omega))
    simp only [wM, wX, List.getD_cons_succ, List.getD_cons_zero, mWd, ltF, List.length_cons, List.length_nil, and_true]
    omega
theorem lt_w8 {B : Int → Int} {s : Int} {m : Nat} (h1 : 1 ≤ m) (h6 : m ≤ 6) (h : ∀ k : Int, s ≤ k → k < s + m → isL (B k)) : wM B s (s + m) 8 ↔ ltF B s 0 m = 14584174 := by
  have hm : m = 1 ∨ m = 2 ∨ m = 3 ∨ m = 4 ∨ m = 5 ∨ m = 6 := by omega
  rcases hm with rfl | rfl | rfl | rfl | rfl | rfl
  · have b0 := isL_b (h (s) (by omega) (by omega))
    simp only [wM, wX, List.getD_cons_succ, List.getD_cons_zero, mWd, ltF, List.length_cons, List.length_nil, and_true]
    omega
  · have b0 := isL_b (h (s) (by omega) (by omega))
    have b1 := isL_b (h (s + 1) (by omega) (by omega))
    simp only [wM, wX, List.getD_cons_succ, List.getD_cons_zero, mWd, ltF, List.length_cons, List.length_nil, and_true]
    omega
  · have b0 := isL_b (h (s) (by omega) (by omega))
    have b1 := isL_b (h (s + 1) (by omega) (by omega))
    have b2 := isL_b (h (s + 1 + 1) (by omega) (by omega))
    simp only [wM, wX, List.getD_cons_succ, List.getD_cons_zero, mWd, ltF, List.length_cons, List.length_nil, and_true]
    omega
  · have b0 := isL_b (h (s) (by omega) (by omega))
    have b1 := isL_b (h (s + 1) (by omega) (by omega))
    have b2 := isL_b (h (s + 1 + 1) (by omega) (by omega))
    have b3 := isL_b (h (s + 1 + 1 + 1) (by omega) (by omega))
    simp only [wM, wX, List.getD_cons_succ, List.getD_cons_zero, mWd, ltF, List.length_cons, List.length_nil, and_true]
    omega
  · have b0 := isL_b (h (s) (by omega) (by omega))
    have b1 := isL_b (h (s + 1) (by omega) (by omega))
    have b2 := isL_b (h (s + 1 + 1) (by omega) (by omega))
    have b3 := isL_b (h (s + 1 + 1 + 1) (by omega) (by omega))
    have b4 := isL_b (h (s + 1 + 1 + 1 + 1) (by omega) (by omega))
    simp only [wM, wX, List.getD_cons_succ, List.getD_cons_zero, mWd, ltF, List.length_cons, List.length_nil, and_true]
    omega
  · have b0 := isL_b (h (s) (by omega) (by omega))
    have b1 := isL_b (h (s + 1) (by omega) (by omega))
    have b2 := isL_b (h (s + 1 + 1) (by omega) (by omega))
    have b3 := isL_b (h (s + 1 + 1 + 1) (by omega) (by omega))
    have b4 := isL_b (h (s + 1 + 1 + 1 + 1) (by omega) (by omega))
    have b5 := isL_b (h (s + 1 + 1 + 1 + 1 + 1) (by omega) (by omega))
    simp only [wM, wX, List.getD_cons_succ, List.getD_cons_zero, mWd, ltF, List.length_cons, List.length_nil, and_true]
    omega
theorem lt_w9 {B : Int → Int} {s : Int} {m : Nat} (h1 : 1 ≤ m) (h6 : m ≤ 6) (h : ∀ k : Int, s ≤ k → k < s + m → isL (B k)) : wM B s (s + m) 9 ↔ ltF B s 0 m = 10395045 := by
  have hm : m = 1 ∨ m = 2 ∨ m = 3 ∨ m = 4 ∨ m = 5 ∨ m = 6 := by omega
  rcases hm with rfl | rfl | rfl | rfl | rfl | rfl
  · have b0 := isL_b (h (s) (by omega) (by omega))
    simp only [wM, wX, List.getD_cons_succ, List.getD_cons_zero, mWd, ltF, List.length_cons, List.length_nil, and_true]
    omega
  · have b0 := isL_b (h (s) (by omega) (by omega))
    have b1 := isL_b (h (s + 1) (by omega) (by omega))
    simp only [wM, wX, List.getD_cons_succ, List.getD_cons_zero, mWd, ltF, List.length_cons, List.length_nil, and_true]
    omega
  · have b0 := isL_b (h (s) (by omega) (by omega))
    have b1 := isL_b (h (s + 1) (by omega) (by omega))
    have b2 := isL_b (h (s + 1 + 1) (by omega) (by omega))
    simp only [wM, wX, List.getD_cons_succ, List.getD_cons_zero, mWd, ltF, List.length_cons, List.length_nil, and_true]
    omega
  · have b0 := isL_b (h (s) (by omega) (by omega))
    have b1 := isL_b (h (s + 1) (by omega) (by omega))
    have b2 := isL_b (h (s + 1 + 1) (by omega) (by omega))
    have b3 := isL_b (h (s + 1 + 1 + 1) (by omega) (by omega))
    simp only [wM, wX, List.getD_cons_succ, List.getD_cons_zero, mWd, ltF, List.length_cons, List.length_nil, and_true]
    omega
  · have b0 := isL_b (h (s) (by omega) (by omega))
    have b1 := isL_b (h (s + 1) (by omega) (by omega))
    have b2 := isL_b (h (s + 1 + 1) (by omega) (by omega))
    have b3 := isL_b (h (s + 1 + 1 + 1) (by omega) (by omega))
    have b4 := isL_b (h (s + 1 + 1 + 1 + 1) (by omega) (by omega))
    simp only [wM, wX, List.getD_cons_succ, List.getD_cons_zero, mWd, ltF, List.length_cons, List.length_nil, and_true]
    omega
  · have b0 := isL_b (h (s) (by omega) (by omega))
    have b1 := isL_b (h (s + 1) (by omega) (by omega))
    have b2 := isL_b (h (s + 1 + 1) (by omega) (by omega))
    have b3 := isL_b (h (s + 1 + 1 + 1) (by omega) (by omega))
    have b4 := isL_b (h (s + 1 + 1 + 1 + 1) (by omega) (by omega))
    have b5 := isL_b (h (s + 1 + 1 + 1 + 1 + 1) (by omega) (by omega))
    simp only [wM, wX, List.getD_cons_succ, List.getD_cons_zero, mWd, ltF, List.length_cons, List.length_nil, and_true]
    omega
theorem lt_w10 {B : Int → Int} {s : Int} {m : Nat} (h1 : 1 ≤ m) (h6 : m ≤ 6) (h : ∀ k : Int, s ≤ k → k < s + m → isL (B k)) : wM B s (s + m) 10 ↔ ltF B s 0 m = 3058 := by
  have hm : m = 1 ∨ m = 2 ∨ m = 3 ∨ m = 4 ∨ m = 5 ∨ m = 6 := by omega
  rcases hm with rfl | rfl | rfl | rfl | rfl | rfl
  · have b0 := isL_b (h (s) (by omega) (by omega))
    simp only [wM, wX, List.getD_cons_succ, List.getD_cons_zero, mWd, ltF, List.length_cons, List.length_nil, and_true]
    omega
  · have b0 := isL_b (h (s) (by omega) (by omega))
    have b1 := isL_b (h (s + 1) (by omega) (by omega))
    simp only [wM, wX, List.getD_cons_succ, List.getD_cons_zero, mWd, ltF, List.length_cons, List.length_nil, and_true]
    omega
  · have b0 := isL_b (h (s) (by omega) (by omega))
    have b1 := isL_b (h (s + 1) (by omega) (by omega))
    have b2 := isL_b (h (s + 1 + 1) (by omega) (by omega))
    simp only [wM, wX, List.getD_cons_succ, List.getD_cons_zero, mWd, ltF, List.length_cons, List.length_nil, and_true]
    omega
  · have b0 := isL_b (h (s) (by omega) (by omega))
    have b1 := isL_b (h (s + 1) (by omega) (by omega))
    have b2 := isL_b (h (s + 1 + 1) (by omega) (by omega))
    have b3 := isL_b (h (s + 1 + 1 + 1) (by omega) (by omega))
    simp only [wM, wX, List.getD_cons_succ, List.getD_cons_zero, mWd, ltF, List.length_cons, List.length_nil, and_true]
    omega
  · have b0 := isL_b (h (s) (by omega) (by omega))
    have b1 := isL_b (h (s + 1) (by omega) (by omega))
    have b2 := isL_b (h (s + 1 + 1) (by omega) (by omega))
    have b3 := isL_b (h (s + 1 + 1 + 1) (by omega) (by omega))
    have b4 := isL_b (h (s + 1 + 1 + 1 + 1) (by omega) (by omega))
    simp only [wM, wX, List.getD_cons_succ, List.getD_cons_zero, mWd, ltF, List.length_cons, List.length_nil, and_true]
    omega
  · have b0 := isL_b (h (s) (by omega) (by omega))
    have b1 := isL_b (h (s + 1) (by omega) (by omega))
    have b2 := isL_b (h (s + 1 + 1) (by omega) (by omega))
    have b3 := isL_b (h (s + 1 + 1 + 1) (by omega) (by omega))
    have b4 := isL_b (h (s + 1 + 1 + 1 + 1) (by omega) (by omega))
    have b5 := isL_b (h (s + 1 + 1 + 1 + 1 + 1) (by omega) (by omega))
    simp only [wM, wX, List.getD_cons_succ, List.getD_cons_zero, mWd, ltF, List.length_cons, List.length_nil, and_true]
    omega
theorem lt_w11 {B : Int → Int} {s : Int} {m : Nat} (h1 : 1 ≤ m) (h6 : m ≤ 6) (h : ∀ k : Int, s ≤ k → k < s + m → isL (B k)) : wM B s (s + m) 11 ↔ ltF B s 0 m = 138148 := by
  have hm : m = 1 ∨ m = 2 ∨ m = 3 ∨ m = 4 ∨ m = 5 ∨ m = 6 := by omega
  rcases hm with rfl | rfl | rfl | rfl | rfl | rfl
  · have b0 := isL_b (h (s) (by omega) (by omega))
    simp only [wM, wX, List.getD_cons_succ, List.getD_cons_zero, mWd, ltF, List.length_cons, List.length_nil, and_true]
    omega
  · have b0 := isL_b (h (s) (by omega) (by omega))
    have b1 := isL_b (h (s + 1) (by omega) (by omega))
    simp only [wM, wX, List.getD_cons_succ, List.getD_cons_zero, mWd, ltF, List.length_cons, List.length_nil, and_true]
    omega
  · have b0 := isL_b (h (s) (by omega) (by omega))
    have b1 := isL_b (h (s + 1) (by omega) (by omega))
    have b2 := isL_b (h (s + 1 + 1) (by omega) (by omega))
    simp only [wM, wX, List.getD_cons_succ, List.getD_cons_zero, mWd, ltF, List.length_cons, List.length_nil, and_true]
    omega
  · have b0 := isL_b (h (s) (by omega) (by omega))
    have b1 := isL_b (h (s + 1) (by omega) (by omega))
    have b2 := isL_b (h (s + 1 + 1) (by omega) (by omega))
    have b3 := isL_b (h (s + 1 + 1 + 1) (by omega) (by omega))
    simp only [wM, wX, List.getD_cons_succ, List.getD_cons_zero, mWd, ltF, List.length_cons, List.length_nil, and_true]
    omega
  · have b0 := isL_b (h (s) (by omega) (by omega))
    have b1 := isL_b (h (s + 1) (by omega) (by omega))
    have b2 := isL_b (h (s + 1 + 1) (by omega) (by omega))
    have b3 := isL_b (h (s + 1 + 1 + 1) (by omega) (by omega))
    have b4 := isL_b (h (s + 1 + 1 + 1 + 1) (by omega) (by omega))
    simp only [wM, wX, List.getD_cons_succ, List.getD_cons_zero, mWd, ltF, List.length_cons, List.length_nil, and_true]
    omega
  · have b0 := isL_b (h (s) (by omega) (by omega))
    have b1 := isL_b (h (s + 1) (by omega) (by omega))
    have b2 := isL_b (h (s + 1 + 1) (by omega) (by omega))
    have b3 := isL_b (h (s + 1 + 1 + 1) (by omega) (by omega))
    have b4 := isL_b (h (s + 1 + 1 + 1 + 1) (by omega) (by omega))
    have b5 := isL_b (h (s + 1 + 1 + 1 + 1 + 1) (by omega) (by omega))
    simp only [wM, wX, List.getD_cons_succ, List.getD_cons_zero, mWd, ltF, List.length_cons, List.length_nil, and_true]
    omega
theorem lt_w12 {B : Int → Int} {s : Int} {m : Nat} (h1 : 1 ≤ m) (h6 : m ≤ 6) (h : ∀ k : Int, s ≤ k → k < s + m → isL (B k)) : wM B s (s + m) 12 ↔ ltF B s 0 m = 191476 := by
  have hm : m = 1 ∨ m = 2 ∨ m = 3 ∨ m = 4 ∨ m = 5 ∨ m = 6 := by omega
  rcases hm with rfl | rfl | rfl | rfl | rfl | rfl
  · have b0 := isL_b (h (s) (by omega) (by omega))
    simp only [wM, wX, List.getD_cons_succ, List.getD_cons_zero, mWd, ltF, List.length_cons, List.length_nil, and_true]
    omega
  · have b0 := isL_b (h (s) (by omega) (by omega))
    have b1 := isL_b (h (s + 1) (by omega) (by omega))
    simp only [wM, wX, List.getD_cons_succ, List.getD_cons_zero, mWd, ltF, List.length_cons, List.length_nil, and_true]
    omega
  · have b0 := isL_b (h (s) (by omega) (by omega))
    have b1 := isL_b (h (s + 1) (by omega) (by omega))
    have b2 := isL_b (h (s + 1 + 1) (by omega) (by omega))
    simp only [wM, wX, List.getD_cons_succ, List.getD_cons_zero, mWd, ltF, List.length_cons, List.length_nil, and_true]
    omega
  · have b0 := isL_b (h (s) (by omega) (by omega))
    have b1 := isL_b (h (s + 1) (by omega) (by omega))
    have b2 := isL_b (h (s + 1 + 1) (by omega) (by omega))
    have b3 := isL_b (h (s + 1 + 1 + 1) (by omega) (by omega))
    simp only [wM, wX, List.getD_cons_succ, List.getD_cons_zero, mWd, ltF, List.length_cons, List.length_nil, and_true]
    omega
  · have b0 := isL_b (h (s) (by omega) (by omega))
    have b1 := isL_b (h (s + 1) (by omega) (by omega))
    have b2 := isL_b (h (s + 1 + 1) (by omega) (by omega))
    have b3 := isL_b (h (s + 1 + 1 + 1) (by omega) (by omega))
    have b4 := isL_b (h (s + 1 + 1 + 1 + 1) (by omega) (by omega))
    simp only [wM, wX, List.getD_cons_succ, List.getD_cons_zero, mWd, ltF, List.length_cons, List.length_nil, and_true]
    omega
  · have b0 := isL_b (h (s) (by omega) (by omega))
    have b1 := isL_b (h (s + 1) (by omega) (by omega))
    have b2 := isL_b (h (s + 1 + 1) (by omega) (by omega))
    have b3 := isL_b (h (s + 1 + 1 + 1) (by omega) (by omega))
    have b4 := isL_b (h (s + 1 + 1 + 1 + 1) (by omega) (by omega))
    have b5 := isL_b (h (s + 1 + 1 + 1 + 1 + 1) (by omega) (by omega))
    simp only [wM, wX, List.getD_cons_succ, List.getD_cons_zero, mWd, ltF, List.length_cons, List.length_nil, and_true]
    omega
theorem lt_w13 {B : Int → Int} {s : Int} {m : Nat} (h1 : 1 ≤ m) (h6 : m ≤ 6) (h : ∀ k : Int, s ≤ k → k < s + m → isL (B k)) : wM B s (s + m) 13 ↔ ltF B s 0 m = 186990 := by
  have hm : m = 1 ∨ m = 2 ∨ m = 3 ∨ m = 4 ∨ m = 5 ∨ m = 6 := by omega
  rcases hm with rfl | rfl | rfl | rfl | rfl | rfl
  · have b0 := isL_b (h (s) (by omega) (by omega))
    simp only [wM, wX, List.getD_cons_succ, List.getD_cons_zero, mWd, ltF, List.length_cons, List.length_nil, and_true]
    omega
  · have b0 := isL_b (h (s) (by omega) (by omega))
    have b1 := isL_b (h (s + 1) (by omega) (by omega))
    simp only [wM, wX, List.getD_cons_succ, List.getD_cons_zero, mWd, ltF, List.length_cons, List.length_nil, and_true]
    omega
  · have b0 := isL_b (h (s) (by omega) (by omega))
    have b1 := isL_b (h (s + 1) (by omega) (by omega))
    have b2 := isL_b (h (s + 1 + 1) (by omega) (by omega))
    simp only [wM, wX, List.getD_cons_succ, List.getD_cons_zero, mWd, ltF, List.length_cons, List.length_nil, and_true]
    omega
  · have b0 := isL_b (h (s) (by omega) (by omega))
    have b1 := isL_b (h (s + 1) (by omega) (by omega))
    have b2 := isL_b (h (s + 1 + 1) (by omega) (by omega))
    have b3 := isL_b (h (s + 1 + 1 + 1) (by omega) (by omega))
    simp only [wM, wX, List.getD_cons_succ, List.getD_cons_zero, mWd, ltF, List.length_cons, List.length_nil, and_true]
    omega
  · have b0 := isL_b (h (s) (by omega) (by omega))
    have b1 := isL_b (h (s + 1) (by omega) (by omega))
    have b2 := isL_b (h (s + 1 + 1) (by omega) (by omega))
    have b3 := isL_b (h (s + 1 + 1 + 1) (by omega) (by omega))
    have b4 := isL_b (h (s + 1 + 1 + 1 + 1) (by omega) (by omega))
    simp only [wM, wX, List.getD_cons_succ, List.getD_cons_zero, mWd, ltF, List.length_cons, List.length_nil, and_true]
    omega
  · have b0 := isL_b (h (s) (by omega) (by omega))
    have b1 := isL_b (h (s + 1) (by omega) (by omega))
    have b2 := isL_b (h (s + 1 + 1) (by omega) (by omega))
    have b3 := isL_b (h (s + 1 + 1 + 1) (by omega) (by omega))
    have b4 := isL_b (h (s + 1 + 1 + 1 + 1) (by omega) (by omega))
    have b5 := isL_b (h (s + 1 + 1 + 1 + 1 + 1) (by omega) (by omega))
    simp only [wM, wX, List.getD_cons_succ, List.getD_cons_zero, mWd, ltF, List.length_cons, List.length_nil, and_true]
    omega
theorem lt_w14 {B : Int → Int} {s : Int} {m : Nat} (h1 : 1 ≤ m) (h6 : m ≤ 6) (h : ∀ k : Int, s ≤ k → k < s + m → isL (B k)) : wM B s (s + m) 14 ↔ ltF B s 0 m = 186488 := by
  have hm : m = 1 ∨ m = 2 ∨ m = 3 ∨ m = 4 ∨ m = 5 ∨ m = 6 := by omega
  rcases hm with rfl | rfl | rfl | rfl | rfl | rfl
  · have b0 := isL_b (h (s) (by omega) (by omega))
    simp only [wM, wX, List.getD_cons_succ, List.getD_cons_zero, mWd, ltF, List.length_cons, List.length_nil, and_true]
    omega
  · have b0 := isL_b (h (s) (by omega) (by omega))
    have b1 := isL_b (h (s + 1) (by omega) (by omega))
    simp only [wM, wX, List.getD_cons_succ, List.getD_cons_zero, mWd, ltF, List.length_cons, List.length_nil, and_true]
    omega
  · have b0 := isL_b (h (s) (by omega) (by omega))
    have b1 := isL_b (h (s + 1) (by omega) (by omega))
    have b2 := isL_b (h (s + 1 + 1) (by omega) (by omega))
    simp only [wM, wX, List.getD_cons_succ, List.getD_cons_zero, mWd, ltF, List.length_cons, List.length_nil, and_true]
    omega
  · have b0 := isL_b (h (s) (by omega) (by omega))
    have b1 := isL_b (h (s + 1) (by omega) (by omega))
    have b2 := isL_b (h (s + 1 + 1) (by omega) (by omega))
    have b3 := isL_b (h (s + 1 + 1 + 1) (by omega) (by omega))
    simp only [wM, wX, List.getD_cons_succ, List.getD_cons_zero, mWd, ltF, List.length_cons, List.length_nil, and_true]
    omega
  · have b0 := isL_b (h (s) (by omega) (by omega))
    have b1 := isL_b (h (s + 1) (by omega) (by omega))
    have b2 := isL_b (h (s + 1 + 1) (by omega) (by omega))
    have b3 := isL_b (h (s + 1 + 1 + 1) (by omega) (by omega))
    have b4 := isL_b (h (s + 1 + 1 + 1 + 1) (by omega) (by omega))
    simp only [wM, wX, List.getD_cons_succ, List.getD_cons_zero, mWd, ltF, List.length_cons, List.length_nil, and_true]
    omega
  · have b0 := isL_b (h (s) (by omega) (by omega))
    have b1 := isL_b (h (s + 1) (by omega) (by omega))
    have b2 := isL_b (h (s + 1 + 1) (by omega) (by omega))
    have b3 := isL_b (h (s + 1 + 1 + 1) (by omega) (by omega))
    have b4 := isL_b (h (s + 1 + 1 + 1 + 1) (by omega) (by omega))
    have b5 := isL_b (h (s + 1 + 1 + 1 + 1 + 1) (by omega) (by omega))
    simp only [wM, wX, List.getD_cons_succ, List.getD_cons_zero, mWd, ltF, List.length_cons, List.length_nil, and_true]
    omega
