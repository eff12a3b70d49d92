/-! SETS OF BITS -/
noncomputable def dB (p : Prop) : Bool := @decide p (Classical.propDecidable p)
theorem dB_t {p : Prop} : dB p = true ↔ p := @decide_eq_true_iff p (Classical.propDecidable p)
theorem dB_f {p : Prop} : dB p = false ↔ ¬ p := by rw [← Bool.not_eq_true, dB_t]
def nb (f : Nat → Bool) : Nat → Nat
  | 0 => 0
  | n + 1 => nb f n + (if f n then 2 ^ n else 0)
def rk (f : Nat → Bool) : Nat → Nat
  | 0 => 0
  | n + 1 => rk f n + (if f n then 1 else 0)
theorem rk_su (f : Nat → Bool) (n : Nat) : rk f (n + 1) = rk f n + (if f n then 1 else 0) := rfl
theorem nb_lt (f : Nat → Bool) : ∀ n, nb f n < 2 ^ n := by
  intro n
  induction n with
  | zero => exact Nat.one_pos
  | succ n ih => unfold nb; rw [Nat.pow_succ]; split <;> omega
theorem nb_tb (f : Nat → Bool) : ∀ n t, (nb f n).testBit t = (decide (t < n) && f t) := by
  intro n
  induction n with
  | zero => intro t; simp [nb]
  | succ n ih =>
    intro t
    have hl := nb_lt f n
    unfold nb
    cases hf : f n with
    | false =>
      simp only [hf, Bool.false_eq_true, if_false, Nat.add_zero]
      rw [ih t]
      by_cases h : t < n
      · simp [h, show t < n + 1 by omega]
      · by_cases h2 : t = n
        · subst h2; simp [hf]
        · simp [h, show ¬ t < n + 1 by omega]
    | true =>
      simp only [hf, if_true]
      rw [Nat.add_comm, show 2 ^ n + nb f n = 2 ^ n * 1 + nb f n by simp, Nat.testBit_two_pow_mul_add _ hl]
      by_cases h : t < n
      · rw [if_pos h, ih t]; simp [h, show t < n + 1 by omega]
      · rw [if_neg h]
        by_cases h2 : t = n
        · subst h2; simp [hf]
        · have : t - n ≠ 0 := by omega
          obtain ⟨k, hk⟩ := Nat.exists_eq_succ_of_ne_zero this
          rw [hk]
          simp [Nat.testBit_succ, show ¬ t < n + 1 by omega]
theorem tb_ext {a b : Nat} (h : ∀ t, a.testBit t = b.testBit t) : a = b := Nat.eq_of_testBit_eq h
theorem nb_congr {f g : Nat → Bool} (n : Nat) (h : ∀ t, t < n → f t = g t) : nb f n = nb g n := by
  apply tb_ext
  intro t
  rw [nb_tb, nb_tb]
  by_cases ht : t < n
  · rw [h t ht]
  · simp [ht]
theorem rk_congr {f g : Nat → Bool} : ∀ n : Nat, (∀ t, t < n → f t = g t) → rk f n = rk g n := by
  intro n
  induction n with
  | zero => intro _; rfl
  | succ n ih => intro h; unfold rk; rw [ih (fun t ht => h t (by omega)), h n (by omega)]
theorem rk_le (f : Nat → Bool) : ∀ n, rk f n ≤ n := by
  intro n
  induction n with
  | zero => exact Nat.le_refl 0
  | succ n ih => unfold rk; split <;> omega
theorem rk_mono (f : Nat → Bool) : ∀ {m n : Nat}, m ≤ n → rk f m ≤ rk f n := by
  intro m n h
  induction n with
  | zero => rw [show m = 0 by omega]; exact Nat.le_refl _
  | succ n ih =>
    by_cases e : m = n + 1
    · rw [e]; exact Nat.le_refl _
    · have := ih (by omega)
      rw [rk_su]
      omega
theorem rk_lt {f : Nat → Bool} {s p : Nat} (h : s < p) (hs : f s = true) : rk f s < rk f p := by
  have := rk_mono f (m := s + 1) (n := p) h
  rw [rk_su, if_pos hs] at this
  omega
theorem rk_at (f : Nat → Bool) (m : Nat) : ∀ t, m < rk f t → ∃ s, s < t ∧ f s = true ∧ rk f s = m := by
  intro t
  induction t with
  | zero => intro h; unfold rk at h; omega
  | succ t ih =>
    intro h
    unfold rk at h
    by_cases hm : m < rk f t
    · obtain ⟨s, h1, h2⟩ := ih hm
      exact ⟨s, by omega, h2⟩
    · cases hf : f t with
      | true => exact ⟨t, by omega, hf, by rw [if_pos hf] at h; omega⟩
      | false => rw [hf] at h; simp at h; omega
/-- a number less 1, by its lowest bit -/
theorem low_bit {x p : Nat} (h1 : x.testBit p = true) (h0 : ∀ t, t < p → x.testBit t = false) (t : Nat) : (x &&& (x - 1)).testBit t = (x.testBit t && !decide (t = p)) := by
  have hm : x % 2 ^ p = 0 := by
    apply tb_ext
    intro t
    rw [Nat.testBit_mod_two_pow, Nat.zero_testBit]
    by_cases h : t < p
    · rw [h0 t h]; simp
    · simp [h]
  have ho : x / 2 ^ p % 2 = 1 := by
    have := Nat.testBit_eq_decide_div_mod_eq (x := x) (i := p)
    rw [h1] at this
    simpa using this.symm
  have hx : x = 2 ^ p * (2 * (x / 2 ^ p / 2) + 1) := by
    have e1 := Nat.div_add_mod x (2 ^ p)
    have e2 := Nat.div_add_mod (x / 2 ^ p) 2
    rw [ho] at e2
    rw [e2]
    omega
  generalize x / 2 ^ p / 2 = q at hx
  have hp : 1 ≤ 2 ^ p := Nat.one_le_two_pow
  have hx1 : x - 1 = 2 ^ p * (2 * q) + (2 ^ p - 1) := by
    rw [hx, Nat.mul_add]
    omega
  rw [Nat.testBit_and, hx1, Nat.testBit_two_pow_mul_add _ (by omega)]
  by_cases h : t < p
  · rw [h0 t h]; simp
  · rw [if_neg h]
    by_cases e : t = p
    · subst e
      simp
    · have e2 : x.testBit t = (2 * q + 1).testBit (t - p) := by
        rw [hx, show 2 ^ p * (2 * q + 1) = 2 ^ p * (2 * q + 1) + 0 by rfl, Nat.testBit_two_pow_mul_add _ (by omega), if_neg h]
      rw [e2]
      obtain ⟨k, hk⟩ := Nat.exists_eq_succ_of_ne_zero (show t - p ≠ 0 by omega)
      rw [hk, Nat.succ_eq_add_one, Nat.testBit_succ, Nat.testBit_succ, show (2 * q + 1) / 2 = q by omega, show 2 * q / 2 = q by omega]
      simp [e]
def bey (f : Nat → Bool) (n m : Nat) : Nat := nb (fun t => f t && decide (m ≤ rk f t)) n
theorem bey_0 (f : Nat → Bool) (n : Nat) : bey f n 0 = nb f n := nb_congr n (fun t _ => by simp)
theorem bey_clr {f : Nat → Bool} {n m : Nat} (h : bey f n m ≠ 0) : bey f n m &&& (bey f n m - 1) = bey f n (m + 1) := by
  have hx : ∃ t, t < n ∧ f t = true ∧ m ≤ rk f t := by
    apply Classical.byContradiction
    intro hc
    apply h
    apply tb_ext
    intro t
    unfold bey
    rw [nb_tb, Nat.zero_testBit]
    by_cases h1 : t < n
    · cases hf : f t with
      | false => simp
      | true =>
        have : ¬ m ≤ rk f t := fun q => hc ⟨t, h1, hf, q⟩
        simp [this]
    · simp [h1]
  obtain ⟨t0, ht0, hf0, hm0⟩ := hx
  have hp : ∃ p, p < n ∧ f p = true ∧ rk f p = m := by
    by_cases e : rk f t0 = m
    · exact ⟨t0, ht0, hf0, e⟩
    · obtain ⟨s, h1, h2, h3⟩ := rk_at f m t0 (by omega)
      exact ⟨s, by omega, h2, h3⟩
  obtain ⟨p, hpn, hpf, hpm⟩ := hp
  apply tb_ext
  intro t
  rw [low_bit (p := p)]
  · unfold bey
    rw [nb_tb, nb_tb]
    by_cases h1 : t < n
    · cases hf : f t with
      | false => simp
      | true =>
        by_cases e : t = p
        · subst e; simp [hpm]
        · rcases Nat.lt_or_gt_of_ne e with q | q
          · have := rk_lt q hf
            simp [e, show ¬ m ≤ rk f t by omega, show ¬ m + 1 ≤ rk f t by omega]
          · have := rk_lt q hpf
            simp [e, show m ≤ rk f t by omega, show m + 1 ≤ rk f t by omega, h1]
    · simp [h1]
  · unfold bey; rw [nb_tb]; simp [hpn, hpf, hpm]
  · intro t ht
    unfold bey
    rw [nb_tb]
    cases hf : f t with
    | false => simp
    | true =>
      have := rk_lt ht hf
      simp [show ¬ m ≤ rk f t by omega]
theorem bey_z {f : Nat → Bool} {n m : Nat} (h : bey f n m = 0) : bey f n (m + 1) = 0 := by
  apply tb_ext
  intro t
  have := congrArg (fun x => x.testBit t) h
  unfold bey at this ⊢
  simp only [nb_tb, Nat.zero_testBit] at this ⊢
  by_cases h1 : t < n
  · cases hf : f t with
    | false => simp
    | true =>
      simp [hf, h1] at this
      simp [show ¬ m + 1 ≤ rk f t by omega]
  · simp [h1]
/-- the first twelve of a set -/
theorem first12 (f : Nat → Bool) (n : Nat) : nb f n ^^^ (nb f n &&& bey f n 12) = nb (fun t => f t && decide (rk f t < 12)) n := by
  apply tb_ext
  intro t
  unfold bey
  rw [Nat.testBit_xor, Nat.testBit_and, nb_tb, nb_tb, nb_tb]
  by_cases h1 : t < n
  · cases hf : f t with
    | false => simp
    | true =>
      by_cases h2 : 12 ≤ rk f t
      · simp [h1, h2]
      · simp [h1, h2, show rk f t < 12 by omega]
  · simp [h1]
theorem rk_nb (f : Nat → Bool) (n : Nat) : ∀ m, m ≤ n → rk (fun t => (nb f n).testBit t) m = rk f m := by
  intro m hm
  exact rk_congr m (fun t ht => by rw [nb_tb]; simp [show t < n by omega])
/-! a set's many -/
theorem land_cat {a b m k e : Nat} (ha : a < 2 ^ e) (hm : m < 2 ^ e) : (2 ^ e * b + a) &&& (2 ^ e * k + m) = 2 ^ e * (b &&& k) + (a &&& m) := by
  apply tb_ext
  intro t
  rw [Nat.testBit_and, Nat.testBit_two_pow_mul_add _ ha, Nat.testBit_two_pow_mul_add _ hm, Nat.testBit_two_pow_mul_add _ (Nat.lt_of_le_of_lt Nat.and_le_left ha)]
  split
  · rw [Nat.testBit_and]
  · rw [Nat.testBit_and]
def q1 (x : Nat) : Nat := x - ((x / 2) &&& 1431655765)
def q2 (x : Nat) : Nat := (x &&& 858993459) + ((x / 4) &&& 858993459)
def q3 (x : Nat) : Nat := (x + x / 16) &&& 252645135
def q4 (x : Nat) : Nat := x + x / 256
def q5 (x : Nat) : Nat := x + x / 65536
theorem land3 {a b c m : Nat} (ha : a < 256) (hb : b < 256) (hm : m < 256) : (65536 * c + 256 * b + a) &&& (65536 * (m * 256 + m) + 256 * m + m) = 65536 * (c &&& (m * 256 + m)) + 256 * (b &&& m) + (a &&& m) := by
  have e1 := land_cat (a := a) (b := 256 * c + b) (m := m) (k := 256 * (m * 256 + m) + m) (e := 8) ha hm
  have e2 := land_cat (a := b) (b := c) (m := m) (k := m * 256 + m) (e := 8) hb hm
  rw [show (2 : Nat) ^ 8 = 256 by rfl] at e1 e2
  rw [e2] at e1
  rw [show 65536 * c + 256 * b + a = 256 * (256 * c + b) + a by omega, show 65536 * (m * 256 + m) + 256 * m + m = 256 * (256 * (m * 256 + m) + m) + m by omega, e1]
  omega
set_option maxRecDepth 100000 in
theorem by1 : ∀ a, a < 256 → (∀ o, o < 2 → ((a / 2 + 128 * o) &&& 85) = ((a / 2) &&& 85)) ∧ ((a / 2) &&& 85) ≤ a ∧ a - ((a / 2) &&& 85) ≤ 170 ∧ (a / 2 &&& 21845) = (a / 2 &&& 85) := by decide +kernel
set_option maxRecDepth 100000 in
theorem by2 : ∀ a, a < 171 → (∀ o, o < 4 → ((a / 4 + 64 * o) &&& 51) = ((a / 4) &&& 51)) ∧ (a / 4 &&& 13107) = (a / 4 &&& 51) ∧ (a &&& 13107) = (a &&& 51) := by decide +kernel
set_option maxRecDepth 100000 in
theorem by2b : ∀ a, a < 256 → ((a - ((a / 2) &&& 85)) &&& 51) + ((a - ((a / 2) &&& 85)) / 4 &&& 51) ≤ 68 ∧ (((a - ((a / 2) &&& 85)) &&& 51) + ((a - ((a / 2) &&& 85)) / 4 &&& 51)) % 16 ≤ 4 := by decide +kernel
set_option maxRecDepth 100000 in
theorem by3 : ∀ a, a < 69 → (∀ o, o < 5 → ((a + (a / 16 + 16 * o)) &&& 15) = ((a + a / 16) &&& 15)) ∧ ((a + a / 16) &&& 3855) = ((a + a / 16) &&& 15) := by decide +kernel
def byP (a : Nat) : Nat := (((a - ((a / 2) &&& 85)) &&& 51) + ((a - ((a / 2) &&& 85)) / 4 &&& 51) + (((a - ((a / 2) &&& 85)) &&& 51) + ((a - ((a / 2) &&& 85)) / 4 &&& 51)) / 16) &&& 15
set_option maxRecDepth 100000 in
theorem by4 : ∀ a, a < 256 → byP a = rk (fun t => a.testBit t) 8 := by decide +kernel
theorem rk_add (f : Nat → Bool) (m : Nat) : ∀ k, rk f (m + k) = rk f m + rk (fun t => f (m + t)) k := by
  intro k
  induction k with
  | zero => rfl
  | succ k ih => rw [← Nat.add_assoc, rk_su, ih, rk_su]; omega
theorem pop24 {x : Nat} (hx : x < 16777216) : q5 (q4 (q3 (q2 (q1 x)))) &&& 63 = rk (fun t => x.testBit t) 24 ∧ ((x / 2) &&& 1431655765) ≤ x ∧ q1 x < 16777216 ∧ q2 (q1 x) < 16777216 ∧ q3 (q2 (q1 x)) < 16777216 ∧ q4 (q3 (q2 (q1 x))) < 33554432 ∧ q5 (q4 (q3 (q2 (q1 x)))) < 67108864 := by
  obtain ⟨a, b, c, ha, hb, hc, rfl⟩ : ∃ a b c, a < 256 ∧ b < 256 ∧ c < 256 ∧ x = 65536 * c + 256 * b + a := ⟨x % 256, x / 256 % 256, x / 65536, by omega, by omega, by omega, by omega⟩
  obtain ⟨a1, a2, a3, a4⟩ := by1 a ha
  obtain ⟨b1, b2, b3, b4⟩ := by1 b hb
  obtain ⟨c1, c2, c3, c4⟩ := by1 c hc
  have e0 : (65536 * c + 256 * b + a) / 2 &&& 1431655765 = 65536 * (c / 2 &&& 85) + 256 * (b / 2 &&& 85) + (a / 2 &&& 85) := by
    have := land3 (a := a / 2 + 128 * (b % 2)) (b := b / 2 + 128 * (c % 2)) (c := c / 2) (m := 85) (by omega) (by omega) (by decide)
    rw [show (65536 * c + 256 * b + a) / 2 = 65536 * (c / 2) + 256 * (b / 2 + 128 * (c % 2)) + (a / 2 + 128 * (b % 2)) by omega]
    refine this.trans ?_
    rw [a1 _ (by omega), b1 _ (by omega), show 85 * 256 + 85 = 21845 by rfl, c4]
  have e1 : q1 (65536 * c + 256 * b + a) = 65536 * (c - (c / 2 &&& 85)) + 256 * (b - (b / 2 &&& 85)) + (a - (a / 2 &&& 85)) := by unfold q1; rw [e0]; omega
  have p1 := by2b a ha
  have p2 := by2b b hb
  have p3 := by2b c hc
  have w1 := by4 a ha
  have w2 := by4 b hb
  have w3 := by4 c hc
  unfold byP at w1 w2 w3
  generalize ga : a - (a / 2 &&& 85) = ra at *
  generalize gb : b - (b / 2 &&& 85) = rb at *
  generalize gc : c - (c / 2 &&& 85) = rc at *
  obtain ⟨x1, x2, x3⟩ := by2 ra (by omega)
  obtain ⟨y1, y2, y3⟩ := by2 rb (by omega)
  obtain ⟨z1, z2, z3⟩ := by2 rc (by omega)
  have e2 : q2 (65536 * rc + 256 * rb + ra) = 65536 * ((rc &&& 51) + (rc / 4 &&& 51)) + 256 * ((rb &&& 51) + (rb / 4 &&& 51)) + ((ra &&& 51) + (ra / 4 &&& 51)) := by
    have t1 := land3 (a := ra) (b := rb) (c := rc) (m := 51) (by omega) (by omega) (by decide)
    have t2 := land3 (a := ra / 4 + 64 * (rb % 4)) (b := rb / 4 + 64 * (rc % 4)) (c := rc / 4) (m := 51) (by omega) (by omega) (by decide)
    rw [x1 _ (by omega), y1 _ (by omega), show 51 * 256 + 51 = 13107 by rfl, z2] at t2
    rw [show 51 * 256 + 51 = 13107 by rfl, z3] at t1
    unfold q2
    rw [show (65536 * rc + 256 * rb + ra) / 4 = 65536 * (rc / 4) + 256 * (rb / 4 + 64 * (rc % 4)) + (ra / 4 + 64 * (rb % 4)) by omega]
    rw [show (858993459 : Nat) = 65536 * 13107 + 256 * 51 + 51 by rfl, t1, t2]
    omega
  rw [e1, e2]
  generalize gx : (ra &&& 51) + (ra / 4 &&& 51) = sa at *
  generalize gy : (rb &&& 51) + (rb / 4 &&& 51) = sb at *
  generalize gz : (rc &&& 51) + (rc / 4 &&& 51) = sc at *
  obtain ⟨u1, u2⟩ := by3 sa (by omega)
  obtain ⟨v1, v2⟩ := by3 sb (by omega)
  obtain ⟨k1, k2⟩ := by3 sc (by omega)
  have e3 : q3 (65536 * sc + 256 * sb + sa) = 65536 * ((sc + sc / 16) &&& 15) + 256 * ((sb + sb / 16) &&& 15) + ((sa + sa / 16) &&& 15) := by
    have t1 := land3 (a := sa + (sa / 16 + 16 * (sb % 16))) (b := sb + (sb / 16 + 16 * (sc % 16))) (c := sc + sc / 16) (m := 15) (by omega) (by omega) (by decide)
    rw [u1 _ (by omega), v1 _ (by omega), show 15 * 256 + 15 = 3855 by rfl, k2] at t1
    unfold q3
    rw [show 65536 * sc + 256 * sb + sa + (65536 * sc + 256 * sb + sa) / 16 = 65536 * (sc + sc / 16) + 256 * (sb + (sb / 16 + 16 * (sc % 16))) + (sa + (sa / 16 + 16 * (sb % 16))) by omega]
    rw [show (252645135 : Nat) = 65536 * 3855 + 256 * 15 + 15 by rfl, t1]
  rw [e3, w1, w2, w3]
  have ra8 := rk_le (fun t => a.testBit t) 8
  have rb8 := rk_le (fun t => b.testBit t) 8
  have rc8 := rk_le (fun t => c.testBit t) 8
  have tot : rk (fun t => (65536 * c + 256 * b + a).testBit t) 24 = rk (fun t => a.testBit t) 8 + rk (fun t => b.testBit t) 8 + rk (fun t => c.testBit t) 8 := by
    have s1 := rk_add (fun t => (65536 * c + 256 * b + a).testBit t) 8 16
    have s2 := rk_add (fun t => (65536 * c + 256 * b + a).testBit (8 + t)) 8 8
    rw [s1, s2]
    have f1 : ∀ t, (65536 * c + 256 * b + a).testBit t = if t < 8 then a.testBit t else (256 * c + b).testBit (t - 8) := by
      intro t
      have := Nat.testBit_two_pow_mul_add (256 * c + b) (b := a) (i := 8) ha t
      rw [← this]
      congr 1
      omega
    have f2 : ∀ t, (256 * c + b).testBit t = if t < 8 then b.testBit t else c.testBit (t - 8) := by
      intro t
      exact Nat.testBit_two_pow_mul_add c (b := b) (i := 8) hb t
    have g1 : rk (fun t => (65536 * c + 256 * b + a).testBit t) 8 = rk (fun t => a.testBit t) 8 := rk_congr 8 (fun t ht => by rw [f1, if_pos ht])
    have g2 : rk (fun t => (65536 * c + 256 * b + a).testBit (8 + t)) 8 = rk (fun t => b.testBit t) 8 := rk_congr 8 (fun t ht => by rw [f1, if_neg (by omega), show 8 + t - 8 = t by omega, f2, if_pos ht])
    have g3 : rk (fun t => (65536 * c + 256 * b + a).testBit (8 + (8 + t))) 8 = rk (fun t => c.testBit t) 8 := rk_congr 8 (fun t ht => by rw [f1, if_neg (by omega), f2, if_neg (by omega)]; congr 1; omega)
    rw [g1, g2, g3]
    omega
  rw [tot]
  generalize rk (fun t => a.testBit t) 8 = na at *
  generalize rk (fun t => b.testBit t) 8 = nb' at *
  generalize rk (fun t => c.testBit t) 8 = nc at *
  have e4 : q4 (65536 * nc + 256 * nb' + na) = 65536 * nc + 256 * (nb' + nc) + (na + nb') := by unfold q4; omega
  have e5 : q5 (65536 * nc + 256 * (nb' + nc) + (na + nb')) = 65536 * nc + 256 * (nb' + nc) + (na + nb' + nc) := by unfold q5; omega
  rw [e4, e5]
  refine ⟨?_, ?_, ?_, ?_, ?_, ?_, ?_⟩
  · rw [show (63 : Nat) = 2 ^ 6 - 1 by rfl, Nat.and_two_pow_sub_one_eq_mod]
    omega
  all_goals omega
section AwBits2
variable {d : Nat} {cd : List az_I} {rt : Option FieldType} {P : Option Value → az_S → Prop} {pc p' : Nat} {L : az_V} {st : List Value} {σ : az_S}
theorem nI_ushr {n : Nat} (hn : n < 2147483648) (k : Int32) (l : Nat) (hk : (k.toUInt32 &&& Int32.toUInt32 31).toNat = l) (hl : l < 32) : ((nI n).toUInt32 >>> (k.toUInt32 &&& Int32.toUInt32 31)).toInt32 = nI (n / 2 ^ l) := by
  have e : (nI n).toUInt32.toNat = n := by
    show (BitVec.ofNat 32 n).toNat = n
    rw [BitVec.toNat_ofNat]
    exact Nat.mod_eq_of_lt (by omega)
  apply Int32.toBitVec_inj.1
  apply BitVec.eq_of_toNat_eq
  show ((nI n).toUInt32 >>> (k.toUInt32 &&& Int32.toUInt32 31)).toNat = (BitVec.ofNat 32 (n / 2 ^ l)).toNat
  rw [UInt32.toNat_shiftRight, e, hk, Nat.mod_eq_of_lt hl, BitVec.toNat_ofNat, Nat.shiftRight_eq_div_pow, Nat.mod_eq_of_lt]
  exact Nat.lt_of_le_of_lt (Nat.div_le_self _ _) (by omega)
theorem aw_iushr {a k : Int} {l : Nat} (hf : az_fetch cd pc = some (1, .iushr, [])) (ha : 0 ≤ a) (ha2 : a < 2147483648) (hk : ((iI k).toUInt32 &&& Int32.toUInt32 31).toNat = l) (hl : l < 32) (hp : pc + 1 = p') (h : aw d cd rt P p' L (.int (iI (((a.toNat / 2 ^ l : Nat)) : Int)) :: st) σ) : aw d cd rt P pc L (.int (iI k) :: .int (iI a) :: st) σ := by
  subst hp
  refine aw_nx hf (Nat.le_of_ble_eq_true rfl) ⟨_, _, st, rfl, rfl⟩ ?_
  show aw d cd rt P (pc + 1) L (.int ((iI a).toUInt32 >>> ((iI k).toUInt32 &&& Int32.toUInt32 31)).toInt32 :: st) σ
  rw [iI_nat' ha, nI_ushr (by omega) (iI k) l hk hl]
  exact h
/-- what is in a set and not in another -/
def zdif (a b : Int) : Int := ((a.toNat ^^^ (a.toNat &&& b.toNat) : Nat) : Int)
theorem iI_not {b : Int} : iI b ^^^ iI (-1) = iI (-b - 1) := by
  have e : iI b ^^^ iI (-1) = ~~~ iI b := by
    apply Int32.toBitVec_inj.1
    show (iI b).toBitVec ^^^ BitVec.ofInt 32 (-1) = ~~~ (iI b).toBitVec
    apply BitVec.eq_of_getLsbD_eq
    intro i hi
    rw [BitVec.getLsbD_xor, BitVec.getLsbD_not, show BitVec.ofInt 32 (-1) = BitVec.allOnes 32 by decide, BitVec.getLsbD_allOnes]
    simp [hi]
  rw [e, Int32.not_eq_neg_sub, iI_neg, show (1 : Int32) = iI 1 by rfl, iI_sub]
theorem aw_inot {b : Int} (hf : az_fetch cd pc = some (1, .ixor, [])) (hp : pc + 1 = p') (h : aw d cd rt P p' L (.int (iI (-b - 1)) :: st) σ) : aw d cd rt P pc L (.int (iI (-1)) :: .int (iI b) :: st) σ := by
  subst hp
  refine aw_nx hf (Nat.le_of_ble_eq_true rfl) ⟨_, _, st, rfl, rfl⟩ ?_
  show aw d cd rt P (pc + 1) L (.int (iI b ^^^ iI (-1)) :: st) σ
  rw [iI_not]
  exact h
theorem aw_idif {a b : Int} (hf : az_fetch cd pc = some (1, .iand, [])) (ha : 0 ≤ a) (hb : 0 ≤ b) (hp : pc + 1 = p') (h : aw d cd rt P p' L (.int (iI (zdif a b)) :: st) σ) : aw d cd rt P pc L (.int (iI (-b - 1)) :: .int (iI a) :: st) σ := by
  subst hp
  refine aw_nx hf (Nat.le_of_ble_eq_true rfl) ⟨_, _, st, rfl, rfl⟩ ?_
  show aw d cd rt P (pc + 1) L (.int (iI a &&& iI (-b - 1)) :: st) σ
  have e : iI a &&& iI (-b - 1) = iI (zdif a b) := by
    rw [← iI_not, iI_nat' ha, iI_nat' hb, zdif, iI_nat]
    apply Int32.toBitVec_inj.1
    show BitVec.ofNat 32 a.toNat &&& (BitVec.ofNat 32 b.toNat ^^^ BitVec.ofInt 32 (-1)) = BitVec.ofNat 32 (a.toNat ^^^ (a.toNat &&& b.toNat))
    apply BitVec.eq_of_getLsbD_eq
    intro i hi
    rw [BitVec.getLsbD_and, BitVec.getLsbD_xor, show BitVec.ofInt 32 (-1) = BitVec.allOnes 32 by decide, BitVec.getLsbD_allOnes, BitVec.getLsbD_ofNat, BitVec.getLsbD_ofNat, BitVec.getLsbD_ofNat, Nat.testBit_xor, Nat.testBit_and]
    simp [hi]
    cases a.toNat.testBit i <;> cases b.toNat.testBit i <;> rfl
  rw [e]
  exact h
end AwBits2
set_option maxRecDepth 10000 in
theorem j_bitCount {d : Nat} {σ : az_S} {a : Int} (h0 : 0 ≤ a) (h1 : a < 16777216) : fn (d + 1) 252 [.int (iI a)] σ (.int (iI ((rk (fun t => a.toNat.testBit t) 24 : Nat) : Int))) := by
  obtain ⟨x, rfl⟩ := Int.eq_ofNat_of_zero_le h0
  obtain ⟨p1, p2, p3, p4, p5, p6, p7⟩ := pop24 (x := x) (by omega)
  refine fn_of (M := (yJ6_bitCount_0f7a4, cJ6_bitCount_0f7a4, 1, some .int)) (cd := k_J6_bitCount_0f7a4) (L := [some (.int (iI (x : Int)))]) rfl (Nat.le_of_ble_eq_true rfl) rfl rfl ?_
  refine aw_iload_n rfl rfl rfl ?_
  refine aw_iload_n rfl rfl rfl ?_
  refine aw_iconst rfl rfl ?_
  refine aw_iushr (l := 1) rfl (by omega) (by omega) (by decide) (by decide) rfl ?_
  refine aw_ldcw (1431655765) rfl rfl rfl ?_
  refine aw_iand rfl (by omega) (by omega) rfl ?_
  refine aw_isub rfl rfl ?_
  have e1 : (x : Int) - zand (((x : Int).toNat / 2 ^ 1 : Nat) : Int) 1431655765 = ((q1 x : Nat) : Int) := by
    unfold zand q1
    rw [show (2 : Nat) ^ 1 = 2 by rfl]
    simp only [Int.toNat_natCast]
    rw [show (1431655765 : Int).toNat = 1431655765 by rfl]
    omega
  rw [e1]
  refine aw_istore_n rfl (Nat.le_of_ble_eq_true rfl) rfl rfl ?_
  change aw _ _ _ _ 10 [some (.int (iI ((q1 x : Nat) : Int)))] _ _
  refine aw_iload_n rfl rfl rfl ?_
  refine aw_ldcw (858993459) rfl rfl rfl ?_
  refine aw_iand rfl (by omega) (by omega) rfl ?_
  refine aw_iload_n rfl rfl rfl ?_
  refine aw_iconst rfl rfl ?_
  refine aw_iushr (l := 2) rfl (by omega) (by omega) (by decide) (by decide) rfl ?_
  refine aw_ldcw (858993459) rfl rfl rfl ?_
  refine aw_iand rfl (by omega) (by omega) rfl ?_
  refine aw_iadd rfl rfl ?_
  have e2 : zand ((q1 x : Nat) : Int) 858993459 + zand ((((q1 x : Nat) : Int).toNat / 2 ^ 2 : Nat) : Int) 858993459 = ((q2 (q1 x) : Nat) : Int) := by
    unfold zand q2
    rw [show (2 : Nat) ^ 2 = 4 by rfl]
    simp only [Int.toNat_natCast]
    rw [show (858993459 : Int).toNat = 858993459 by rfl]
    omega
  rw [e2]
  refine aw_istore_n rfl (Nat.le_of_ble_eq_true rfl) rfl rfl ?_
  change aw _ _ _ _ 24 [some (.int (iI ((q2 (q1 x) : Nat) : Int)))] _ _
  refine aw_iload_n rfl rfl rfl ?_
  refine aw_iload_n rfl rfl rfl ?_
  refine aw_iconst rfl rfl ?_
  refine aw_iushr (l := 4) rfl (by omega) (by omega) (by decide) (by decide) rfl ?_
  refine aw_iadd rfl rfl ?_
  refine aw_ldcw (252645135) rfl rfl rfl ?_
  refine aw_iand rfl (by omega) (by omega) rfl ?_
  have e3 : zand (((q2 (q1 x) : Nat) : Int) + ((((q2 (q1 x) : Nat) : Int).toNat / 2 ^ 4 : Nat) : Int)) 252645135 = ((q3 (q2 (q1 x)) : Nat) : Int) := by
    unfold zand q3
    rw [show (2 : Nat) ^ 4 = 16 by rfl]
    simp only [Int.toNat_natCast]
    rw [show (252645135 : Int).toNat = 252645135 by rfl, ← Int.natCast_add, Int.toNat_natCast]
  rw [e3]
  refine aw_istore_n rfl (Nat.le_of_ble_eq_true rfl) rfl rfl ?_
  change aw _ _ _ _ 34 [some (.int (iI ((q3 (q2 (q1 x)) : Nat) : Int)))] _ _
  refine aw_iload_n rfl rfl rfl ?_
  refine aw_iload_n rfl rfl rfl ?_
  refine aw_bipush rfl rfl rfl ?_
  refine aw_iushr (l := 8) rfl (by omega) (by omega) (by decide) (by decide) rfl ?_
  refine aw_iadd rfl rfl ?_
  have e4 : ((q3 (q2 (q1 x)) : Nat) : Int) + ((((q3 (q2 (q1 x)) : Nat) : Int).toNat / 2 ^ 8 : Nat) : Int) = ((q4 (q3 (q2 (q1 x))) : Nat) : Int) := by
    unfold q4
    rw [show (2 : Nat) ^ 8 = 256 by rfl]
    simp only [Int.toNat_natCast]
    omega
  rw [e4]
  refine aw_istore_n rfl (Nat.le_of_ble_eq_true rfl) rfl rfl ?_
  change aw _ _ _ _ 41 [some (.int (iI ((q4 (q3 (q2 (q1 x))) : Nat) : Int)))] _ _
  refine aw_iload_n rfl rfl rfl ?_
  refine aw_iload_n rfl rfl rfl ?_
  refine aw_bipush rfl rfl rfl ?_
  refine aw_iushr (l := 16) rfl (by omega) (by omega) (by decide) (by decide) rfl ?_
  refine aw_iadd rfl rfl ?_
  have e5 : ((q4 (q3 (q2 (q1 x))) : Nat) : Int) + ((((q4 (q3 (q2 (q1 x))) : Nat) : Int).toNat / 2 ^ 16 : Nat) : Int) = ((q5 (q4 (q3 (q2 (q1 x)))) : Nat) : Int) := by
    unfold q5
    rw [show (2 : Nat) ^ 16 = 65536 by rfl]
    simp only [Int.toNat_natCast]
    omega
  rw [e5]
  refine aw_istore_n rfl (Nat.le_of_ble_eq_true rfl) rfl rfl ?_
  change aw _ _ _ _ 48 [some (.int (iI ((q5 (q4 (q3 (q2 (q1 x)))) : Nat) : Int)))] _ _
  refine aw_iload_n rfl rfl rfl ?_
  refine aw_bipush rfl rfl rfl ?_
  refine aw_iand rfl (by omega) (by omega) rfl ?_
  refine aw_reti rfl ⟨?_, rfl⟩
  simp only [Int.toNat_natCast]
  rw [← p1]
  unfold zand
  simp only [Int.toNat_natCast]
  rfl
