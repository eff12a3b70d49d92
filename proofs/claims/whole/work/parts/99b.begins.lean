theorem kSg_hi (b : Int) : 1 ≤ kSg b ∧ kSg b ≤ 26 := by
  unfold kSg
  repeat' split
  all_goals omega
theorem Tk_k {B : Int → Int} {N p k v s e : Int} (h : Tk B N p k v s e) : 0 ≤ k ∧ k ≤ 26 := by
  rcases h.2 with q | q | q | q | q
  · omega
  · rcases q.2.2.2 with ⟨i, a, b, c, d⟩ | ⟨i, a, b, c, d, e⟩ | ⟨a, b, c⟩ <;> omega
  · omega
  · omega
  · have := kSg_hi (B s)
    omega
def TF (s t k v : Int) : Prop := (s = 3 ∧ ((k = 11 ∧ t = 60) ∨ (k = 12 ∧ t = 300) ∨ (k = 13 ∧ t = 62) ∨ (k = 14 ∧ t = 301) ∨ (k = 15 ∧ t = 61) ∨ (k = 16 ∧ t = 35) ∨ (k = 17 ∧ t = 43) ∨ (k = 18 ∧ t = 45) ∨ (k = 19 ∧ t = 42) ∨ (k = 20 ∧ t = 47) ∨ (k = 21 ∧ t = 40) ∨ (k = 22 ∧ t = 41) ∨ (k = 23 ∧ t = 91) ∨ (k = 24 ∧ t = 93) ∨ (k = 25 ∧ t = 44) ∨ (k = 26 ∧ t = 59))) ∨ (s = 1 ∧ ((k = 3 ∧ t = v + 7 ∧ 0 ≤ v ∧ v ≤ 7) ∨ (4 ≤ k ∧ k ≤ 10 ∧ t = k - 4))) ∨ (s = 2 ∧ k = 2 ∧ ((0 ≤ v ∧ v ≤ 100000 ∧ t = v) ∨ (v = 100001 ∧ 100000 < t))) ∨ (s = 0 ∧ k = 0) ∨ (s = 4 ∧ k = 1)
theorem tf_s {k : Int} (h : 11 ≤ k ∧ k ≤ 26) : (k = 11 ∧ sgn k = 60) ∨ (k = 12 ∧ sgn k = 300) ∨ (k = 13 ∧ sgn k = 62) ∨ (k = 14 ∧ sgn k = 301) ∨ (k = 15 ∧ sgn k = 61) ∨ (k = 16 ∧ sgn k = 35) ∨ (k = 17 ∧ sgn k = 43) ∨ (k = 18 ∧ sgn k = 45) ∨ (k = 19 ∧ sgn k = 42) ∨ (k = 20 ∧ sgn k = 47) ∨ (k = 21 ∧ sgn k = 40) ∨ (k = 22 ∧ sgn k = 41) ∨ (k = 23 ∧ sgn k = 91) ∨ (k = 24 ∧ sgn k = 93) ∨ (k = 25 ∧ sgn k = 44) ∨ (k = 26 ∧ sgn k = 59) := by
  have : k = 11 ∨ k = 12 ∨ k = 13 ∨ k = 14 ∨ k = 15 ∨ k = 16 ∨ k = 17 ∨ k = 18 ∨ k = 19 ∨ k = 20 ∨ k = 21 ∨ k = 22 ∨ k = 23 ∨ k = 24 ∨ k = 25 ∨ k = 26 := by omega
  rcases this with rfl | rfl | rfl | rfl | rfl | rfl | rfl | rfl | rfl | rfl | rfl | rfl | rfl | rfl | rfl | rfl <;> simp [sgn]
theorem tf_of {k v t : Int} (hk : 0 ≤ k ∧ k ≤ 26) (h : RT k v t) (h2 : k = 2 → 0 ≤ v ∧ v ≤ 100001) (h3 : k = 3 → 0 ≤ v ∧ v ≤ 7) : TF (rSort k) t k v := by
  obtain ⟨r1, r2, r3⟩ := h
  unfold TF rSort
  by_cases a : 11 ≤ k
  · have := tf_s ⟨a, hk.2⟩
    have t1 := r3 a
    rw [if_neg (by omega), if_neg (by omega), if_neg (by omega), if_neg (by omega)]
    rw [← t1] at this
    exact Or.inl ⟨rfl, this⟩
  · by_cases b : 3 ≤ k
    · have t1 := r2 b (by omega)
      unfold tW at t1
      rw [if_neg (by omega)] at t1
      rw [if_neg (by omega), if_neg (by omega), if_neg (by omega), if_pos (by omega)]
      refine Or.inr (Or.inl ⟨rfl, ?_⟩)
      by_cases c : k = 3
      · rw [if_pos c] at t1
        have := h3 c
        exact Or.inl ⟨c, t1, this⟩
      · rw [if_neg c] at t1
        exact Or.inr ⟨by omega, by omega, t1⟩
    · by_cases c : k = 2
      · rw [if_neg (by omega), if_neg (by omega), if_pos c]
        refine Or.inr (Or.inr (Or.inl ⟨rfl, c, ?_⟩))
        rcases r1 c with q | q
        · exact Or.inl ⟨(h2 c).1, q.1, q.2⟩
        · exact Or.inr ⟨q.1.symm, q.2⟩
      · by_cases e : k = 1
        · rw [if_neg (by omega), if_pos e]
          exact Or.inr (Or.inr (Or.inr (Or.inr ⟨rfl, e⟩)))
        · rw [if_pos (by omega)]
          exact Or.inr (Or.inr (Or.inr (Or.inl ⟨rfl, by omega⟩)))
theorem MC.tf {sz : Nat} {A : Nat → Int → Int} {K V S E : Int → Int} {T N : Int} {σ0 σ : az_S} {c : Cf} (hTk : TkN (A 74) N K V S E T) (hM : MC sz A K V S E N σ0 σ c) (hn : 0 ≤ c.n ∧ c.n ≤ T) : TF (zx σ 42 44) (zx σ 42 45) (K c.n) (V c.n) := by
  have q := (hTk.2.2 c.n hn.1 hn.2).1
  have v := Tk_v q
  rw [hM.v44]
  exact tf_of (Tk_k q) hM.v45 v.1 v.2
theorem wsC_in {σ : az_S} : ∀ ws : List (Int × Int), wsC (zx σ 80) (zx σ 81) ws → ∀ q, q ∈ ws → inI q.1 ∧ inI q.2 := by
  intro ws
  induction ws with
  | nil => intro _ q hq; cases hq
  | cons p w ih =>
    intro h q hq
    rcases List.mem_cons.mp hq with rfl | hm
    · rw [← h.1.1, ← h.1.2]
      exact ⟨⟨zx_lo _ _ _, zx_hi _ _ _⟩, ⟨zx_lo _ _ _, zx_hi _ _ _⟩⟩
    · exact ih h.2 q hm
theorem MC.win {sz : Nat} {A : Nat → Int → Int} {K V S E : Int → Int} {N : Int} {σ0 σ : az_S} {c : Cf} (hM : MC sz A K V S E N σ0 σ c) : ∀ q, q ∈ c.ws → inI q.1 ∧ inI q.2 := wsC_in c.ws hM.2.2.2.2.2.2
theorem CI_b {B : Int → Int} {N : Int} {K V S E : Int → Int} {T : Int} {c : Cf} (hTk : TkN B N K V S E T) (h : CI T c) : (((c.em.length : Int) + c.ws.length + c.fr.length ≤ 801) ∧ (c.fr.length : Int) ≤ 12 ∧ (c.ws.length : Int) ≤ 52) ∧ (0 ≤ c.op ∧ c.op ≤ 10) ∧ (0 ≤ c.n ∧ c.n ≤ T) ∧ ((c.st = 4 ∧ c.fr = [] ∧ (0 ≤ c.ru ∧ c.ru ≤ 20)) ∨ (CN T c ∧ SP c)) := by
  obtain ⟨h1, hp⟩ := h
  have hT := hTk.2.1
  have hpp : (c.em.length : Int) + c.ws.length + c.fr.length ≤ 2 * c.n + (if c.st = 0 then 0 else 1) := hp
  have hpq : (c.em.length : Int) + c.ws.length + c.fr.length ≤ 2 * c.n + 1 := by split at hpp <;> omega
  rcases h1 with ⟨s4, f0, w0, o0, r0, n0⟩ | ⟨hN, hS⟩
  · rw [f0, w0] at hpq ⊢
    simp only [List.length_nil] at *
    exact ⟨⟨by omega, by omega, by omega⟩, by omega, n0, Or.inl ⟨s4, trivial, r0⟩⟩
  · obtain ⟨q, r, he⟩ := hN.hd
    obtain ⟨i1, i2, i3, i4, i5, i6⟩ := id hN
    have l1 := fv_len r q (by rw [← he]; exact i1)
    rw [← he] at l1
    have l2 := i4.len
    have l3 := cO_0 c.fr
    have l4 : c56 c.fr ≤ 1 := by rcases l1.2 with z | z <;> omega
    exact ⟨⟨by omega, by omega, by omega⟩, by omega, i6, Or.inr ⟨hN, hS⟩⟩
theorem to_id {c : Cf} {s : Int} (h : c.st = s) : c.to s = c := by
  subst h
  rfl
theorem MC.rep {sz : Nat} {A : Nat → Int → Int} {K V S E : Int → Int} {N : Int} {σ0 σ : az_S} {c : Cf} (hM : MC sz A K V S E N σ0 σ c) {τ : az_S} (hV : MV sz A τ) {a : Nat} (hD : Mod σ τ [a]) (ha : a = 79 ∨ a = 94 ∨ a = 95) {fr : List (Int × Int)} (hl : fr.length = c.fr.length) (hf : frC (zx τ 79) (zx τ 94) (zx τ 95) fr) : MC sz A K V S E N σ0 τ (c.n, c.st, fr, c.ws, c.op, c.em, c.ru, c.wr, c.wa) := by
  obtain ⟨m1, m2, ⟨a1, a2, a3, a4, a5⟩, ⟨b1, b2, b3, b4, b5, b6, b7, b8⟩, e1, e2, e3⟩ := hM
  have z42 : zx τ 42 = zx σ 42 ∧ zx τ 75 = zx σ 75 ∧ zx τ 76 = zx σ 76 ∧ zx τ 80 = zx σ 80 ∧ zx τ 81 = zx σ 81 := by rcases ha with rfl | rfl | rfl <;> exact ⟨hD.z _ rfl, hD.z _ rfl, hD.z _ rfl, hD.z _ rfl, hD.z _ rfl⟩
  have hD2 : Mod σ τ [42, 75, 76, 79, 80, 81, 94, 95] := by rcases ha with rfl | rfl | rfl <;> exact hD.su rfl
  refine ⟨hV, m2.tr hD2, by rw [z42.1]; exact ⟨a1, a2, a3, a4, a5⟩, ?_, by rw [z42.2.1, z42.2.2.1]; exact e1, hf, by rw [z42.2.2.2.1, z42.2.2.2.2]; exact e3⟩
  rw [z42.1]
  exact ⟨b1, b2, b3, b4, by rw [b5]; exact (congrArg Int.ofNat hl).symm, b6, b7, b8⟩
theorem tfs17 {s t k v : Int} (h : TF s t k v) : (s = 3 ∧ t = 43) ↔ k = 17 := by
  unfold TF at h
  rcases h with ⟨h1, ⟨a, b⟩ | ⟨a, b⟩ | ⟨a, b⟩ | ⟨a, b⟩ | ⟨a, b⟩ | ⟨a, b⟩ | ⟨a, b⟩ | ⟨a, b⟩ | ⟨a, b⟩ | ⟨a, b⟩ | ⟨a, b⟩ | ⟨a, b⟩ | ⟨a, b⟩ | ⟨a, b⟩ | ⟨a, b⟩ | ⟨a, b⟩⟩ | ⟨h1, ⟨a, b, e, f⟩ | ⟨a, b, e⟩⟩ | ⟨h1, a, ⟨b, e, f⟩ | ⟨b, e⟩⟩ | ⟨h1, a⟩ | ⟨h1, a⟩ <;> omega
theorem tfs18 {s t k v : Int} (h : TF s t k v) : (s = 3 ∧ t = 45) ↔ k = 18 := by
  unfold TF at h
  rcases h with ⟨h1, ⟨a, b⟩ | ⟨a, b⟩ | ⟨a, b⟩ | ⟨a, b⟩ | ⟨a, b⟩ | ⟨a, b⟩ | ⟨a, b⟩ | ⟨a, b⟩ | ⟨a, b⟩ | ⟨a, b⟩ | ⟨a, b⟩ | ⟨a, b⟩ | ⟨a, b⟩ | ⟨a, b⟩ | ⟨a, b⟩ | ⟨a, b⟩⟩ | ⟨h1, ⟨a, b, e, f⟩ | ⟨a, b, e⟩⟩ | ⟨h1, a, ⟨b, e, f⟩ | ⟨b, e⟩⟩ | ⟨h1, a⟩ | ⟨h1, a⟩ <;> omega
theorem tfs19 {s t k v : Int} (h : TF s t k v) : (s = 3 ∧ t = 42) ↔ k = 19 := by
  unfold TF at h
  rcases h with ⟨h1, ⟨a, b⟩ | ⟨a, b⟩ | ⟨a, b⟩ | ⟨a, b⟩ | ⟨a, b⟩ | ⟨a, b⟩ | ⟨a, b⟩ | ⟨a, b⟩ | ⟨a, b⟩ | ⟨a, b⟩ | ⟨a, b⟩ | ⟨a, b⟩ | ⟨a, b⟩ | ⟨a, b⟩ | ⟨a, b⟩ | ⟨a, b⟩⟩ | ⟨h1, ⟨a, b, e, f⟩ | ⟨a, b, e⟩⟩ | ⟨h1, a, ⟨b, e, f⟩ | ⟨b, e⟩⟩ | ⟨h1, a⟩ | ⟨h1, a⟩ <;> omega
theorem tfs20 {s t k v : Int} (h : TF s t k v) : (s = 3 ∧ t = 47) ↔ k = 20 := by
  unfold TF at h
  rcases h with ⟨h1, ⟨a, b⟩ | ⟨a, b⟩ | ⟨a, b⟩ | ⟨a, b⟩ | ⟨a, b⟩ | ⟨a, b⟩ | ⟨a, b⟩ | ⟨a, b⟩ | ⟨a, b⟩ | ⟨a, b⟩ | ⟨a, b⟩ | ⟨a, b⟩ | ⟨a, b⟩ | ⟨a, b⟩ | ⟨a, b⟩ | ⟨a, b⟩⟩ | ⟨h1, ⟨a, b, e, f⟩ | ⟨a, b, e⟩⟩ | ⟨h1, a, ⟨b, e, f⟩ | ⟨b, e⟩⟩ | ⟨h1, a⟩ | ⟨h1, a⟩ <;> omega
theorem tfs21 {s t k v : Int} (h : TF s t k v) : (s = 3 ∧ t = 40) ↔ k = 21 := by
  unfold TF at h
  rcases h with ⟨h1, ⟨a, b⟩ | ⟨a, b⟩ | ⟨a, b⟩ | ⟨a, b⟩ | ⟨a, b⟩ | ⟨a, b⟩ | ⟨a, b⟩ | ⟨a, b⟩ | ⟨a, b⟩ | ⟨a, b⟩ | ⟨a, b⟩ | ⟨a, b⟩ | ⟨a, b⟩ | ⟨a, b⟩ | ⟨a, b⟩ | ⟨a, b⟩⟩ | ⟨h1, ⟨a, b, e, f⟩ | ⟨a, b, e⟩⟩ | ⟨h1, a, ⟨b, e, f⟩ | ⟨b, e⟩⟩ | ⟨h1, a⟩ | ⟨h1, a⟩ <;> omega
theorem tfs22 {s t k v : Int} (h : TF s t k v) : (s = 3 ∧ t = 41) ↔ k = 22 := by
  unfold TF at h
  rcases h with ⟨h1, ⟨a, b⟩ | ⟨a, b⟩ | ⟨a, b⟩ | ⟨a, b⟩ | ⟨a, b⟩ | ⟨a, b⟩ | ⟨a, b⟩ | ⟨a, b⟩ | ⟨a, b⟩ | ⟨a, b⟩ | ⟨a, b⟩ | ⟨a, b⟩ | ⟨a, b⟩ | ⟨a, b⟩ | ⟨a, b⟩ | ⟨a, b⟩⟩ | ⟨h1, ⟨a, b, e, f⟩ | ⟨a, b, e⟩⟩ | ⟨h1, a, ⟨b, e, f⟩ | ⟨b, e⟩⟩ | ⟨h1, a⟩ | ⟨h1, a⟩ <;> omega
theorem tfs23 {s t k v : Int} (h : TF s t k v) : (s = 3 ∧ t = 91) ↔ k = 23 := by
  unfold TF at h
  rcases h with ⟨h1, ⟨a, b⟩ | ⟨a, b⟩ | ⟨a, b⟩ | ⟨a, b⟩ | ⟨a, b⟩ | ⟨a, b⟩ | ⟨a, b⟩ | ⟨a, b⟩ | ⟨a, b⟩ | ⟨a, b⟩ | ⟨a, b⟩ | ⟨a, b⟩ | ⟨a, b⟩ | ⟨a, b⟩ | ⟨a, b⟩ | ⟨a, b⟩⟩ | ⟨h1, ⟨a, b, e, f⟩ | ⟨a, b, e⟩⟩ | ⟨h1, a, ⟨b, e, f⟩ | ⟨b, e⟩⟩ | ⟨h1, a⟩ | ⟨h1, a⟩ <;> omega
theorem tfs24 {s t k v : Int} (h : TF s t k v) : (s = 3 ∧ t = 93) ↔ k = 24 := by
  unfold TF at h
  rcases h with ⟨h1, ⟨a, b⟩ | ⟨a, b⟩ | ⟨a, b⟩ | ⟨a, b⟩ | ⟨a, b⟩ | ⟨a, b⟩ | ⟨a, b⟩ | ⟨a, b⟩ | ⟨a, b⟩ | ⟨a, b⟩ | ⟨a, b⟩ | ⟨a, b⟩ | ⟨a, b⟩ | ⟨a, b⟩ | ⟨a, b⟩ | ⟨a, b⟩⟩ | ⟨h1, ⟨a, b, e, f⟩ | ⟨a, b, e⟩⟩ | ⟨h1, a, ⟨b, e, f⟩ | ⟨b, e⟩⟩ | ⟨h1, a⟩ | ⟨h1, a⟩ <;> omega
theorem tfs25 {s t k v : Int} (h : TF s t k v) : (s = 3 ∧ t = 44) ↔ k = 25 := by
  unfold TF at h
  rcases h with ⟨h1, ⟨a, b⟩ | ⟨a, b⟩ | ⟨a, b⟩ | ⟨a, b⟩ | ⟨a, b⟩ | ⟨a, b⟩ | ⟨a, b⟩ | ⟨a, b⟩ | ⟨a, b⟩ | ⟨a, b⟩ | ⟨a, b⟩ | ⟨a, b⟩ | ⟨a, b⟩ | ⟨a, b⟩ | ⟨a, b⟩ | ⟨a, b⟩⟩ | ⟨h1, ⟨a, b, e, f⟩ | ⟨a, b, e⟩⟩ | ⟨h1, a, ⟨b, e, f⟩ | ⟨b, e⟩⟩ | ⟨h1, a⟩ | ⟨h1, a⟩ <;> omega
theorem tfs26 {s t k v : Int} (h : TF s t k v) : (s = 3 ∧ t = 59) ↔ k = 26 := by
  unfold TF at h
  rcases h with ⟨h1, ⟨a, b⟩ | ⟨a, b⟩ | ⟨a, b⟩ | ⟨a, b⟩ | ⟨a, b⟩ | ⟨a, b⟩ | ⟨a, b⟩ | ⟨a, b⟩ | ⟨a, b⟩ | ⟨a, b⟩ | ⟨a, b⟩ | ⟨a, b⟩ | ⟨a, b⟩ | ⟨a, b⟩ | ⟨a, b⟩ | ⟨a, b⟩⟩ | ⟨h1, ⟨a, b, e, f⟩ | ⟨a, b, e⟩⟩ | ⟨h1, a, ⟨b, e, f⟩ | ⟨b, e⟩⟩ | ⟨h1, a⟩ | ⟨h1, a⟩ <;> omega
theorem tfw4 {s t k v : Int} (h : TF s t k v) : (s = 1 ∧ t = 0) ↔ k = 4 := by
  unfold TF at h
  rcases h with ⟨h1, ⟨a, b⟩ | ⟨a, b⟩ | ⟨a, b⟩ | ⟨a, b⟩ | ⟨a, b⟩ | ⟨a, b⟩ | ⟨a, b⟩ | ⟨a, b⟩ | ⟨a, b⟩ | ⟨a, b⟩ | ⟨a, b⟩ | ⟨a, b⟩ | ⟨a, b⟩ | ⟨a, b⟩ | ⟨a, b⟩ | ⟨a, b⟩⟩ | ⟨h1, ⟨a, b, e, f⟩ | ⟨a, b, e⟩⟩ | ⟨h1, a, ⟨b, e, f⟩ | ⟨b, e⟩⟩ | ⟨h1, a⟩ | ⟨h1, a⟩ <;> omega
theorem tfw5 {s t k v : Int} (h : TF s t k v) : (s = 1 ∧ t = 1) ↔ k = 5 := by
  unfold TF at h
  rcases h with ⟨h1, ⟨a, b⟩ | ⟨a, b⟩ | ⟨a, b⟩ | ⟨a, b⟩ | ⟨a, b⟩ | ⟨a, b⟩ | ⟨a, b⟩ | ⟨a, b⟩ | ⟨a, b⟩ | ⟨a, b⟩ | ⟨a, b⟩ | ⟨a, b⟩ | ⟨a, b⟩ | ⟨a, b⟩ | ⟨a, b⟩ | ⟨a, b⟩⟩ | ⟨h1, ⟨a, b, e, f⟩ | ⟨a, b, e⟩⟩ | ⟨h1, a, ⟨b, e, f⟩ | ⟨b, e⟩⟩ | ⟨h1, a⟩ | ⟨h1, a⟩ <;> omega
theorem tfw6 {s t k v : Int} (h : TF s t k v) : (s = 1 ∧ t = 2) ↔ k = 6 := by
  unfold TF at h
  rcases h with ⟨h1, ⟨a, b⟩ | ⟨a, b⟩ | ⟨a, b⟩ | ⟨a, b⟩ | ⟨a, b⟩ | ⟨a, b⟩ | ⟨a, b⟩ | ⟨a, b⟩ | ⟨a, b⟩ | ⟨a, b⟩ | ⟨a, b⟩ | ⟨a, b⟩ | ⟨a, b⟩ | ⟨a, b⟩ | ⟨a, b⟩ | ⟨a, b⟩⟩ | ⟨h1, ⟨a, b, e, f⟩ | ⟨a, b, e⟩⟩ | ⟨h1, a, ⟨b, e, f⟩ | ⟨b, e⟩⟩ | ⟨h1, a⟩ | ⟨h1, a⟩ <;> omega
theorem tfw7 {s t k v : Int} (h : TF s t k v) : (s = 1 ∧ t = 3) ↔ k = 7 := by
  unfold TF at h
  rcases h with ⟨h1, ⟨a, b⟩ | ⟨a, b⟩ | ⟨a, b⟩ | ⟨a, b⟩ | ⟨a, b⟩ | ⟨a, b⟩ | ⟨a, b⟩ | ⟨a, b⟩ | ⟨a, b⟩ | ⟨a, b⟩ | ⟨a, b⟩ | ⟨a, b⟩ | ⟨a, b⟩ | ⟨a, b⟩ | ⟨a, b⟩ | ⟨a, b⟩⟩ | ⟨h1, ⟨a, b, e, f⟩ | ⟨a, b, e⟩⟩ | ⟨h1, a, ⟨b, e, f⟩ | ⟨b, e⟩⟩ | ⟨h1, a⟩ | ⟨h1, a⟩ <;> omega
theorem tfw8 {s t k v : Int} (h : TF s t k v) : (s = 1 ∧ t = 4) ↔ k = 8 := by
  unfold TF at h
  rcases h with ⟨h1, ⟨a, b⟩ | ⟨a, b⟩ | ⟨a, b⟩ | ⟨a, b⟩ | ⟨a, b⟩ | ⟨a, b⟩ | ⟨a, b⟩ | ⟨a, b⟩ | ⟨a, b⟩ | ⟨a, b⟩ | ⟨a, b⟩ | ⟨a, b⟩ | ⟨a, b⟩ | ⟨a, b⟩ | ⟨a, b⟩ | ⟨a, b⟩⟩ | ⟨h1, ⟨a, b, e, f⟩ | ⟨a, b, e⟩⟩ | ⟨h1, a, ⟨b, e, f⟩ | ⟨b, e⟩⟩ | ⟨h1, a⟩ | ⟨h1, a⟩ <;> omega
theorem tfw9 {s t k v : Int} (h : TF s t k v) : (s = 1 ∧ t = 5) ↔ k = 9 := by
  unfold TF at h
  rcases h with ⟨h1, ⟨a, b⟩ | ⟨a, b⟩ | ⟨a, b⟩ | ⟨a, b⟩ | ⟨a, b⟩ | ⟨a, b⟩ | ⟨a, b⟩ | ⟨a, b⟩ | ⟨a, b⟩ | ⟨a, b⟩ | ⟨a, b⟩ | ⟨a, b⟩ | ⟨a, b⟩ | ⟨a, b⟩ | ⟨a, b⟩ | ⟨a, b⟩⟩ | ⟨h1, ⟨a, b, e, f⟩ | ⟨a, b, e⟩⟩ | ⟨h1, a, ⟨b, e, f⟩ | ⟨b, e⟩⟩ | ⟨h1, a⟩ | ⟨h1, a⟩ <;> omega
theorem tfw10 {s t k v : Int} (h : TF s t k v) : (s = 1 ∧ t = 6) ↔ k = 10 := by
  unfold TF at h
  rcases h with ⟨h1, ⟨a, b⟩ | ⟨a, b⟩ | ⟨a, b⟩ | ⟨a, b⟩ | ⟨a, b⟩ | ⟨a, b⟩ | ⟨a, b⟩ | ⟨a, b⟩ | ⟨a, b⟩ | ⟨a, b⟩ | ⟨a, b⟩ | ⟨a, b⟩ | ⟨a, b⟩ | ⟨a, b⟩ | ⟨a, b⟩ | ⟨a, b⟩⟩ | ⟨h1, ⟨a, b, e, f⟩ | ⟨a, b, e⟩⟩ | ⟨h1, a, ⟨b, e, f⟩ | ⟨b, e⟩⟩ | ⟨h1, a⟩ | ⟨h1, a⟩ <;> omega
theorem tfn {s t k v : Int} (h : TF s t k v) : s = 2 ↔ k = 2 := by
  unfold TF at h
  rcases h with ⟨h1, ⟨a, b⟩ | ⟨a, b⟩ | ⟨a, b⟩ | ⟨a, b⟩ | ⟨a, b⟩ | ⟨a, b⟩ | ⟨a, b⟩ | ⟨a, b⟩ | ⟨a, b⟩ | ⟨a, b⟩ | ⟨a, b⟩ | ⟨a, b⟩ | ⟨a, b⟩ | ⟨a, b⟩ | ⟨a, b⟩ | ⟨a, b⟩⟩ | ⟨h1, ⟨a, b, e, f⟩ | ⟨a, b, e⟩⟩ | ⟨h1, a, ⟨b, e, f⟩ | ⟨b, e⟩⟩ | ⟨h1, a⟩ | ⟨h1, a⟩ <;> omega
theorem tfz {s t k v : Int} (h : TF s t k v) : s = 0 ↔ k = 0 := by
  unfold TF at h
  rcases h with ⟨h1, ⟨a, b⟩ | ⟨a, b⟩ | ⟨a, b⟩ | ⟨a, b⟩ | ⟨a, b⟩ | ⟨a, b⟩ | ⟨a, b⟩ | ⟨a, b⟩ | ⟨a, b⟩ | ⟨a, b⟩ | ⟨a, b⟩ | ⟨a, b⟩ | ⟨a, b⟩ | ⟨a, b⟩ | ⟨a, b⟩ | ⟨a, b⟩⟩ | ⟨h1, ⟨a, b, e, f⟩ | ⟨a, b, e⟩⟩ | ⟨h1, a, ⟨b, e, f⟩ | ⟨b, e⟩⟩ | ⟨h1, a⟩ | ⟨h1, a⟩ <;> omega
theorem tfm {s t k v : Int} (h : TF s t k v) : (s = 1 ∧ 7 ≤ t) ↔ k = 3 := by
  unfold TF at h
  rcases h with ⟨h1, ⟨a, b⟩ | ⟨a, b⟩ | ⟨a, b⟩ | ⟨a, b⟩ | ⟨a, b⟩ | ⟨a, b⟩ | ⟨a, b⟩ | ⟨a, b⟩ | ⟨a, b⟩ | ⟨a, b⟩ | ⟨a, b⟩ | ⟨a, b⟩ | ⟨a, b⟩ | ⟨a, b⟩ | ⟨a, b⟩ | ⟨a, b⟩⟩ | ⟨h1, ⟨a, b, e, f⟩ | ⟨a, b, e⟩⟩ | ⟨h1, a, ⟨b, e, f⟩ | ⟨b, e⟩⟩ | ⟨h1, a⟩ | ⟨h1, a⟩ <;> omega
theorem tf2 {s t k v : Int} (h : TF s t k v) : k = 2 → (t ≤ 100000 → t = v ∧ 0 ≤ v ∧ v ≤ 100000) ∧ (100000 < t → 100000 < v) := by
  unfold TF at h
  rcases h with ⟨h1, ⟨a, b⟩ | ⟨a, b⟩ | ⟨a, b⟩ | ⟨a, b⟩ | ⟨a, b⟩ | ⟨a, b⟩ | ⟨a, b⟩ | ⟨a, b⟩ | ⟨a, b⟩ | ⟨a, b⟩ | ⟨a, b⟩ | ⟨a, b⟩ | ⟨a, b⟩ | ⟨a, b⟩ | ⟨a, b⟩ | ⟨a, b⟩⟩ | ⟨h1, ⟨a, b, e, f⟩ | ⟨a, b, e⟩⟩ | ⟨h1, a, ⟨b, e, f⟩ | ⟨b, e⟩⟩ | ⟨h1, a⟩ | ⟨h1, a⟩ <;> omega
theorem tf3 {s t k v : Int} (h : TF s t k v) : k = 3 → t - 7 = v ∧ 0 ≤ v ∧ v ≤ 7 := by
  unfold TF at h
  rcases h with ⟨h1, ⟨a, b⟩ | ⟨a, b⟩ | ⟨a, b⟩ | ⟨a, b⟩ | ⟨a, b⟩ | ⟨a, b⟩ | ⟨a, b⟩ | ⟨a, b⟩ | ⟨a, b⟩ | ⟨a, b⟩ | ⟨a, b⟩ | ⟨a, b⟩ | ⟨a, b⟩ | ⟨a, b⟩ | ⟨a, b⟩ | ⟨a, b⟩⟩ | ⟨h1, ⟨a, b, e, f⟩ | ⟨a, b, e⟩⟩ | ⟨h1, a, ⟨b, e, f⟩ | ⟨b, e⟩⟩ | ⟨h1, a⟩ | ⟨h1, a⟩ <;> omega
theorem tf9 {s t k v : Int} (h : TF s t k v) : k = 9 ∨ k = 10 → t = k - 4 := by
  unfold TF at h
  rcases h with ⟨h1, ⟨a, b⟩ | ⟨a, b⟩ | ⟨a, b⟩ | ⟨a, b⟩ | ⟨a, b⟩ | ⟨a, b⟩ | ⟨a, b⟩ | ⟨a, b⟩ | ⟨a, b⟩ | ⟨a, b⟩ | ⟨a, b⟩ | ⟨a, b⟩ | ⟨a, b⟩ | ⟨a, b⟩ | ⟨a, b⟩ | ⟨a, b⟩⟩ | ⟨h1, ⟨a, b, e, f⟩ | ⟨a, b, e⟩⟩ | ⟨h1, a, ⟨b, e, f⟩ | ⟨b, e⟩⟩ | ⟨h1, a⟩ | ⟨h1, a⟩ <;> omega
theorem tfp {s t k v : Int} (h : TF s t k v) : (s = 3 ∧ (t = 43 ∨ t = 45 ∨ t = 42 ∨ t = 47)) ↔ (17 ≤ k ∧ k ≤ 20) := by
  unfold TF at h
  rcases h with ⟨h1, ⟨a, b⟩ | ⟨a, b⟩ | ⟨a, b⟩ | ⟨a, b⟩ | ⟨a, b⟩ | ⟨a, b⟩ | ⟨a, b⟩ | ⟨a, b⟩ | ⟨a, b⟩ | ⟨a, b⟩ | ⟨a, b⟩ | ⟨a, b⟩ | ⟨a, b⟩ | ⟨a, b⟩ | ⟨a, b⟩ | ⟨a, b⟩⟩ | ⟨h1, ⟨a, b, e, f⟩ | ⟨a, b, e⟩⟩ | ⟨h1, a, ⟨b, e, f⟩ | ⟨b, e⟩⟩ | ⟨h1, a⟩ | ⟨h1, a⟩ <;> omega
theorem tfa {s t k v : Int} (h : TF s t k v) : (s = 3 ∧ (t = 60 ∨ t = 62 ∨ t = 61 ∨ t = 35 ∨ t = 300 ∨ t = 301)) ↔ (11 ≤ k ∧ k ≤ 16) := by
  unfold TF at h
  rcases h with ⟨h1, ⟨a, b⟩ | ⟨a, b⟩ | ⟨a, b⟩ | ⟨a, b⟩ | ⟨a, b⟩ | ⟨a, b⟩ | ⟨a, b⟩ | ⟨a, b⟩ | ⟨a, b⟩ | ⟨a, b⟩ | ⟨a, b⟩ | ⟨a, b⟩ | ⟨a, b⟩ | ⟨a, b⟩ | ⟨a, b⟩ | ⟨a, b⟩⟩ | ⟨h1, ⟨a, b, e, f⟩ | ⟨a, b, e⟩⟩ | ⟨h1, a, ⟨b, e, f⟩ | ⟨b, e⟩⟩ | ⟨h1, a⟩ | ⟨h1, a⟩ <;> omega
set_option maxRecDepth 10000 in
set_option maxHeartbeats 2000000 in
theorem x_asks {d : Nat} {sz : Nat} {A : Nat → Int → Int} {K V S E : Int → Int} {T N : Int} {σ0 σ : az_S} {c : Cf} (hI : MI sz A) (hN : 0 ≤ N ∧ N ≤ 400) (hTk : TkN (A 74) N K V S E T) (hM : MC sz A K V S E N σ0 σ c) (hC : CI T c) (h0 : c.wr = 0) (hst : c.st = 0) : cal (d + 5) 222 [.ref 42] σ (fun r τ => r = none ∧ MC sz A K V S E N σ0 τ (sAsks K V S c)) := by
  obtain ⟨⟨bE, bF, bW⟩, bO, bN, bV⟩ := CI_b hTk hC
  have htf := hM.tf hTk bN
  refine cal_of (M := (yX12_asks, cX12_asks, 1, none)) (cd := k_X12_asks) (L := [some (.ref 42)]) rfl (Nat.le_of_ble_eq_true rfl) rfl rfl ?_
  refine aw_aload_n rfl rfl rfl ?_
  refine aw_iconst rfl rfl ?_
  refine aw_fnc (m_isWord (s := 4) hM.f ⟨by omega, by omega⟩) rfl rfl rfl (Nat.le_of_ble_eq_true rfl) (Or.inr ⟨_, rfl, (hM.f.k 42 rfl)⟩) rfl ?_
  refine aw_ifeqb (p' := 24) rfl rfl rfl (fun c1 => ?_) (fun c1 => ?_)
  · refine aw_aload_n rfl rfl rfl ?_
    refine aw_bipush rfl rfl rfl ?_
    refine aw_fnc (m_isSign (s := 91) hM.f ⟨by omega, by omega⟩) rfl rfl rfl (Nat.le_of_ble_eq_true rfl) (Or.inr ⟨_, rfl, (hM.f.k 42 rfl)⟩) rfl ?_
    refine aw_ifeqb (p' := 49) rfl rfl rfl (fun c2 => ?_) (fun c2 => ?_)
    · have k8 : K c.n ≠ 8 := fun q => c1 ((tfw8 htf).mpr q)
      have k23 : K c.n ≠ 23 := fun q => c2 ((tfs23 htf).mpr q)
      refine aw_aload_n rfl rfl rfl ?_
      refine aw_iconst rfl rfl ?_
      refine aw_calc (x_frame (x := 0) hM (by omega) (f := 5) ⟨by omega, by omega⟩ (fun q => by omega) (fun q => by omega)) rfl rfl rfl (Nat.le_of_ble_eq_true rfl) (Or.inr ⟨_, rfl, (hM.f.k 42 rfl)⟩) rfl ?_
      rintro _ τ1 ⟨rfl, hM1⟩
      change aw _ _ _ _ 54 [some (.ref 42)] [] _
      refine aw_aload_n rfl rfl rfl ?_
      refine aw_iconst rfl rfl ?_
      refine aw_fw (78) hM1.mv rfl rfl (hM1.f.k 42 rfl) rfl rfl rfl ⟨by omega, by omega⟩ rfl (fun τ2 hV2 hD2 hU2 => ?_)
      have hM2 := hM1.to hV2 hD2 hU2
      refine aw_retv rfl ⟨rfl, ?_⟩
      unfold sAsks
      rw [if_neg k8, if_neg k23]
      exact hM2
    · have k23 : K c.n = 23 := (tfs23 htf).mp c2
      have hlt : 0 ≤ c.n ∧ c.n < T := ⟨bN.1, n_lt (fun n a b => (hTk.2.2 n a b).2) bN (by omega)⟩
      refine aw_aload_n rfl rfl rfl ?_
      refine aw_iconst rfl rfl ?_
      refine aw_calc (x_opens (x := 0) hI hN hTk hM h0 (by omega) bO hlt (f := 3) ⟨by omega, by omega⟩ (fun q => by omega) (by decide)) rfl rfl rfl (Nat.le_of_ble_eq_true rfl) (Or.inr ⟨_, rfl, (hM.f.k 42 rfl)⟩) rfl ?_
      rintro _ τ1 ⟨rfl, hM1⟩
      change aw _ _ _ _ 38 [some (.ref 42)] [.int (iI (bI (c.op ≠ 10)))] _
      refine aw_ifeqb (p' := 59) rfl rfl rfl (fun c2 => ?_) (fun c2 => ?_)
      · refine aw_retv rfl ⟨rfl, ?_⟩
        unfold sAsks
        rw [if_neg (by omega), if_pos k23]
        exact hM1
      · refine aw_aload_n rfl rfl rfl ?_
        refine aw_iconst rfl rfl ?_
        refine aw_fw (78) hM1.mv rfl rfl (hM1.f.k 42 rfl) rfl rfl rfl ⟨by omega, by omega⟩ rfl (fun τ2 hV2 hD2 hU2 => ?_)
        have hM2 := hM1.to hV2 hD2 hU2
        refine aw_goto (p' := 59) rfl rfl ?_
        refine aw_retv rfl ⟨rfl, ?_⟩
        unfold sAsks
        rw [if_neg (by omega), if_pos k23]
        rw [to_id (show (opensSign S 3 0 c).st = 0 by unfold opensSign; rw [if_neg c2]; exact hst)] at hM2
        exact hM2
  · have k8 : K c.n = 8 := (tfw8 htf).mp c1
    have hlt : 0 ≤ c.n ∧ c.n < T := ⟨bN.1, n_lt (fun n a b => (hTk.2.2 n a b).2) bN (by omega)⟩
    refine aw_aload_n rfl rfl rfl ?_
    refine aw_iconst rfl rfl ?_
    refine aw_calc (x_opens (x := 0) hI hN hTk hM h0 (by omega) bO hlt (f := 4) ⟨by omega, by omega⟩ (fun q => by omega) (by decide)) rfl rfl rfl (Nat.le_of_ble_eq_true rfl) (Or.inr ⟨_, rfl, (hM.f.k 42 rfl)⟩) rfl ?_
    rintro _ τ1 ⟨rfl, hM1⟩
    change aw _ _ _ _ 13 [some (.ref 42)] [.int (iI (bI (c.op ≠ 10)))] _
    refine aw_ifeqb (p' := 59) rfl rfl rfl (fun c2 => ?_) (fun c2 => ?_)
    · refine aw_retv rfl ⟨rfl, ?_⟩
      unfold sAsks
      rw [if_pos k8]
      exact hM1
    · refine aw_aload_n rfl rfl rfl ?_
      refine aw_iconst rfl rfl ?_
      refine aw_fw (78) hM1.mv rfl rfl (hM1.f.k 42 rfl) rfl rfl rfl ⟨by omega, by omega⟩ rfl (fun τ2 hV2 hD2 hU2 => ?_)
      have hM2 := hM1.to hV2 hD2 hU2
      refine aw_goto (p' := 59) rfl rfl ?_
      refine aw_retv rfl ⟨rfl, ?_⟩
      unfold sAsks
      rw [if_pos k8]
      rw [to_id (show (opensSign S 4 0 c).st = 0 by unfold opensSign; rw [if_neg c2]; exact hst)] at hM2
      exact hM2
set_option maxRecDepth 10000 in
set_option maxHeartbeats 2000000 in
theorem b143 {d : Nat} {sz : Nat} {A : Nat → Int → Int} {K V S E : Int → Int} {T N : Int} {σ0 σ : az_S} {c : Cf} (hI : MI sz A) (hN : 0 ≤ N ∧ N ≤ 400) (hTk : TkN (A 74) N K V S E T) (hM : MC sz A K V S E N σ0 σ c) (hC : CI T c) (h0 : c.wr = 0) (hst : c.st = 1) (k2 : K c.n ≠ 2) (k3 : K c.n ≠ 3) (k9 : K c.n = 9 ∨ K c.n = 10) : aw (d + 5) k_X12_begins none (fun r τ => r = none ∧ MC sz A K V S E N σ0 τ (sBegins K V S c)) 143 [some (.ref 42), none] [] σ := by
  obtain ⟨⟨bE, bF, bW⟩, bO, bN, bV⟩ := CI_b hTk hC
  have htf := hM.tf hTk bN
  obtain ⟨hNN, hnK⟩ : CN T c ∧ nK (topF c) := by
    rcases bV with q | ⟨q1, q2⟩
    · omega
    · unfold SP at q2
      refine ⟨q1, ?_⟩
      rcases q2 with q | q | q | q
      · omega
      · omega
      · exact q.2
      · omega
  have hlt : 0 ≤ c.n ∧ c.n < T := ⟨bN.1, n_lt (fun n a b => (hTk.2.2 n a b).2) bN (by omega)⟩
  obtain ⟨t0, ht0⟩ : ∃ t0, zx σ 42 45 = t0 := ⟨_, rfl⟩
  have htl := zx_lo σ 42 45
  have hth := zx_hi σ 42 45
  rw [ht0] at htl hth
  refine aw_aload_n rfl rfl rfl ?_
  refine aw_gk (v := t0) (45) rfl rfl (hM.f.k 42 rfl) rfl ht0 rfl (fun _ _ => ?_)
  refine aw_istore_n rfl (Nat.le_of_ble_eq_true rfl) rfl rfl ?_
  change aw _ _ _ _ 148 [some (.ref 42), some (.int (iI t0))] [] _
  refine aw_aload_n rfl rfl rfl ?_
  refine aw_calc (x_next hI hN hTk hM hlt) rfl rfl rfl (Nat.le_of_ble_eq_true rfl) (Or.inr ⟨_, rfl, (hM.f.k 42 rfl)⟩) rfl ?_
  rintro _ τ1 ⟨rfl, hM1⟩
  change aw _ _ _ _ 152 [some (.ref 42), some (.int (iI t0))] [] _
  have htf1 := hM1.tf hTk (show 0 ≤ c.n + 1 ∧ c.n + 1 ≤ T by omega)
  have hkt : t0 = K c.n - 4 := ht0.symm.trans (tf9 htf k9)
  refine aw_aload_n rfl rfl rfl ?_
  refine aw_bipush rfl rfl rfl ?_
  refine aw_fnc (m_isSign (s := 40) hM1.f ⟨by omega, by omega⟩) rfl rfl rfl (Nat.le_of_ble_eq_true rfl) (Or.inr ⟨_, rfl, (hM1.f.k 42 rfl)⟩) rfl ?_
  refine aw_ifneb (p' := 169) rfl rfl rfl (fun c9 => ?_) (fun c9 => ?_)
  · have k21 : K (c.n + 1) = 21 := (tfs21 htf1).mp c9
    have hlt1 : c.n + 1 < T := n_lt (K := K) (fun n a b => (hTk.2.2 n a b).2) ⟨by omega, by omega⟩ (by omega)
    obtain ⟨x0, hx0⟩ : ∃ x0, zx τ1 94 ((c.fr.length : Int) + 1) = x0 := ⟨_, rfl⟩
    refine aw_aload_n rfl rfl rfl ?_
    refine aw_bipush rfl rfl rfl ?_
    refine aw_calc (x_opens (x := x0) hI hN hTk hM1 h0 (by show (c.fr.length : Int) < 64; omega) bO ⟨by show 0 ≤ c.n + 1; omega, hlt1⟩ (f := 9) ⟨by omega, by omega⟩ (fun _ => hx0) (by decide)) rfl rfl rfl (Nat.le_of_ble_eq_true rfl) (Or.inr ⟨_, rfl, (hM1.f.k 42 rfl)⟩) rfl ?_
    rintro _ τ2 ⟨rfl, hM2⟩
    change aw _ _ _ _ 175 [some (.ref 42), some (.int (iI t0))] [.int (iI (bI (c.op ≠ 10)))] _
    refine aw_ifeqb (p' := 188) rfl rfl rfl (fun c8 => ?_) (fun c8 => ?_)
    · have c10 : c.op = 10 := by omega
      refine aw_goto (p' := 196) rfl rfl ?_
      refine aw_retv rfl ⟨rfl, ?_⟩
      unfold sBegins opensSign
      rw [if_neg k2, if_neg k3, if_neg (by omega), if_neg (by omega), if_pos k9, if_pos k21, if_pos (show c.nxt.op = 10 from c10)]
      unfold opensSign at hM2
      rw [if_pos (show c.nxt.op = 10 from c10)] at hM2
      exact hM2
    · unfold opensSign at hM2
      rw [if_neg (show ¬ c.nxt.op = 10 from c8)] at hM2
      have h58 : zx τ2 42 58 = (c.fr.length : Int) + 1 := by
        rw [hM2.v58]
        show (((9, x0) :: c.fr).length : Int) = _
        rw [len_c]
      refine aw_aload_n rfl rfl rfl ?_
      refine aw_getr (b := 94) rfl rfl (hM2.f.k 42 rfl) (hM2.f.r 42 77 94 rfl) rfl ?_
      refine aw_aload_n rfl rfl rfl ?_
      refine aw_gk (v := ((c.fr.length : Int) + 1)) (58) rfl rfl (hM2.f.k 42 rfl) rfl h58 rfl (fun _ _ => ?_)
      refine aw_iload_n rfl rfl rfl ?_
      refine aw_ss (N := 65) hM2.mv rfl (hM2.f.s 94 rfl) (by omega) rfl (by omega) (by omega) ⟨by omega, by omega⟩ rfl (fun τ3 hV3 hD3 hU3 => ?_)
      have hM3 := hM2.rep hV3 hD3 (by decide) (fr := (9, t0) :: c.fr) rfl (by
        have e2 := hM2.2.2.2.2.2.1
        have e3 : frC (zx τ2 79) (zx τ2 94) (zx τ2 95) ((9, x0) :: c.fr) := e2
        rw [hD3.z 79 rfl, hD3.z 95 rfl]
        refine ⟨⟨e3.1.1, fun _ => by rw [hU3, if_pos rfl], fun q => absurd (show (9 : Int) = 6 from q) (by decide)⟩, frC_up _ e3.2 (fun _ _ => rfl) (fun w hw => by rw [hU3, if_neg (by omega)]; exact ⟨rfl, rfl⟩)⟩)
      refine aw_goto (p' := 196) rfl rfl ?_
      refine aw_retv rfl ⟨rfl, ?_⟩
      unfold sBegins opensSign
      rw [if_neg k2, if_neg k3, if_neg (by omega), if_neg (by omega), if_pos k9, if_pos k21, if_neg (show ¬ c.nxt.op = 10 from c8), ← hkt]
      exact hM3
  · have k21 : K (c.n + 1) ≠ 21 := fun q => c9 ((tfs21 htf1).mpr q)
    refine aw_aload_n rfl rfl rfl ?_
    refine aw_iconst rfl rfl ?_
    refine aw_calc (x_errs hM1 h0 (f := 1) ⟨by omega, by omega⟩) rfl rfl rfl (Nat.le_of_ble_eq_true rfl) (Or.inr ⟨_, rfl, (hM1.f.k 42 rfl)⟩) rfl ?_
    rintro _ τ2 ⟨rfl, hM2⟩
    change aw _ _ _ _ 166 [some (.ref 42), some (.int (iI t0))] [] _
    refine aw_goto (p' := 188) rfl rfl ?_
    refine aw_goto (p' := 196) rfl rfl ?_
    refine aw_retv rfl ⟨rfl, ?_⟩
    unfold sBegins
    rw [if_neg k2, if_neg k3, if_neg (by omega), if_neg (by omega), if_pos k9, if_neg k21]
    exact hM2
set_option maxRecDepth 10000 in
set_option maxHeartbeats 2000000 in
theorem b126 {d : Nat} {sz : Nat} {A : Nat → Int → Int} {K V S E : Int → Int} {T N : Int} {σ0 σ : az_S} {c : Cf} (hI : MI sz A) (hN : 0 ≤ N ∧ N ≤ 400) (hTk : TkN (A 74) N K V S E T) (hM : MC sz A K V S E N σ0 σ c) (hC : CI T c) (h0 : c.wr = 0) (hst : c.st = 1) (k2 : K c.n ≠ 2) (k3 : K c.n ≠ 3) (k21 : K c.n ≠ 21) (k18 : K c.n ≠ 18) : aw (d + 5) k_X12_begins none (fun r τ => r = none ∧ MC sz A K V S E N σ0 τ (sBegins K V S c)) 126 [some (.ref 42), none] [] σ := by
  obtain ⟨⟨bE, bF, bW⟩, bO, bN, bV⟩ := CI_b hTk hC
  have htf := hM.tf hTk bN
  obtain ⟨hNN, hnK⟩ : CN T c ∧ nK (topF c) := by
    rcases bV with q | ⟨q1, q2⟩
    · omega
    · unfold SP at q2
      refine ⟨q1, ?_⟩
      rcases q2 with q | q | q | q
      · omega
      · omega
      · exact q.2
      · omega
  refine aw_aload_n rfl rfl rfl ?_
  refine aw_iconst rfl rfl ?_
  refine aw_fnc (m_isWord (s := 5) hM.f ⟨by omega, by omega⟩) rfl rfl rfl (Nat.le_of_ble_eq_true rfl) (Or.inr ⟨_, rfl, (hM.f.k 42 rfl)⟩) rfl ?_
  refine aw_ifneb (p' := 143) rfl rfl rfl (fun c7 => ?_) (fun c7 => ?_)
  · exact b143 hI hN hTk hM hC h0 hst k2 k3 (Or.inl ((tfw9 htf).mp c7))

  · refine aw_aload_n rfl rfl rfl ?_
    refine aw_bipush rfl rfl rfl ?_
    refine aw_fnc (m_isWord (s := 6) hM.f ⟨by omega, by omega⟩) rfl rfl rfl (Nat.le_of_ble_eq_true rfl) (Or.inr ⟨_, rfl, (hM.f.k 42 rfl)⟩) rfl ?_
    refine aw_ifeqb (p' := 191) rfl rfl rfl (fun c8 => ?_) (fun c8 => ?_)
    · have k9 : ¬ (K c.n = 9 ∨ K c.n = 10) := fun q => q.elim (fun q => c7 ((tfw9 htf).mpr q)) (fun q => c8 ((tfw10 htf).mpr q))
      refine aw_aload_n rfl rfl rfl ?_
      refine aw_iconst rfl rfl ?_
      refine aw_calc (x_errs hM h0 (f := 1) ⟨by omega, by omega⟩) rfl rfl rfl (Nat.le_of_ble_eq_true rfl) (Or.inr ⟨_, rfl, (hM.f.k 42 rfl)⟩) rfl ?_
      rintro _ τ9 ⟨rfl, hM9⟩
      change aw _ _ _ _ 196 [some (.ref 42), none] [] _
      refine aw_retv rfl ⟨rfl, ?_⟩
      unfold sBegins
      rw [if_neg k2, if_neg k3, if_neg k21, if_neg k18, if_neg k9]
      exact hM9
    · exact b143 hI hN hTk hM hC h0 hst k2 k3 (Or.inr ((tfw10 htf).mp c8))
    
set_option maxRecDepth 10000 in
set_option maxHeartbeats 2000000 in
theorem b88 {d : Nat} {sz : Nat} {A : Nat → Int → Int} {K V S E : Int → Int} {T N : Int} {σ0 σ : az_S} {c : Cf} (hI : MI sz A) (hN : 0 ≤ N ∧ N ≤ 400) (hTk : TkN (A 74) N K V S E T) (hM : MC sz A K V S E N σ0 σ c) (hC : CI T c) (h0 : c.wr = 0) (hst : c.st = 1) (k2 : K c.n ≠ 2) (k3 : K c.n ≠ 3) : aw (d + 5) k_X12_begins none (fun r τ => r = none ∧ MC sz A K V S E N σ0 τ (sBegins K V S c)) 88 [some (.ref 42), none] [] σ := by
  obtain ⟨⟨bE, bF, bW⟩, bO, bN, bV⟩ := CI_b hTk hC
  have htf := hM.tf hTk bN
  obtain ⟨hNN, hnK⟩ : CN T c ∧ nK (topF c) := by
    rcases bV with q | ⟨q1, q2⟩
    · omega
    · unfold SP at q2
      refine ⟨q1, ?_⟩
      rcases q2 with q | q | q | q
      · omega
      · omega
      · exact q.2
      · omega
  refine aw_aload_n rfl rfl rfl ?_
  refine aw_bipush rfl rfl rfl ?_
  refine aw_fnc (m_isSign (s := 40) hM.f ⟨by omega, by omega⟩) rfl rfl rfl (Nat.le_of_ble_eq_true rfl) (Or.inr ⟨_, rfl, (hM.f.k 42 rfl)⟩) rfl ?_
  refine aw_ifeqb (p' := 107) rfl rfl rfl (fun c5 => ?_) (fun c5 => ?_)
  · have k21 : K c.n ≠ 21 := fun q => c5 ((tfs21 htf).mpr q)
    refine aw_aload_n rfl rfl rfl ?_
    refine aw_bipush rfl rfl rfl ?_
    refine aw_fnc (m_isSign (s := 45) hM.f ⟨by omega, by omega⟩) rfl rfl rfl (Nat.le_of_ble_eq_true rfl) (Or.inr ⟨_, rfl, (hM.f.k 42 rfl)⟩) rfl ?_
    refine aw_ifeqb (p' := 126) rfl rfl rfl (fun c6 => ?_) (fun c6 => ?_)
    · exact b126 hI hN hTk hM hC h0 hst k2 k3 k21 (fun q => c6 ((tfs18 htf).mpr q))
    
    · have k18 : K c.n = 18 := (tfs18 htf).mp c6
      have hlt : 0 ≤ c.n ∧ c.n < T := ⟨bN.1, n_lt (fun n a b => (hTk.2.2 n a b).2) bN (by omega)⟩
      refine aw_aload_n rfl rfl rfl ?_
      refine aw_bipush rfl rfl rfl ?_
      refine aw_calc (x_opens (x := 0) hI hN hTk hM h0 (by omega) bO hlt (f := 8) ⟨by omega, by omega⟩ (fun q => by omega) (by decide)) rfl rfl rfl (Nat.le_of_ble_eq_true rfl) (Or.inr ⟨_, rfl, (hM.f.k 42 rfl)⟩) rfl ?_
      rintro _ τ1 ⟨rfl, hM1⟩
      change aw _ _ _ _ 122 [some (.ref 42), none] [.int (iI (bI (c.op ≠ 10)))] _
      refine aw_istore_n rfl (Nat.le_of_ble_eq_true rfl) rfl rfl ?_
      change aw _ _ _ _ 123 [some (.ref 42), some (.int (iI (bI (c.op ≠ 10))))] [] _
      refine aw_goto (p' := 196) rfl rfl ?_
      refine aw_retv rfl ⟨rfl, ?_⟩
      unfold sBegins
      rw [if_neg k2, if_neg k3, if_neg k21, if_pos k18]
      exact hM1
  · have k21 : K c.n = 21 := (tfs21 htf).mp c5
    have hlt : 0 ≤ c.n ∧ c.n < T := ⟨bN.1, n_lt (fun n a b => (hTk.2.2 n a b).2) bN (by omega)⟩
    refine aw_aload_n rfl rfl rfl ?_
    refine aw_bipush rfl rfl rfl ?_
    refine aw_calc (x_opens (x := 0) hI hN hTk hM h0 (by omega) bO hlt (f := 7) ⟨by omega, by omega⟩ (fun q => by omega) (by decide)) rfl rfl rfl (Nat.le_of_ble_eq_true rfl) (Or.inr ⟨_, rfl, (hM.f.k 42 rfl)⟩) rfl ?_
    rintro _ τ1 ⟨rfl, hM1⟩
    change aw _ _ _ _ 103 [some (.ref 42), none] [.int (iI (bI (c.op ≠ 10)))] _
    refine aw_istore_n rfl (Nat.le_of_ble_eq_true rfl) rfl rfl ?_
    change aw _ _ _ _ 104 [some (.ref 42), some (.int (iI (bI (c.op ≠ 10))))] [] _
    refine aw_goto (p' := 196) rfl rfl ?_
    refine aw_retv rfl ⟨rfl, ?_⟩
    unfold sBegins
    rw [if_neg k2, if_neg k3, if_pos k21]
    exact hM1
set_option maxRecDepth 10000 in
set_option maxHeartbeats 2000000 in
theorem b46 {d : Nat} {sz : Nat} {A : Nat → Int → Int} {K V S E : Int → Int} {T N : Int} {σ0 σ : az_S} {c : Cf} (hI : MI sz A) (hN : 0 ≤ N ∧ N ≤ 400) (hTk : TkN (A 74) N K V S E T) (hM : MC sz A K V S E N σ0 σ c) (hC : CI T c) (h0 : c.wr = 0) (hst : c.st = 1) (k2 : K c.n ≠ 2) : aw (d + 5) k_X12_begins none (fun r τ => r = none ∧ MC sz A K V S E N σ0 τ (sBegins K V S c)) 46 [some (.ref 42), none] [] σ := by
  obtain ⟨⟨bE, bF, bW⟩, bO, bN, bV⟩ := CI_b hTk hC
  have htf := hM.tf hTk bN
  obtain ⟨hNN, hnK⟩ : CN T c ∧ nK (topF c) := by
    rcases bV with q | ⟨q1, q2⟩
    · omega
    · unfold SP at q2
      refine ⟨q1, ?_⟩
      rcases q2 with q | q | q | q
      · omega
      · omega
      · exact q.2
      · omega
  refine aw_aload_n rfl rfl rfl ?_
  refine aw_gs (44) rfl rfl (hM.f.k 42 rfl) rfl rfl (fun _ _ => ?_)
  refine aw_iconst rfl rfl ?_
  refine aw_icmp (p' := 88) rfl ⟨by omega, by omega⟩ ⟨by omega, by omega⟩ rfl rfl (fun c3 => ?_) (fun c3 => ?_)
  · dsimp only [zc] at c3
    exact b88 hI hN hTk hM hC h0 hst k2 (fun q => c3 ((tfm htf).mpr q).1)
  · dsimp only [zc] at c3
    refine aw_aload_n rfl rfl rfl ?_
    refine aw_gs (45) rfl rfl (hM.f.k 42 rfl) rfl rfl (fun _ _ => ?_)
    refine aw_bipush rfl rfl rfl ?_
    refine aw_icmp (p' := 88) rfl ⟨by omega, by omega⟩ ⟨by omega, by omega⟩ rfl rfl (fun c4 => ?_) (fun c4 => ?_)
    · dsimp only [zc] at c4
      exact b88 hI hN hTk hM hC h0 hst k2 (fun q => by have := ((tfm htf).mpr q).2; omega)
    · dsimp only [zc] at c4
      have k3 : K c.n = 3 := (tfm htf).mp ⟨by omega, by omega⟩
      have kv : zx σ 42 45 - 7 = V c.n := (tf3 htf k3).1
      have kb := (tf3 htf k3).2
      have hlt : 0 ≤ c.n ∧ c.n < T := ⟨bN.1, n_lt (fun n a b => (hTk.2.2 n a b).2) bN (by omega)⟩
      refine aw_aload_n rfl rfl rfl ?_
      refine aw_sipush rfl rfl rfl ?_
      refine aw_aload_n rfl rfl rfl ?_
      refine aw_gs (45) rfl rfl (hM.f.k 42 rfl) rfl rfl (fun _ _ => ?_)
      refine aw_bipush rfl rfl rfl ?_
      refine aw_isub rfl rfl ?_
      rw [kv]
      refine aw_calc (x_emits hM (by omega) (o := 401) ⟨by omega, by omega⟩ ⟨by omega, by omega⟩) rfl rfl rfl (Nat.le_of_ble_eq_true rfl) (Or.inr ⟨_, rfl, (hM.f.k 42 rfl)⟩) rfl ?_
      rintro _ τ1 ⟨rfl, hM1⟩
      change aw _ _ _ _ 77 [some (.ref 42), none] [] _
      refine aw_aload_n rfl rfl rfl ?_
      refine aw_calc (x_next hI hN hTk hM1 hlt) rfl rfl rfl (Nat.le_of_ble_eq_true rfl) (Or.inr ⟨_, rfl, (hM1.f.k 42 rfl)⟩) rfl ?_
      rintro _ τ2 ⟨rfl, hM2⟩
      change aw _ _ _ _ 81 [some (.ref 42), none] [] _
      refine aw_aload_n rfl rfl rfl ?_
      have hem : (((c.emit 401 (V c.n)).nxt.em.length : Nat) : Int) = c.em.length + 1 := by
        show ((c.em ++ [(401, V c.n)]).length : Int) = _
        rw [List.length_append]; rfl
      refine aw_calc (x_one hM2 hNN.1 (by show (((c.emit 401 (V c.n)).nxt.em.length : Nat) : Int) + (c.fr.length : Int) ≤ 900; omega) (by show (c.fr.length : Int) ≤ 64; omega) (by show c.op ≤ 100 ∧ -100 + (c.fr.length : Int) ≤ c.op; omega)) rfl rfl rfl (Nat.le_of_ble_eq_true rfl) (Or.inr ⟨_, rfl, (hM2.f.k 42 rfl)⟩) rfl ?_
      rintro _ τ3 ⟨rfl, hM3⟩
      change aw _ _ _ _ 85 [some (.ref 42), none] [] _
      refine aw_goto (p' := 196) rfl rfl ?_
      refine aw_retv rfl ⟨rfl, ?_⟩
      unfold sBegins
      rw [if_neg k2, if_pos k3]
      exact hM3
set_option maxRecDepth 10000 in
set_option maxHeartbeats 2000000 in
theorem x_begins {d : Nat} {sz : Nat} {A : Nat → Int → Int} {K V S E : Int → Int} {T N : Int} {σ0 σ : az_S} {c : Cf} (hI : MI sz A) (hN : 0 ≤ N ∧ N ≤ 400) (hTk : TkN (A 74) N K V S E T) (hM : MC sz A K V S E N σ0 σ c) (hC : CI T c) (h0 : c.wr = 0) (hst : c.st = 1) : cal (d + 6) 223 [.ref 42] σ (fun r τ => r = none ∧ MC sz A K V S E N σ0 τ (sBegins K V S c)) := by
  obtain ⟨⟨bE, bF, bW⟩, bO, bN, bV⟩ := CI_b hTk hC
  have htf := hM.tf hTk bN
  refine cal_of (M := (yX12_begins, cX12_begins, 2, none)) (cd := k_X12_begins) (L := [some (.ref 42), none]) rfl (Nat.le_of_ble_eq_true rfl) rfl rfl ?_
  obtain ⟨hNN, hnK⟩ : CN T c ∧ nK (topF c) := by
    rcases bV with q | ⟨q1, q2⟩
    · omega
    · unfold SP at q2
      refine ⟨q1, ?_⟩
      rcases q2 with q | q | q | q
      · omega
      · omega
      · exact q.2
      · omega
  refine aw_aload_n rfl rfl rfl ?_
  refine aw_gs (44) rfl rfl (hM.f.k 42 rfl) rfl rfl (fun _ _ => ?_)
  refine aw_iconst rfl rfl ?_
  refine aw_icmp (p' := 46) rfl ⟨by omega, by omega⟩ ⟨by omega, by omega⟩ rfl rfl (fun c1 => ?_) (fun c1 => ?_)
  · dsimp only [zc] at c1
    exact b46 hI hN hTk hM hC h0 hst (fun q => c1 ((tfn htf).mpr q))
  · dsimp only [zc] at c1
    have k2 : K c.n = 2 := (tfn htf).mp (by omega)
    have hlt : 0 ≤ c.n ∧ c.n < T := ⟨bN.1, n_lt (fun n a b => (hTk.2.2 n a b).2) bN (by omega)⟩
    refine aw_aload_n rfl rfl rfl ?_
    refine aw_gs (45) rfl rfl (hM.f.k 42 rfl) rfl rfl (fun _ _ => ?_)
    refine aw_ldcw (100000) rfl rfl rfl ?_
    refine aw_icmp (p' := 24) rfl ⟨by omega, by omega⟩ ⟨by omega, by omega⟩ rfl rfl (fun c2 => ?_) (fun c2 => ?_)
    · dsimp only [zc] at c2
      have kv : zx σ 42 45 = V c.n := ((tf2 htf k2).1 c2).1
      have kb := ((tf2 htf k2).1 c2).2
      refine aw_aload_n rfl rfl rfl ?_
      refine aw_sipush rfl rfl rfl ?_
      refine aw_aload_n rfl rfl rfl ?_
      refine aw_gs (45) rfl rfl (hM.f.k 42 rfl) rfl rfl (fun _ _ => ?_)
      rw [kv]
      refine aw_calc (x_emits hM (by omega) (o := 400) ⟨by omega, by omega⟩ ⟨by omega, by omega⟩) rfl rfl rfl (Nat.le_of_ble_eq_true rfl) (Or.inr ⟨_, rfl, (hM.f.k 42 rfl)⟩) rfl ?_
      rintro _ τ1 ⟨rfl, hM1⟩
      change aw _ _ _ _ 35 [some (.ref 42), none] [] _
      refine aw_aload_n rfl rfl rfl ?_
      refine aw_calc (x_next hI hN hTk hM1 hlt) rfl rfl rfl (Nat.le_of_ble_eq_true rfl) (Or.inr ⟨_, rfl, (hM1.f.k 42 rfl)⟩) rfl ?_
      rintro _ τ2 ⟨rfl, hM2⟩
      change aw _ _ _ _ 39 [some (.ref 42), none] [] _
      refine aw_aload_n rfl rfl rfl ?_
      have hem : (((c.emit 400 (V c.n)).nxt.em.length : Nat) : Int) = c.em.length + 1 := by
        show ((c.em ++ [(400, V c.n)]).length : Int) = _
        rw [List.length_append]; rfl
      refine aw_calc (x_one hM2 hNN.1 (by show (((c.emit 400 (V c.n)).nxt.em.length : Nat) : Int) + (c.fr.length : Int) ≤ 900; omega) (by show (c.fr.length : Int) ≤ 64; omega) (by show c.op ≤ 100 ∧ -100 + (c.fr.length : Int) ≤ c.op; omega)) rfl rfl rfl (Nat.le_of_ble_eq_true rfl) (Or.inr ⟨_, rfl, (hM2.f.k 42 rfl)⟩) rfl ?_
      rintro _ τ3 ⟨rfl, hM3⟩
      change aw _ _ _ _ 43 [some (.ref 42), none] [] _
      refine aw_goto (p' := 196) rfl rfl ?_
      refine aw_retv rfl ⟨rfl, ?_⟩
      unfold sBegins
      rw [if_pos k2, if_neg (by omega)]
      exact hM3
    · dsimp only [zc] at c2
      have kv : 100000 < V c.n := (tf2 htf k2).2 (by omega)
      refine aw_aload_n rfl rfl rfl ?_
      refine aw_iconst rfl rfl ?_
      refine aw_calc (x_errs hM h0 (f := 2) ⟨by omega, by omega⟩) rfl rfl rfl (Nat.le_of_ble_eq_true rfl) (Or.inr ⟨_, rfl, (hM.f.k 42 rfl)⟩) rfl ?_
      rintro _ τ9 ⟨rfl, hM9⟩
      change aw _ _ _ _ 23 [some (.ref 42), none] [] _
      refine aw_retv rfl ⟨rfl, ?_⟩
      unfold sBegins
      rw [if_pos k2, if_pos kv]
      exact hM9
