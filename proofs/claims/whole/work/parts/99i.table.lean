/-! WHAT EVERY CALL KEEPS OF THE TABLE -/
def GA (sz : Nat) (A : Nat → Int → Int) (R : tRules) : Prop := MI sz A ∧ (∀ t : Int, 0 ≤ t → t < A 42 12 → A 56 t ≤ 40) ∧ mTar A R
theorem GA.tit {sz : Nat} {A : Nat → Int → Int} {R : tRules} {B : Nat → Int → Int} {p : Prop} (h : GA sz A R) (k : p → GA sz B R) : GA sz (tit p B A) R := by
  by_cases q : p
  · rw [tit_t q]; exact k q
  · rw [tit_f q]; exact h
theorem mCode_cg {A A' : Nat → Int → Int} (h77 : A' 77 = A 77) (h78 : A' 78 = A 78) : ∀ (c : List (Int × Int)) (k : Int), mCode A k c → mCode A' k c := by
  intro c
  induction c with
  | nil => intro k _; trivial
  | cons q r ih =>
    intro k h
    exact ⟨by rw [h77]; exact h.1, by rw [h78]; exact h.2.1, ih (k + 1) h.2.2⟩
theorem mTar_cg {A A' : Nat → Int → Int} {R : tRules} (h : mTar A R) (h54 : A' 42 54 = A 42 54) (h55 : A' 42 55 = A 42 55) (h77 : A' 77 = A 77) (h78 : A' 78 = A 78) : mTar A' R := ⟨h54.trans h.1, h55.trans h.2.1, mCode_cg h77 h78 _ _ h.2.2⟩
theorem TI_up {A A' : Nat → Int → Int} {t : Int} (h : TI A t) (e : ∀ a : Nat, 49 ≤ a → a ≤ 62 → A' a = A a) (e2 : A' 42 2 = A 42 2) (h3 : A 42 3 ≤ A' 42 3) (h9 : A 42 9 ≤ A' 42 9) : TI A' t := by
  obtain ⟨k1, k2, k3, k4, k5, k6, k7, k8, k9, k10⟩ := h
  unfold TI
  rw [e 49 (by decide) (by decide), e 50 (by decide) (by decide), e 51 (by decide) (by decide), e 52 (by decide) (by decide), e 53 (by decide) (by decide), e 54 (by decide) (by decide), e 55 (by decide) (by decide), e 56 (by decide) (by decide), e 57 (by decide) (by decide), e 58 (by decide) (by decide), e 59 (by decide) (by decide), e 60 (by decide) (by decide), e 61 (by decide) (by decide), e 62 (by decide) (by decide), e2]
  exact ⟨k1, k2, fun i i0 i1 => by have := k3 i i0 i1; omega, k4, k5, by omega, by omega, k8, by omega, by omega⟩
theorem GI_up {A A' : Nat → Int → Int} {j : Int} (h : GI A j) (e : ∀ a : Nat, 63 ≤ a → a ≤ 73 → A' a j = A a j) (h3 : A 42 3 ≤ A' 42 3) (h9 : A 42 9 ≤ A' 42 9) (h12 : A 42 12 ≤ A' 42 12) : GI A' j := by
  obtain ⟨k1, k2, k3, k4, k5, k6, k7, k8⟩ := h
  unfold GI
  rw [e 63 (by decide) (by decide), e 64 (by decide) (by decide), e 65 (by decide) (by decide), e 66 (by decide) (by decide), e 67 (by decide) (by decide), e 68 (by decide) (by decide), e 69 (by decide) (by decide), e 70 (by decide) (by decide), e 71 (by decide) (by decide), e 72 (by decide) (by decide), e 73 (by decide) (by decide)]
  exact ⟨by omega, by omega, by omega, k4, k5, k6, k7, by omega⟩
theorem g_days {sz : Nat} {A : Nat → Int → Int} {R : tRules} {n : Int} (h : GA sz A R) : GA sz (m_days_op A n) R := by
  refine h.tit (fun p => ?_)
  obtain ⟨H, hE, hT⟩ := h
  have hcl := H.clock
  refine ⟨⟨H.wide, H.high, H.cells, ?_, H.sun, H.clouds, H.cloud, H.people, fun j h0 h1 => ?_, H.things, fun t h0 h1 => ?_, H.grants, fun j h0 h1 => ?_, H.taped, H.tape, H.stalls, H.stall, H.walks⟩, hE, mTar_cg hT rfl rfl rfl rfl⟩
  · show 0 ≤ A 42 3 + n ∧ A 42 3 + n ≤ 3599
    omega
  · have := H.person j h0 h1
    show A 47 j = -1 ∨ ((0 ≤ A 47 j ∧ A 47 j ≤ A 42 3 + n) ∧ 0 ≤ A 48 j ∧ A 48 j ≤ A 42 3 + n)
    omega
  · exact TI_up (H.thing t h0 h1) (fun a h1 h2 => up_fn (by omega)) rfl (by show A 42 3 ≤ A 42 3 + n; omega) (Int.le_refl _)
  · exact GI_up (H.grant j h0 h1) (fun a h1 h2 => up_ne (by omega)) (by show A 42 3 ≤ A 42 3 + n; omega) (Int.le_refl _) (Int.le_refl _)
theorem g_sun {sz : Nat} {A : Nat → Int → Int} {R : tRules} {m h x y : Int} (hG : GA sz A R) : GA sz (m_sun_op A m h x y) R := by
  refine hG.tit (fun p => ?_)
  obtain ⟨H, hE, hT⟩ := hG
  refine ⟨⟨H.wide, H.high, H.cells, H.clock, fun j h0 h1 => ?_, H.clouds, H.cloud, H.people, H.person, H.things, H.thing, H.grants, H.grant, H.taped, H.tape, H.stalls, H.stall, H.walks⟩, hE, mTar_cg hT rfl rfl rfl rfl⟩
  have q := H.sun j h0 h1
  have e1 : up (up A 43 (12 * m + h) x) 44 (12 * m + h) y 43 j = if j = 12 * m + h then x else A 43 j := by simp [up]
  have e2 : up (up A 43 (12 * m + h) x) 44 (12 * m + h) y 44 j = if j = 12 * m + h then y else A 44 j := by simp [up]
  rw [e1, e2]
  split <;> omega
theorem g_cloud {sz : Nat} {A : Nat → Int → Int} {R : tRules} {x h : Int} (hG : GA sz A R) : GA sz (m_cloud_op A x h) R := by
  refine hG.tit (fun p => ?_)
  obtain ⟨H, hE, hT⟩ := hG
  have hc := H.clouds
  refine ⟨⟨H.wide, H.high, H.cells, H.clock, H.sun, ?_, fun j h0 h1 => ?_, H.people, H.person, H.things, H.thing, H.grants, H.grant, H.taped, H.tape, H.stalls, H.stall, H.walks⟩, hE, mTar_cg hT rfl rfl rfl rfl⟩
  · show 0 ≤ A 42 6 + 1 ∧ A 42 6 + 1 ≤ 60
    omega
  · have h1' : j < A 42 6 + 1 := h1
    have e1 : up (up (up A 45 (A 42 6) x) 46 (A 42 6) h) 42 6 (A 42 6 + 1) 45 j = if j = A 42 6 then x else A 45 j := by simp [up]
    have e2 : up (up (up A 45 (A 42 6) x) 46 (A 42 6) h) 42 6 (A 42 6 + 1) 46 j = if j = A 42 6 then h else A 46 j := by simp [up]
    rw [e1, e2]
    by_cases q : j = A 42 6
    · rw [if_pos q, if_pos q]; omega
    · rw [if_neg q, if_neg q]; exact H.cloud j h0 (by omega)
theorem g_person {sz : Nat} {A : Nat → Int → Int} {R : tRules} (hG : GA sz A R) : GA sz (m_person_op A) R := by
  refine hG.tit (fun p => ?_)
  obtain ⟨H, hE, hT⟩ := hG
  have hc := H.people
  refine ⟨⟨H.wide, H.high, H.cells, H.clock, H.sun, H.clouds, H.cloud, ?_, fun j h0 h1 => ?_, H.things, fun t h0 h1 => ?_, H.grants, fun j h0 h1 => ?_, H.taped, H.tape, H.stalls, H.stall, H.walks⟩, hE, mTar_cg hT rfl rfl rfl rfl⟩
  · show 0 ≤ A 42 9 + 1 ∧ A 42 9 + 1 ≤ 16
    omega
  · have h1' : j < A 42 9 + 1 := h1
    have e1 : up (up A 47 (A 42 9) (-1)) 42 9 (A 42 9 + 1) 47 j = if j = A 42 9 then -1 else A 47 j := by simp [up]
    rw [e1]
    by_cases q : j = A 42 9
    · rw [if_pos q]; exact Or.inl rfl
    · rw [if_neg q]; exact H.person j h0 (by omega)
  · exact TI_up (H.thing t h0 h1) (fun a h1 h2 => by rw [up_fn (by omega), up_fn (by omega)]) rfl (Int.le_refl _) (by show A 42 9 ≤ A 42 9 + 1; omega)
  · exact GI_up (H.grant j h0 h1) (fun a h1 h2 => by rw [up_ne (by omega), up_ne (by omega)]) (Int.le_refl _) (by show A 42 9 ≤ A 42 9 + 1; omega) (Int.le_refl _)
theorem g_died {sz : Nat} {A : Nat → Int → Int} {R : tRules} {p x : Int} (hG : GA sz A R) : GA sz (m_died_op A p x) R := by
  refine hG.tit (fun q => ?_)
  obtain ⟨H, hE, hT⟩ := hG
  have hcl := H.clock
  refine ⟨⟨H.wide, H.high, H.cells, H.clock, H.sun, H.clouds, H.cloud, H.people, fun j h0 h1 => ?_, H.things, H.thing, H.grants, H.grant, H.taped, H.tape, H.stalls, H.stall, H.walks⟩, hE, mTar_cg hT rfl rfl rfl rfl⟩
  have k := H.person j h0 h1
  have e1 : up (up A 47 p x) 48 p (A 42 3) 47 j = if j = p then x else A 47 j := by simp [up]
  have e2 : up (up A 47 p x) 48 p (A 42 3) 48 j = if j = p then A 42 3 else A 48 j := by simp [up]
  rw [e1, e2]
  show _ ∨ ((_ ∧ _ ≤ A 42 3) ∧ _ ∧ _ ≤ A 42 3)
  split <;> omega
/-- a thing more -/
theorem GA_new {sz : Nat} {A : Nat → Int → Int} {R : tRules} {A' : Nat → Int → Int} {k c p h gr u v : Int} (hG : GA sz A R) (hs : mStand A c p h) (h1 : ∀ (a : Nat) (z : Int), (a < 49 ∨ 62 < a) → (a ≠ 42 ∨ z ≠ 12) → A' a z = A a z) (h12 : A' 42 12 = A 42 12 + 1) (hr : ∀ (a : Nat) (z : Int), 49 ≤ a → a ≤ 62 → (a < 57 ∨ 59 < a) → z ≠ A 42 12 → A' a z = A a z) (he : ∀ (a : Nat) (z : Int), 57 ≤ a → a ≤ 59 → z ≠ 41 * A 42 12 → A' a z = A a z) (v49 : A' 49 (A 42 12) = k) (v50 : A' 50 (A 42 12) = c) (v51 : A' 51 (A 42 12) = p) (v52 : A' 52 (A 42 12) = A 42 3) (v53 : A' 53 (A 42 12) = gr) (v54 : A' 54 (A 42 12) = u) (v55 : A' 55 (A 42 12) = v) (v56 : A' 56 (A 42 12) = 1) (v57 : A' 57 (41 * A 42 12) = A 42 3) (v58 : A' 58 (41 * A 42 12) = h) (v59 : A' 59 (41 * A 42 12) = A 42 3) (v60 : A' 60 (A 42 12) = -1) (v62 : A' 62 (A 42 12) = -1) (hk : (k = 1 ∧ 1 ≤ gr ∧ gr ≤ 999) ∨ ((k = 0 ∨ k = 2) ∧ gr = 0)) (huv : -50 ≤ u ∧ u ≤ 50 ∧ -50 ≤ v ∧ v ≤ 50) : GA sz A' R := by
  obtain ⟨H, hE, hT⟩ := hG
  have hcl := H.clock
  have hth := H.things
  have hce := H.cells
  obtain ⟨⟨hc, hp, hh, h24⟩, -⟩ := hs
  have s : ∀ z : Int, z ≠ 12 → A' 42 z = A 42 z := fun z q => h1 42 z (by decide) (Or.inr q)
  have r : ∀ (a : Nat), (a < 49 ∨ 62 < a) → a ≠ 42 → A' a = A a := fun a q1 q2 => funext fun z => h1 a z q1 (Or.inl q2)
  have w0 := H.wide
  have w1 := H.high
  have w6 := H.clouds
  have w9 := H.people
  have w27 := H.grants
  have w40 := H.taped
  have w66 := H.stalls
  have w85 := H.walks
  have e3 := s 3 (by decide)
  have e2 := s 2 (by decide)
  have e9 := s 9 (by decide)
  refine ⟨⟨by rw [s 0 (by decide)]; exact w0, by rw [s 1 (by decide)]; exact w1, by rw [s 0 (by decide), s 1 (by decide), s 2 (by decide)]; exact hce, by rw [e3]; exact hcl, by rw [r 43 (by decide) (by decide), r 44 (by decide) (by decide)]; exact H.sun, by rw [s 6 (by decide)]; exact w6, by rw [s 6 (by decide), r 45 (by decide) (by decide), r 46 (by decide) (by decide)]; exact H.cloud, by rw [e9]; exact w9, by rw [e9, e3, r 47 (by decide) (by decide), r 48 (by decide) (by decide)]; exact H.person, by rw [h12]; omega, fun t h0 h1 => ?_, by rw [s 27 (by decide)]; exact w27, fun j h0 h1 => ?_, by rw [s 40 (by decide)]; exact w40, by rw [r 74 (by decide) (by decide)]; exact H.tape, by rw [s 66 (by decide)]; exact w66, ?_, by rw [s 85 (by decide)]; exact w85⟩, fun t h0 h1 => ?_, mTar_cg hT (s 54 (by decide)) (s 55 (by decide)) (r 77 (by decide) (by decide)) (r 78 (by decide) (by decide))⟩
  · by_cases q : t = A 42 12
    · subst q
      unfold TI
      rw [v49, v50, v51, v52, v53, v54, v55, v56, v57, v59, v60, v62, e3, e2, e9]
      refine ⟨by omega, ⟨rfl, rfl⟩, fun i i0 i1 => ?_, hk, by omega, by omega, by omega, huv, Or.inl rfl, Or.inl rfl⟩
      have : i = 0 := by omega
      subst this
      rw [Int.add_zero, v57, v58, v59]
      omega
    · rw [h12] at h1
      obtain ⟨k1, k2, k3, k4, k5, k6, k7, k8, k9, k10⟩ := H.thing t h0 (by omega)
      unfold TI
      rw [hr 49 t (by decide) (by decide) (by decide) q, hr 50 t (by decide) (by decide) (by decide) q, hr 51 t (by decide) (by decide) (by decide) q, hr 52 t (by decide) (by decide) (by decide) q, hr 53 t (by decide) (by decide) (by decide) q, hr 54 t (by decide) (by decide) (by decide) q, hr 55 t (by decide) (by decide) (by decide) q, hr 56 t (by decide) (by decide) (by decide) q, hr 60 t (by decide) (by decide) (by decide) q, hr 61 t (by decide) (by decide) (by decide) q, hr 62 t (by decide) (by decide) (by decide) q, he 57 _ (by decide) (by decide) (show 41 * t ≠ 41 * A 42 12 by omega), he 59 _ (by decide) (by decide) (show 41 * t ≠ 41 * A 42 12 by omega), e3, e2, e9]
      refine ⟨k1, k2, fun i i0 i1 => ?_, k4, k5, k6, k7, k8, k9, k10⟩
      rw [he 57 _ (by decide) (by decide) (show 41 * t + i ≠ 41 * A 42 12 by omega), he 58 _ (by decide) (by decide) (show 41 * t + i ≠ 41 * A 42 12 by omega), he 59 _ (by decide) (by decide) (show 41 * t + i ≠ 41 * A 42 12 by omega)]
      exact k3 i i0 i1
  · rw [s 27 (by decide)] at h1
    exact GI_up (H.grant j h0 h1) (fun a q1 q2 => by rw [r a (by omega) (by omega)]) (by omega) (by omega) (by omega)
  · rw [s 66 (by decide)]
    intro j h0 h1
    have q := H.stall j h0 h1
    unfold SI at q ⊢
    rw [r 85 (by decide) (by decide), r 86 (by decide) (by decide), r 87 (by decide) (by decide), e2]
    exact q
  · by_cases q : t = A 42 12
    · rw [q, v56]; omega
    · rw [h12] at h1
      rw [hr 56 t (by decide) (by decide) (by decide) q]
      exact hE t h0 (by omega)
theorem up2 {A : Nat → Int → Int} {a b : Nat} {z x w : Int} (h : b ≠ a ∨ w ≠ z) : up A a z x b w = A b w := if_neg (by omega)
theorem st_o {A : Nat → Int → Int} {k c p h : Int} : (∀ (a : Nat) (z : Int), (a < 49 ∨ 62 < a) → (a ≠ 42 ∨ z ≠ 12) → mStands A k c p h a z = A a z) ∧ mStands A k c p h 42 12 = A 42 12 + 1 ∧ (∀ (a : Nat) (z : Int), 49 ≤ a → a ≤ 62 → (a < 57 ∨ 59 < a) → z ≠ A 42 12 → mStands A k c p h a z = A a z) ∧ (∀ (a : Nat) (z : Int), 57 ≤ a → a ≤ 59 → z ≠ 41 * A 42 12 → mStands A k c p h a z = A a z) := by
  have e56 : mStands0 A k c p 56 (A 42 12) = 0 := by simp [mStands0, up]
  refine ⟨fun a z h1 h2 => ?_, by simp [mStands, mEnter, mStands0, up], fun a z h1 h2 h3 h4 => ?_, fun a z h1 h2 h3 => ?_⟩
  · unfold mStands mEnter
    rw [up2 (by omega), up2 (by omega), up2 (by omega), up2 (by omega)]
    unfold mStands0
    rw [up2 (by omega), up2 (by omega), up2 (by omega), up2 (by omega), up2 (by omega), up2 (by omega), up2 (by omega), up2 (by omega), up2 (by omega), up2 (by omega), up2 (by omega)]
  · unfold mStands mEnter
    rw [up2 (by omega), up2 (by omega), up2 (by omega), up2 (by omega)]
    unfold mStands0
    rw [up2 (by omega), up2 (by omega), up2 (by omega), up2 (by omega), up2 (by omega), up2 (by omega), up2 (by omega), up2 (by omega), up2 (by omega), up2 (by omega), up2 (by omega)]
  · unfold mStands mEnter
    rw [e56, up2 (by omega), up2 (by omega), up2 (by omega), up2 (by omega)]
    unfold mStands0
    rw [up2 (by omega), up2 (by omega), up2 (by omega), up2 (by omega), up2 (by omega), up2 (by omega), up2 (by omega), up2 (by omega), up2 (by omega), up2 (by omega), up2 (by omega)]
theorem st_v {A : Nat → Int → Int} {k c p h : Int} : (mStands A k c p h 49 (A 42 12) = k ∧ mStands A k c p h 50 (A 42 12) = c ∧ mStands A k c p h 51 (A 42 12) = p ∧ mStands A k c p h 52 (A 42 12) = A 42 3) ∧ (mStands A k c p h 53 (A 42 12) = 0 ∧ mStands A k c p h 54 (A 42 12) = 0 ∧ mStands A k c p h 55 (A 42 12) = 0 ∧ mStands A k c p h 56 (A 42 12) = 1) ∧ mStands A k c p h 57 (41 * A 42 12) = A 42 3 ∧ mStands A k c p h 58 (41 * A 42 12) = h ∧ mStands A k c p h 59 (41 * A 42 12) = A 42 3 ∧ mStands A k c p h 60 (A 42 12) = -1 ∧ mStands A k c p h 62 (A 42 12) = -1 := by
  simp [mStands, mEnter, mStands0, up]
theorem g_wall {sz : Nat} {A : Nat → Int → Int} {R : tRules} {c p h : Int} (hG : GA sz A R) : GA sz (m_wall_op A c p h) R := by
  refine hG.tit (fun q => ?_)
  obtain ⟨o1, o2, o3, o4⟩ := st_o (A := A) (k := 0) (c := c) (p := p) (h := h)
  obtain ⟨⟨a1, a2, a3, a4⟩, ⟨b1, b2, b3, b4⟩, c1, c2, c3, c4, c5⟩ := st_v (A := A) (k := 0) (c := c) (p := p) (h := h)
  exact GA_new hG q o1 o2 o3 o4 a1 a2 a3 a4 b1 b2 b3 b4 c1 c2 c3 c4 c5 (by omega) (by omega)
theorem g_tree {sz : Nat} {A : Nat → Int → Int} {R : tRules} {c p h g : Int} (hG : GA sz A R) : GA sz (m_tree_op A c p h g) R := by
  refine hG.tit (fun q => ?_)
  obtain ⟨o1, o2, o3, o4⟩ := st_o (A := A) (k := 1) (c := c) (p := p) (h := h)
  obtain ⟨⟨a1, a2, a3, a4⟩, ⟨b1, b2, b3, b4⟩, c1, c2, c3, c4, c5⟩ := st_v (A := A) (k := 1) (c := c) (p := p) (h := h)
  have n : ∀ (a : Nat) (z : Int), a ≠ 53 ∨ z ≠ A 42 12 → up (mStands A 1 c p h) 53 (A 42 12) g a z = mStands A 1 c p h a z := fun a z x => up2 x
  refine GA_new (k := 1) (gr := g) (u := 0) (v := 0) hG q.1 (fun a z x y => by rw [n a z (by omega)]; exact o1 a z x y) (by rw [n _ _ (by omega)]; exact o2) (fun a z x y w v => by rw [n a z (by omega)]; exact o3 a z x y w v) (fun a z x y w => by rw [n a z (by omega)]; exact o4 a z x y w) (by rw [n _ _ (by omega)]; exact a1) (by rw [n _ _ (by omega)]; exact a2) (by rw [n _ _ (by omega)]; exact a3) (by rw [n _ _ (by omega)]; exact a4) (up_self _ _ _ _) (by rw [n _ _ (by omega)]; exact b2) (by rw [n _ _ (by omega)]; exact b3) (by rw [n _ _ (by omega)]; exact b4) (by rw [n _ _ (by omega)]; exact c1) (by rw [n _ _ (by omega)]; exact c2) (by rw [n _ _ (by omega)]; exact c3) (by rw [n _ _ (by omega)]; exact c4) (by rw [n _ _ (by omega)]; exact c5) (Or.inl ⟨rfl, q.2⟩) (by omega)
theorem g_pole {sz : Nat} {A : Nat → Int → Int} {R : tRules} {c p h u v : Int} (hG : GA sz A R) : GA sz (m_pole_op A c p h u v) R := by
  refine hG.tit (fun q => ?_)
  obtain ⟨o1, o2, o3, o4⟩ := st_o (A := A) (k := 2) (c := c) (p := p) (h := h)
  obtain ⟨⟨a1, a2, a3, a4⟩, ⟨b1, b2, b3, b4⟩, c1, c2, c3, c4, c5⟩ := st_v (A := A) (k := 2) (c := c) (p := p) (h := h)
  have n : ∀ (a : Nat) (z : Int), (a ≠ 54 ∧ a ≠ 55) ∨ z ≠ A 42 12 → up (up (mStands A 2 c p h) 54 (A 42 12) u) 55 (A 42 12) v a z = mStands A 2 c p h a z := fun a z x => by rw [up2 (by omega), up2 (by omega)]
  refine GA_new (k := 2) (gr := 0) (u := u) (v := v) hG q.1 (fun a z x y => by rw [n a z (by omega)]; exact o1 a z x y) (by rw [n _ _ (by omega)]; exact o2) (fun a z x y w v => by rw [n a z (by omega)]; exact o3 a z x y w v) (fun a z x y w => by rw [n a z (by omega)]; exact o4 a z x y w) (by rw [n _ _ (by omega)]; exact a1) (by rw [n _ _ (by omega)]; exact a2) (by rw [n _ _ (by omega)]; exact a3) (by rw [n _ _ (by omega)]; exact a4) (by rw [n _ _ (by omega)]; exact b1) (by rw [up2 (by omega), up_self]) (up_self _ _ _ _) (by rw [n _ _ (by omega)]; exact b4) (by rw [n _ _ (by omega)]; exact c1) (by rw [n _ _ (by omega)]; exact c2) (by rw [n _ _ (by omega)]; exact c3) (by rw [n _ _ (by omega)]; exact c4) (by rw [n _ _ (by omega)]; exact c5) (by omega) (by omega)
theorem GA_enter {sz : Nat} {A : Nat → Int → Int} {R : tRules} {t x h : Int} (hG : GA sz A R) (ht0 : 0 ≤ t) (ht1 : t < A 42 12) (he : A 56 t < 40) (hx0 : 0 ≤ x) (hx1 : x ≤ 3599) (hh0 : 0 ≤ h) (hh1 : h ≤ 60) : GA sz (mEnter A t x h) R := by
  obtain ⟨H, hE, hT⟩ := hG
  refine ⟨MI_enter H ht0 ht1 (by omega) hx0 hx1 hh0 hh1, fun u h0 h1 => ?_, mTar_cg hT rfl rfl rfl rfl⟩
  have q := hE u h0 h1
  rw [mEnter_56]
  split
  · rename_i e; rw [e] at q; omega
  · exact q
theorem g_raise {sz : Nat} {A : Nat → Int → Int} {R : tRules} {t x h : Int} (hG : GA sz A R) : GA sz (m_raise_op A t x h) R := by
  refine hG.tit (fun q => ?_)
  have hE := hG.2.1 t (by omega) (by omega)
  have hT := hG.1.thing t (by omega) (by omega)
  have h52 := hT.2.2.2.2.2.2.1
  exact GA_enter hG (by omega) (by omega) (by omega) (by omega) (by omega) (by omega) (by omega)
theorem g_fell {sz : Nat} {A : Nat → Int → Int} {R : tRules} {t x : Int} (hG : GA sz A R) : GA sz (m_fell_op A t x) R := by
  refine hG.tit (fun q => ?_)
  obtain ⟨H, hE, hT⟩ := hG
  have hcl := H.clock
  refine ⟨⟨H.wide, H.high, H.cells, H.clock, H.sun, H.clouds, H.cloud, H.people, H.person, H.things, fun u h0 h1 => ?_, H.grants, H.grant, H.taped, H.tape, H.stalls, H.stall, H.walks⟩, hE, mTar_cg hT rfl rfl rfl rfl⟩
  have hu2 : u < A 42 12 := h1
  obtain ⟨k1, k2, k3, k4, k5, k6, k7, k8, k9, k10⟩ := H.thing u h0 hu2
  refine ⟨k1, k2, k3, k4, k5, k6, k7, k8, ?_, k10⟩
  have e1 : up (up A 60 t x) 61 t (A 42 3) 60 u = if u = t then x else A 60 u := by simp [up]
  have e2 : up (up A 60 t x) 61 t (A 42 3) 61 u = if u = t then A 42 3 else A 61 u := by simp [up]
  rw [e1, e2]
  show _ ∨ (A 52 u ≤ _ ∧ _ ≤ A 42 3 ∧ 0 ≤ _ ∧ _ ≤ A 42 3)
  by_cases e : u = t
  · subst e
    rw [if_pos rfl, if_pos rfl]; omega
  · rw [if_neg e, if_neg e]; exact k9
theorem g_measure {sz : Nat} {A : Nat → Int → Int} {R : tRules} {t h c : Int} (hG : GA sz A R) : GA sz (m_measure_op A t h c) R := by
  refine hG.tit (fun q => ?_)
  obtain ⟨q1, q2, q3⟩ := q
  have o1 := q1.1
  have hE := hG.2.1 t (by omega) (by omega)
  have hf := mFrom_r hG.1 q1
  have hm := mMend_r hG.1 q1
  have hcl := hG.1.clock
  have hB : GA sz (mMeasB A t h c) R := by
    unfold mMeasB
    refine hG.tit (fun z => ?_)
    exact GA_enter hG (by omega) (by omega) (by have : A 56 t ≠ 40 := fun e => q3 ⟨z, e⟩; omega) hf.1 (by omega) hm.2.2.1 hm.2.2.2
  have e3 : mMeasB A t h c 42 3 = A 42 3 := by
    unfold mMeasB
    by_cases z : mNear A t h c ≠ mH A t (A 42 3) (A 42 3)
    · rw [tit_t z]; rfl
    · rw [tit_f z]
  have e12 : mMeasB A t h c 42 12 = A 42 12 := by
    unfold mMeasB
    by_cases z : mNear A t h c ≠ mH A t (A 42 3) (A 42 3)
    · rw [tit_t z]; rfl
    · rw [tit_f z]
  unfold mMeasTab
  rw [← e3]
  exact ⟨MI_meas hB.1 o1.1 (by omega), hB.2.1, mTar_cg hB.2.2 rfl rfl rfl rfl⟩
theorem g_bill {sz : Nat} {A : Nat → Int → Int} {R : tRules} {t h x p : Int} (hG : GA sz A R) : GA sz (m_bill_op A t h x p) R := by
  refine hG.tit (fun q => ?_)
  obtain ⟨o1, o2, o3, o4, o5⟩ := q
  have hE := hG.2.1 t (by omega) (by omega)
  have hT := hG.1.thing t (by omega) (by omega)
  have h52 := hT.2.2.2.2.2.2.1
  have h56 := hT.1
  have hM := MI_enter hG.1 (t := t) (x := x) (h := h) (by omega) (by omega) hE (by omega) (by omega) (by omega) (by omega)
  refine ⟨MI_less hM o1.1 (by show t < A 42 12; omega) h56.1 (by rw [mEnter_56, if_pos rfl]; omega), fun u h0 h1 => ?_, mTar_cg hG.2.2 rfl rfl rfl rfl⟩
  have e1 : up (mEnter A t x h) 56 t (A 56 t) 56 u = if u = t then A 56 t else mEnter A t x h 56 u := by simp [up]
  rw [e1]
  split
  · exact hE
  · rename_i e
    rw [mEnter_56, if_neg e]
    exact hG.2.1 u h0 h1
theorem g_grant {sz : Nat} {A : Nat → Int → Int} {R : tRules} {a e t u v f l w : Int} (hG : GA sz A R) : GA sz (m_grant_op A a e t u v f l w) R := by
  refine hG.tit (fun q => ?_)
  obtain ⟨H, hE, hT⟩ := hG
  have hcl := H.clock
  have hg := H.grants
  refine ⟨⟨H.wide, H.high, H.cells, H.clock, H.sun, H.clouds, H.cloud, H.people, H.person, H.things, H.thing, ?_, fun j h0 h1 => ?_, H.taped, H.tape, H.stalls, H.stall, H.walks⟩, hE, mTar_cg hT rfl rfl rfl rfl⟩
  · show 0 ≤ A 42 27 + 1 ∧ A 42 27 + 1 ≤ 60
    omega
  · have h1' : j < A 42 27 + 1 := h1
    by_cases z : j = A 42 27
    · subst z
      unfold GI
      simp only [up]
      simp
      omega
    · have k := H.grant j h0 (by omega)
      unfold GI at k ⊢
      simp only [up]
      simp [z]
      omega
theorem g_end {sz : Nat} {A : Nat → Int → Int} {R : tRules} {n : Int} (hG : GA sz A R) : GA sz (m_end_op A n) R := by
  refine hG.tit (fun q => ?_)
  obtain ⟨H, hE, hT⟩ := hG
  have ht := H.taped
  exact ⟨⟨H.wide, H.high, H.cells, H.clock, H.sun, H.clouds, H.cloud, H.people, H.person, H.things, H.thing, H.grants, H.grant, (by show 0 ≤ n ∧ n ≤ 400; omega), H.tape, H.stalls, H.stall, H.walks⟩, hE, mTar_cg hT rfl rfl rfl rfl⟩
theorem GA_put {sz : Nat} {A : Nat → Int → Int} {R : tRules} {v : Int} (hG : GA sz A R) (hl : A 42 40 ≤ 396) : GA sz (mPut A v) R := ⟨MI_put hG.1 hl, hG.2.1, mTar_cg hG.2.2 rfl rfl rfl rfl⟩
theorem put_40 (A : Nat → Int → Int) (v : Int) : mPut A v 42 40 = A 42 40 + 4 := by simp [mPut, up]
theorem g_feed {sz : Nat} {A : Nat → Int → Int} {R : tRules} {a b c e f : Int} (hG : GA sz A R) : GA sz (m_feed_op A a b c e f) R := by
  refine hG.tit (fun q => ?_)
  have h1 := GA_put (v := a) hG (by omega)
  have h2 := GA_put (v := b) h1 (by rw [put_40]; omega)
  have h3 := GA_put (v := c) h2 (by rw [put_40, put_40]; omega)
  have h4 := GA_put (v := e) h3 (by rw [put_40, put_40, put_40]; omega)
  exact GA_put (v := f) h4 (by rw [put_40, put_40, put_40, put_40]; omega)
theorem g_place {sz : Nat} {A : Nat → Int → Int} {R : tRules} {s h c : Int} (hG : GA sz A R) : GA sz (m_place_op A s h c) R := by
  refine hG.tit (fun q => ?_)
  obtain ⟨H, hE, hT⟩ := hG
  have hce := H.cells
  refine ⟨⟨H.wide, H.high, H.cells, H.clock, H.sun, H.clouds, H.cloud, H.people, H.person, H.things, H.thing, H.grants, H.grant, H.taped, H.tape, H.stalls, fun j h0 h1 => ?_, H.walks⟩, hE, mTar_cg hT rfl rfl rfl rfl⟩
  obtain ⟨k1, k2⟩ := H.stall j h0 h1
  refine ⟨k1, fun z z0 z1 => ?_⟩
  have k := k2 z z0 z1
  have e1 : up A 87 (12 * s + h) c 87 (12 * j + z) = if 12 * j + z = 12 * s + h then c else A 87 (12 * j + z) := by simp [up]
  rw [e1]
  show -1 ≤ _ ∧ _ < A 42 2
  split <;> omega
theorem fill_e {B : Nat → Int → Int} {s : Int} : ∀ (n : Nat) (a : Nat) (z : Int), mFill B s n a z = if a = 87 ∧ 12 * s ≤ z ∧ z < 12 * s + n then -1 else B a z := by
  intro n
  induction n with
  | zero => intro a z; rw [if_neg (by omega)]; rfl
  | succ n ih =>
    intro a z
    show up (mFill B s n) 87 (12 * s + n) (-1) a z = _
    unfold up
    rw [ih]
    by_cases q : a = 87 ∧ z = 12 * s + n
    · rw [if_pos q, if_pos (by omega)]
    · rw [if_neg q]
      by_cases q2 : a = 87 ∧ 12 * s ≤ z ∧ z < 12 * s + n
      · rw [if_pos q2, if_pos (by omega)]
      · rw [if_neg q2, if_neg (by omega)]
theorem g_stall {sz : Nat} {A : Nat → Int → Int} {R : tRules} {p u v : Int} (hG : GA sz A R) : GA sz (m_stall_op A p u v) R := by
  refine hG.tit (fun q => ?_)
  obtain ⟨H, hE, hT⟩ := hG
  have hce := H.cells
  have hst := H.stalls
  have e : ∀ (a : Nat) (z : Int), (a < 84 ∨ 87 < a) → (a ≠ 42 ∨ z ≠ 66) → up (mFill (mStall0 A p u v) (A 42 66) 12) 42 66 (A 42 66 + 1) a z = A a z := by
    intro a z h1 h2
    rw [up2 (by omega), fill_e, if_neg (by omega)]
    unfold mStall0
    rw [up2 (by omega), up2 (by omega), up2 (by omega)]
  have s : ∀ z : Int, z ≠ 66 → up (mFill (mStall0 A p u v) (A 42 66) 12) 42 66 (A 42 66 + 1) 42 z = A 42 z := fun z x => e 42 z (by decide) (Or.inr x)
  have r : ∀ (a : Nat), (a < 84 ∨ 87 < a) → a ≠ 42 → up (mFill (mStall0 A p u v) (A 42 66) 12) 42 66 (A 42 66 + 1) a = A a := fun a q1 q2 => funext fun z => e a z q1 (Or.inl q2)
  have e66 : up (mFill (mStall0 A p u v) (A 42 66) 12) 42 66 (A 42 66 + 1) 42 66 = A 42 66 + 1 := up_self _ _ _ _
  have e85 : ∀ j, up (mFill (mStall0 A p u v) (A 42 66) 12) 42 66 (A 42 66 + 1) 85 j = if j = A 42 66 then u else A 85 j := by
    intro j
    rw [up2 (by omega), fill_e, if_neg (by omega)]
    simp [mStall0, up]
  have e86 : ∀ j, up (mFill (mStall0 A p u v) (A 42 66) 12) 42 66 (A 42 66 + 1) 86 j = if j = A 42 66 then v else A 86 j := by
    intro j
    rw [up2 (by omega), fill_e, if_neg (by omega)]
    simp [mStall0, up]
  have e87 : ∀ j, up (mFill (mStall0 A p u v) (A 42 66) 12) 42 66 (A 42 66 + 1) 87 j = if 12 * A 42 66 ≤ j ∧ j < 12 * A 42 66 + 12 then -1 else A 87 j := by
    intro j
    rw [up2 (by omega), fill_e]
    by_cases z : 12 * A 42 66 ≤ j ∧ j < 12 * A 42 66 + 12
    · rw [if_pos z, if_pos ⟨rfl, z.1, by omega⟩]
    · rw [if_neg z, if_neg (by omega)]
      simp [mStall0, up]
  generalize up (mFill (mStall0 A p u v) (A 42 66) 12) 42 66 (A 42 66 + 1) = A' at *
  have e3 := s 3 (by decide)
  have e2 := s 2 (by decide)
  have e9 := s 9 (by decide)
  have e12 := s 12 (by decide)
  have TI' : ∀ t, TI A t → TI A' t := fun t x => TI_up x (fun a h1 h2 => r a (by omega) (by omega)) e2 (by omega) (by omega)
  refine ⟨⟨by rw [s 0 (by decide)]; exact H.wide, by rw [s 1 (by decide)]; exact H.high, by rw [s 0 (by decide), s 1 (by decide), s 2 (by decide)]; exact hce, by rw [e3]; exact H.clock, by rw [r 43 (by decide) (by decide), r 44 (by decide) (by decide)]; exact H.sun, by rw [s 6 (by decide)]; exact H.clouds, by rw [s 6 (by decide), r 45 (by decide) (by decide), r 46 (by decide) (by decide)]; exact H.cloud, by rw [e9]; exact H.people, by rw [e9, e3, r 47 (by decide) (by decide), r 48 (by decide) (by decide)]; exact H.person, by rw [e12]; exact H.things, fun t h0 h1 => TI' t (H.thing t h0 (by omega)), by rw [s 27 (by decide)]; exact H.grants, fun j h0 h1 => ?_, by rw [s 40 (by decide)]; exact H.taped, by rw [r 74 (by decide) (by decide)]; exact H.tape, by rw [e66]; omega, fun j h0 h1 => ?_, by rw [s 85 (by decide)]; exact H.walks⟩, fun t h0 h1 => by rw [r 56 (by decide) (by decide)]; exact hE t h0 (by omega), mTar_cg hT (s 54 (by decide)) (s 55 (by decide)) (r 77 (by decide) (by decide)) (r 78 (by decide) (by decide))⟩
  · rw [s 27 (by decide)] at h1
    exact GI_up (H.grant j h0 h1) (fun a q1 q2 => by rw [r a (by omega) (by omega)]) (by omega) (by omega) (by omega)
  · rw [e66] at h1
    unfold SI
    rw [e85, e86, e2]
    by_cases z : j = A 42 66
    · rw [if_pos z, if_pos z]
      refine ⟨by omega, fun y y0 y1 => ?_⟩
      rw [e87, if_pos (by omega)]
      omega
    · rw [if_neg z, if_neg z]
      obtain ⟨k1, k2⟩ := H.stall j h0 (by omega)
      refine ⟨k1, fun y y0 y1 => ?_⟩
      rw [e87, if_neg (by omega)]
      exact k2 y y0 y1
theorem wFil_e {B : Nat → Int → Int} {f : Nat → Int} : ∀ (n : Nat) (a : Nat) (z : Int), a ≠ 101 → wFil B f n a z = B a z := by
  intro n
  induction n with
  | zero => intro a z _; rfl
  | succ n ih =>
    intro a z h
    show up (wFil B f n) 101 n (f n) a z = _
    rw [up_ne h]
    exact ih a z h
theorem g_walk {sz : Nat} {A : Nat → Int → Int} {R : tRules} {x F u E t : Int} (hG : GA sz A R) : GA sz (m_walk_op A R x F u E t) R := by
  refine hG.tit (fun q => ?_)
  obtain ⟨H, hE, hT⟩ := hG
  obtain ⟨⟨q1, q2, q3, q4, q5⟩, -⟩ := q
  have e : ∀ (a : Nat) (z : Int), a ≠ 101 → (a ≠ 42 ∨ (z ≠ 85 ∧ z ≠ 86)) → wTab A R x F u E t (E - F + 1).toNat a z = A a z := by
    intro a z h1 h2
    unfold wTab
    rw [wFil_e _ _ _ h1]
    unfold wTab0
    rw [up2 (by omega), up2 (by omega)]
  have e85 : wTab A R x F u E t (E - F + 1).toNat 42 85 = E - F + 1 := by
    unfold wTab
    rw [wFil_e _ _ _ (by decide)]
    unfold wTab0
    rw [up_nz (by decide), up_self]
  refine ⟨H.cg (fun a z h1 h2 h3 h4 => e a z h1 (by omega)) (by rw [e85]; omega), fun y h0 h1 => ?_, mTar_cg hT (e _ _ (by omega) (by omega)) (e _ _ (by omega) (by omega)) (funext fun z => e _ _ (by omega) (by omega)) (funext fun z => e _ _ (by omega) (by omega))⟩
  rw [e 42 12 (by omega) (by omega)] at h1
  rw [e 56 y (by omega) (by omega)]
  exact hE y h0 h1
