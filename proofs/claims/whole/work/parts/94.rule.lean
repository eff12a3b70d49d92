/-! A RULE -/
theorem c_endAskg {d : Nat} {sz : Nat} {κ : Nat × (Nat → Int32) × Option Nat} {A : Nat → Int → Int} {g : Nat → Nat} {σ : az_S} {b : Nat} (hb : b = 16 ∨ b = 22) (hC : CR sz κ A g σ) (hI : MI sz A) {l q : Int} (hl : zx σ b 5 = l) (hq : zx σ b 6 = q) (hq0 : 0 ≤ q) (hq1 : q < 20) : cal (d + 1) 78 [.ref b] σ (fun r τ => r = none ∧ CR sz κ A g τ ∧ Mod σ τ [b + 3] ∧ (∀ w : Int, zx τ (b + 3) w = if w = q then l else zx σ (b + 3) w)) := by
  rcases hb with rfl | rfl
  · exact c_endAsk16 hC hI hl hq hq0 hq1
  · exact c_endAsk22 hC hI hl hq hq0 hq1
theorem c_endRuleg {d : Nat} {sz : Nat} {κ : Nat × (Nat → Int32) × Option Nat} {A : Nat → Int → Int} {g : Nat → Nat} {σ : az_S} {b : Nat} (hb : b = 16 ∨ b = 22) (hC : CR sz κ A g σ) (hI : MI sz A) {l q : Int} (hl : zx σ b 5 = l) (hq : zx σ b 6 = q) (hq0 : 0 ≤ q) (hq1 : q < 20) : cal (d + 1) 79 [.ref b] σ (fun r τ => r = none ∧ CR sz κ A g τ ∧ Mod σ τ [b, b + 4] ∧ zx τ b 5 = l ∧ zx τ b 6 = q + 1 ∧ (∀ w : Int, zx τ (b + 4) w = if w = q then l else zx σ (b + 4) w)) := by
  rcases hb with rfl | rfl
  · exact c_endRule16 hC hI hl hq hq0 hq1
  · exact c_endRule22 hC hI hl hq hq0 hq1
theorem Mod.s6a {σ τ : az_S} {b : Nat} (hb : b = 16 ∨ b = 22) (h : Mod σ τ [40, b, b + 1, b + 2]) : Mod σ τ [40, b, b + 1, b + 2, b + 3, b + 4] := by rcases hb with rfl | rfl <;> exact h.su rfl
theorem Mod.s6b {σ τ : az_S} {b : Nat} (hb : b = 16 ∨ b = 22) (h : Mod σ τ [b + 3]) : Mod σ τ [40, b, b + 1, b + 2, b + 3, b + 4] := by rcases hb with rfl | rfl <;> exact h.su rfl
theorem Mod.s6c {σ τ : az_S} {b : Nat} (hb : b = 16 ∨ b = 22) (h : Mod σ τ [b, b + 4]) : Mod σ τ [40, b, b + 1, b + 2, b + 3, b + 4] := by rcases hb with rfl | rfl <;> exact h.su rfl
theorem Mod.s6d {σ τ : az_S} {b : Nat} (hb : b = 16 ∨ b = 22) (h : Mod σ τ [40]) : Mod σ τ [40, b, b + 1, b + 2, b + 3, b + 4] := by rcases hb with rfl | rfl <;> exact h.su rfl
theorem Mod.tok6 {σ τ : az_S} {b : Nat} (hb : b = 16 ∨ b = 22) (h : Mod σ τ [40, b, b + 1, b + 2, b + 3, b + 4]) : zx τ 9 = zx σ 9 ∧ zx τ 11 = zx σ 11 ∧ zx τ 12 = zx σ 12 ∧ zx τ 13 = zx σ 13 := by rcases hb with rfl | rfl <;> exact ⟨h.z _ rfl, h.z _ rfl, h.z _ rfl, h.z _ rfl⟩
theorem Mod.b3 {σ τ : az_S} {b : Nat} (hb : b = 16 ∨ b = 22) (h : Mod σ τ [b + 3]) : (zx τ 9 = zx σ 9 ∧ zx τ 11 = zx σ 11 ∧ zx τ 12 = zx σ 12 ∧ zx τ 13 = zx σ 13) ∧ zx τ 40 = zx σ 40 ∧ zx τ b = zx σ b ∧ zx τ (b + 1) = zx σ (b + 1) ∧ zx τ (b + 2) = zx σ (b + 2) ∧ zx τ (b + 4) = zx σ (b + 4) := by rcases hb with rfl | rfl <;> exact ⟨⟨h.z _ rfl, h.z _ rfl, h.z _ rfl, h.z _ rfl⟩, h.z _ rfl, h.z _ rfl, h.z _ rfl, h.z _ rfl, h.z _ rfl⟩
theorem Mod.b4 {σ τ : az_S} {b : Nat} (hb : b = 16 ∨ b = 22) (h : Mod σ τ [b, b + 4]) : (zx τ 9 = zx σ 9 ∧ zx τ 11 = zx σ 11 ∧ zx τ 12 = zx σ 12 ∧ zx τ 13 = zx σ 13) ∧ zx τ 40 = zx σ 40 ∧ zx τ (b + 1) = zx σ (b + 1) ∧ zx τ (b + 2) = zx σ (b + 2) ∧ zx τ (b + 3) = zx σ (b + 3) := by rcases hb with rfl | rfl <;> exact ⟨⟨h.z _ rfl, h.z _ rfl, h.z _ rfl, h.z _ rfl⟩, h.z _ rfl, h.z _ rfl, h.z _ rfl, h.z _ rfl⟩
theorem Mod.m34 {σ τ : az_S} {b : Nat} (hb : b = 16 ∨ b = 22) (h : Mod σ τ [40, b, b + 1, b + 2]) : zx τ (b + 3) = zx σ (b + 3) ∧ zx τ (b + 4) = zx σ (b + 4) := by rcases hb with rfl | rfl <;> exact ⟨h.z _ rfl, h.z _ rfl⟩
theorem tLen_snoc (p : List (Int × Int) × List (Int × Int)) : ∀ R : tRules, tLen (R ++ [p]) = tLen R + p.1.length + p.2.length := by
  intro R
  induction R with
  | nil => rw [List.nil_append, tLen_c]; show _ + 0 = 0 + _ + _; omega
  | cons q R ih => rw [List.cons_append, tLen_c, tLen_c, ih]; omega
/-- what is emitted of an ask -/
def wOf (n : List (Int × Int)) : List (Int × Int) := match n with | [] => [] | q :: c => (q :: c) ++ [(408, 0)]
theorem flat_snoc (p : List (Int × Int) × List (Int × Int)) : ∀ R : tRules, flat (R ++ [p]) = flat R ++ (wOf p.1 ++ p.2 ++ [(409, 0)]) := by
  intro R
  induction R with
  | nil => show (wOf p.1 ++ p.2 ++ [(409, 0)]) ++ [] = [] ++ _; rw [List.append_nil, List.nil_append]
  | cons q R ih =>
    show (wOf q.1 ++ q.2 ++ [(409, 0)]) ++ flat (R ++ [p]) = ((wOf q.1 ++ q.2 ++ [(409, 0)]) ++ flat R) ++ _
    rw [ih]
    simp only [List.append_assoc]
theorem cRul_snoc {f s a e : Int → Int} {p : List (Int × Int) × List (Int × Int)} : ∀ (R : tRules) (i k : Int), cRul f s a e i k R → a (i + R.length) = k + tLen R + p.1.length → e (i + R.length) = k + tLen R + p.1.length + p.2.length → cCode f s (k + tLen R) p.1 → cCode f s (k + tLen R + p.1.length) p.2 → cRul f s a e i k (R ++ [p]) := by
  intro R
  induction R with
  | nil =>
    intro i k _ h1 h2 h3 h4
    have e0 : k + ((tLen ([] : tRules) : Nat) : Int) = k := Int.add_zero k
    have e1 : i + ((([] : tRules).length : Nat) : Int) = i := Int.add_zero i
    rw [e1, e0] at h1 h2
    rw [e0] at h3 h4
    exact ⟨h1, h2, h3, h4, trivial⟩
  | cons q R ih =>
    intro i k h h1 h2 h3 h4
    obtain ⟨g1, g2, g3, g4, g5⟩ := h
    have z : ((tLen (q :: R) : Nat) : Int) = q.1.length + q.2.length + tLen R := by rw [tLen_c]; push_cast; rfl
    have z2 : (((q :: R).length : Nat) : Int) = R.length + 1 := by simp
    have e1 : i + (((q :: R).length : Nat) : Int) = i + 1 + R.length := by omega
    have e2 : k + ((tLen (q :: R) : Nat) : Int) = k + q.1.length + q.2.length + tLen R := by omega
    rw [e1, e2] at h1 h2
    rw [e2] at h3 h4
    exact ⟨g1, g2, g3, g4, ih (i + 1) (k + q.1.length + q.2.length) g5 h1 h2 h3 h4⟩
theorem cRul_up {f s a e f' s' a' e' : Int → Int} : ∀ (R : tRules) (i k : Int), cRul f s a e i k R → (∀ w : Int, w < k + tLen R → f' w = f w ∧ s' w = s w) → (∀ j : Int, j < i + R.length → a' j = a j ∧ e' j = e j) → cRul f' s' a' e' i k R := by
  intro R
  induction R with
  | nil => intro i k _ _ _; trivial
  | cons q R ih =>
    intro i k h hw hj
    obtain ⟨g1, g2, g3, g4, g5⟩ := h
    have z : ((tLen (q :: R) : Nat) : Int) = q.1.length + q.2.length + tLen R := by rw [tLen_c]; push_cast; rfl
    have z2 : (((q :: R).length : Nat) : Int) = R.length + 1 := by simp
    have h0 := hj i (by omega)
    refine ⟨h0.1.trans g1, h0.2.trans g2, cCode_up _ _ g3 (fun w _ w1 => hw w (by omega)), cCode_up _ _ g4 (fun w _ w1 => hw w (by omega)), ih (i + 1) _ g5 (fun w w1 => hw w (by omega)) (fun j j1 => hj j (by omega))⟩
/-- the reference's parser between two rules -/
def CT0 (a : Int) (R : tRules) : Cf := (a, 4, [], [], 0, flat R, (R.length : Int), 0, -1)
def CT1 (a : Int) (R : tRules) : Cf := (a, 4, [], [], 0, flat R, (R.length : Int) + 1, 0, -1)
def RS (sz : Nat) (κ : Nat × (Nat → Int32) × Option Nat) (A : Nat → Int → Int) (g : Nat → Nat) (E : Int → Int) (T : Int) (b : Nat) (σ : az_S) (a : Int) (R : tRules) : Prop := PS sz κ A g E T b σ a (tLen R) ∧ cTar σ b R ∧ R.length ≤ 20 ∧ ∀ p, p ∈ R → rOk p
/-- what rule leaves -/
def RP (sz : Nat) (κ : Nat × (Nat → Int32) × Option Nat) (A : Nat → Int → Int) (g : Nat → Nat) (E : Int → Int) (T : Int) (b : Nat) (σ : az_S) (a : Int) (R : tRules) : Option Value → az_S → Prop := fun r τ => r = none ∧ CR sz κ A g τ ∧ Mod σ τ [40, b, b + 1, b + 2, b + 3, b + 4] ∧ ((∃ a' R', a < a' ∧ RS sz κ A g E T b τ a' R' ∧ R'.length = R.length + 1 ∧ Rch (zx σ 11) (zx σ 13) (zx σ 12) (CT0 a R) (CT0 a' R')) ∨ (∃ x f, BDp x f τ ∧ f ≠ 0 ∧ (0 ≤ x ∧ x ≤ T) ∧ az_r τ 40 1 = some b ∧ ∃ e : Cf, Rch (zx σ 11) (zx σ 13) (zx σ 12) (CT0 a R) e ∧ e.wr = f ∧ e.wa = zx σ 12 x))
def FB (sz : Nat) (κ : Nat × (Nat → Int32) × Option Nat) (A : Nat → Int → Int) (g : Nat → Nat) (T : Int) (b : Nat) (σ τ : az_S) (x f : Int) : Prop := CR sz κ A g τ ∧ Mod σ τ [40, b, b + 1, b + 2, b + 3, b + 4] ∧ BDp x f τ ∧ f ≠ 0 ∧ (0 ≤ x ∧ x ≤ T) ∧ az_r τ 40 1 = some b ∧ (0 ≤ zx τ b 6 ∧ zx τ b 6 < 20)
set_option maxRecDepth 10000 in
theorem rb80 {d : Nat} {sz : Nat} {κ : Nat × (Nat → Int32) × Option Nat} {A : Nat → Int → Int} {g : Nat → Nat} {E : Int → Int} {T : Int} {b : Nat} (hb : b = 16 ∨ b = 22) (hI : MI sz A) {σ τ : az_S} {a x f : Int} {R : tRules} (hB : FB sz κ A g T b σ τ x f) (hF : ∃ e : Cf, Rch (zx σ 11) (zx σ 13) (zx σ 12) (CT0 a R) e ∧ e.wr = f ∧ e.wa = zx σ 12 x) : aw (d + 4) k_X2_rule none (RP sz κ A g E T b σ a R) 80 [some (.ref 40)] [] τ := by
  obtain ⟨hC, hD, hq, hf, hx, hr, h6⟩ := hB
  refine aw_aload_n rfl rfl rfl ?_
  refine aw_getr (b := b) rfl rfl (hC.f.k 40 rfl) hr rfl ?_
  refine aw_calc (c_endRuleg hb hC hI rfl rfl h6.1 h6.2) rfl rfl rfl (Nat.le_of_ble_eq_true rfl) (Or.inr ⟨_, rfl, (hC.f.tar hb).1⟩) rfl ?_
  rintro _ ρ ⟨rfl, h1, h2, h3, h4, h5⟩
  obtain ⟨_, k40, _⟩ := h2.b4 hb
  change aw _ _ _ _ 87 [some (.ref 40)] [] _
  exact aw_retv rfl ⟨rfl, h1, hD.tr (h2.s6c hb), Or.inr ⟨x, f, by unfold BDp; rw [k40]; exact hq, hf, hx, by rw [h2.2.2.2.1]; exact hr, hF⟩⟩
set_option maxRecDepth 10000 in
theorem rb74 {d : Nat} {sz : Nat} {κ : Nat × (Nat → Int32) × Option Nat} {A : Nat → Int → Int} {g : Nat → Nat} {E : Int → Int} {T : Int} {b : Nat} (hb : b = 16 ∨ b = 22) (hI : MI sz A) {σ τ : az_S} {a x f : Int} {R : tRules} (hB : FB sz κ A g T b σ τ x f) (hF : ∃ e : Cf, Rch (zx σ 11) (zx σ 13) (zx σ 12) (CT0 a R) e ∧ e.wr = f ∧ e.wa = zx σ 12 x) : aw (d + 4) k_X2_rule none (RP sz κ A g E T b σ a R) 74 [some (.ref 40)] [] τ := by
  have hC := hB.1
  refine aw_aload_n rfl rfl rfl ?_
  refine aw_bipush rfl rfl rfl ?_
  refine aw_calc (c_passb hC hI hB.2.2.1 hB.2.2.2.1 ⟨by omega, by omega⟩ (by decide)) rfl rfl rfl (Nat.le_of_ble_eq_true rfl) (Or.inr ⟨_, rfl, (hC.f.k 40 rfl)⟩) rfl ?_
  rintro _ _ ⟨rfl, rfl⟩
  exact rb80 hb hI hB hF
set_option maxRecDepth 10000 in
theorem rb69 {d : Nat} {sz : Nat} {κ : Nat × (Nat → Int32) × Option Nat} {A : Nat → Int → Int} {g : Nat → Nat} {E : Int → Int} {T : Int} {b : Nat} (hb : b = 16 ∨ b = 22) (hI : MI sz A) {σ τ : az_S} {a x f : Int} {R : tRules} (hB : FB sz κ A g T b σ τ x f) (hF : ∃ e : Cf, Rch (zx σ 11) (zx σ 13) (zx σ 12) (CT0 a R) e ∧ e.wr = f ∧ e.wa = zx σ 12 x) : aw (d + 4) k_X2_rule none (RP sz κ A g E T b σ a R) 69 [some (.ref 40)] [] τ := by
  have hC := hB.1
  refine aw_aload_n rfl rfl rfl ?_
  refine aw_iconst rfl rfl ?_
  refine aw_calc (c_sumb hC hI hB.2.2.1 hB.2.2.2.1 ⟨by omega, by omega⟩) rfl rfl rfl (Nat.le_of_ble_eq_true rfl) (Or.inr ⟨_, rfl, (hC.f.k 40 rfl)⟩) rfl ?_
  rintro _ _ ⟨rfl, rfl⟩
  exact rb74 hb hI hB hF
set_option maxRecDepth 10000 in
theorem rb64 {d : Nat} {sz : Nat} {κ : Nat × (Nat → Int32) × Option Nat} {A : Nat → Int → Int} {g : Nat → Nat} {E : Int → Int} {T : Int} {b : Nat} (hb : b = 16 ∨ b = 22) (hI : MI sz A) {σ τ : az_S} {a x f : Int} {R : tRules} (hB : FB sz κ A g T b σ τ x f) (hF : ∃ e : Cf, Rch (zx σ 11) (zx σ 13) (zx σ 12) (CT0 a R) e ∧ e.wr = f ∧ e.wa = zx σ 12 x) : aw (d + 4) k_X2_rule none (RP sz κ A g E T b σ a R) 64 [some (.ref 40)] [] τ := by
  have hC := hB.1
  refine aw_aload_n rfl rfl rfl ?_
  refine aw_iconst rfl rfl ?_
  refine aw_calc (c_passb hC hI hB.2.2.1 hB.2.2.2.1 ⟨by omega, by omega⟩ (by decide)) rfl rfl rfl (Nat.le_of_ble_eq_true rfl) (Or.inr ⟨_, rfl, (hC.f.k 40 rfl)⟩) rfl ?_
  rintro _ _ ⟨rfl, rfl⟩
  exact rb69 hb hI hB hF
set_option maxRecDepth 10000 in
theorem rb57 {d : Nat} {sz : Nat} {κ : Nat × (Nat → Int32) × Option Nat} {A : Nat → Int → Int} {g : Nat → Nat} {E : Int → Int} {T : Int} {b : Nat} (hb : b = 16 ∨ b = 22) (hI : MI sz A) {σ τ : az_S} {a x f : Int} {R : tRules} (hB : FB sz κ A g T b σ τ x f) (hF : ∃ e : Cf, Rch (zx σ 11) (zx σ 13) (zx σ 12) (CT0 a R) e ∧ e.wr = f ∧ e.wa = zx σ 12 x) : aw (d + 4) k_X2_rule none (RP sz κ A g E T b σ a R) 57 [some (.ref 40)] [] τ := by
  obtain ⟨hC, hD, hq, hf, hx, hr, h6⟩ := hB
  refine aw_aload_n rfl rfl rfl ?_
  refine aw_getr (b := b) rfl rfl (hC.f.k 40 rfl) hr rfl ?_
  refine aw_calc (c_endAskg hb hC hI rfl rfl h6.1 h6.2) rfl rfl rfl (Nat.le_of_ble_eq_true rfl) (Or.inr ⟨_, rfl, (hC.f.tar hb).1⟩) rfl ?_
  rintro _ ρ ⟨rfl, h1, h2, h3⟩
  obtain ⟨_, k40, kb, _⟩ := h2.b3 hb
  exact rb64 hb hI ⟨h1, hD.tr (h2.s6b hb), by unfold BDp; rw [k40]; exact hq, hf, hx, by rw [h2.2.2.2.1]; exact hr, by rw [kb]; exact h6⟩ hF
theorem fit_c1 {a a' f x s : Int} {R : tRules} {m : List (Int × Int)} : fit ((CT1 a R).sub f x a' s 0 m) s a' 0 := ⟨rfl, rfl, ⟨rfl, fun q hq => by cases hq⟩, rfl⟩
theorem Zr_c1 {a a' f x s r : Int} {R : tRules} {m : List (Int × Int)} (hf : f ≠ 8) : Zr r ((CT1 a R).sub f x a' s 0 m) := ⟨hf, rfl⟩
theorem Zb_c1 {a a' f x s r : Int} {R : tRules} {m : List (Int × Int)} (hf : f ≠ 4) : Zb r ((CT1 a R).sub f x a' s 0 m) := ⟨hf, rfl⟩
theorem wOf_ne {n : List (Int × Int)} (h : n ≠ []) : wOf n = n ++ [(408, 0)] := by
  cases n with
  | nil => exact absurd rfl h
  | cons q c => rfl
set_option maxRecDepth 10000 in
set_option maxHeartbeats 2000000 in
theorem ru57 {sz : Nat} {κ : Nat × (Nat → Int32) × Option Nat} {A : Nat → Int → Int} {g : Nat → Nat} {E : Int → Int} {T : Int} {b : Nat} (hb : b = 16 ∨ b = 22) (hI : MI sz A) {σ τ : az_S} {a a1 : Int} {R : tRules} {n1 : List (Int × Int)} (hR : RS sz κ A g E T b σ a R) (hR20 : (R.length : Int) < 20) (hG : GS sz κ A g E T b σ τ a (tLen R) a1 n1) (hn : n1 = [] ∨ tyR n1 [] [true]) (h5 : zx σ 11 a1 = 5 → Rch (zx σ 11) (zx σ 13) (zx σ 12) (CT0 a R) ((CT1 a R).sub 2 0 (a1 + 1) 1 0 (wOf n1))) (hE : zx σ 11 a1 ≠ 5 → ∃ e : Cf, Rch (zx σ 11) (zx σ 13) (zx σ 12) (CT0 a R) e ∧ e.wr = 1 ∧ e.wa = zx σ 12 a1) : aw 40 k_X2_rule none (RP sz κ A g E T b σ a R) 57 [some (.ref 40)] [] τ := by
  have et := hG.tok hb
  obtain ⟨⟨hC, hTS, hrb, hok, ha1, hl5, hl6⟩, hD, hX⟩ := id hG
  have hTb := hTS.2.1
  have h6 : zx τ b 6 = R.length := hX.1.trans hR.2.1.2.1
  refine aw_aload_n rfl rfl rfl ?_
  refine aw_getr (b := b) rfl rfl (hC.f.k 40 rfl) hrb rfl ?_
  refine aw_calc (c_endAskg hb hC hI hl5 h6 (by omega) hR20) rfl rfl rfl (Nat.le_of_ble_eq_true rfl) (Or.inr ⟨_, rfl, (hC.f.tar hb).1⟩) rfl ?_
  rintro _ τ1 ⟨rfl, hC1, hD1, hU1⟩
  change aw _ _ _ _ 64 [some (.ref 40)] [] _
  obtain ⟨⟨m9, m11, m12, m13⟩, m40, mb, mb1, mb2, mb4⟩ := hD1.b3 hb
  have hTS1 : TS A τ1 E T := by unfold TS; rw [m9, m11, m12, m13]; exact hTS
  have hok1 : OKp a1 τ1 := by unfold OKp; rw [m40, m11]; exact hok
  have hrb1 : az_r τ1 40 1 = some b := by rw [hD1.2.2.2.1]; exact hrb
  have hD01 : Mod σ τ1 [40, b, b + 1, b + 2, b + 3, b + 4] := (hD.s6a hb).tr (hD1.s6b hb)
  have h61 : zx τ1 b 6 = R.length := by rw [mb]; exact h6
  refine aw_aload_n rfl rfl rfl ?_
  refine aw_iconst rfl rfl ?_
  refine aw_calc (c_pass hC1 hI hTS1 hok1 ha1.1 ha1.2 (w := 5) ⟨by omega, by omega⟩ (by decide)) rfl rfl rfl (Nat.le_of_ble_eq_true rfl) (Or.inr ⟨_, rfl, (hC1.f.k 40 rfl)⟩) rfl ?_
  rintro _ τ2 ⟨rfl, hC2, hD2, hy, hz⟩
  rw [m11, et.1] at hy hz
  change aw _ _ _ _ 69 [some (.ref 40)] [] _
  obtain ⟨tb, tb1, tb2⟩ := hD2.t40 hb
  have hD02 : Mod σ τ2 [40, b, b + 1, b + 2, b + 3, b + 4] := hD01.tr (hD2.s6d hb)
  have hrb2 : az_r τ2 40 1 = some b := by rw [hD2.2.2.2.1]; exact hrb1
  by_cases k5 : zx σ 11 a1 = 5
  · have kt := (hTS1.2.2.2 a1 ha1.1 ha1.2).2
    rw [m11, et.1] at kt
    have hlt : a1 < T := by
      have : a1 ≠ T := fun q => by have := kt.mpr q; omega
      omega
    have hP2 : PS sz κ A g E T b τ2 (a1 + 1) (tLen R + n1.length) := ⟨hC2, hTS1.mod hD2 rfl rfl rfl rfl, hrb2, hy k5, ⟨by omega, by omega⟩, by rw [tb, mb]; exact hl5, by omega, by omega⟩
    have et2 : zx τ2 11 = zx σ 11 ∧ zx τ2 12 = zx σ 12 ∧ zx τ2 13 = zx σ 13 := by
      have := hD02.tok6 hb
      exact this.2
    refine aw_aload_n rfl rfl rfl ?_
    refine aw_iconst rfl rfl ?_
    refine aw_calc (c_sum_0 hb hI τ2 (a1 + 1) _ hP2) rfl rfl rfl (Nat.le_of_ble_eq_true rfl) (Or.inr ⟨_, rfl, (hC2.f.k 40 rfl)⟩) rfl ?_
    intro r τ3 hr
    obtain ⟨rfl, hC3, hD3, hcs⟩ := hP2.ret hr
    change aw _ _ _ _ 74 [some (.ref 40)] [] _
    have hD03 := hD02.tr (hD3.s6a hb)
    rcases hcs with ⟨a3, n3, hX3, hQ3, hN3⟩ | ⟨x, f, hB, hF3⟩
    · have hG3 := (GS.rf hP2).call hb hC3 hD3 (n2 := n3) (by simpa using hX3)
      have hQ4 := hQ3.tk et2.1 et2.2.1 et2.2.2
      rw [et2.1] at hN3
      have et3 := hG3.tok hb
      obtain ⟨⟨_, hTS3, hrb3, hok3, ha3, hl53, hl63⟩, _, hX4⟩ := id hG3
      refine aw_aload_n rfl rfl rfl ?_
      refine aw_bipush rfl rfl rfl ?_
      refine aw_calc (c_pass hC3 hI hTS3 hok3 ha3.1 ha3.2 (w := 26) ⟨by omega, by omega⟩ (by decide)) rfl rfl rfl (Nat.le_of_ble_eq_true rfl) (Or.inr ⟨_, rfl, (hC3.f.k 40 rfl)⟩) rfl ?_
      rintro _ τ4 ⟨rfl, hC4, hD4, hy4, hz4⟩
      rw [et3.1, et2.1] at hy4 hz4
      change aw _ _ _ _ 80 [some (.ref 40)] [] _
      obtain ⟨ub, ub1, ub2⟩ := hD4.t40 hb
      have hD04 := hD03.tr (hD4.s6d hb)
      have hrb4 : az_r τ4 40 1 = some b := by rw [hD4.2.2.2.1]; exact hrb3
      have h64 : zx τ4 b 6 = R.length := by rw [ub, hX3.1, tb]; exact h61
      obtain ⟨e, q1, q2, q3, q4⟩ := hQ4.2 _ (fit_c1 (a := a) (a' := a1 + 1) (f := 2) (x := 0) (s := 1) (R := R) (m := wOf n1)) (Zr_c1 (by decide))
      by_cases k26 : zx σ 11 a3 = 26
      · have kt3 := (hTS3.2.2.2 a3 ha3.1 ha3.2).2
        rw [et3.1, et2.1] at kt3
        have hlt3 : a3 < T := by
          have : a3 ≠ T := fun q => by have := kt3.mpr q; omega
          omega
        have hl54 : zx τ4 b 5 = tLen R + n1.length + n3.length := by rw [ub, hl53, List.nil_append]
        refine aw_aload_n rfl rfl rfl ?_
        refine aw_getr (b := b) rfl rfl (hC4.f.k 40 rfl) hrb4 rfl ?_
        refine aw_calc (c_endRuleg hb hC4 hI hl54 h64 (by omega) hR20) rfl rfl rfl (Nat.le_of_ble_eq_true rfl) (Or.inr ⟨_, rfl, (hC4.f.tar hb).1⟩) rfl ?_
        rintro _ τ5 ⟨rfl, hC5, hD5, h55, h65, hU5⟩
        change aw _ _ _ _ 87 [some (.ref 40)] [] _
        obtain ⟨⟨v9, v11, v12, v13⟩, v40, vb1, vb2, vb3⟩ := hD5.b4 hb
        obtain ⟨w3, w4⟩ := hD3.m34 hb
        have x3 : zx τ2 (b + 3) = zx τ1 (b + 3) ∧ zx τ2 (b + 4) = zx τ1 (b + 4) := (hD2.s40 hb).m34 hb
        have x4 : zx τ4 (b + 3) = zx τ3 (b + 3) ∧ zx τ4 (b + 4) = zx τ3 (b + 4) := (hD4.s40 hb).m34 hb
        have x0 := hD.m34 hb
        have y3 : zx τ5 (b + 3) = zx τ1 (b + 3) := by rw [vb3, x4.1, w3, x3.1]
        have y4 : zx τ4 (b + 4) = zx σ (b + 4) := by rw [x4.2, w4, x3.2, mb4, x0.2]
        have f1 : zx τ5 (b + 1) = zx τ3 (b + 1) := by rw [vb1, ub1]
        have f2 : zx τ5 (b + 2) = zx τ3 (b + 2) := by rw [vb2, ub2]
        have g1 : zx τ2 (b + 1) = zx τ (b + 1) := by rw [tb1, mb1]
        have g2 : zx τ2 (b + 2) = zx τ (b + 2) := by rw [tb2, mb2]
        have hX6 := hX.2.2.2.2.2
        have hX36 := hX3.2.2.2.2.2
        have hx3 := hX3.2.2.1
        have hx5 := hX3.2.2.2.2.1
        have hok5 : OKp (a3 + 1) τ5 := by
          have := hy4 k26
          unfold OKp at this ⊢
          rw [v40, v11]; exact this
        have hTS5 : TS A τ5 E T := by
          have h4 := hTS3.mod hD4 rfl rfl rfl rfl
          unfold TS at h4 ⊢
          rw [v9, v11, v12, v13]; exact h4
        have hlen : ((tLen (R ++ [(n1, n3)]) : Nat) : Int) = tLen R + n1.length + n3.length := by rw [tLen_snoc]; push_cast; rfl
        have hcr : cRul (zx τ5 (b + 1)) (zx τ5 (b + 2)) (zx τ5 (b + 3)) (zx τ5 (b + 4)) 0 0 (R ++ [(n1, n3)]) := by
          refine cRul_snoc R 0 0 (cRul_up R 0 0 hR.2.1.2.2 (fun w hw => ?_) (fun j hj => ?_)) ?_ ?_ ?_ ?_
          · rw [f1, f2]
            have q1 := hX36.2 w (by omega)
            have q2 := hX6.2 w (by omega)
            rw [g1, g2] at q1
            exact ⟨q1.1.trans q2.1, q1.2.trans q2.2⟩
          · rw [y3, hU1, hU5, if_neg (by omega), if_neg (by omega), y4, x0.1]
            exact ⟨rfl, rfl⟩
          · rw [y3, hU1, if_pos (by omega)]
            show _ = 0 + ((tLen R : Nat) : Int) + (n1.length : Int)
            omega
          · rw [hU5, if_pos (by omega)]
            show _ = 0 + ((tLen R : Nat) : Int) + (n1.length : Int) + (n3.length : Int)
            omega
          · rw [f1, f2]
            have q6 := hX6.1
            rw [← g1, ← g2] at q6
            rw [Int.zero_add]
            exact cCode_up _ _ q6 (fun w _ w1 => hX36.2 w (by omega))
          · rw [f1, f2, Int.zero_add]
            exact hX36.1
        have hrk : (n1 = [] ∨ tyR n1 [] [true]) ∧ tyR n3 [] [false] := ⟨hn, hQ4.1 [] (by simp)⟩
        refine aw_retv rfl ⟨rfl, hC5, hD04.tr (hD5.s6c hb), Or.inl ⟨a3 + 1, R ++ [(n1, n3)], by have := hX.2.2.1; omega, ⟨⟨hC5, hTS5, by rw [hD5.2.2.2.1]; exact hrb4, hok5, ⟨by omega, by omega⟩, by rw [h55, hlen], by omega, by rw [hlen]; omega⟩, ⟨by rw [h55, hlen], by rw [h65]; simp, hcr⟩, by simp; omega, fun p hp => ?_⟩, by simp, ?_⟩⟩
        · rcases List.mem_append.mp hp with h | h
          · exact hR.2.2.2 p h
          · rw [List.mem_singleton.mp h]; exact hrk
        · have q5 := gs_end (K := zx σ 11) (V := zx σ 13) (S := zx σ 12) q2 q3 q4 rfl hN3 k26 rfl
          have q6 := ((h5 k5).tr q1).tr q5
          have e0 : CT0 (a3 + 1) (R ++ [(n1, n3)]) = ((a3 + 1, 4, [], [], 0 + 0, flat R ++ (wOf n1 ++ n3 ++ [(409, 0)]), (R.length : Int) + 1, 0, -1) : Cf) := by
            unfold CT0
            rw [flat_snoc]
            simp
          rw [e0]
          exact q6
      · obtain ⟨e', r1, r2⟩ := gs_err (K := zx σ 11) (V := zx σ 13) (S := zx σ 12) q2 q3 q4 rfl hN3 (Or.inr (Or.inr (Or.inr ⟨rfl, k26⟩)))
        exact rb80 (d := 36) hb hI ⟨hC4, hD04, hz4 k26, by decide, ha3, hrb4, by rw [h64]; omega⟩ ⟨e', ((h5 k5).tr q1).tr r1, r2⟩
    · obtain ⟨e, q1, q2⟩ := (hF3.tk et2.1 et2.2.1 et2.2.2) _ (fit_c1 (a := a) (a' := a1 + 1) (f := 2) (x := 0) (s := 1) (R := R) (m := wOf n1)) (Zr_c1 (by decide))
      exact rb74 (d := 36) hb hI ⟨hC3, hD03, hB.2.2.1, hB.2.2.2.1, hB.2.2.2.2.1, hB.2.2.2.2.2.2.2, by rw [hB.2.2.2.2.2.2.1, tb, h61]; omega⟩ ⟨e, (h5 k5).tr q1, q2⟩
  · exact rb69 (d := 36) hb hI ⟨hC2, hD02, hz k5, by decide, ha1, hrb2, by rw [tb, h61]; omega⟩ (hE k5)
theorem rule_1 {K V S : Int → Int} {a : Int} {R : tRules} (hk : K a = 4) (hR : (R.length : Int) < 20) : Rch K V S (CT0 a R) ((CT1 a R).sub 1 0 (a + 1) 0 0 []) := by
  refine Rch.one rfl (Or.inr (by show K a ≠ 0; omega)) ?_
  show sRule K V S (CT0 a R) = _
  unfold sRule
  rw [show (CT0 a R).n = a from rfl, show (CT0 a R).ru = (R.length : Int) from rfl, if_neg (show ¬ (K a ≠ 4 ∧ K a ≠ 5) by omega), if_neg (show ¬ (R.length : Int) = 20 by omega), if_pos (show K a = 4 from hk), if_pos (show K a = 4 from hk)]
  show ((a + 1, 0, [(1, 0)], [], 0, flat R, (R.length : Int) + 1, 0, -1) : Cf) = (a + 1, 0, [(1, 0)], [], 0 + 0, flat R ++ [], (R.length : Int) + 1, 0, -1)
  rw [List.append_nil]; rfl
theorem rule_2 {K V S : Int → Int} {a : Int} {R : tRules} (hk : K a = 5) (hR : (R.length : Int) < 20) : Rch K V S (CT0 a R) ((CT1 a R).sub 2 0 (a + 1) 1 0 []) := by
  refine Rch.one rfl (Or.inr (by show K a ≠ 0; omega)) ?_
  show sRule K V S (CT0 a R) = _
  unfold sRule
  rw [show (CT0 a R).n = a from rfl, show (CT0 a R).ru = (R.length : Int) from rfl, if_neg (show ¬ (K a ≠ 4 ∧ K a ≠ 5) by omega), if_neg (show ¬ (R.length : Int) = 20 by omega), if_neg (show ¬ K a = 4 by omega), if_neg (show ¬ K a = 4 by omega)]
  show ((a + 1, 1, [(2, 0)], [], 0, flat R, (R.length : Int) + 1, 0, -1) : Cf) = (a + 1, 1, [(2, 0)], [], 0 + 0, flat R ++ [], (R.length : Int) + 1, 0, -1)
  rw [List.append_nil]; rfl
theorem rule_e {K V S : Int → Int} {a f : Int} {R : tRules} (h0 : K a ≠ 0) (hk : (K a ≠ 4 ∧ K a ≠ 5 ∧ f = 1) ∨ ((K a = 4 ∨ K a = 5) ∧ (R.length : Int) = 20 ∧ f = 4)) : ∃ e : Cf, Rch K V S (CT0 a R) e ∧ e.wr = f ∧ e.wa = S a := by
  refine ⟨_, Rch.one rfl (Or.inr h0) rfl, ?_⟩
  show (sRule K V S (CT0 a R)).wr = f ∧ (sRule K V S (CT0 a R)).wa = S a
  unfold sRule
  rw [show (CT0 a R).n = a from rfl, show (CT0 a R).ru = (R.length : Int) from rfl]
  rcases hk with ⟨k1, k2, rfl⟩ | ⟨k1, k2, rfl⟩
  · rw [if_pos (show K a ≠ 4 ∧ K a ≠ 5 from ⟨k1, k2⟩)]
    exact ⟨rfl, rfl⟩
  · rw [if_neg (show ¬ (K a ≠ 4 ∧ K a ≠ 5) by omega), if_pos (show (R.length : Int) = 20 from k2)]
    exact ⟨rfl, rfl⟩
set_option maxRecDepth 10000 in
set_option maxHeartbeats 2000000 in
theorem c_rule {sz : Nat} {κ : Nat × (Nat → Int32) × Option Nat} {A : Nat → Int → Int} {g : Nat → Nat} {E : Int → Int} {T : Int} {b : Nat} (hb : b = 16 ∨ b = 22) (hI : MI sz A) {σ : az_S} {a : Int} {R : tRules} (hR : RS sz κ A g E T b σ a R) (h0 : zx σ 11 a ≠ 0) : cal 41 16 [.ref 40] σ (RP sz κ A g E T b σ a R) := by
  obtain ⟨hP, hT6, hR20, hrk⟩ := id hR
  obtain ⟨hC, hTS, hrb, hok, ha, hl5, hl6⟩ := id hP
  have hG := GS.rf hP
  have hkl := zx_lo σ 11 a
  have hkh := zx_hi σ 11 a
  have kT := (hTS.2.2.2 a ha.1 ha.2).2
  have hlt : a < T := by
    have : a ≠ T := fun q => h0 (kT.mpr q)
    omega
  have h6 : zx σ b 6 = R.length := hT6.2.1
  refine cal_of (d := 40) (M := (yX2_rule, cX2_rule, 1, none)) (cd := k_X2_rule) (L := [some (.ref 40)]) rfl (Nat.le_of_ble_eq_true rfl) rfl rfl ?_
  have h22 : (zx σ 11 a = 4 ∨ zx σ 11 a = 5) → aw 40 k_X2_rule none (RP sz κ A g E T b σ a R) 22 [some (.ref 40)] [] σ := by
    intro hk
    refine aw_aload_n rfl rfl rfl ?_
    refine aw_getr (b := b) rfl rfl (hC.f.k 40 rfl) hrb rfl ?_
    refine aw_gk (v := (R.length : Int)) (6) rfl rfl (hC.f.tar hb).1 rfl h6 rfl (fun _ _ => ?_)
    refine aw_bipush rfl rfl rfl ?_
    refine aw_icmp (p' := 40) rfl ⟨by omega, by omega⟩ ⟨by omega, by omega⟩ rfl rfl (fun c1 => ?_) (fun c1 => ?_)
    · dsimp only [zc] at c1
      refine aw_aload_n rfl rfl rfl ?_
      refine aw_gk (v := zx σ 11 a) (3) rfl rfl (hC.f.k 40 rfl) rfl hok.2.1 rfl (fun _ _ => ?_)
      refine aw_iconst rfl rfl ?_
      refine aw_icmp (p' := 57) rfl ⟨by omega, by omega⟩ ⟨by omega, by omega⟩ rfl rfl (fun c2 => ?_) (fun c2 => ?_)
      · dsimp only [zc] at c2
        have k5 : zx σ 11 a = 5 := by omega
        exact ru57 hb hI hR c1 hG (Or.inl rfl) (fun _ => rule_2 k5 c1) (fun q => absurd k5 q)
      · dsimp only [zc] at c2
        have k4 : zx σ 11 a = 4 := by omega
        refine aw_aload_n rfl rfl rfl ?_
        refine aw_calc (c_advance hC hI hTS hok ha.1 hlt) rfl rfl rfl (Nat.le_of_ble_eq_true rfl) (Or.inr ⟨_, rfl, (hC.f.k 40 rfl)⟩) rfl ?_
        rintro _ τ1 ⟨rfl, hC1, hD1, hok1⟩
        have hG1 := hG.adv hb hC1 hD1 hok1 hlt
        have et := hG1.tok hb
        change aw _ _ _ _ 52 [some (.ref 40)] [] _
        refine aw_aload_n rfl rfl rfl ?_
        refine aw_iconst rfl rfl ?_
        refine aw_calc (c_either_0 hb hI τ1 (a + 1) _ hG1.1) rfl rfl rfl (Nat.le_of_ble_eq_true rfl) (Or.inr ⟨_, rfl, (hC1.f.k 40 rfl)⟩) rfl ?_
        intro r τ2 hr
        obtain ⟨rfl, hC2, hD2, hcs⟩ := hG1.1.ret hr
        change aw _ _ _ _ 57 [some (.ref 40)] [] _
        rcases hcs with ⟨a2, n2, hX2, hQ2, hN2⟩ | ⟨x, f, hB, hF2⟩
        · have hG2 := hG1.call hb hC2 hD2 hX2
          rw [List.nil_append] at hG2
          have hQ3 := hQ2.tk et.1 et.2.1 et.2.2
          rw [et.1] at hN2
          have hty := hQ3.1 [] (by simp)
          have hne : n2 ≠ [] := by
            intro q
            rw [q] at hty
            exact absurd (show ([] : List Bool) = [true] from hty) (by decide)
          obtain ⟨e, q1, q2, q3, q4⟩ := hQ3.2 _ (fit_c1 (a := a) (a' := a + 1) (f := 1) (x := 0) (s := 0) (R := R) (m := [])) (Zb_c1 (by decide))
          have q0 := (rule_1 (V := zx σ 13) (S := zx σ 12) k4 c1).tr q1
          refine ru57 hb hI hR c1 hG2 (Or.inr hty) (fun k5 => ?_) (fun k5 => ?_)
          · have q5 := as_give (K := zx σ 11) (V := zx σ 13) (S := zx σ 12) q2 q3 q4 rfl hN2 k5 rfl
            rw [List.nil_append, ← wOf_ne hne] at q5
            exact q0.tr q5
          · obtain ⟨e', r1, r2⟩ := as_err (K := zx σ 11) (V := zx σ 13) (S := zx σ 12) q2 q3 q4 rfl hN2 (Or.inr ⟨rfl, k5⟩)
            exact ⟨e', q0.tr r1, r2⟩
        · have hB2 := hG1.bs hB
          obtain ⟨e, q1, q2⟩ := (hF2.tk et.1 et.2.1 et.2.2) _ (fit_c1 (a := a) (a' := a + 1) (f := 1) (x := 0) (s := 0) (R := R) (m := [])) (Zb_c1 (by decide))
          exact rb57 (d := 36) hb hI ⟨hC2, hB2.2.1.s6a hb, hB.2.2.1, hB.2.2.2.1, hB.2.2.2.2.1, hB.2.2.2.2.2.2.2, by rw [hB2.2.2.2.2.2.2.1, h6]; omega⟩ ⟨e, (rule_1 (V := zx σ 13) (S := zx σ 12) k4 c1).tr q1, q2⟩
    · dsimp only [zc] at c1
      refine aw_aload_n rfl rfl rfl ?_
      refine aw_iconst rfl rfl ?_
      refine aw_calc (c_fail hC hI hok (f := 4) ⟨by omega, by omega⟩) rfl rfl rfl (Nat.le_of_ble_eq_true rfl) (Or.inr ⟨_, rfl, (hC.f.k 40 rfl)⟩) rfl ?_
      rintro _ τ ⟨rfl, hC1, hD1, hbd⟩
      change aw _ _ _ _ 39 [some (.ref 40)] [] _
      exact aw_retv rfl ⟨rfl, hC1, hD1.s6d hb, Or.inr ⟨a, 4, hbd, by decide, ha, by rw [hD1.2.2.2.1]; exact hrb, rule_e h0 (Or.inr ⟨hk, by omega, rfl⟩)⟩⟩
  refine aw_aload_n rfl rfl rfl ?_
  refine aw_gk (v := zx σ 11 a) (3) rfl rfl (hC.f.k 40 rfl) rfl hok.2.1 rfl (fun _ _ => ?_)
  refine aw_iconst rfl rfl ?_
  refine aw_icmp (p' := 22) rfl ⟨by omega, by omega⟩ ⟨by omega, by omega⟩ rfl rfl (fun c1 => ?_) (fun c1 => ?_)
  · dsimp only [zc] at c1
    exact h22 (Or.inl c1)
  · dsimp only [zc] at c1
    refine aw_aload_n rfl rfl rfl ?_
    refine aw_gk (v := zx σ 11 a) (3) rfl rfl (hC.f.k 40 rfl) rfl hok.2.1 rfl (fun _ _ => ?_)
    refine aw_iconst rfl rfl ?_
    refine aw_icmp (p' := 22) rfl ⟨by omega, by omega⟩ ⟨by omega, by omega⟩ rfl rfl (fun c2 => ?_) (fun c2 => ?_)
    · dsimp only [zc] at c2
      exact h22 (Or.inr c2)
    · dsimp only [zc] at c2
      refine aw_aload_n rfl rfl rfl ?_
      refine aw_iconst rfl rfl ?_
      refine aw_calc (c_fail hC hI hok (f := 1) ⟨by omega, by omega⟩) rfl rfl rfl (Nat.le_of_ble_eq_true rfl) (Or.inr ⟨_, rfl, (hC.f.k 40 rfl)⟩) rfl ?_
      rintro _ τ ⟨rfl, hC1, hD1, hbd⟩
      change aw _ _ _ _ 21 [some (.ref 40)] [] _
      exact aw_retv rfl ⟨rfl, hC1, hD1.s6d hb, Or.inr ⟨a, 1, hbd, by decide, ha, by rw [hD1.2.2.2.1]; exact hrb, rule_e h0 (Or.inl ⟨c1, c2, rfl⟩)⟩⟩
