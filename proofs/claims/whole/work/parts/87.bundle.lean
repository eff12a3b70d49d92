/-! THE PARSER'S WALKS: what is held from call to call -/
theorem ms_9 {b : Nat} (hb : b = 16 ∨ b = 22) : ([40, b, b + 1, b + 2].contains 9 = false ∧ [40, b, b + 1, b + 2].contains 11 = false) ∧ [40, b, b + 1, b + 2].contains 12 = false ∧ [40, b, b + 1, b + 2].contains 13 = false := by rcases hb with rfl | rfl <;> exact ⟨⟨rfl, rfl⟩, rfl, rfl⟩
theorem Mod.s40 {σ τ : az_S} {b : Nat} (hb : b = 16 ∨ b = 22) (h : Mod σ τ [40]) : Mod σ τ [40, b, b + 1, b + 2] := by rcases hb with rfl | rfl <;> exact h.su rfl
theorem Mod.sb {σ τ : az_S} {b : Nat} (hb : b = 16 ∨ b = 22) (h : Mod σ τ [b, b + 1, b + 2]) : Mod σ τ [40, b, b + 1, b + 2] := by rcases hb with rfl | rfl <;> exact h.su rfl
theorem Mod.b40 {σ τ : az_S} {b : Nat} (hb : b = 16 ∨ b = 22) (h : Mod σ τ [b, b + 1, b + 2]) : zx τ 40 = zx σ 40 ∧ zx τ 11 = zx σ 11 := by rcases hb with rfl | rfl <;> exact ⟨h.z 40 rfl, h.z 11 rfl⟩
theorem Mod.t40 {σ τ : az_S} {b : Nat} (hb : b = 16 ∨ b = 22) (h : Mod σ τ [40]) : zx τ b = zx σ b ∧ zx τ (b + 1) = zx σ (b + 1) ∧ zx τ (b + 2) = zx σ (b + 2) := by rcases hb with rfl | rfl <;> exact ⟨h.z _ rfl, h.z _ rfl, h.z _ rfl⟩
theorem Mod.tok {σ τ : az_S} {b : Nat} (hb : b = 16 ∨ b = 22) (h : Mod σ τ [40, b, b + 1, b + 2]) : zx τ 11 = zx σ 11 ∧ zx τ 12 = zx σ 12 ∧ zx τ 13 = zx σ 13 := ⟨h.z 11 (ms_9 hb).1.2, h.z 12 (ms_9 hb).2.1, h.z 13 (ms_9 hb).2.2⟩
/-- a good state of the parser: at token a, code's length l -/
def PS (sz : Nat) (κ : Nat × (Nat → Int32) × Option Nat) (A : Nat → Int → Int) (g : Nat → Nat) (E : Int → Int) (T : Int) (b : Nat) (σ : az_S) (a l : Int) : Prop := CR sz κ A g σ ∧ TS A σ E T ∧ az_r σ 40 1 = some b ∧ OKp a σ ∧ (0 ≤ a ∧ a ≤ T) ∧ zx σ b 5 = l ∧ (0 ≤ l ∧ l ≤ a)
def XO (b : Nat) (σ τ : az_S) (T a l a' : Int) (new : List (Int × Int)) : Prop := zx τ b 6 = zx σ b 6 ∧ OKp a' τ ∧ (a ≤ a' ∧ a' ≤ T) ∧ zx τ b 5 = l + new.length ∧ (new.length : Int) ≤ a' - a ∧ cCode (zx τ (b + 1)) (zx τ (b + 2)) l new ∧ (∀ w : Int, w < l → zx τ (b + 1) w = zx σ (b + 1) w ∧ zx τ (b + 2) w = zx σ (b + 2) w)
def PP (sz : Nat) (κ : Nat × (Nat → Int32) × Option Nat) (A : Nat → Int → Int) (g : Nat → Nat) (T : Int) (b : Nat) (σ : az_S) (a l : Int) (Q : Int → List (Int × Int) → Prop) (F : Int → Int → Prop) : Option Value → az_S → Prop := fun r τ => r = none ∧ CR sz κ A g τ ∧ Mod σ τ [40, b, b + 1, b + 2] ∧ XX b σ τ T a l Q F
/-- a method's contract -/
def Co (sz : Nat) (κ : Nat × (Nat → Int32) × Option Nat) (A : Nat → Int → Int) (g : Nat → Nat) (E : Int → Int) (T : Int) (b y L : Nat) (p : Int) (Q : az_S → Int → Int → List (Int × Int) → Prop) (F : az_S → Int → Int → Int → Prop) : Prop := ∀ (σ : az_S) (a l : Int), PS sz κ A g E T b σ a l → cal L y [.ref 40, .int (iI p)] σ (PP sz κ A g T b σ a l (Q σ a) (F σ a))
/-- all is well from σ to τ -/
def GS (sz : Nat) (κ : Nat × (Nat → Int32) × Option Nat) (A : Nat → Int → Int) (g : Nat → Nat) (E : Int → Int) (T : Int) (b : Nat) (σ τ : az_S) (a l a' : Int) (n : List (Int × Int)) : Prop := PS sz κ A g E T b τ a' (l + n.length) ∧ Mod σ τ [40, b, b + 1, b + 2] ∧ XO b σ τ T a l a' n
/-- a fault has been found between σ and τ -/
def BS (sz : Nat) (κ : Nat × (Nat → Int32) × Option Nat) (A : Nat → Int → Int) (g : Nat → Nat) (T : Int) (b : Nat) (σ τ : az_S) (x f : Int) : Prop := CR sz κ A g τ ∧ Mod σ τ [40, b, b + 1, b + 2] ∧ BDp x f τ ∧ f ≠ 0 ∧ (0 ≤ x ∧ x ≤ T) ∧ (0 ≤ zx τ b 5 ∧ zx τ b 5 ≤ 400) ∧ zx τ b 6 = zx σ b 6 ∧ az_r τ 40 1 = some b
theorem GS.rf {sz : Nat} {κ : Nat × (Nat → Int32) × Option Nat} {A : Nat → Int → Int} {g : Nat → Nat} {E : Int → Int} {T : Int} {b : Nat} {σ : az_S} {a l : Int} (h : PS sz κ A g E T b σ a l) : GS sz κ A g E T b σ σ a l a [] := by
  have h2 := h
  obtain ⟨h1, _, _, h4, h5, h6, h7⟩ := h
  refine ⟨by simpa using h2, Mod.rf, rfl, h4, ⟨by omega, h5.2⟩, by simpa using h6, by simp, trivial, fun _ _ => ⟨rfl, rfl⟩⟩
theorem GS.tok {sz : Nat} {κ : Nat × (Nat → Int32) × Option Nat} {A : Nat → Int → Int} {g : Nat → Nat} {E : Int → Int} {T : Int} {b : Nat} (hb : b = 16 ∨ b = 22) {σ τ : az_S} {a l a' : Int} {n : List (Int × Int)} (h : GS sz κ A g E T b σ τ a l a' n) : zx τ 11 = zx σ 11 ∧ zx τ 12 = zx σ 12 ∧ zx τ 13 = zx σ 13 := h.2.1.tok hb
theorem GS.call {sz : Nat} {κ : Nat × (Nat → Int32) × Option Nat} {A : Nat → Int → Int} {g : Nat → Nat} {E : Int → Int} {T : Int} {b : Nat} (hb : b = 16 ∨ b = 22) {σ τ ρ : az_S} {a l a' a'' : Int} {n n2 : List (Int × Int)} (h : GS sz κ A g E T b σ τ a l a' n) (hC : CR sz κ A g ρ) (hd : Mod τ ρ [40, b, b + 1, b + 2]) (hx : XO b τ ρ T a' (l + n.length) a'' n2) : GS sz κ A g E T b σ ρ a l a'' (n ++ n2) := by
  obtain ⟨⟨p1, p2, p3, p4, p5, p6, p7⟩, hm, x1, x2, x3, x4, x5, x6, x7⟩ := h
  obtain ⟨y1, y2, y3, y4, y5, y6, y7⟩ := hx
  have m9 := ms_9 hb
  have e : ((n ++ n2).length : Int) = n.length + n2.length := by simp
  have e5 : zx ρ b 5 = l + ((n ++ n2).length : Int) := by rw [y4, e]; omega
  refine ⟨⟨hC, p2.mod hd m9.1.1 m9.1.2 m9.2.1 m9.2.2, by rw [hd.2.2.2.1]; exact p3, y2, ⟨by omega, y3.2⟩, e5, by omega, by omega⟩, hm.tr hd, y1.trans x1, y2, ⟨by omega, y3.2⟩, e5, by omega, ?_, fun w hw => ?_⟩
  · refine cCode_app _ _ _ (cCode_up _ _ x6 (fun w w0 w1 => y7 w w1)) y6
  · have q := y7 w (by omega)
    have q2 := x7 w hw
    exact ⟨q.1.trans q2.1, q.2.trans q2.2⟩
theorem GS.adv {sz : Nat} {κ : Nat × (Nat → Int32) × Option Nat} {A : Nat → Int → Int} {g : Nat → Nat} {E : Int → Int} {T : Int} {b : Nat} (hb : b = 16 ∨ b = 22) {σ τ ρ : az_S} {a l a' : Int} {n : List (Int × Int)} (h : GS sz κ A g E T b σ τ a l a' n) (hC : CR sz κ A g ρ) (hd : Mod τ ρ [40]) (hq : OKp (a' + 1) ρ) (ht : a' < T) : GS sz κ A g E T b σ ρ a l (a' + 1) n := by
  obtain ⟨⟨p1, p2, p3, p4, p5, p6, p7⟩, hm, x1, x2, x3, x4, x5, x6, x7⟩ := h
  obtain ⟨m1, m2, m3⟩ := hd.t40 hb
  refine ⟨⟨hC, p2.mod hd rfl rfl rfl rfl, by rw [hd.2.2.2.1]; exact p3, hq, ⟨by omega, by omega⟩, by rw [m1]; exact p6, by omega, by omega⟩, hm.tr (hd.s40 hb), by rw [m1]; exact x1, hq, ⟨by omega, by omega⟩, by rw [m1]; exact x4, by omega, by rw [m2, m3]; exact x6, fun w hw => by rw [m2, m3]; exact x7 w hw⟩
theorem GS.add {sz : Nat} {κ : Nat × (Nat → Int32) × Option Nat} {A : Nat → Int → Int} {g : Nat → Nat} {E : Int → Int} {T : Int} {b : Nat} (hb : b = 16 ∨ b = 22) {σ τ ρ : az_S} {a l a' : Int} {n : List (Int × Int)} (h : GS sz κ A g E T b σ τ a l a' n) (hla : l ≤ a) (hs : (n.length : Int) + 1 ≤ a' - a) {o v : Int} (hC : CR sz κ A g ρ) (hd : Mod τ ρ [b, b + 1, b + 2]) (h5 : zx ρ b 5 = l + n.length + 1) (h6 : zx ρ b 6 = zx τ b 6) (hf : ∀ w : Int, zx ρ (b + 1) w = if w = l + n.length then trO o else zx τ (b + 1) w) (hv : ∀ w : Int, zx ρ (b + 2) w = if w = l + n.length then v else zx τ (b + 2) w) : GS sz κ A g E T b σ ρ a l a' (n ++ [(o, v)]) := by
  obtain ⟨⟨p1, p2, p3, p4, p5, p6, p7⟩, hm, x1, x2, x3, x4, x5, x6, x7⟩ := h
  have m9 := ms_9 hb
  obtain ⟨k1, k2⟩ := hd.b40 hb
  have hq : OKp a' ρ := by unfold OKp; rw [k1, k2]; exact p4
  have e : ((n ++ [(o, v)]).length : Int) = n.length + 1 := by simp
  have e5 : zx ρ b 5 = l + ((n ++ [(o, v)]).length : Int) := by rw [h5, e]; omega
  refine ⟨⟨hC, p2.mod (hd.sb hb) m9.1.1 m9.1.2 m9.2.1 m9.2.2, by rw [hd.2.2.2.1]; exact p3, hq, p5, e5, by omega, by omega⟩, hm.tr (hd.sb hb), h6.trans x1, hq, x3, e5, by omega, ?_, fun w hw => ?_⟩
  · refine cCode_snoc _ _ _ (cCode_up _ _ x6 (fun w w0 w1 => by rw [hf, hv, if_neg (by omega), if_neg (by omega)]; exact ⟨rfl, rfl⟩)) ?_ ?_
    · rw [hf, if_pos rfl]
    · rw [hv, if_pos rfl]
  · rw [hf, hv, if_neg (by omega), if_neg (by omega)]
    exact x7 w hw
theorem GS.out {sz : Nat} {κ : Nat × (Nat → Int32) × Option Nat} {A : Nat → Int → Int} {g : Nat → Nat} {E : Int → Int} {T : Int} {b : Nat} {σ τ : az_S} {a l a' : Int} {n : List (Int × Int)} (h : GS sz κ A g E T b σ τ a l a' n) {Q : Int → List (Int × Int) → Prop} {F : Int → Int → Prop} (hQ : Q a' n) : PP sz κ A g T b σ a l Q F none τ := by
  obtain ⟨⟨p1, p2, p3, p4, p5, p6, p7⟩, hm, x1, x2, x3, x4, x5, x6, x7⟩ := h
  exact ⟨rfl, p1, hm, x1, Or.inl ⟨a', n, x2, x3, x4, x5, x6, x7, hQ⟩⟩
theorem BS.out {sz : Nat} {κ : Nat × (Nat → Int32) × Option Nat} {A : Nat → Int → Int} {g : Nat → Nat} {T : Int} {b : Nat} {σ τ : az_S} {a l x f : Int} (h : BS sz κ A g T b σ τ x f) {Q : Int → List (Int × Int) → Prop} {F : Int → Int → Prop} (hF : F x f) : PP sz κ A g T b σ a l Q F none τ := by
  obtain ⟨h1, h2, h3, h4, h5, h6, h7, h8⟩ := h
  exact ⟨rfl, h1, h2, h7, Or.inr ⟨x, f, h3, h4, h5, h6, hF⟩⟩
theorem GS.bs {sz : Nat} {κ : Nat × (Nat → Int32) × Option Nat} {A : Nat → Int → Int} {g : Nat → Nat} {E : Int → Int} {T : Int} {b : Nat} {σ τ ρ : az_S} {a l a' : Int} {n : List (Int × Int)} {x f : Int} (h : GS sz κ A g E T b σ τ a l a' n) (k : BS sz κ A g T b τ ρ x f) : BS sz κ A g T b σ ρ x f := by
  obtain ⟨_, hm, x1, _⟩ := h
  obtain ⟨h1, h2, h3, h4, h5, h6, h7, h8⟩ := k
  exact ⟨h1, hm.tr h2, h3, h4, h5, h6, h7.trans x1, h8⟩
theorem PS.fail {sz : Nat} {κ : Nat × (Nat → Int32) × Option Nat} {A : Nat → Int → Int} {g : Nat → Nat} {E : Int → Int} {T : Int} {b : Nat} (hb : b = 16 ∨ b = 22) {τ ρ : az_S} {a l f : Int} (h : PS sz κ A g E T b τ a l) (hC : CR sz κ A g ρ) (hd : Mod τ ρ [40]) (hq : BDp a f ρ) (hf : f ≠ 0) : BS sz κ A g T b τ ρ a f := by
  obtain ⟨p1, p2, p3, p4, p5, p6, p7⟩ := h
  obtain ⟨m1, m2, m3⟩ := hd.t40 hb
  have hT := p2.2.1
  refine ⟨hC, hd.s40 hb, hq, hf, p5, by rw [m1, p6]; omega, by rw [m1], by rw [hd.2.2.2.1]; exact p3⟩
theorem BS.add {sz : Nat} {κ : Nat × (Nat → Int32) × Option Nat} {A : Nat → Int → Int} {g : Nat → Nat} {T : Int} {b : Nat} (hb : b = 16 ∨ b = 22) {σ τ ρ : az_S} {x f : Int} (h : BS sz κ A g T b σ τ x f) (hC : CR sz κ A g ρ) (hd : Mod τ ρ [b, b + 1, b + 2]) (h5 : 0 ≤ zx ρ b 5 ∧ zx ρ b 5 ≤ 400) (h6 : zx ρ b 6 = zx τ b 6) : BS sz κ A g T b σ ρ x f := by
  obtain ⟨q1, q2, q3, q4, q5, q6, q7, q8⟩ := h
  obtain ⟨k1, k2⟩ := hd.b40 hb
  exact ⟨hC, q2.tr (hd.sb hb), by unfold BDp; rw [k1]; exact q3, q4, q5, h5, h6.trans q7, by rw [hd.2.2.2.1]; exact q8⟩
/-- what a call of a method leaves -/
theorem PS.ret {sz : Nat} {κ : Nat × (Nat → Int32) × Option Nat} {A : Nat → Int → Int} {g : Nat → Nat} {E : Int → Int} {T : Int} {b : Nat} {σ τ : az_S} {a l : Int} {Q : Int → List (Int × Int) → Prop} {F : Int → Int → Prop} {r : Option Value} (h : PS sz κ A g E T b σ a l) (k : PP sz κ A g T b σ a l Q F r τ) : r = none ∧ CR sz κ A g τ ∧ Mod σ τ [40, b, b + 1, b + 2] ∧ ((∃ a' n, XO b σ τ T a l a' n ∧ Q a' n) ∨ ∃ x f, BS sz κ A g T b σ τ x f ∧ F x f) := by
  obtain ⟨k1, k2, k3, k4, k5⟩ := k
  refine ⟨k1, k2, k3, ?_⟩
  rcases k5 with ⟨a', n, q1, q2, q3, q4, q5, q6, q7⟩ | ⟨x, f, q1, q2, q3, q4, q5⟩
  · exact Or.inl ⟨a', n, ⟨k4, q1, q2, q3, q4, q5, q6⟩, q7⟩
  · exact Or.inr ⟨x, f, ⟨k2, k3, q1, q2, q3, q4, k4, by rw [k3.2.2.2.1]; exact h.2.2.1⟩, q5⟩
theorem c_addg {d : Nat} {sz : Nat} {κ : Nat × (Nat → Int32) × Option Nat} {A : Nat → Int → Int} {g : Nat → Nat} {σ : az_S} {b : Nat} (hb : b = 16 ∨ b = 22) (hC : CR sz κ A g σ) (hI : MI sz A) {o : Int} (ho : inI o) {v : Int} (hv : inI v) {l : Int} (hl : zx σ b 5 = l) (hl0 : 0 ≤ l) (hl1 : l < 400) : cal (d + 1) 77 [.ref b, .int (iI o), .int (iI v)] σ (fun r τ => r = none ∧ CR sz κ A g τ ∧ Mod σ τ [b, b + 1, b + 2] ∧ zx τ b 5 = l + 1 ∧ zx τ b 6 = zx σ b 6 ∧ (∀ w : Int, zx τ (b + 1) w = if w = l then o else zx σ (b + 1) w) ∧ (∀ w : Int, zx τ (b + 2) w = if w = l then v else zx σ (b + 2) w)) := by
  rcases hb with rfl | rfl
  · exact c_add16 hC hI ho hv hl hl0 hl1
  · exact c_add22 hC hI ho hv hl hl0 hl1
theorem c_addbg {d : Nat} {sz : Nat} {κ : Nat × (Nat → Int32) × Option Nat} {A : Nat → Int → Int} {g : Nat → Nat} {σ : az_S} {b : Nat} (hb : b = 16 ∨ b = 22) (hC : CR sz κ A g σ) (hI : MI sz A) {o : Int} (ho : inI o) {v : Int} (hv : inI v) (hl0 : 0 ≤ zx σ b 5) (hl1 : zx σ b 5 ≤ 400) : cal (d + 1) 77 [.ref b, .int (iI o), .int (iI v)] σ (fun r τ => r = none ∧ CR sz κ A g τ ∧ Mod σ τ [b, b + 1, b + 2] ∧ (0 ≤ zx τ b 5 ∧ zx τ b 5 ≤ 400) ∧ zx τ b 6 = zx σ b 6) := by
  rcases hb with rfl | rfl
  · exact c_addb16 hC hI ho hv rfl hl0 hl1
  · exact c_addb22 hC hI ho hv rfl hl0 hl1
