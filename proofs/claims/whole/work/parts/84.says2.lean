/-- what product (r = 4) and sum (r = 3) say; without the kind behind -/
def Qr (r : Int) (σ : az_S) (a p : Int) (a' : Int) (new : List (Int × Int)) : Prop := (∀ t : List Bool, (t.length : Int) + 3 * (10 - p) + (6 - r) ≤ 64 → tyR new t (false :: t)) ∧ ∀ c : Cf, fit c 1 a p → Zr r c → ∃ e : Cf, Rch (zx σ 11) (zx σ 13) (zx σ 12) c e ∧ e.st = 2 ∧ e.n = a' ∧ works r e = c.go a' new 2
def Con (sz : Nat) (κ : Nat × (Nat → Int32) × Option Nat) (A : Nat → Int → Int) (g : Nat → Nat) (E : Int → Int) (T : Int) (b y L : Nat) (p : Int) (Q : az_S → Int → Int → List (Int × Int) → Prop) (F : az_S → Int → Int → Int → Prop) : Prop := ∀ (σ : az_S) (a l : Int), CR sz κ A g σ → TS A σ E T → az_r σ 40 1 = some b → OKp a σ → 0 ≤ a → a ≤ T → zx σ b 5 = l → 0 ≤ l → l ≤ a → cal L y [.ref 40, .int (iI p)] σ (fun r τ => r = none ∧ CR sz κ A g τ ∧ Mod σ τ [40, b, b + 1, b + 2] ∧ XX b σ τ T a l (Q σ a) (F σ a))
theorem Qr_1 {σ : az_S} {a p a' : Int} {new : List (Int × Int)} (h : Q1 σ a p a' new) : Qr 4 σ a p a' new := by
  refine ⟨fun t ht => h.1 t (by omega), fun c hc hz => ⟨c.go a' new 2, ?_, rfl, rfl, works_go hz⟩⟩
  have q := h.2 c hc
  rw [one_z hz.1] at q
  exact q
theorem Zr_34 {c : Cf} (h : Zr 3 c) : Zr 4 c := by
  refine ⟨h.1, ?_⟩
  have q := wk_2 (m := (c.fr.length : Int)) (r := 3) (r' := 4) (by decide) c.ws
  have q2 := h.2
  have a1 : (wk 4 c.fr.length c.ws).2 = [] := by
    have : (wk 4 c.fr.length c.ws).2 ++ (wk 3 c.fr.length (wk 4 c.fr.length c.ws).1).2 = [] := by rw [q.2, q2]
    exact (List.append_eq_nil_iff.mp this).1
  have a2 : ∀ (w : List (Int × Int)), (wk 4 c.fr.length w).2 = [] → (wk 4 c.fr.length w).1 = w := by
    intro w hw
    cases w with
    | nil => rfl
    | cons x w =>
      by_cases k : x.2 = (c.fr.length : Int) ∧ 4 ≤ rnk x.1
      · simp only [wk, if_pos k] at hw
        exact absurd hw (by simp)
      · simp only [wk, if_neg k]
  exact Prod.ext (a2 _ a1) a1
theorem Qr_2 {σ : az_S} {a p a' : Int} {new : List (Int × Int)} (h : Qr 4 σ a p a' new) : Qr 3 σ a p a' new := by
  refine ⟨fun t ht => h.1 t (by omega), fun c hc hz => ?_⟩
  obtain ⟨e, h1, h2, h3, h4⟩ := h.2 c hc (Zr_34 hz)
  refine ⟨e, h1, h2, h3, ?_⟩
  rw [← works_2 (r := 3) (r' := 4) (by decide), h4, works_go hz]
