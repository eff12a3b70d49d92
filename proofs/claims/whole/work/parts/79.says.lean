/-- what a method of the parser leaves: no fault, at token a', with new orders of code behind place l; or a fault f at token a' -/
def XX (b : Nat) (σ τ : az_S) (T a l : Int) (Q : Int → List (Int × Int) → Prop) (F : Int → Int → Prop) : Prop := zx τ b 6 = zx σ b 6 ∧ ((∃ (a' : Int) (new : List (Int × Int)), OKp a' τ ∧ (a ≤ a' ∧ a' ≤ T) ∧ zx τ b 5 = l + new.length ∧ (new.length : Int) ≤ a' - a ∧ cCode (zx τ (b + 1)) (zx τ (b + 2)) l new ∧ (∀ w : Int, w < l → zx τ (b + 1) w = zx σ (b + 1) w ∧ zx τ (b + 2) w = zx σ (b + 2) w) ∧ Q a' new) ∨ (∃ a' f : Int, BDp a' f τ ∧ f ≠ 0 ∧ (0 ≤ a' ∧ a' ≤ T) ∧ (0 ≤ zx τ b 5 ∧ zx τ b 5 ≤ 400) ∧ F a' f))
def fit (c : Cf) (s a p : Int) : Prop := c.n = a ∧ c.st = s ∧ (c.op = p ∧ ∀ q ∈ c.ws, q.2 ≤ (c.fr.length : Int)) ∧ c.wr = 0
def FQ (σ : az_S) (a s p : Int) (Z : Cf → Prop) (a' f : Int) : Prop := ∀ c : Cf, fit c s a p → Z c → ∃ e : Cf, Rch (zx σ 11) (zx σ 13) (zx σ 12) c e ∧ e.wr = f ∧ e.wa = zx σ 12 a'
def Cf.go (a : Int) (new : List (Int × Int)) (s : Int) (c : Cf) : Cf := (a, s, c.fr, c.ws, c.op, c.em ++ new, c.ru, c.wr, c.wa)
/-- one -/
def Q1 (σ : az_S) (a p : Int) (a' : Int) (new : List (Int × Int)) : Prop := (∀ t : List Bool, (t.length : Int) + 3 * (10 - p) + 1 ≤ 64 → tyR new t (false :: t)) ∧ ∀ c : Cf, fit c 1 a p → Rch (zx σ 11) (zx σ 13) (zx σ 12) c (oneOver (c.go a' new 1))
theorem cCode_snoc {f s : Int → Int} : ∀ (c : List (Int × Int)) (k : Int) (q : Int × Int), cCode f s k c → f (k + c.length) = trO q.1 → s (k + c.length) = q.2 → cCode f s k (c ++ [q]) := by
  intro c
  induction c with
  | nil => intro k q _ h1 h2; exact ⟨by simpa using h1, by simpa using h2, trivial⟩
  | cons r c ih =>
    intro k q h h1 h2
    refine ⟨h.1, h.2.1, ih (k + 1) q h.2.2 ?_ ?_⟩
    · rw [show k + 1 + (c.length : Int) = k + ((r :: c).length : Nat) by simp only [List.length_cons]; omega]; exact h1
    · rw [show k + 1 + (c.length : Int) = k + ((r :: c).length : Nat) by simp only [List.length_cons]; omega]; exact h2
theorem cCode_up {f s f' s' : Int → Int} : ∀ (c : List (Int × Int)) (k : Int), cCode f s k c → (∀ w : Int, k ≤ w → w < k + c.length → f' w = f w ∧ s' w = s w) → cCode f' s' k c := by
  intro c
  induction c with
  | nil => intro k _ _; trivial
  | cons r c ih =>
    intro k h h2
    have h3 := h2 k (by omega) (by simp only [List.length_cons]; omega)
    refine ⟨h3.1.trans h.1, h3.2.trans h.2.1, ih (k + 1) h.2.2 (fun w w0 w1 => h2 w (by omega) (by simp only [List.length_cons]; omega))⟩
theorem cCode_app {f s : Int → Int} : ∀ (c : List (Int × Int)) (k : Int) (e : List (Int × Int)), cCode f s k c → cCode f s (k + c.length) e → cCode f s k (c ++ e) := by
  intro c
  induction c with
  | nil => intro k e _ h; simpa using h
  | cons r c ih =>
    intro k e h h2
    refine ⟨h.1, h.2.1, ih (k + 1) e h.2.2 ?_⟩
    rw [show k + 1 + (c.length : Int) = k + ((r :: c).length : Nat) by simp only [List.length_cons]; omega]; exact h2
theorem tyR_app : ∀ (c e : List (Int × Int)) (t u v : List Bool), tyR c t u → tyR e u v → tyR (c ++ e) t v := by
  intro c
  induction c with
  | nil => intro e t u v h1 h2; have q : t = u := h1; rw [q]; exact h2
  | cons r c ih =>
    intro e t u v h1 h2
    obtain ⟨x, h3, h4⟩ := h1
    exact ⟨x, h3, ih e x u v h4 h2⟩
set_option maxRecDepth 10000 in
set_option maxHeartbeats 2000000 in
theorem c_endRule16 {d : Nat} {sz : Nat} {κ : Nat × (Nat → Int32) × Option Nat} {A : Nat → Int → Int} {g : Nat → Nat} {σ : az_S} (hC : CR sz κ A g σ) (hI : MI sz A) {l q : Int} (hl : zx σ 16 5 = l) (hq : zx σ 16 6 = q) (hq0 : 0 ≤ q) (hq1 : q < 20) : cal (d + 1) 79 [.ref 16] σ (fun r τ => r = none ∧ CR sz κ A g τ ∧ Mod σ τ [16, 20] ∧ zx τ 16 5 = l ∧ zx τ 16 6 = q + 1 ∧ (∀ w : Int, zx τ 20 w = if w = q then l else zx σ 20 w)) := by
  have hll := zx_lo σ 16 5
  have hlh := zx_hi σ 16 5
  refine cal_of (M := (yX9_endRule, cX9_endRule, 1, none)) (cd := k_X9_endRule) (L := [some (.ref 16)]) rfl (Nat.le_of_ble_eq_true rfl) rfl rfl ?_
  refine aw_aload_n rfl rfl rfl ?_
  refine aw_gk (v := q) (6) rfl rfl (hC.f.k 16 rfl) rfl hq rfl (fun _ _ => ?_)
  refine aw_if (p' := 42) rfl ⟨by omega, by omega⟩ rfl rfl (fun c1 => ?_) (fun c1 => ?_)
  · dsimp only [zc] at c1
    omega
  · dsimp only [zc] at c1
    refine aw_aload_n rfl rfl rfl ?_
    refine aw_gk (v := q) (6) rfl rfl (hC.f.k 16 rfl) rfl hq rfl (fun _ _ => ?_)
    refine aw_aload_n rfl rfl rfl ?_
    refine aw_getr (b := 20) rfl rfl (hC.f.k 16 rfl) (hC.f.r 16 3 20 rfl) rfl ?_
    refine aw_alen (N := 20) rfl (hC.f.s 20 rfl) (by decide) rfl ?_
    refine aw_icmp (p' := 42) rfl ⟨by omega, by omega⟩ ⟨by omega, by omega⟩ rfl rfl (fun c2 => ?_) (fun c2 => ?_)
    · dsimp only [zc] at c2
      omega
    · dsimp only [zc] at c2
      refine aw_aload_n rfl rfl rfl ?_
      refine aw_getr (b := 20) rfl rfl (hC.f.k 16 rfl) (hC.f.r 16 3 20 rfl) rfl ?_
      refine aw_aload_n rfl rfl rfl ?_
      refine aw_gk (v := q) (6) rfl rfl (hC.f.k 16 rfl) rfl hq rfl (fun _ _ => ?_)
      refine aw_aload_n rfl rfl rfl ?_
      refine aw_gk (v := l) (5) rfl rfl (hC.f.k 16 rfl) rfl hl rfl (fun _ _ => ?_)
      refine aw_ct (N := 20) hC hI rfl (hC.f.s 20 rfl) (by omega) rfl (by decide) (by omega) (by omega) ⟨by omega, by omega⟩ rfl (fun τ4 hM4 hD4 hU4 => ?_)
      refine aw_aload_n rfl rfl rfl ?_
      refine aw_dup rfl rfl rfl ?_
      refine aw_gk (v := q) (6) rfl rfl (hM4.f.k 16 rfl) rfl (by rw [hD4.z 16 rfl]; exact hq) rfl (fun _ _ => ?_)
      refine aw_iconst rfl rfl ?_
      refine aw_iadd rfl rfl ?_
      refine aw_c9 (6) hM4 hI rfl rfl (hM4.f.k 16 rfl) rfl rfl (by decide) ⟨by omega, by omega⟩ rfl (fun τ5 hM5 hD5 hU5 => ?_)
      refine aw_retv rfl ?_
      exact ⟨rfl, hM5, ((hD4.su (T := [16, 20]) rfl).tr (hD5.su (T := [16, 20]) rfl)), by rw [hU5, if_neg (by decide), hD4.z 16 rfl]; exact hl, by rw [hU5, if_pos rfl], fun w => by rw [hD5.z 20 rfl, hU4]⟩
set_option maxRecDepth 10000 in
set_option maxHeartbeats 2000000 in
theorem c_endRule22 {d : Nat} {sz : Nat} {κ : Nat × (Nat → Int32) × Option Nat} {A : Nat → Int → Int} {g : Nat → Nat} {σ : az_S} (hC : CR sz κ A g σ) (hI : MI sz A) {l q : Int} (hl : zx σ 22 5 = l) (hq : zx σ 22 6 = q) (hq0 : 0 ≤ q) (hq1 : q < 20) : cal (d + 1) 79 [.ref 22] σ (fun r τ => r = none ∧ CR sz κ A g τ ∧ Mod σ τ [22, 26] ∧ zx τ 22 5 = l ∧ zx τ 22 6 = q + 1 ∧ (∀ w : Int, zx τ 26 w = if w = q then l else zx σ 26 w)) := by
  have hll := zx_lo σ 22 5
  have hlh := zx_hi σ 22 5
  refine cal_of (M := (yX9_endRule, cX9_endRule, 1, none)) (cd := k_X9_endRule) (L := [some (.ref 22)]) rfl (Nat.le_of_ble_eq_true rfl) rfl rfl ?_
  refine aw_aload_n rfl rfl rfl ?_
  refine aw_gk (v := q) (6) rfl rfl (hC.f.k 22 rfl) rfl hq rfl (fun _ _ => ?_)
  refine aw_if (p' := 42) rfl ⟨by omega, by omega⟩ rfl rfl (fun c1 => ?_) (fun c1 => ?_)
  · dsimp only [zc] at c1
    omega
  · dsimp only [zc] at c1
    refine aw_aload_n rfl rfl rfl ?_
    refine aw_gk (v := q) (6) rfl rfl (hC.f.k 22 rfl) rfl hq rfl (fun _ _ => ?_)
    refine aw_aload_n rfl rfl rfl ?_
    refine aw_getr (b := 26) rfl rfl (hC.f.k 22 rfl) (hC.f.r 22 3 26 rfl) rfl ?_
    refine aw_alen (N := 20) rfl (hC.f.s 26 rfl) (by decide) rfl ?_
    refine aw_icmp (p' := 42) rfl ⟨by omega, by omega⟩ ⟨by omega, by omega⟩ rfl rfl (fun c2 => ?_) (fun c2 => ?_)
    · dsimp only [zc] at c2
      omega
    · dsimp only [zc] at c2
      refine aw_aload_n rfl rfl rfl ?_
      refine aw_getr (b := 26) rfl rfl (hC.f.k 22 rfl) (hC.f.r 22 3 26 rfl) rfl ?_
      refine aw_aload_n rfl rfl rfl ?_
      refine aw_gk (v := q) (6) rfl rfl (hC.f.k 22 rfl) rfl hq rfl (fun _ _ => ?_)
      refine aw_aload_n rfl rfl rfl ?_
      refine aw_gk (v := l) (5) rfl rfl (hC.f.k 22 rfl) rfl hl rfl (fun _ _ => ?_)
      refine aw_ct (N := 20) hC hI rfl (hC.f.s 26 rfl) (by omega) rfl (by decide) (by omega) (by omega) ⟨by omega, by omega⟩ rfl (fun τ4 hM4 hD4 hU4 => ?_)
      refine aw_aload_n rfl rfl rfl ?_
      refine aw_dup rfl rfl rfl ?_
      refine aw_gk (v := q) (6) rfl rfl (hM4.f.k 22 rfl) rfl (by rw [hD4.z 22 rfl]; exact hq) rfl (fun _ _ => ?_)
      refine aw_iconst rfl rfl ?_
      refine aw_iadd rfl rfl ?_
      refine aw_c9 (6) hM4 hI rfl rfl (hM4.f.k 22 rfl) rfl rfl (by decide) ⟨by omega, by omega⟩ rfl (fun τ5 hM5 hD5 hU5 => ?_)
      refine aw_retv rfl ?_
      exact ⟨rfl, hM5, ((hD4.su (T := [22, 26]) rfl).tr (hD5.su (T := [22, 26]) rfl)), by rw [hU5, if_neg (by decide), hD4.z 22 rfl]; exact hl, by rw [hU5, if_pos rfl], fun w => by rw [hD5.z 26 rfl, hU4]⟩
