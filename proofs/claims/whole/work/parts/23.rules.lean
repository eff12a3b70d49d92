/-! RULES: the abstract machine walked instruction by instruction, numbers as whole numbers -/
def iI (z : Int) : Int32 := Int32.ofInt z
def lI (z : Int) : Int64 := Int64.ofInt z
/-- the numbers that an int holds -/
def inI (z : Int) : Prop := -2147483648 ≤ z ∧ z < 2147483648
theorem iI_toInt {z : Int} (h : inI z) : (iI z).toInt = z := Int32.toInt_ofInt_of_le (by have := h.1; omega) (by have := h.2; omega)
theorem iI_add (a b : Int) : iI a + iI b = iI (a + b) := (Int32.ofInt_add a b).symm
theorem iI_sub (a b : Int) : iI a - iI b = iI (a - b) := (Int32.ofInt_sub a b).symm
theorem iI_mul (a b : Int) : iI a * iI b = iI (a * b) := (Int32.ofInt_mul a b).symm
theorem iI_neg (a : Int) : -iI a = iI (-a) := (Int32.ofInt_neg a).symm
theorem iI_lt {a b : Int} (ha : inI a) (hb : inI b) : iI a < iI b ↔ a < b := by rw [Int32.lt_iff_toInt_lt, iI_toInt ha, iI_toInt hb]
theorem iI_le {a b : Int} (ha : inI a) (hb : inI b) : iI a ≤ iI b ↔ a ≤ b := by rw [Int32.le_iff_toInt_le, iI_toInt ha, iI_toInt hb]
theorem iI_eq {a b : Int} (ha : inI a) (hb : inI b) : iI a = iI b ↔ a = b := by rw [← Int32.toInt_inj, iI_toInt ha, iI_toInt hb]
theorem iI_nat (n : Nat) : iI (n : Int) = nI n := rfl
theorem iI_of (x : Int32) : ∃ z : Int, inI z ∧ x = iI z := ⟨x.toInt, ⟨by have := Int32.le_toInt x; omega, by have := Int32.toInt_lt x; omega⟩, (Int32.ofInt_toInt x).symm⟩
theorem iI_clamp {z : Int} (h0 : 0 ≤ z) (h : z < 2147483648) : (iI z).toNatClampNeg = z.toNat := by
  obtain ⟨n, rfl⟩ := Int.eq_ofNat_of_zero_le h0
  rw [iI_nat, nI_clamp (by omega)]
  omega
theorem iI_in {z : Int} {n : Nat} (h0 : 0 ≤ z) (h : z < n) (hn : n ≤ 10000) : vp_in (iI z) n := by
  rw [vp_in_iff, iI_toInt ⟨by omega, by omega⟩]
  exact ⟨h0, h⟩
theorem iI_div {a b : Int} (h0 : 0 ≤ a) (h : a < 2147483648) (hb : 0 < b) (hb2 : b < 2147483648) : iI a / iI b = iI (a / b) := by
  obtain ⟨n, rfl⟩ := Int.eq_ofNat_of_zero_le h0
  obtain ⟨m, rfl⟩ := Int.eq_ofNat_of_zero_le (Int.le_of_lt hb)
  rw [iI_nat, iI_nat, pk_div (by omega) (by omega) (by omega), ← iI_nat]
  congr 1
theorem iI_rem {a b : Int} (h0 : 0 ≤ a) (h : a < 2147483648) (hb : 0 < b) (hb2 : b < 2147483648) : iI a - iI a / iI b * iI b = iI (a % b) := by
  rw [iI_div h0 h hb hb2, iI_mul, iI_sub]
  congr 1
  have := Int.emod_add_mul_ediv a b
  rw [Int.mul_comm] at this
  omega
theorem iI_ne0 {b : Int} (h : inI b) (hb : b ≠ 0) : ¬ iI b = 0 := by
  intro e
  exact hb ((iI_eq h ⟨by decide, by decide⟩).mp (e.trans rfl))
noncomputable def bI (p : Prop) : Int := @ite Int p (Classical.propDecidable p) 1 0
theorem bI_t {p : Prop} (h : p) : bI p = 1 := if_pos h
theorem bI_f {p : Prop} (h : ¬ p) : bI p = 0 := if_neg h
theorem bI_or (p : Prop) : (p ∧ bI p = 1) ∨ (¬ p ∧ bI p = 0) := by
  by_cases h : p
  · exact Or.inl ⟨h, bI_t h⟩
  · exact Or.inr ⟨h, bI_f h⟩
theorem bI_in (p : Prop) : inI (bI p) := by rcases bI_or p with ⟨_, h⟩ | ⟨_, h⟩ <;> rw [h] <;> exact ⟨by decide, by decide⟩
theorem bI_nar (p : Prop) : narrow .boolean (.int (iI (bI p))) = .int (iI (bI p)) := by rcases bI_or p with ⟨_, h⟩ | ⟨_, h⟩ <;> rw [h] <;> rfl
theorem bI_zero (p : Prop) : bI p = 0 ↔ ¬ p := by
  rcases bI_or p with ⟨h1, h⟩ | ⟨h1, h⟩
  · rw [h]; exact ⟨fun q => absurd q (by decide), fun q => absurd h1 q⟩
  · exact ⟨fun _ => h1, fun _ => h⟩
theorem bI_one (p : Prop) : bI p = 1 ↔ p := by
  rcases bI_or p with ⟨h1, h⟩ | ⟨h1, h⟩
  · exact ⟨fun _ => h1, fun _ => h⟩
  · rw [h]; exact ⟨fun q => absurd q (by decide), fun q => absurd q h1⟩
theorem bI_one' (p : Prop) : 1 = bI p ↔ p := by rw [eq_comm]; exact bI_one p
theorem bI_zero' (p : Prop) : 0 = bI p ↔ ¬ p := by rw [eq_comm]; exact bI_zero p
theorem bI_congr {p q : Prop} (h : p ↔ q) : bI p = bI q := by rw [propext h]
/-- a frame of the abstract machine comes to its return with P -/
def aw (d : Nat) (cd : List az_I) (rt : Option FieldType) (P : Option Value → az_S → Prop) (pc : Nat) (L : az_V) (st : List Value) (σ : az_S) : Prop := ∃ r t k, az_run (az_ev az_ms az_cds d) cd rt r t k (pc, L, st, σ) ∧ P r t
/-- a call comes back with P -/
def cal (d y : Nat) (as : List Value) (σ : az_S) (P : Option Value → az_S → Prop) : Prop := ∃ r τ, az_ev az_ms az_cds d y as σ r τ ∧ P r τ
/-- a call that only answers -/
def fn (d y : Nat) (as : List Value) (σ : az_S) (v : Value) : Prop := az_ev az_ms az_cds d y as σ (some v) σ
theorem az_run_mono {E E' : Nat → List Value → az_S → Option Value → az_S → Prop} (hE : ∀ y as σ r τ, E y as σ r τ → E' y as σ r τ) {cd : List az_I} {rt : Option FieldType} {r : Option Value} {t : az_S} : ∀ (k : Nat) (G : az_F), az_run E cd rt r t k G → az_run E' cd rt r t k G := by
  intro k
  induction k with
  | zero => intro G h; exact h.elim
  | succ k ih =>
    intro G h
    obtain ⟨len, ins, aux, hf, h⟩ := h
    refine ⟨len, ins, aux, hf, ?_⟩
    rcases h with h | ⟨F, h1, h2⟩
    · exact Or.inl h
    · refine Or.inr ⟨F, ?_, ih F h2⟩
      unfold az_step at h1 ⊢
      split at h1
      · obtain ⟨a1, a2, a3, a4, r, τ, a5, a6⟩ := h1
        exact ⟨a1, a2, a3, a4, r, τ, hE _ _ _ _ _ a5, a6⟩
      · exact h1
      · exact h1
      · exact h1
      · exact h1
theorem az_ev_mono : ∀ (d d' : Nat), d ≤ d' → ∀ (y : Nat) (as : List Value) (σ : az_S) (r : Option Value) (τ : az_S), az_ev az_ms az_cds d y as σ r τ → az_ev az_ms az_cds d' y as σ r τ := by
  intro d
  induction d with
  | zero => intro d' _ y as σ r τ h; exact h.elim
  | succ d ih =>
    intro d' hd y as σ r τ h
    cases d' with
    | zero => omega
    | succ d' =>
      obtain ⟨M, k, h1, h2, h3⟩ := h
      exact ⟨M, k, h1, h2, az_run_mono (ih d' (by omega)) k _ h3⟩
theorem cal.mono {d d' y : Nat} {as : List Value} {σ : az_S} {P : Option Value → az_S → Prop} (h : cal d y as σ P) (hd : d ≤ d') : cal d' y as σ P := by
  obtain ⟨r, τ, h1, h2⟩ := h
  exact ⟨r, τ, az_ev_mono d d' hd _ _ _ _ _ h1, h2⟩
theorem fn.mono {d d' y : Nat} {as : List Value} {σ : az_S} {v : Value} (h : fn d y as σ v) (hd : d ≤ d') : fn d' y as σ v := az_ev_mono d d' hd _ _ _ _ _ h
theorem cal.imp {d y : Nat} {as : List Value} {σ : az_S} {P P' : Option Value → az_S → Prop} (h : cal d y as σ P) (hp : ∀ r τ, P r τ → P' r τ) : cal d y as σ P' := by
  obtain ⟨r, τ, h1, h2⟩ := h
  exact ⟨r, τ, h1, hp r τ h2⟩
/-- a method by a walk of its text -/
theorem cal_of {d y : Nat} {as : List Value} {σ : az_S} {P : Option Value → az_S → Prop} {M : az_M} (hM : az_ms y = some M) (hl : (az_sl0 as).length ≤ M.2.2.1) {cd : List az_I} (hcd : az_cds y = cd) {L : az_V} (hL : az_entry as M.2.2.1 = L) (h : aw d cd M.2.2.2 P 0 L [] σ) : cal (d + 1) y as σ P := by
  obtain ⟨r, t, k, h1, h2⟩ := h
  subst hcd
  subst hL
  exact ⟨r, t, ⟨M, k, hM, hl, h1⟩, h2⟩
theorem fn_of {d y : Nat} {as : List Value} {σ : az_S} {v : Value} {M : az_M} (hM : az_ms y = some M) (hl : (az_sl0 as).length ≤ M.2.2.1) {cd : List az_I} (hcd : az_cds y = cd) {L : az_V} (hL : az_entry as M.2.2.1 = L) (h : aw d cd M.2.2.2 (fun r τ => r = some v ∧ τ = σ) 0 L [] σ) : fn (d + 1) y as σ v := by
  obtain ⟨r, t, k, h1, h2, h3⟩ := h
  subst hcd
  subst hL
  subst h2
  subst h3
  exact ⟨M, k, hM, hl, h1⟩
section AwRules
variable {d : Nat} {cd : List az_I} {rt : Option FieldType} {P : Option Value → az_S → Prop} {pc p' : Nat} {L : az_V} {st : List Value} {σ : az_S}
theorem aw_step {len : Nat} {ins : Instr} {aux : List Nat} {F : az_F} (hf : az_fetch cd pc = some (len, ins, aux)) (hs : az_step (az_ev az_ms az_cds d) pc len ins aux L st σ F) (h : aw d cd rt P F.1 F.2.1 F.2.2.1 F.2.2.2) : aw d cd rt P pc L st σ := by
  obtain ⟨r, t, k, h1, h2⟩ := h
  exact ⟨r, t, k + 1, ⟨len, ins, aux, hf, Or.inr ⟨F, hs, h1⟩⟩, h2⟩
theorem az_step_n {E : Nat → List Value → az_S → Option Value → az_S → Prop} {pc len : Nat} {ins : Instr} {aux : List Nat} {L : az_V} {st : List Value} {σ : az_S} {F : az_F} (ha : aux.length ≤ 2) (h : az_next pc len ins aux L st σ F) : az_step E pc len ins aux L st σ F := by
  unfold az_step
  split
  · simp at ha
  · simp at ha
  · simp at ha
  · simp at ha
  · exact h
theorem aw_nx {len : Nat} {ins : Instr} {aux : List Nat} {F : az_F} (hf : az_fetch cd pc = some (len, ins, aux)) (ha : aux.length ≤ 2) (hs : az_next pc len ins aux L st σ F) (h : aw d cd rt P F.1 F.2.1 F.2.2.1 F.2.2.2) : aw d cd rt P pc L st σ := aw_step hf (az_step_n ha hs) h
theorem aw_retv (hf : az_fetch cd pc = some (1, .return_, [])) (h : P none σ) : aw d cd none P pc L [] σ := ⟨none, σ, 1, ⟨1, .return_, [], hf, Or.inl ⟨⟨rfl, rfl, rfl⟩, rfl⟩⟩, h⟩
theorem aw_reti {v : Int32} (hf : az_fetch cd pc = some (1, .ireturn, [])) (h : P (some (.int v)) σ) : aw d cd (some .int) P pc L [.int v] σ := ⟨_, σ, 1, ⟨1, .ireturn, [], hf, Or.inl ⟨⟨v, .int, rfl, rfl, rfl, rfl⟩, rfl⟩⟩, h⟩
theorem aw_retn {v : Int32} {ty : FieldType} (hf : az_fetch cd pc = some (1, .ireturn, [])) (hn : narrow ty (.int v) = .int v) (h : P (some (.int v)) σ) : aw d cd (some ty) P pc L [.int v] σ := ⟨_, σ, 1, ⟨1, .ireturn, [], hf, Or.inl ⟨⟨v, ty, rfl, hn, rfl, rfl⟩, rfl⟩⟩, h⟩
theorem aw_retl {v : Int64} (hf : az_fetch cd pc = some (1, .lreturn, [])) (h : P (some (.long v)) σ) : aw d cd (some .long) P pc L [.long v] σ := ⟨_, σ, 1, ⟨1, .lreturn, [], hf, Or.inl ⟨⟨v, rfl, rfl, rfl⟩, rfl⟩⟩, h⟩
theorem aw_retr {o : Option Nat} {rt' : FieldType} (hf : az_fetch cd pc = some (1, .areturn, [])) (hr : (∃ n, rt' = .object n) ∨ ∃ t, rt' = .array t) (h : P (some (va_rf o)) σ) : aw d cd (some rt') P pc L [va_rf o] σ := ⟨_, σ, 1, ⟨1, .areturn, [], hf, Or.inl ⟨⟨o, rt', rfl, hr, rfl, rfl⟩, rfl⟩⟩, h⟩
-- constants and locals
theorem aw_iconst {n : Int} (hf : az_fetch cd pc = some (1, .iconst n, [])) (hp : pc + 1 = p') (h : aw d cd rt P p' L (.int (iI n) :: st) σ) : aw d cd rt P pc L st σ := by subst hp; exact aw_nx hf (Nat.le_of_ble_eq_true rfl) rfl h
theorem aw_bipush {n : Int} (hf : az_fetch cd pc = some (2, .bipush n, [])) (hv : (Int8.ofInt n).toInt32 = iI n) (hp : pc + 2 = p') (h : aw d cd rt P p' L (.int (iI n) :: st) σ) : aw d cd rt P pc L st σ := by subst hp; rw [← hv] at h; exact aw_nx hf (Nat.le_of_ble_eq_true rfl) rfl h
theorem aw_sipush {n : Int} (hf : az_fetch cd pc = some (3, .sipush n, [])) (hv : (Int16.ofInt n).toInt32 = iI n) (hp : pc + 3 = p') (h : aw d cd rt P p' L (.int (iI n) :: st) σ) : aw d cd rt P pc L st σ := by subst hp; rw [← hv] at h; exact aw_nx hf (Nat.le_of_ble_eq_true rfl) rfl h
theorem aw_ldc {i v : Nat} (n : Int) (hf : az_fetch cd pc = some (2, .ldc i, [0, v])) (hv : Int32.ofNat v = iI n) (hp : pc + 2 = p') (h : aw d cd rt P p' L (.int (iI n) :: st) σ) : aw d cd rt P pc L st σ := by subst hp; rw [← hv] at h; exact aw_nx hf (Nat.le_of_ble_eq_true rfl) (Or.inl ⟨v, rfl, rfl⟩) h
theorem aw_ldcr {i v : Nat} (hf : az_fetch cd pc = some (2, .ldc i, [1, v])) (hp : pc + 2 = p') (h : aw d cd rt P p' L (.ref v :: st) σ) : aw d cd rt P pc L st σ := by subst hp; exact aw_nx hf (Nat.le_of_ble_eq_true rfl) (Or.inr ⟨v, rfl, rfl⟩) h
theorem aw_ldcw {i v : Nat} (n : Int) (hf : az_fetch cd pc = some (3, .ldc_w i, [0, v])) (hv : Int32.ofNat v = iI n) (hp : pc + 3 = p') (h : aw d cd rt P p' L (.int (iI n) :: st) σ) : aw d cd rt P pc L st σ := by subst hp; rw [← hv] at h; exact aw_nx hf (Nat.le_of_ble_eq_true rfl) ⟨v, rfl, rfl⟩ h
theorem aw_ldc2 {i v : Nat} (n : Int) (hf : az_fetch cd pc = some (3, .ldc2_w i, [v])) (hv : Int64.ofNat v = lI n) (hp : pc + 3 = p') (h : aw d cd rt P p' L (.long (lI n) :: st) σ) : aw d cd rt P pc L st σ := by subst hp; rw [← hv] at h; exact aw_nx hf (Nat.le_of_ble_eq_true rfl) ⟨v, rfl, rfl⟩ h
theorem aw_lconst {n : Fin 2} (z : Int) (hf : az_fetch cd pc = some (1, .lconst n, [])) (hv : Int64.ofNat (n : Nat) = lI z) (hp : pc + 1 = p') (h : aw d cd rt P p' L (.long (lI z) :: st) σ) : aw d cd rt P pc L st σ := by subst hp; rw [← hv] at h; exact aw_nx hf (Nat.le_of_ble_eq_true rfl) rfl h
theorem aw_null (hf : az_fetch cd pc = some (1, .aconst_null, [])) (hp : pc + 1 = p') (h : aw d cd rt P p' L (.null :: st) σ) : aw d cd rt P pc L st σ := by subst hp; exact aw_nx hf (Nat.le_of_ble_eq_true rfl) rfl h
theorem aw_iload_n {k : Fin 4} {v : Int32} (hf : az_fetch cd pc = some (1, .iload_n k, [])) (hv : az_get L k = some (.int v)) (hp : pc + 1 = p') (h : aw d cd rt P p' L (.int v :: st) σ) : aw d cd rt P pc L st σ := by subst hp; exact aw_nx hf (Nat.le_of_ble_eq_true rfl) ⟨v, hv, rfl⟩ h
theorem aw_iload {k : Nat} {v : Int32} (hf : az_fetch cd pc = some (2, .iload k, [])) (hv : az_get L k = some (.int v)) (hp : pc + 2 = p') (h : aw d cd rt P p' L (.int v :: st) σ) : aw d cd rt P pc L st σ := by subst hp; exact aw_nx hf (Nat.le_of_ble_eq_true rfl) ⟨v, hv, rfl⟩ h
theorem aw_lload_n {k : Fin 4} {v : Int64} (hf : az_fetch cd pc = some (1, .lload_n k, [])) (hv : az_get L k = some (.long v)) (hp : pc + 1 = p') (h : aw d cd rt P p' L (.long v :: st) σ) : aw d cd rt P pc L st σ := by subst hp; exact aw_nx hf (Nat.le_of_ble_eq_true rfl) ⟨v, hv, rfl⟩ h
theorem aw_lload {k : Nat} {v : Int64} (hf : az_fetch cd pc = some (2, .lload k, [])) (hv : az_get L k = some (.long v)) (hp : pc + 2 = p') (h : aw d cd rt P p' L (.long v :: st) σ) : aw d cd rt P pc L st σ := by subst hp; exact aw_nx hf (Nat.le_of_ble_eq_true rfl) ⟨v, hv, rfl⟩ h
theorem aw_aload_n {k : Fin 4} {a : Nat} (hf : az_fetch cd pc = some (1, .aload_n k, [])) (hv : az_get L k = some (.ref a)) (hp : pc + 1 = p') (h : aw d cd rt P p' L (.ref a :: st) σ) : aw d cd rt P pc L st σ := by subst hp; exact aw_nx hf (Nat.le_of_ble_eq_true rfl) ⟨some a, hv, rfl⟩ h
theorem aw_aload {k a : Nat} (hf : az_fetch cd pc = some (2, .aload k, [])) (hv : az_get L k = some (.ref a)) (hp : pc + 2 = p') (h : aw d cd rt P p' L (.ref a :: st) σ) : aw d cd rt P pc L st σ := by subst hp; exact aw_nx hf (Nat.le_of_ble_eq_true rfl) ⟨some a, hv, rfl⟩ h
theorem aw_aload_nq {k : Fin 4} {o : Option Nat} (hf : az_fetch cd pc = some (1, .aload_n k, [])) (hv : az_get L k = some (va_rf o)) (hp : pc + 1 = p') (h : aw d cd rt P p' L (va_rf o :: st) σ) : aw d cd rt P pc L st σ := by subst hp; exact aw_nx hf (Nat.le_of_ble_eq_true rfl) ⟨o, hv, rfl⟩ h
theorem aw_istore_n {k : Fin 4} {v : Int32} {L' : az_V} (hf : az_fetch cd pc = some (1, .istore_n k, [])) (hk : (k : Nat) < L.length) (hL : az_put1 L k (.int v) = L') (hp : pc + 1 = p') (h : aw d cd rt P p' L' st σ) : aw d cd rt P pc L (.int v :: st) σ := by subst hp; subst hL; exact aw_nx hf (Nat.le_of_ble_eq_true rfl) ⟨v, st, rfl, hk, rfl⟩ h
theorem aw_istore {k : Nat} {v : Int32} {L' : az_V} (hf : az_fetch cd pc = some (2, .istore k, [])) (hk : k < L.length) (hL : az_put1 L k (.int v) = L') (hp : pc + 2 = p') (h : aw d cd rt P p' L' st σ) : aw d cd rt P pc L (.int v :: st) σ := by subst hp; subst hL; exact aw_nx hf (Nat.le_of_ble_eq_true rfl) ⟨v, st, rfl, hk, rfl⟩ h
theorem aw_lstore_n {k : Fin 4} {v : Int64} {L' : az_V} (hf : az_fetch cd pc = some (1, .lstore_n k, [])) (hk : (k : Nat) + 1 < L.length) (hL : az_put2 L k (.long v) = L') (hp : pc + 1 = p') (h : aw d cd rt P p' L' st σ) : aw d cd rt P pc L (.long v :: st) σ := by subst hp; subst hL; exact aw_nx hf (Nat.le_of_ble_eq_true rfl) ⟨v, st, rfl, hk, rfl⟩ h
theorem aw_lstore {k : Nat} {v : Int64} {L' : az_V} (hf : az_fetch cd pc = some (2, .lstore k, [])) (hk : k + 1 < L.length) (hL : az_put2 L k (.long v) = L') (hp : pc + 2 = p') (h : aw d cd rt P p' L' st σ) : aw d cd rt P pc L (.long v :: st) σ := by subst hp; subst hL; exact aw_nx hf (Nat.le_of_ble_eq_true rfl) ⟨v, st, rfl, hk, rfl⟩ h
theorem aw_astore_n {k : Fin 4} {a : Nat} {L' : az_V} (hf : az_fetch cd pc = some (1, .astore_n k, [])) (hk : (k : Nat) < L.length) (hL : az_put1 L k (.ref a) = L') (hp : pc + 1 = p') (h : aw d cd rt P p' L' st σ) : aw d cd rt P pc L (.ref a :: st) σ := by subst hp; subst hL; exact aw_nx hf (Nat.le_of_ble_eq_true rfl) ⟨some a, st, rfl, hk, rfl⟩ h
theorem aw_astore {k a : Nat} {L' : az_V} (hf : az_fetch cd pc = some (2, .astore k, [])) (hk : k < L.length) (hL : az_put1 L k (.ref a) = L') (hp : pc + 2 = p') (h : aw d cd rt P p' L' st σ) : aw d cd rt P pc L (.ref a :: st) σ := by subst hp; subst hL; exact aw_nx hf (Nat.le_of_ble_eq_true rfl) ⟨some a, st, rfl, hk, rfl⟩ h
theorem aw_iinc {k : Nat} {n z : Int} {L' : az_V} (hf : az_fetch cd pc = some (3, .iinc k n, [])) (hv : az_get L k = some (.int (iI z))) (hL : az_put1 L k (.int (iI (z + n))) = L') (hp : pc + 3 = p') (h : aw d cd rt P p' L' st σ) : aw d cd rt P pc L st σ := by
  subst hp; subst hL
  refine aw_nx hf (Nat.le_of_ble_eq_true rfl) ⟨iI z, hv, rfl⟩ ?_
  show aw d cd rt P (pc + 3) (az_put1 L k (.int (iI z + iI n))) st σ
  rw [iI_add]
  exact h
-- arithmetic
theorem aw_iadd {a b : Int} (hf : az_fetch cd pc = some (1, .iadd, [])) (hp : pc + 1 = p') (h : aw d cd rt P p' L (.int (iI (a + b)) :: st) σ) : aw d cd rt P pc L (.int (iI b) :: .int (iI a) :: st) σ := by subst hp; rw [← iI_add] at h; exact aw_nx hf (Nat.le_of_ble_eq_true rfl) ⟨_, _, st, rfl, rfl⟩ h
theorem aw_isub {a b : Int} (hf : az_fetch cd pc = some (1, .isub, [])) (hp : pc + 1 = p') (h : aw d cd rt P p' L (.int (iI (a - b)) :: st) σ) : aw d cd rt P pc L (.int (iI b) :: .int (iI a) :: st) σ := by subst hp; rw [← iI_sub] at h; exact aw_nx hf (Nat.le_of_ble_eq_true rfl) ⟨_, _, st, rfl, rfl⟩ h
theorem aw_imul {a b : Int} (hf : az_fetch cd pc = some (1, .imul, [])) (hp : pc + 1 = p') (h : aw d cd rt P p' L (.int (iI (a * b)) :: st) σ) : aw d cd rt P pc L (.int (iI b) :: .int (iI a) :: st) σ := by subst hp; rw [← iI_mul] at h; exact aw_nx hf (Nat.le_of_ble_eq_true rfl) ⟨_, _, st, rfl, rfl⟩ h
theorem aw_ineg {a : Int} (hf : az_fetch cd pc = some (1, .ineg, [])) (hp : pc + 1 = p') (h : aw d cd rt P p' L (.int (iI (-a)) :: st) σ) : aw d cd rt P pc L (.int (iI a) :: st) σ := by subst hp; rw [← iI_neg] at h; exact aw_nx hf (Nat.le_of_ble_eq_true rfl) ⟨_, st, rfl, rfl⟩ h
theorem aw_idiv {a b : Int} (hf : az_fetch cd pc = some (1, .idiv, [])) (h0 : 0 ≤ a) (h1 : a < 2147483648) (h2 : 0 < b) (h3 : b < 2147483648) (hp : pc + 1 = p') (h : aw d cd rt P p' L (.int (iI (a / b)) :: st) σ) : aw d cd rt P pc L (.int (iI b) :: .int (iI a) :: st) σ := by subst hp; rw [← iI_div h0 h1 h2 h3] at h; exact aw_nx hf (Nat.le_of_ble_eq_true rfl) ⟨_, _, st, rfl, iI_ne0 ⟨by omega, h3⟩ (by omega), rfl⟩ h
theorem aw_irem {a b : Int} (hf : az_fetch cd pc = some (1, .irem, [])) (h0 : 0 ≤ a) (h1 : a < 2147483648) (h2 : 0 < b) (h3 : b < 2147483648) (hp : pc + 1 = p') (h : aw d cd rt P p' L (.int (iI (a % b)) :: st) σ) : aw d cd rt P pc L (.int (iI b) :: .int (iI a) :: st) σ := by subst hp; rw [← iI_rem h0 h1 h2 h3] at h; exact aw_nx hf (Nat.le_of_ble_eq_true rfl) ⟨_, _, st, rfl, iI_ne0 ⟨by omega, h3⟩ (by omega), rfl⟩ h
-- the stack
theorem aw_dup {v : Value} (hf : az_fetch cd pc = some (1, .dup, [])) (hc : v.category = 1) (hp : pc + 1 = p') (h : aw d cd rt P p' L (v :: v :: st) σ) : aw d cd rt P pc L (v :: st) σ := by subst hp; exact aw_nx hf (Nat.le_of_ble_eq_true rfl) ⟨v, st, rfl, hc, rfl⟩ h
theorem aw_pop {v : Value} (hf : az_fetch cd pc = some (1, .pop, [])) (hc : v.category = 1) (hp : pc + 1 = p') (h : aw d cd rt P p' L st σ) : aw d cd rt P pc L (v :: st) σ := by subst hp; exact aw_nx hf (Nat.le_of_ble_eq_true rfl) ⟨v, st, rfl, hc, rfl⟩ h
theorem aw_dup_x1 {v w : Value} (hf : az_fetch cd pc = some (1, .dup_x1, [])) (hc : v.category = 1) (hc2 : w.category = 1) (hp : pc + 1 = p') (h : aw d cd rt P p' L (v :: w :: v :: st) σ) : aw d cd rt P pc L (v :: w :: st) σ := by subst hp; exact aw_nx hf (Nat.le_of_ble_eq_true rfl) ⟨v, w, st, rfl, hc, hc2, rfl⟩ h
theorem aw_dup2 {v w : Value} (hf : az_fetch cd pc = some (1, .dup2, [])) (hc : v.category = 1) (hc2 : w.category = 1) (hp : pc + 1 = p') (h : aw d cd rt P p' L (v :: w :: v :: w :: st) σ) : aw d cd rt P pc L (v :: w :: st) σ := by subst hp; exact aw_nx hf (Nat.le_of_ble_eq_true rfl) ⟨v, w, st, rfl, hc, hc2, rfl⟩ h
-- branches
theorem aw_goto {off : Int} (hf : az_fetch cd pc = some (3, .goto off, [])) (hp : az_j pc off = p') (h : aw d cd rt P p' L st σ) : aw d cd rt P pc L st σ := by subst hp; exact aw_nx hf (Nat.le_of_ble_eq_true rfl) rfl h
theorem aw_ifC {c : ClassFile.Cond} {off : Int} {x : Int32} {q : Nat} (hf : az_fetch cd pc = some (3, .ifCond c off, [])) (hp : az_j pc off = p') (hq : pc + 3 = q) (ht : az_cmp c x 0 → aw d cd rt P p' L st σ) (he : ¬ az_cmp c x 0 → aw d cd rt P q L st σ) : aw d cd rt P pc L (.int x :: st) σ := by
  subst hp; subst hq
  by_cases h : az_cmp c x 0
  · exact aw_nx hf (Nat.le_of_ble_eq_true rfl) ⟨x, st, rfl, Or.inl ⟨h, rfl⟩⟩ (ht h)
  · exact aw_nx hf (Nat.le_of_ble_eq_true rfl) ⟨x, st, rfl, Or.inr ⟨h, rfl⟩⟩ (he h)
theorem aw_icmpC {c : ClassFile.Cond} {off : Int} {x y : Int32} {q : Nat} (hf : az_fetch cd pc = some (3, .if_icmp c off, [])) (hp : az_j pc off = p') (hq : pc + 3 = q) (ht : az_cmp c x y → aw d cd rt P p' L st σ) (he : ¬ az_cmp c x y → aw d cd rt P q L st σ) : aw d cd rt P pc L (.int y :: .int x :: st) σ := by
  subst hp; subst hq
  by_cases h : az_cmp c x y
  · exact aw_nx hf (Nat.le_of_ble_eq_true rfl) ⟨x, y, st, rfl, Or.inl ⟨h, rfl⟩⟩ (ht h)
  · exact aw_nx hf (Nat.le_of_ble_eq_true rfl) ⟨x, y, st, rfl, Or.inr ⟨h, rfl⟩⟩ (he h)
/-- a condition on whole numbers -/
def zc (c : ClassFile.Cond) (x y : Int) : Prop := match c with
  | .eq => x = y
  | .ne => ¬ x = y
  | .lt => x < y
  | .ge => y ≤ x
  | .gt => y < x
  | .le => x ≤ y
theorem zc_iff {c : ClassFile.Cond} {a b : Int} (ha : inI a) (hb : inI b) : az_cmp c (iI a) (iI b) ↔ zc c a b := by
  cases c
  · exact iI_eq ha hb
  · exact not_congr (iI_eq ha hb)
  · exact iI_lt ha hb
  · exact iI_le hb ha
  · exact iI_lt hb ha
  · exact iI_le ha hb
theorem aw_if {c : ClassFile.Cond} {off : Int} {a : Int} {q : Nat} (hf : az_fetch cd pc = some (3, .ifCond c off, [])) (ha : inI a) (hp : az_j pc off = p') (hq : pc + 3 = q) (ht : zc c a 0 → aw d cd rt P p' L st σ) (he : ¬ zc c a 0 → aw d cd rt P q L st σ) : aw d cd rt P pc L (.int (iI a) :: st) σ :=
  aw_ifC hf hp hq (fun h => ht ((zc_iff ha ⟨by decide, by decide⟩).mp h)) (fun h => he (fun z => h ((zc_iff (b := 0) ha ⟨by decide, by decide⟩).mpr z)))
theorem aw_icmp {c : ClassFile.Cond} {off : Int} {a b : Int} {q : Nat} (hf : az_fetch cd pc = some (3, .if_icmp c off, [])) (ha : inI a) (hb : inI b) (hp : az_j pc off = p') (hq : pc + 3 = q) (ht : zc c a b → aw d cd rt P p' L st σ) (he : ¬ zc c a b → aw d cd rt P q L st σ) : aw d cd rt P pc L (.int (iI b) :: .int (iI a) :: st) σ :=
  aw_icmpC hf hp hq (fun h => ht ((zc_iff ha hb).mp h)) (fun h => he (fun z => h ((zc_iff ha hb).mpr z)))
theorem aw_ifeqb {p : Prop} {off : Int} {q : Nat} (hf : az_fetch cd pc = some (3, .ifCond .eq off, [])) (hp : az_j pc off = p') (hq : pc + 3 = q) (ht : ¬ p → aw d cd rt P p' L st σ) (he : p → aw d cd rt P q L st σ) : aw d cd rt P pc L (.int (iI (bI p)) :: st) σ :=
  aw_if hf (bI_in p) hp hq (fun h => ht ((bI_zero p).mp h)) (fun h => he (Classical.not_not.mp (fun z => h ((bI_zero p).mpr z))))
theorem aw_ifneb {p : Prop} {off : Int} {q : Nat} (hf : az_fetch cd pc = some (3, .ifCond .ne off, [])) (hp : az_j pc off = p') (hq : pc + 3 = q) (ht : p → aw d cd rt P p' L st σ) (he : ¬ p → aw d cd rt P q L st σ) : aw d cd rt P pc L (.int (iI (bI p)) :: st) σ :=
  aw_if hf (bI_in p) hp hq (fun h => ht (Classical.not_not.mp (fun z => h ((bI_zero p).mpr z)))) (fun h => he ((bI_zero p).mp (Classical.not_not.mp h)))
-- fields and arrays
theorem aw_geti {i ci k a : Nat} {v : Int32} (hf : az_fetch cd pc = some (3, .getfield i, [ci, k])) (hk : az_ft ci k = 0) (hs : (az_sh σ a).1 = ci) (hv : az_i σ a k = v) (hp : pc + 3 = p') (h : aw d cd rt P p' L (.int v :: st) σ) : aw d cd rt P pc L (.ref a :: st) σ := by
  subst hp; subst hv
  refine aw_nx hf (Nat.le_of_ble_eq_true rfl) ⟨ci, k, a, st, rfl, rfl, hs, rfl⟩ ?_
  show aw d cd rt P (pc + 3) L (az_fv σ a k (az_ft ci k) :: st) σ
  rw [hk]
  exact h
theorem aw_getl {i ci k a : Nat} {v : Int64} (hf : az_fetch cd pc = some (3, .getfield i, [ci, k])) (hk : az_ft ci k = 1) (hs : (az_sh σ a).1 = ci) (hv : az_l σ a k = v) (hp : pc + 3 = p') (h : aw d cd rt P p' L (.long v :: st) σ) : aw d cd rt P pc L (.ref a :: st) σ := by
  subst hp; subst hv
  refine aw_nx hf (Nat.le_of_ble_eq_true rfl) ⟨ci, k, a, st, rfl, rfl, hs, rfl⟩ ?_
  show aw d cd rt P (pc + 3) L (az_fv σ a k (az_ft ci k) :: st) σ
  rw [hk]
  exact h
theorem aw_getr {i ci k a b : Nat} (hf : az_fetch cd pc = some (3, .getfield i, [ci, k])) (hk : az_ft ci k = 2) (hs : (az_sh σ a).1 = ci) (hv : az_r σ a k = some b) (hp : pc + 3 = p') (h : aw d cd rt P p' L (.ref b :: st) σ) : aw d cd rt P pc L (.ref a :: st) σ := by
  subst hp
  refine aw_nx hf (Nat.le_of_ble_eq_true rfl) ⟨ci, k, a, st, rfl, rfl, hs, rfl⟩ ?_
  show aw d cd rt P (pc + 3) L (az_fv σ a k (az_ft ci k) :: st) σ
  rw [hk]
  show aw d cd rt P (pc + 3) L (va_rf (az_r σ a k) :: st) σ
  rw [hv]
  exact h
theorem aw_puti {i ci k a : Nat} {v : Int32} (hf : az_fetch cd pc = some (3, .putfield i, [ci, k])) (hk : az_ft ci k = 0) (hs : (az_sh σ a).1 = ci) (hp : pc + 3 = p') (h : aw d cd rt P p' L st (az_pi σ a k v)) : aw d cd rt P pc L (.int v :: .ref a :: st) σ := by
  subst hp
  exact aw_nx hf (Nat.le_of_ble_eq_true rfl) ⟨ci, k, a, rfl, hs, Or.inl ⟨hk, v, st, rfl, rfl⟩⟩ h
theorem aw_putl {i ci k a : Nat} {v : Int64} (hf : az_fetch cd pc = some (3, .putfield i, [ci, k])) (hk : az_ft ci k = 1) (hs : (az_sh σ a).1 = ci) (hp : pc + 3 = p') (h : aw d cd rt P p' L st (az_pl σ a k v)) : aw d cd rt P pc L (.long v :: .ref a :: st) σ := by
  subst hp
  exact aw_nx hf (Nat.le_of_ble_eq_true rfl) ⟨ci, k, a, rfl, hs, Or.inr (Or.inl ⟨hk, v, st, rfl, rfl⟩)⟩ h
theorem aw_putr {i ci k a b : Nat} (hf : az_fetch cd pc = some (3, .putfield i, [ci, k])) (hk : az_ft ci k = 2) (hs : (az_sh σ a).1 = ci) (hp : pc + 3 = p') (h : aw d cd rt P p' L st (az_pr σ a k (some b))) : aw d cd rt P pc L (.ref b :: .ref a :: st) σ := by
  subst hp
  exact aw_nx hf (Nat.le_of_ble_eq_true rfl) ⟨ci, k, a, rfl, hs, Or.inr (Or.inr ⟨hk, some b, st, rfl, rfl⟩)⟩ h
theorem aw_iaload {a N j : Nat} {z : Int} {v : Int32} (hf : az_fetch cd pc = some (1, .iaload, [])) (hs : az_sh σ a = (100, N)) (hN : N ≤ 10000) (hz : z = (j : Int)) (hj : j < N) (hv : az_i σ a j = v) (hp : pc + 1 = p') (h : aw d cd rt P p' L (.int v :: st) σ) : aw d cd rt P pc L (.int (iI z) :: .ref a :: st) σ := by
  subst hp; subst hz; subst hv
  refine aw_nx hf (Nat.le_of_ble_eq_true rfl) ⟨_, a, st, rfl, Or.inl (by rw [hs]), by rw [hs]; exact iI_in (by omega) (by omega) hN, rfl⟩ ?_
  show aw d cd rt P (pc + 1) L (.int (az_i σ a (iI (j : Int)).toNatClampNeg) :: st) σ
  rw [iI_clamp (by omega) (by omega)]
  exact h
theorem aw_ialoadc {a N j : Nat} {z : Int} {v : Int32} (hf : az_fetch cd pc = some (1, .iaload, [])) (hs : az_sh σ a = (110, N)) (hN : N ≤ 10000) (hz : z = (j : Int)) (hj : j < N) (hv : az_i σ a j = v) (hp : pc + 1 = p') (h : aw d cd rt P p' L (.int v :: st) σ) : aw d cd rt P pc L (.int (iI z) :: .ref a :: st) σ := by
  subst hp; subst hz; subst hv
  refine aw_nx hf (Nat.le_of_ble_eq_true rfl) ⟨_, a, st, rfl, Or.inr (by rw [hs]), by rw [hs]; exact iI_in (by omega) (by omega) hN, rfl⟩ ?_
  show aw d cd rt P (pc + 1) L (.int (az_i σ a (iI (j : Int)).toNatClampNeg) :: st) σ
  rw [iI_clamp (by omega) (by omega)]
  exact h
theorem aw_iastore {a N j : Nat} {z : Int} {x : Int32} (hf : az_fetch cd pc = some (1, .iastore, [])) (hs : az_sh σ a = (100, N)) (hN : N ≤ 10000) (hz : z = (j : Int)) (hj : j < N) (hp : pc + 1 = p') (h : aw d cd rt P p' L st (az_pi σ a j x)) : aw d cd rt P pc L (.int x :: .int (iI z) :: .ref a :: st) σ := by
  subst hp; subst hz
  refine aw_nx hf (Nat.le_of_ble_eq_true rfl) ⟨x, _, a, st, rfl, by rw [hs], by rw [hs]; exact iI_in (by omega) (by omega) hN, rfl⟩ ?_
  show aw d cd rt P (pc + 1) L st (az_pi σ a (iI (j : Int)).toNatClampNeg x)
  rw [iI_clamp (by omega) (by omega)]
  exact h
theorem aw_alen {a N kd : Nat} (hf : az_fetch cd pc = some (1, .arraylength, [])) (hs : az_sh σ a = (kd, N)) (hk : (100 ≤ kd ∧ kd ≤ 104) ∨ (110 ≤ kd ∧ kd ≤ 112)) (hp : pc + 1 = p') (h : aw d cd rt P p' L (.int (iI (N : Int)) :: st) σ) : aw d cd rt P pc L (.ref a :: st) σ := by
  subst hp
  refine aw_nx hf (Nat.le_of_ble_eq_true rfl) ⟨a, st, rfl, by rw [hs]; exact hk, rfl⟩ ?_
  show aw d cd rt P (pc + 1) L (.int (Int32.ofNat (az_sh σ a).2) :: st) σ
  rw [hs]
  exact h
-- calls
theorem aw_call {ins : Instr} {y n kc : Nat} {Pc : Option Value → az_S → Prop} (as rest : List Value) (hf : az_fetch cd pc = some (3, ins, [0, y, n, kc])) (hst : st = as.reverse ++ rest) (hlen : as.length = n) (hcat : (rest.map fun v => v.category).sum ≤ 8) (hk : kc = 999 ∨ ∃ a, as.head? = some (.ref a) ∧ (az_sh σ a).1 = kc) (hc : cal d y as σ Pc) (hp : pc + 3 = p') (h : ∀ r τ, Pc r τ → aw d cd rt P p' L (r.toList ++ rest) τ) : aw d cd rt P pc L st σ := by
  subst hp
  subst hst
  subst hlen
  obtain ⟨r, τ, h1, h2⟩ := hc
  have e1 : (as.reverse ++ rest).take as.length = as.reverse := List.take_left' (by simp)
  have e2 : (as.reverse ++ rest).drop as.length = rest := List.drop_left' (by simp)
  refine aw_step (F := (pc + 3, L, r.toList ++ rest, τ)) hf ⟨rfl, by simp, by rw [e2]; exact hcat, by rw [e1, List.reverse_reverse]; exact hk, r, τ, by rw [e1, List.reverse_reverse]; exact h1, by rw [e2]⟩ (h r τ h2)
theorem aw_fn {ins : Instr} {y n kc : Nat} {v : Value} (as rest : List Value) (hf : az_fetch cd pc = some (3, ins, [0, y, n, kc])) (hst : st = as.reverse ++ rest) (hlen : as.length = n) (hcat : (rest.map fun v => v.category).sum ≤ 8) (hk : kc = 999 ∨ ∃ a, as.head? = some (.ref a) ∧ (az_sh σ a).1 = kc) (hc : fn d y as σ v) (hp : pc + 3 = p') (h : aw d cd rt P p' L (v :: rest) σ) : aw d cd rt P pc L st σ :=
  aw_call (Pc := fun r τ => r = some v ∧ τ = σ) as rest hf hst hlen hcat hk ⟨_, _, hc, rfl, rfl⟩ hp (fun r τ q => by obtain ⟨rfl, rfl⟩ := q; exact h)
end AwRules
