theorem az_oi1 : Cond.instanceMethod Lib.objectInit ∈ az_G := az_is_in (w := 1033) (by decide +kernel)
theorem az_oi2 : Cond.code Lib.objectInit ⟨#[0xb1]⟩ 1 none ∈ az_G := az_is_in (w := 1034) (by decide +kernel)
theorem az_gc1 : Cond.selects "[Ljava/lang/Object;" ⟨"java/lang/Object", "getClass", "()Ljava/lang/Class;"⟩ ⟨"java/lang/Object", "getClass", "()Ljava/lang/Class;"⟩ ∈ az_G := az_is_in (w := 9009) (by decide +kernel)
theorem az_gc2 : Cond.instanceMethod ⟨"java/lang/Object", "getClass", "()Ljava/lang/Class;"⟩ ∈ az_G := az_is_in (w := 2162) (by decide +kernel)
theorem az_gc3 : Cond.native ⟨"java/lang/Object", "getClass", "()Ljava/lang/Class;"⟩ ∈ az_G := az_is_in (w := 2178) (by decide +kernel)
theorem az_ac1 : Cond.native arraycopyName ∈ az_G := az_is_in (w := 2188) (by decide +kernel)
theorem az_ac2 : Cond.static arraycopyName ∈ az_G := az_is_in (w := 2187) (by decide +kernel)
theorem az_ac3 : Cond.initialized "java/lang/System" ∈ az_G := az_is_in (w := 1017) (by decide +kernel)
set_option maxHeartbeats 4000000 in
theorem az_pb_ok {ms : Nat → Option az_M} {e : az_P} (h : az_pb ms e = true) : az_pok ms e.1 e.2.1 e.2.2.1 e.2.2.2.1 := by
  unfold az_pb at h
  split at h
  · split at h
    · rename_i q hq
      simp only [Bool.and_eq_true, Bool.or_eq_true, decide_eq_true_eq] at h
      obtain ⟨h1, h2 | h2⟩ := h
      · exact ⟨_, _, q, rfl, hq, h1, Or.inl (az_is_in h2)⟩
      · exact ⟨_, _, q, rfl, hq, h1, Or.inr (Or.inl ⟨_, az_isT_in h2⟩)⟩
    · cases h
  · split at h
    · rename_i q hq
      simp only [Bool.and_eq_true, decide_eq_true_eq] at h
      obtain ⟨h1, h2, h3⟩ := h
      exact ⟨_, _, q, rfl, hq, h1, Or.inr (Or.inr ⟨_, az_is_in h2, az_is_in h3⟩)⟩
    · cases h
  · split at h
    · rename_i q hq
      simp only [Bool.and_eq_true, decide_eq_true_eq] at h
      obtain ⟨h1, h2, h3⟩ := h
      exact ⟨_, _, q, rfl, hq, h1, h2, az_is_in h3⟩
    · cases h
  · exact Or.inl ⟨rfl, az_is_in h⟩
  · exact Or.inr ⟨rfl, az_is_in h⟩
  · split at h
    · rename_i q hq
      simp only [Bool.and_eq_true, decide_eq_true_eq] at h
      obtain ⟨h1, h2⟩ := h
      exact ⟨_, _, q, rfl, hq, h1, az_is_in h2⟩
    · cases h
  · split at h
    · rename_i q hq
      simp only [Bool.and_eq_true] at h
      obtain ⟨h1, h2, h3⟩ := h
      exact ⟨_, q, rfl, hq, az_is_in h1, az_is_in h2, az_is_in h3⟩
    · cases h
  · split at h
    · rename_i q hq
      exact ⟨_, q, rfl, hq, az_is_in h⟩
    · cases h
  · exact az_is_in h
  · exact ⟨_, rfl, az_is_in h⟩
  · exact ⟨rfl, az_is_in h⟩
  · obtain ⟨q, hq, h⟩ := List.any_eq_true.mp h
    simp only [Bool.and_eq_true, decide_eq_true_eq] at h
    obtain ⟨h1, h2, h3⟩ := h
    exact ⟨q, hq, h1, h2, by rw [h3]⟩
  · exact ⟨_, rfl, az_is_in h⟩
  · split at h
    · rename_i M hM
      simp only [Bool.and_eq_true, decide_eq_true_eq] at h
      obtain ⟨h1, h2, h3, h4, h5⟩ := h
      refine ⟨_, _, _, M, rfl, hM, h1, ?_, az_is_in h3, az_is_in h4, az_is_in h5⟩
      split at h2
      · rename_i q hq
        exact Or.inl ⟨q, hq, of_decide_eq_true h2⟩
      · simp only [Bool.and_eq_true, decide_eq_true_eq] at h2
        exact Or.inr h2
    · cases h
  · split at h
    · rename_i M hM
      simp only [Bool.and_eq_true, Bool.or_eq_true, decide_eq_true_eq] at h
      obtain ⟨h1, h2, h3⟩ := h
      refine ⟨_, _, _, M, rfl, hM, h1, ?_, az_is_in h3⟩
      rcases h2 with h2 | h2
      · exact Or.inl (az_is_in h2)
      · exact Or.inr ⟨_, az_isT_in h2⟩
    · cases h
  · split at h
    · rename_i M hM
      simp only [Bool.and_eq_true, Bool.or_eq_true, decide_eq_true_eq] at h
      obtain ⟨h1, h2, h3, h4, h5, h6⟩ := h
      refine ⟨_, _, _, M, rfl, hM, h1, h2, h3, h4, ?_, az_is_in h6⟩
      rcases h5 with h5 | h5
      · exact Or.inl (az_is_in h5)
      · exact Or.inr ⟨_, az_isT_in h5⟩
    · cases h
  · exact ⟨rfl, rfl, az_is_in h, az_oi1, az_oi2⟩
  · exact ⟨rfl, rfl, az_is_in h, az_gc1, az_gc2, az_gc3⟩
  · exact ⟨rfl, rfl, az_is_in h, az_ac1, az_ac2, az_ac3⟩
  · cases h
theorem az_at1 : Cond.arrayClass .int ∈ az_G := az_is_in (w := 1058) (by decide +kernel)
theorem az_at2 : Cond.arrayClass .boolean ∈ az_G := az_is_in (w := 1200) (by decide +kernel)
theorem az_at3 : Cond.arrayClass .byte ∈ az_G := az_is_in (w := 5061) (by decide +kernel)
theorem az_at4 : Cond.arrayClass .long ∈ az_G := az_is_in (w := 1141) (by decide +kernel)
def az_has (pool : List az_P) (o i tag : Nat) (aux : List Nat) : Bool := pool.any (fun e => e.1 == o && (e.2.1 == i && (e.2.2.1 == tag && e.2.2.2.1 == aux)))
theorem az_has_ok {ms : Nat → Option az_M} {pool : List az_P} (hp : ∀ e ∈ pool, az_pb ms e = true) {o i tag : Nat} {aux : List Nat} (h : az_has pool o i tag aux = true) : az_pok ms o i tag aux := by
  obtain ⟨e, he, h⟩ := List.any_eq_true.mp h
  simp only [Bool.and_eq_true, beq_iff_eq] at h
  obtain ⟨h1, h2, h3, h4⟩ := h
  have := az_pb_ok (hp e he)
  rw [h1, h2, h3, h4] at this
  exact this
/-- the check of an instruction's links -/
def az_ic (pool : List az_P) (o : Nat) (ini : Bool) (ins : Instr) (aux : List Nat) : Bool := match ins with
  | .getfield i => az_has pool o i 0 aux || az_has pool o i 3 aux
  | .putfield i => match aux with
    | [ci, k] => match vwCl[ci]? with
      | some q => if (q.2.1 k).2.2.2 then ini && az_has pool o i 1 [ci, k] else az_has pool o i 0 [ci, k]
      | none => false
    | _ => false
  | .new i => az_has pool o i 5 aux
  | .checkcast i => az_has pool o i 6 aux
  | .anewarray i => az_has pool o i 7 aux && aux.isEmpty
  | .newarray t => aux.isEmpty && match t with
    | .int => true
    | .boolean => true
    | .byte => true
    | .long => true
    | _ => false
  | .getstatic i => az_has pool o i 4 aux
  | .ldc i => az_has pool o i 8 aux || (az_has pool o i 9 aux || az_has pool o i 10 aux)
  | .ldc_w i => az_has pool o i 8 aux
  | .ldc2_w i => az_has pool o i 11 aux
  | .invokevirtual i => az_has pool o i 20 aux || az_has pool o i 31 aux
  | .invokestatic i => az_has pool o i 21 aux || az_has pool o i 32 aux
  | .invokespecial i => az_has pool o i 22 aux || az_has pool o i 30 aux
  | _ => aux.isEmpty
/-- what must hold of a method besides its instructions -/
def az_mok (ms : Nat → Option az_M) : Prop := ∀ y M, ms y = some M → Cond.code M.1 M.2.1 M.2.2.1 M.2.2.2 ∈ az_G ∧ Cond.initialized M.1.cls ∈ az_G ∧ (M.1.cls ≠ "java/lang/invoke/MethodHandle" ∧ M.1.cls ≠ "java/lang/invoke/VarHandle") ∧ M.2.2.1 ≤ 60
theorem az_lk1 {ms : Nat → Option az_M} {own nm : String} {ins : Instr} {a : Nat} (h : az_link own nm ins [a]) : az_lk ms own nm ins [a] := by
  unfold az_lk
  split
  · rename_i heq; cases heq
  · rename_i heq; cases heq
  · exact h
theorem az_lk2 {ms : Nat → Option az_M} {own nm : String} {ins : Instr} {a b : Nat} (h : az_link own nm ins [a, b]) : az_lk ms own nm ins [a, b] := by
  unfold az_lk
  split
  · rename_i heq; cases heq
  · rename_i heq; cases heq
  · exact h
set_option maxHeartbeats 4000000 in
theorem az_ic_ok {ms : Nat → Option az_M} {pool : List az_P} (hp : ∀ e ∈ pool, az_pb ms e = true) (hm : az_mok ms) {o : Nat} {nm : String} {ini : Bool} (hini : ini = true → nm = "<init>") {ins : Instr} {aux : List Nat} (h : az_ic pool o ini ins aux = true) : az_lk ms (az_o o) nm ins aux := by
  cases ins
  case getfield i =>
    simp only [az_ic, Bool.or_eq_true] at h
    rcases h with h | h
    · obtain ⟨ci, k, q, rfl, h1⟩ := az_has_ok hp h
      exact az_lk2 (Or.inl ⟨ci, k, q, rfl, h1⟩)
    · rcases az_has_ok hp h with ⟨rfl, h1⟩ | ⟨rfl, h1⟩
      · exact az_lk2 (Or.inr (Or.inl ⟨rfl, h1⟩))
      · exact az_lk2 (Or.inr (Or.inr ⟨rfl, h1⟩))
  case putfield i =>
    simp only [az_ic] at h
    split at h
    · split at h
      · rename_i ci k q hq
        split at h
        · rename_i hf
          simp only [Bool.and_eq_true] at h
          obtain ⟨ci', k', q', e, hq', h1, h2, h3⟩ := az_has_ok hp h.2
          cases e
          cases hq.symm.trans hq'
          exact az_lk2 ⟨_, _, q, rfl, hq, h1, Or.inr ⟨hf, hini h.1, h2, h3⟩⟩
        · rename_i hf
          obtain ⟨ci', k', q', e, hq', h1, h2⟩ := az_has_ok hp h
          cases e
          cases hq.symm.trans hq'
          exact az_lk2 ⟨_, _, q, rfl, hq, h1, Or.inl ⟨by simpa using hf, h2⟩⟩
      · cases h
    · cases h
  case new i =>
    obtain ⟨ci, q, rfl, h1⟩ := az_has_ok hp (show az_has pool o i 5 aux = true from h)
    exact az_lk1 ⟨ci, q, rfl, h1⟩
  case checkcast i =>
    obtain ⟨ci, q, rfl, h1⟩ := az_has_ok hp (show az_has pool o i 6 aux = true from h)
    exact az_lk1 ⟨ci, q, rfl, h1⟩
  case anewarray i =>
    simp only [az_ic, Bool.and_eq_true] at h
    have h1 := az_has_ok hp h.1
    have e : aux = [] := List.isEmpty_iff.mp h.2
    subst e
    exact h1
  case newarray t =>
    simp only [az_ic, Bool.and_eq_true] at h
    have e : aux = [] := List.isEmpty_iff.mp h.1
    subst e
    have h2 := h.2
    cases t <;> first | exact az_at1 | exact az_at2 | exact az_at3 | exact az_at4 | (cases h2; done)
  case getstatic i =>
    obtain ⟨k, kd, q, rfl, h1⟩ := az_has_ok hp (show az_has pool o i 4 aux = true from h)
    exact az_lk2 ⟨k, kd, q, rfl, h1⟩
  case ldc i =>
    simp only [az_ic, Bool.or_eq_true] at h
    rcases h with h | h | h
    · obtain ⟨v, rfl, h1⟩ := az_has_ok hp h
      exact az_lk2 (Or.inl ⟨v, rfl, h1⟩)
    · obtain ⟨rfl, h1⟩ := az_has_ok hp h
      exact az_lk2 (Or.inr (Or.inl ⟨rfl, h1⟩))
    · obtain ⟨q, hq, h1, h2, rfl⟩ := az_has_ok hp h
      exact az_lk2 (Or.inr (Or.inr ⟨q, hq, h1, h2, rfl⟩))
  case ldc_w i =>
    obtain ⟨v, rfl, h1⟩ := az_has_ok hp (show az_has pool o i 8 aux = true from h)
    exact az_lk2 ⟨v, rfl, h1⟩
  case ldc2_w i =>
    obtain ⟨v, rfl, h1⟩ := az_has_ok hp (show az_has pool o i 11 aux = true from h)
    exact az_lk1 ⟨v, rfl, h1⟩
  case invokevirtual i =>
    simp only [az_ic, Bool.or_eq_true] at h
    rcases h with h | h
    · obtain ⟨y, n, kc, M, rfl, hM, h1⟩ := az_has_ok hp h
      obtain ⟨m1, m2, m3, m4⟩ := hm y M hM
      exact ⟨M, hM, m1, m2, m3, m4, h1⟩
    · obtain ⟨rfl, h1⟩ := az_has_ok hp h
      exact h1
  case invokestatic i =>
    simp only [az_ic, Bool.or_eq_true] at h
    rcases h with h | h
    · obtain ⟨y, n, kc, M, rfl, hM, h1⟩ := az_has_ok hp h
      obtain ⟨m1, m2, m3, m4⟩ := hm y M hM
      exact ⟨M, hM, m1, m2, m3, m4, h1⟩
    · obtain ⟨rfl, h1⟩ := az_has_ok hp h
      exact h1
  case invokespecial i =>
    simp only [az_ic, Bool.or_eq_true] at h
    rcases h with h | h
    · obtain ⟨y, n, kc, M, rfl, hM, h1⟩ := az_has_ok hp h
      obtain ⟨m1, m2, m3, m4⟩ := hm y M hM
      exact ⟨M, hM, m1, m2, m3, m4, h1⟩
    · obtain ⟨rfl, h1⟩ := az_has_ok hp h
      exact h1
  all_goals
    have e : aux = [] := List.isEmpty_iff.mp h
    subst e
    trivial
def az_jb (pc : Nat) (ins : Instr) : Bool := match ins with
  | .goto off => decide (0 ≤ (pc : Int) + off)
  | .ifCond _ off => decide (0 ≤ (pc : Int) + off)
  | .if_icmp _ off => decide (0 ≤ (pc : Int) + off)
  | .if_acmp _ off => decide (0 ≤ (pc : Int) + off)
  | .ifnull off => decide (0 ≤ (pc : Int) + off)
  | .tableswitch d _ _ offs => decide (0 ≤ (pc : Int) + d) && offs.toList.all (fun o => decide (0 ≤ (pc : Int) + o))
  | .lookupswitch d ps => decide (0 ≤ (pc : Int) + d) && ps.toList.all (fun o => decide (0 ≤ (pc : Int) + o.2))
  | _ => true
theorem az_jb_ok {pc : Nat} {ins : Instr} (h : az_jb pc ins = true) : az_jok pc ins := by
  cases ins <;> first | trivial | exact of_decide_eq_true h | (simp only [az_jb, Bool.and_eq_true, decide_eq_true_eq] at h; exact h)
/-- the check of a method's text -/
def az_tc (pool : List az_P) (o : Nat) (ini : Bool) (cc : ByteArray) (q : az_I) : Bool := decide (decode cc q.1 = .ok (q.2.2.1, q.2.1)) && ((decide (az_il q.2.2.1 = 0) || decide (az_il q.2.2.1 = q.2.1)) && (az_jb q.1 q.2.2.1 && az_ic pool o ini q.2.2.1 q.2.2.2))
theorem az_tc_ok {ms : Nat → Option az_M} {pool : List az_P} (hp : ∀ e ∈ pool, az_pb ms e = true) (hm : az_mok ms) (o : Nat) (ini : Bool) {nm : String} (hini : ini = true → nm = "<init>") {cc : ByteArray} {cd : List az_I} (h : cd.all (az_tc pool o ini cc) = true) : ∀ q ∈ cd, az_iok ms (az_o o) nm cc q := by
  intro q hq
  have h := List.all_eq_true.mp h q hq
  simp only [az_tc, Bool.and_eq_true, Bool.or_eq_true, decide_eq_true_eq] at h
  obtain ⟨h1, h2, h3, h4⟩ := h
  exact ⟨h1, h2, az_jb_ok h3, az_ic_ok hp hm hini h4⟩
