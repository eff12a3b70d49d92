/-! WHAT HOLDS IN A FRAME of the machine that runs beside the abstract one -/
def az_isN (w : Cond) : Bool := match w with
  | .fieldLinkNest .. => true
  | .methodLinkNest .. => true
  | .castable .. => true
  | _ => false
def az_ss : List (String × Nat × String × Nat) := [("ShadeRegister$Tape", 75, "hour", 1000010), ("ShadeRegister$Tape", 81, "month", 1000011), ("ShadeRegister$Tape", 83, "day", 1000012), ("ShadeRegister$Tape", 85, "height", 1000013), ("ShadeRegister$Tape", 87, "many", 1000014), ("ShadeRegister$Tape", 89, "kind", 1000015), ("ShadeRegister$Tape", 91, "thing", 1000016), ("ShadeRegister$Tape", 93, "stall", 1000017), ("ShadeRegister$Tape", 95, "when", 1000018), ("ShadeRegister$Tape", 97, "give", 1000019), ("ShadeRegister$Tape", 99, "or", 1000020), ("ShadeRegister$Tape", 101, "and", 1000021), ("ShadeRegister$Tape", 103, "not", 1000022), ("ShadeRegister$Tape", 105, "min", 1000023), ("ShadeRegister$Tape", 106, "max", 1000024)]
def az_st : List (String × String × String × Nat) := [("java/util/ArrayList", "DEFAULTCAPACITY_EMPTY_ELEMENTDATA", "[Ljava/lang/Object;", 2), ("ShadeRegister$Route", "STEPS_X", "[I", 2), ("ShadeRegister$Route", "STEPS_Y", "[I", 2), ("jdk/internal/util/Preconditions", "SIOOBE_FORMATTER", "Ljava/util/function/BiFunction;", 2), ("java/lang/String", "COMPACT_STRINGS", "Z", 0)]
def az_Kx (D : va_G) (cA : Nat → ClassId) (cs : Nat → Nat) (s : State) : Prop :=
  va_K D vwCl (az_tys cA) s ∧ (∀ w ∈ lw_tbl, az_isN w = true → va_Nw w s) ∧ va_AO "java/lang/Object" s ∧ va_Mi "[Ljava/lang/Object;" (cs 1000005) s ∧ va_Dc s ∧ ∀ q ∈ az_ss, vk_R q.1 q.2.1 q.2.2.1 (cs q.2.2.2) s
theorem az_Kx.warm {D : va_G} {cA : Nat → ClassId} {cs : Nat → Nat} {s U : State} (hW : s.WarmedH U.vm) (h : az_Kx D cA cs s) : az_Kx D cA cs U := by
  obtain ⟨h1, h2, h3, h4, h5, h6⟩ := h
  refine ⟨va_K.moved hW.alike h1, fun w hw hN => ?_, h3.moved hW.alike, h4.moved hW.alike, h5.moved hW.alike, fun q hq => (h6 q hq).warm hW⟩
  have h := h2 w hw hN
  cases w <;> first | exact va_Nw.warmF hW h | exact va_Nw.warmM hW h | exact va_Nw.warmC hW h | (simp [az_isN] at hN)
theorem az_Kx.same {D : va_G} {cA : Nat → ClassId} {cs : Nat → Nat} {s U : State} (hv : s.vm = U.vm) (h : az_Kx D cA cs s) : az_Kx D cA cs U := by
  obtain ⟨h1, h2, h3, h4, h5, h6⟩ := h
  have hA : s.vm.Alike U.vm := by rw [hv]; exact Vm.Alike.refl U.vm
  refine ⟨va_K.moved hA h1, fun w hw hN => ?_, h3.moved hA, h4.moved hA, h5.moved hA, fun q hq => (h6 q hq).same hv.symm⟩
  refine va_Nw.same ?_ hv (h2 w hw hN)
  cases w <;> first | rfl | (simp [az_isN] at hN)
/-- the constants that nobody writes -/
def az_C (base : Nat) (cs : Nat → Nat) (σ : az_S) (U : State) : Prop :=
  (∀ a, (az_sh σ a).1 = 110 → va_T .int (cs a) (az_sh σ a).2 (fun j => .int (az_i σ a j)) (fun q => base ≤ q) U U.heap) ∧
  (∀ a, (az_sh σ a).1 = 111 → va_T (.object "java/lang/Object") (cs a) (az_sh σ a).2 (fun _ => .null) (fun q => base ≤ q) U U.heap) ∧
  (∀ a, (az_sh σ a).1 = 112 → va_T .byte (cs a) (az_sh σ a).2 (fun j => .int (az_i σ a j)) (fun q => base ≤ q) U U.heap) ∧
  (∀ a, (az_sh σ a).1 = 113 → va_OF "java/lang/String" "value" "[B" (az_tr (az_ad base cs) (va_rf (az_r σ a 0))) (cs a) (fun q => base ≤ q) U U.heap ∧ va_OF "java/lang/String" "coder" "B" (.int (az_i σ a 1)) (cs a) (fun q => base ≤ q) U U.heap ∧ va_O "java/lang/String" (cs a) (fun q => base ≤ q) U U.heap) ∧
  (az_sh σ 1000007).1 = 115 ∧ ∀ (k : Nat) (q : String × String × String × Nat), az_st[k]? = some q → va_Z q.1 q.2.1 q.2.2.1 (az_tr (az_ad base cs) (az_fv σ 1000007 k q.2.2.2)) (fun q => base ≤ q) U U.heap
theorem az_C.to {base : Nat} {cs : Nat → Nat} {σ : az_S} {u U : State} (hA : u.vm.Alike U.vm) (hh : ∀ q, q < u.heap.size → ¬ base ≤ q → U.heap[q]? = u.heap[q]?) (h : az_C base cs σ u) : az_C base cs σ U := by
  obtain ⟨h1, h2, h3, h4, h5, h6⟩ := h
  exact ⟨fun a k => ((h1 a k).moved hA).kept hh, fun a k => ((h2 a k).moved hA).kept hh, fun a k => ((h3 a k).moved hA).kept hh, fun a k => ⟨((h4 a k).1.moved hA).kept hh, ((h4 a k).2.1.moved hA).kept hh, ((h4 a k).2.2.moved hA).kept hh⟩, h5, fun k q hq => ((h6 k q hq).moved hA).kept hh⟩
theorem az_C.upd {base : Nat} {cs : Nat → Nat} {σ τ : az_S} {U : State} (hs : ∀ b, (110 ≤ (az_sh σ b).1 ∧ (az_sh σ b).1 ≤ 120) ∨ (110 ≤ (az_sh τ b).1 ∧ (az_sh τ b).1 ≤ 120) → az_sh τ b = az_sh σ b ∧ az_i τ b = az_i σ b ∧ az_r τ b = az_r σ b) (h : az_C base cs σ U) : az_C base cs τ U := by
  obtain ⟨h1, h2, h3, h4, h5, h6⟩ := h
  refine ⟨fun a k => ?_, fun a k => ?_, fun a k => ?_, fun a k => ?_, ?_, fun k q hq => ?_⟩
  · obtain ⟨e1, e2, -⟩ := hs a (Or.inr (by omega))
    rw [e1, e2]; exact h1 a (by rw [← e1]; exact k)
  · obtain ⟨e1, e2, -⟩ := hs a (Or.inr (by omega))
    rw [e1]; exact h2 a (by rw [← e1]; exact k)
  · obtain ⟨e1, e2, -⟩ := hs a (Or.inr (by omega))
    rw [e1, e2]; exact h3 a (by rw [← e1]; exact k)
  · obtain ⟨e1, e2, e3⟩ := hs a (Or.inr (by omega))
    rw [e2, e3]; exact h4 a (by rw [← e1]; exact k)
  · obtain ⟨e1, -, -⟩ := hs 1000007 (Or.inl (by omega))
    rw [e1]; exact h5
  · obtain ⟨e1, e2, e3⟩ := hs 1000007 (Or.inl (by omega))
    have hkd : q.2.2.2 = 0 ∨ q.2.2.2 = 2 := by
      match k, hq with
      | 0, hq => cases hq; exact Or.inr rfl
      | 1, hq => cases hq; exact Or.inr rfl
      | 2, hq => cases hq; exact Or.inr rfl
      | 3, hq => cases hq; exact Or.inr rfl
      | 4, hq => cases hq; exact Or.inl rfl
      | k + 5, hq => simp [az_st] at hq
    have h := h6 k q hq
    have e : az_fv τ 1000007 k q.2.2.2 = az_fv σ 1000007 k q.2.2.2 := by
      rcases hkd with e | e <;> rw [e] <;> simp [az_fv, e2, e3]
    rw [e]
    exact h
def az_Rl (D : va_G) (cA : Nat → ClassId) (base : Nat) (cs : Nat → Nat) (s : State) (nL n0 s0 : Nat) (σ : az_S) (L : az_V) (H : Heap) (locs : List Loc) (ls : Array Slot) : Prop :=
  va_P D vwCl (az_ws cA (az_ad base cs) σ) H ∧ H.size = base + az_n σ ∧ va_S (fun q => base ≤ q) s.heap H locs ∧ az_ok σ ∧ az_C base cs σ s ∧ az_lv (az_ad base cs) ls nL L ∧ n0 ≤ az_n σ ∧ s0 ≤ az_sl σ
def az_Cx (D : va_G) (cA : Nat → ClassId) (base : Nat) (cs : Nat → Nat) (p : Program) (s : State) (m : MethodId) (args : Array Value) (c : Code) (cc : ByteArray) (own : String) : Prop :=
  p.tables.exec = Jvm.exec ∧ c.code = cc ∧ s.vm.findClass own = some m.cls ∧ (∀ w ∈ az_G, w.before args s = true) ∧ az_Kx D cA cs s ∧ base ≤ s.heap.size
/-- how a field is linked -/
def az_fl (own : String) (i : Nat) (q : vw_C) (k : Nat) : Prop := (Cond.fieldLink own i (q.2.1 k).1 (q.2.1 k).2.1 (q.2.1 k).2.2.1 ∈ az_G) ∨ (∃ h, Cond.fieldLinkNest own i (q.2.1 k).1 (q.2.1 k).2.1 (q.2.1 k).2.2.1 h ∈ lw_tbl) ∨ (∃ ref, Cond.fieldLink own i ref (q.2.1 k).2.1 (q.2.1 k).2.2.1 ∈ az_G ∧ Cond.sameField ref (q.2.1 k).1 (q.2.1 k).2.1 (q.2.1 k).2.2.1 ∈ az_G)
/-- what the tables must say of an instruction and of what is written beside it -/
def az_link (own nm : String) (ins : Instr) (aux : List Nat) : Prop := match ins with
  | .getfield i => (∃ ci k q, aux = [ci, k] ∧ vwCl[ci]? = some q ∧ k < q.2.2 ∧ az_fl own i q k) ∨ (aux = [113, 0] ∧ Cond.fieldLink own i "java/lang/String" "value" "[B" ∈ az_G) ∨ (aux = [113, 1] ∧ Cond.fieldLink own i "java/lang/String" "coder" "B" ∈ az_G)
  | .putfield i => ∃ ci k q, aux = [ci, k] ∧ vwCl[ci]? = some q ∧ k < q.2.2 ∧ (((q.2.1 k).2.2.2 = false ∧ az_fl own i q k) ∨ ((q.2.1 k).2.2.2 = true ∧ nm = "<init>" ∧ (q.2.1 k).1 = own ∧ Cond.fieldLink own i (q.2.1 k).1 (q.2.1 k).2.1 (q.2.1 k).2.2.1 ∈ az_G))
  | .new i => ∃ ci q, aux = [ci] ∧ vwCl[ci]? = some q ∧ Cond.classLink own i q.1 ∈ az_G ∧ Cond.instantiable q.1 q.2.2 ∈ az_G ∧ Cond.initialized q.1 ∈ az_G
  | .checkcast i => ∃ ci q, aux = [ci] ∧ vwCl[ci]? = some q ∧ Cond.classLink own i q.1 ∈ az_G
  | .anewarray i => Cond.classLink own i "java/lang/Object" ∈ az_G
  | .newarray t => Cond.arrayClass (newarray.typeOf t) ∈ az_G
  | .getstatic i => ∃ k kd q, aux = [k, kd] ∧ az_st[k]? = some q ∧ q.2.2.2 = kd ∧ Cond.fieldLink own i q.1 q.2.1 q.2.2.1 ∈ az_G
  | .ldc i => (∃ v, aux = [0, v] ∧ Cond.constant own i (Int32.ofNat v) ∈ az_G) ∨ (aux = [1, 1000005] ∧ Cond.classLink own i "[Ljava/lang/Object;" ∈ az_G) ∨ (∃ q ∈ az_ss, q.1 = own ∧ q.2.1 = i ∧ aux = [1, q.2.2.2])
  | .ldc_w i => ∃ v, aux = [0, v] ∧ Cond.constant own i (Int32.ofNat v) ∈ az_G
  | .ldc2_w i => ∃ v, aux = [v] ∧ Cond.constantLong own i (Int64.ofNat v) ∈ az_G
  | _ => True
/-- how long an instruction is -/
def az_il (ins : Instr) : Nat := match ins with
  | .bipush _ => 2
  | .sipush _ => 3
  | .iload _ => 2
  | .lload _ => 2
  | .aload _ => 2
  | .istore _ => 2
  | .lstore _ => 2
  | .astore _ => 2
  | .iinc _ _ => 3
  | .goto _ => 3
  | .ifCond _ _ => 3
  | .if_icmp _ _ => 3
  | .if_acmp _ _ => 3
  | .ifnull _ => 3
  | .ldc _ => 2
  | .ldc_w _ => 3
  | .ldc2_w _ => 3
  | .getstatic _ => 3
  | .getfield _ => 3
  | .putfield _ => 3
  | .newarray _ => 2
  | .anewarray _ => 3
  | .new _ => 3
  | .checkcast _ => 3
  | .invokevirtual _ => 3
  | .invokestatic _ => 3
  | .invokespecial _ => 3
  | .tableswitch _ _ _ _ => 0
  | .lookupswitch _ _ => 0
  | _ => 1
/-- a jump lands in the code -/
def az_jok (pc : Nat) (ins : Instr) : Prop := match ins with
  | .goto off => 0 ≤ (pc : Int) + off
  | .ifCond _ off => 0 ≤ (pc : Int) + off
  | .if_icmp _ off => 0 ≤ (pc : Int) + off
  | .if_acmp _ off => 0 ≤ (pc : Int) + off
  | .ifnull off => 0 ≤ (pc : Int) + off
  | .tableswitch d _ _ offs => 0 ≤ (pc : Int) + d ∧ offs.toList.all (fun o => decide (0 ≤ (pc : Int) + o)) = true
  | .lookupswitch d ps => 0 ≤ (pc : Int) + d ∧ ps.toList.all (fun o => decide (0 ≤ (pc : Int) + o.2)) = true
  | _ => True
