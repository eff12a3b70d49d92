/-! LINKS: the constant pools, checked entry by entry; an instruction's check speaks of numbers alone -/
abbrev az_P : Type := Nat × Nat × Nat × List Nat × List Nat
def az_ol : List String := [RX0, RX1, RX2, RX3, RX4, RX5, RX6, RX7, RX8, RX9, RX10, RX11, RX12, RJx4a65c, RJxc12de, RJxa1e45, RJ0, RJ1, RJ2, RJ3, RJ6, RJ7, RJ8, RJ9, RJ15, RL]
def az_o (o : Nat) : String := az_ol.getD o ""
def az_tk1 (k : Nat) : List Cond := match k with
  | 0 => k2_sels lw_privs
  | 1 => tables_1_1
  | 2 => tables_1_2
  | 3 => tables_1_3
  | 4 => tables_1_4
  | 5 => tables_1_5
  | 6 => tables_1_6
  | 7 => tables_1_7
  | 8 => tables_1_8
  | 9 => tables_1_9
  | _ => []
theorem az_tk1_in {k : Nat} {c : Cond} (h : c ∈ az_tk1 k) : c ∈ lw_tbl := by
  unfold lw_tbl tables_1
  unfold az_tk1 at h
  simp only [List.mem_append]
  split at h <;> first | (simp only [h, true_or, or_true]; done) | (cases h; done)
/-- the word at a place is this one, and a good one -/
def az_is (w : Nat) (c : Cond) : Bool := decide ((az_tk1 (w / 1000))[w % 1000]? = some c) && goodWord c
theorem az_is_in {w : Nat} {c : Cond} (h : az_is w c = true) : c ∈ az_G := by
  simp only [az_is, Bool.and_eq_true, decide_eq_true_eq] at h
  exact List.mem_filter.mpr ⟨az_tk1_in (List.mem_of_getElem? h.1), h.2⟩
def az_isT (w : Nat) (c : Cond) : Bool := decide ((az_tk1 (w / 1000))[w % 1000]? = some c)
theorem az_isT_in {w : Nat} {c : Cond} (h : az_isT w c = true) : c ∈ lw_tbl := az_tk1_in (List.mem_of_getElem? (of_decide_eq_true h))
/-- what an entry of a pool says -/
def az_pok (ms : Nat → Option az_M) (o i tag : Nat) (aux : List Nat) : Prop := match tag with
  | 0 => ∃ ci k q, aux = [ci, k] ∧ vwCl[ci]? = some q ∧ k < q.2.2 ∧ az_fl (az_o o) i q k
  | 1 => ∃ ci k q, aux = [ci, k] ∧ vwCl[ci]? = some q ∧ k < q.2.2 ∧ (q.2.1 k).1 = az_o o ∧ Cond.fieldLink (az_o o) i (q.2.1 k).1 (q.2.1 k).2.1 (q.2.1 k).2.2.1 ∈ az_G
  | 3 => (aux = [113, 0] ∧ Cond.fieldLink (az_o o) i "java/lang/String" "value" "[B" ∈ az_G) ∨ (aux = [113, 1] ∧ Cond.fieldLink (az_o o) i "java/lang/String" "coder" "B" ∈ az_G)
  | 4 => ∃ k kd q, aux = [k, kd] ∧ az_st[k]? = some q ∧ q.2.2.2 = kd ∧ Cond.fieldLink (az_o o) i q.1 q.2.1 q.2.2.1 ∈ az_G
  | 5 => ∃ ci q, aux = [ci] ∧ vwCl[ci]? = some q ∧ Cond.classLink (az_o o) i q.1 ∈ az_G ∧ Cond.instantiable q.1 q.2.2 ∈ az_G ∧ Cond.initialized q.1 ∈ az_G
  | 6 => ∃ ci q, aux = [ci] ∧ vwCl[ci]? = some q ∧ Cond.classLink (az_o o) i q.1 ∈ az_G
  | 7 => Cond.classLink (az_o o) i "java/lang/Object" ∈ az_G
  | 8 => ∃ v, aux = [0, v] ∧ Cond.constant (az_o o) i (Int32.ofNat v) ∈ az_G
  | 9 => aux = [1, 1000005] ∧ Cond.classLink (az_o o) i "[Ljava/lang/Object;" ∈ az_G
  | 10 => ∃ q ∈ az_ss, q.1 = az_o o ∧ q.2.1 = i ∧ aux = [1, q.2.2.2]
  | 11 => ∃ v, aux = [v] ∧ Cond.constantLong (az_o o) i (Int64.ofNat v) ∈ az_G
  | 20 => ∃ y n kc M, aux = [0, y, n, kc] ∧ ms y = some M ∧ (parseMethodDescriptor M.1.desc).map (fun d => d.parameters.length + 1) = some n ∧ ((∃ q, vwCl[kc]? = some q ∧ M.1.cls = q.1) ∨ (kc = 113 ∧ M.1.cls = "java/lang/String")) ∧ Cond.methodLink (az_o o) i M.1 ∈ az_G ∧ Cond.instanceMethod M.1 ∈ az_G ∧ Cond.selects M.1.cls M.1 M.1 ∈ az_G
  | 21 => ∃ y n kc M, aux = [0, y, n, kc] ∧ ms y = some M ∧ (parseMethodDescriptor M.1.desc).map (fun d => d.parameters.length) = some n ∧ (Cond.methodLink (az_o o) i M.1 ∈ az_G ∨ ∃ host, Cond.methodLinkNest (az_o o) i M.1 host ∈ lw_tbl) ∧ Cond.static M.1 ∈ az_G
  | 22 => ∃ y n kc M, aux = [0, y, n, kc] ∧ ms y = some M ∧ (parseMethodDescriptor M.1.desc).map (fun d => d.parameters.length + 1) = some n ∧ kc < 999 ∧ M.2.2.2 = none ∧ M.1.name = "<init>" ∧ (Cond.methodLink (az_o o) i M.1 ∈ az_G ∨ ∃ host, Cond.methodLinkNest (az_o o) i M.1 host ∈ lw_tbl) ∧ Cond.instanceMethod M.1 ∈ az_G
  | 30 => aux = [1, 2, 3] ∧ az_slink (az_o o) 3 (.invokespecial i)
  | 31 => aux = [1, 2, 4] ∧ az_slink (az_o o) 4 (.invokevirtual i)
  | 32 => aux = [1, 2, 5] ∧ az_slink (az_o o) 5 (.invokestatic i)
  | _ => False
def az_pb (ms : Nat → Option az_M) (e : az_P) : Bool := match e with
  | (o, i, 0, [ci, k], [w]) => match vwCl[ci]? with
    | some q => decide (k < q.2.2) && (az_is w (.fieldLink (az_o o) i (q.2.1 k).1 (q.2.1 k).2.1 (q.2.1 k).2.2.1) || az_isT w (.fieldLinkNest (az_o o) i (q.2.1 k).1 (q.2.1 k).2.1 (q.2.1 k).2.2.1 "ShadeRegister"))
    | none => false
  | (o, i, 0, [ci, k], [w, w2]) => match vwCl[ci]? with
    | some q => decide (k < q.2.2) && (az_is w (.fieldLink (az_o o) i "java/util/ArrayList" (q.2.1 k).2.1 (q.2.1 k).2.2.1) && az_is w2 (.sameField "java/util/ArrayList" (q.2.1 k).1 (q.2.1 k).2.1 (q.2.1 k).2.2.1))
    | none => false
  | (o, i, 1, [ci, k], [w]) => match vwCl[ci]? with
    | some q => decide (k < q.2.2) && (decide ((q.2.1 k).1 = az_o o) && az_is w (.fieldLink (az_o o) i (q.2.1 k).1 (q.2.1 k).2.1 (q.2.1 k).2.2.1))
    | none => false
  | (o, i, 3, [113, 0], [w]) => az_is w (.fieldLink (az_o o) i "java/lang/String" "value" "[B")
  | (o, i, 3, [113, 1], [w]) => az_is w (.fieldLink (az_o o) i "java/lang/String" "coder" "B")
  | (o, i, 4, [k, kd], [w]) => match az_st[k]? with
    | some q => decide (q.2.2.2 = kd) && az_is w (.fieldLink (az_o o) i q.1 q.2.1 q.2.2.1)
    | none => false
  | (o, i, 5, [ci], [w, w2, w3]) => match vwCl[ci]? with
    | some q => az_is w (.classLink (az_o o) i q.1) && (az_is w2 (.instantiable q.1 q.2.2) && az_is w3 (.initialized q.1))
    | none => false
  | (o, i, 6, [ci], [w]) => match vwCl[ci]? with
    | some q => az_is w (.classLink (az_o o) i q.1)
    | none => false
  | (o, i, 7, [], [w]) => az_is w (.classLink (az_o o) i "java/lang/Object")
  | (o, i, 8, [0, v], [w]) => az_is w (.constant (az_o o) i (Int32.ofNat v))
  | (o, i, 9, [1, 1000005], [w]) => az_is w (.classLink (az_o o) i "[Ljava/lang/Object;")
  | (o, i, 10, [1, v], []) => az_ss.any (fun q => decide (q.1 = az_o o) && (decide (q.2.1 = i) && decide (q.2.2.2 = v)))
  | (o, i, 11, [v], [w]) => az_is w (.constantLong (az_o o) i (Int64.ofNat v))
  | (o, i, 20, [0, y, n, kc], [w, w2, w3]) => match ms y with
    | some M => decide ((parseMethodDescriptor M.1.desc).map (fun d => d.parameters.length + 1) = some n) && ((match vwCl[kc]? with | some q => decide (M.1.cls = q.1) | none => decide (kc = 113) && decide (M.1.cls = "java/lang/String")) && (az_is w (.methodLink (az_o o) i M.1) && (az_is w2 (.instanceMethod M.1) && az_is w3 (.selects M.1.cls M.1 M.1))))
    | none => false
  | (o, i, 21, [0, y, n, _], [w, w2]) => match ms y with
    | some M => decide ((parseMethodDescriptor M.1.desc).map (fun d => d.parameters.length) = some n) && ((az_is w (.methodLink (az_o o) i M.1) || az_isT w (.methodLinkNest (az_o o) i M.1 "ShadeRegister")) && az_is w2 (.static M.1))
    | none => false
  | (o, i, 22, [0, y, n, kc], [w, w2]) => match ms y with
    | some M => decide ((parseMethodDescriptor M.1.desc).map (fun d => d.parameters.length + 1) = some n) && (decide (kc < 999) && (decide (M.2.2.2 = none) && (decide (M.1.name = "<init>") && ((az_is w (.methodLink (az_o o) i M.1) || az_isT w (.methodLinkNest (az_o o) i M.1 "ShadeRegister")) && az_is w2 (.instanceMethod M.1)))))
    | none => false
  | (o, i, 30, [1, 2, 3], [w]) => az_is w (.methodLink (az_o o) i Lib.objectInit)
  | (o, i, 31, [1, 2, 4], [w]) => az_is w (.methodLink (az_o o) i ⟨"java/lang/Object", "getClass", "()Ljava/lang/Class;"⟩)
  | (o, i, 32, [1, 2, 5], [w]) => az_is w (.methodLink (az_o o) i arraycopyName)
  | _ => false
