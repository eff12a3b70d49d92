theorem az_pool_ok : ∀ e ∈ az_pool, az_pb az_ms e = true := by
  intro e he
  unfold az_pool at he
  simp only [List.mem_append] at he
  rcases he with h | h | h | h | h | h | h | h | h | h | h
  · exact List.all_eq_true.mp az_pool0_ok e h
  · exact List.all_eq_true.mp az_pool1_ok e h
  · exact List.all_eq_true.mp az_pool2_ok e h
  · exact List.all_eq_true.mp az_pool3_ok e h
  · exact List.all_eq_true.mp az_pool4_ok e h
  · exact List.all_eq_true.mp az_pool5_ok e h
  · exact List.all_eq_true.mp az_pool6_ok e h
  · exact List.all_eq_true.mp az_pool7_ok e h
  · exact List.all_eq_true.mp az_pool8_ok e h
  · exact List.all_eq_true.mp az_pool9_ok e h
  · exact List.all_eq_true.mp az_pool10_ok e h
theorem az_cIn {k j : Nat} {y : MethodName} {b : ByteArray} {n : Nat} {r : Option FieldType} (h : (az_tk1 k)[j]? = some (.code y b n r)) : Cond.code y b n r ∈ az_G := List.mem_filter.mpr ⟨az_tk1_in (List.mem_of_getElem? h), rfl⟩
def az_mb (M : az_M) (c : Nat) : Bool := az_is c (.initialized M.1.cls) && (decide (M.1.cls ≠ "java/lang/invoke/MethodHandle") && (decide (M.1.cls ≠ "java/lang/invoke/VarHandle") && (decide (M.2.2.1 ≤ 60) && plainFor M.1)))
def az_mP (M : az_M) : Prop := Cond.code M.1 M.2.1 M.2.2.1 M.2.2.2 ∈ az_G ∧ ∃ c, az_mb M c = true
