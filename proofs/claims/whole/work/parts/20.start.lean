/-! THE LAW'S START: the abstract store that the machine's start is -/
theorem az_room_mono {s : State} {pl : Platform} {r r' : Room} (hf : r.frames ≤ r'.frames) (hl : r.locals ≤ r'.locals) (hc : r.cells ≤ r'.cells) (hs : r.slots ≤ r'.slots) (h : s.hasRoom pl r' = true) : s.hasRoom pl r = true := by
  simp only [State.hasRoom, Bool.and_eq_true, decide_eq_true_eq] at h ⊢
  obtain ⟨⟨⟨⟨h1, h2⟩, h3⟩, h4⟩, h5⟩ := h
  refine ⟨⟨⟨⟨by omega, ?_⟩, by omega⟩, by omega⟩, h5⟩
  omega
theorem az_W_room {p : Program} {l : Launch} {e : Env} {R R' : Room} {s : State} {m : MethodId} {args : Array Value} {below : List Frame} {meth : Method} {c : Code} {H : Heap} {locs : List Loc} {cells slots : Nat} {Q : State → Prop} {g : JFrame} (hf : R.frames ≤ R'.frames) (hl : R.locals ≤ R'.locals) (hc : R.cells ≤ R'.cells) (hs : R.slots ≤ R'.slots) (h : W p l e R s m args below meth c H locs cells slots Q g) : W p l e R' s m args below meth c H locs cells slots Q g :=
  fun T hT X => h T hT { X with room := az_room_mono hf hl hc hs X.room }
def az_sx (j : Nat) : Int32 := ([0, -1, 0, 1, 0] : List Int32).getD j 0
def az_sy (j : Nat) : Int32 := ([-1, 0, 0, 0, 1] : List Int32).getD j 0
def az_tx : List (List Int32) := [[104, 111, 117, 114], [109, 111, 110, 116, 104], [100, 97, 121], [104, 101, 105, 103, 104, 116], [109, 97, 110, 121], [107, 105, 110, 100], [116, 104, 105, 110, 103], [115, 116, 97, 108, 108], [119, 104, 101, 110], [103, 105, 118, 101], [111, 114], [97, 110, 100], [110, 111, 116], [109, 105, 110], [109, 97, 120]]
def az_tl : List Nat := [4, 5, 3, 6, 4, 4, 5, 5, 4, 4, 2, 3, 3, 3, 3]
def az_ti : List Nat := [75, 81, 83, 85, 87, 89, 91, 93, 95, 97, 99, 101, 103, 105, 106]
def az_sh0 (L a : Nat) : Nat × Nat := if a < 1000000 then (999, 0) else if a = 1000000 then (110, L) else if a = 1000001 then (111, 0) else if a = 1000002 then (110, 5) else if a = 1000003 then (110, 5) else if a = 1000007 then (115, 0) else if 1000010 ≤ a ∧ a < 1000025 then (113, 0) else if 1000030 ≤ a ∧ a < 1000045 then (112, az_tl.getD (a - 1000030) 0) else (999, 0)
def az_i0 (xs : Nat → Int32) (a k : Nat) : Int32 := if a = 1000000 then xs k else if a = 1000002 then az_sx k else if a = 1000003 then az_sy k else if a = 1000007 then (if k = 4 then 1 else 0) else if 1000030 ≤ a ∧ a < 1000045 then (az_tx.getD (a - 1000030) []).getD k 0 else 0
def az_r0 (o : Option Nat) (a k : Nat) : Option Nat := if a = 1000007 then (if k = 0 then some 1000001 else if k = 1 then some 1000002 else if k = 2 then some 1000003 else if k = 3 then o else none) else if 1000010 ≤ a ∧ a < 1000025 then (if k = 0 then some (a + 20) else none) else none
def az_s0 (L : Nat) (xs : Nat → Int32) (o : Option Nat) : az_S := (0, 0, az_sh0 L, az_i0 xs, fun _ _ => 0, az_r0 o)
theorem az_ok0 (L : Nat) (xs : Nat → Int32) (o : Option Nat) : az_ok (az_s0 L xs o) := by
  refine ⟨fun a h => ?_, Nat.zero_le _, fun a h => ?_⟩
  · exfalso
    revert h
    show (az_sh0 L a).1 < 110 → False
    unfold az_sh0
    repeat' split
    all_goals (intro h; omega)
  · right
    show (az_sh0 L a).1 = 999
    simp [az_sh0, h]
theorem az_known {s : State} {args : Array Value} (hts : ∀ w ∈ az_G, w.before args s = true) (hinst : ∀ (ci : Nat) (q : vw_C), vwCl[ci]? = some q → Cond.instantiable q.1 q.2.2 ∈ az_G) (hcls : ∀ w ∈ lw_tbl, w.before args s = true) : ∃ (D : va_G) (cA : Nat → ClassId), va_K D vwCl (az_tys cA) s := by
  have h1 : ∀ ci : Nat, ∃ x : ClassId × (Nat → Nat), ∀ q, vwCl[ci]? = some q → u_Kn s q.1 q.2.1 q.2.2 x.1 x.2 := by
    intro ci
    cases hq : vwCl[ci]? with
    | none => exact ⟨(0, fun _ => 0), fun q h => by cases h⟩
    | some q =>
      obtain ⟨c, iS, h⟩ := u_known (C := q.1) (T := q.2.1) (N := q.2.2) (n := q.2.2) hts (az_cin ci q hq) (hts _ (hinst ci q hq))
      exact ⟨(c, iS), fun q' h' => by cases h'; exact h⟩
  obtain ⟨f, hf⟩ := Classical.axiomOfChoice h1
  obtain ⟨ci, ki, cpi, a1, a2, a3⟩ := Cond.arrayClass_spec (hts _ az_at1)
  obtain ⟨cz, kz, cpz, b1, b2, b3⟩ := Cond.arrayClass_spec (hts _ az_at2)
  obtain ⟨cb, kb, cpb, c1, c2, c3⟩ := Cond.arrayClass_spec (hts _ az_at3)
  obtain ⟨cj, kj, cpj, d1, d2, d3⟩ := Cond.arrayClass_spec (hts _ az_at4)
  obtain ⟨comp, co, ko, e1, e2, e3, e4, e5⟩ := Cond.arrayOver_spec (hcls (.arrayOver (.object "java/lang/Object")) (az_isT_in (w := 2183) (by decide +kernel)))
  refine ⟨(fun k => (f k).1, fun k => (f k).2), fun k => if k = 100 then ci else if k = 101 then cz else if k = 102 then cb else if k = 103 then cj else co, fun c q hq => hf c q hq, ?_⟩
  intro k q hq
  match k, hq with
  | 0, hq => cases hq; exact ⟨fun n z => ⟨fun k h => (by cases h), ki, a2, cpi, a3⟩, a1⟩
  | 1, hq => cases hq; exact ⟨fun n z => ⟨fun k h => (by cases h), kz, b2, cpz, b3⟩, b1⟩
  | 2, hq => cases hq; exact ⟨fun n z => ⟨fun k h => (by cases h), kb, c2, cpb, c3⟩, c1⟩
  | 3, hq => cases hq; exact ⟨fun n z => ⟨fun k h => (by cases h), kj, d2, cpj, d3⟩, d1⟩
  | 4, hq => cases hq; exact ⟨fun n z => ⟨fun k h => (by cases h), ko, e3, comp, e4⟩, ko, comp, e3, e4, e1, e5⟩
  | k + 5, hq => simp [az_tys] at hq
theorem az_inst0 : Cond.instantiable RJx4a65c 3 ∈ az_G := az_is_in (w := 1060) (by decide +kernel)
theorem az_inst1 : Cond.instantiable RX0 12 ∈ az_G := az_is_in (w := 3171) (by decide +kernel)
theorem az_inst2 : Cond.instantiable RX1 3 ∈ az_G := az_is_in (w := 1143) (by decide +kernel)
theorem az_inst3 : Cond.instantiable RX2 6 ∈ az_G := az_is_in (w := 1237) (by decide +kernel)
theorem az_inst4 : Cond.instantiable RX3 2 ∈ az_G := az_is_in (w := 2120) (by decide +kernel)
theorem az_inst5 : Cond.instantiable RX4 9 ∈ az_G := az_is_in (w := 1202) (by decide +kernel)
theorem az_inst6 : Cond.instantiable RX5 7 ∈ az_G := az_is_in (w := 1172) (by decide +kernel)
theorem az_inst7 : Cond.instantiable RX6 4 ∈ az_G := az_is_in (w := 1036) (by decide +kernel)
theorem az_inst8 : Cond.instantiable RX7 3 ∈ az_G := az_is_in (w := 5102) (by decide +kernel)
theorem az_inst9 : Cond.instantiable RX8 6 ∈ az_G := az_is_in (w := 1086) (by decide +kernel)
theorem az_inst10 : Cond.instantiable RX9 7 ∈ az_G := az_is_in (w := 1112) (by decide +kernel)
theorem az_inst11 : Cond.instantiable RX10 14 ∈ az_G := az_is_in (w := 3002) (by decide +kernel)
theorem az_inst12 : Cond.instantiable RX11 18 ∈ az_G := az_is_in (w := 1028) (by decide +kernel)
theorem az_inst13 : Cond.instantiable RX12 90 ∈ az_G := az_is_in (w := 6033) (by decide +kernel)
theorem az_cinst : ∀ (ci : Nat) (q : vw_C), vwCl[ci]? = some q → Cond.instantiable q.1 q.2.2 ∈ az_G := by
  intro ci q hq
  match ci, hq with
  | 0, hq => cases hq; exact az_inst0
  | 1, hq => cases hq; exact az_inst1
  | 2, hq => cases hq; exact az_inst2
  | 3, hq => cases hq; exact az_inst3
  | 4, hq => cases hq; exact az_inst4
  | 5, hq => cases hq; exact az_inst5
  | 6, hq => cases hq; exact az_inst6
  | 7, hq => cases hq; exact az_inst7
  | 8, hq => cases hq; exact az_inst8
  | 9, hq => cases hq; exact az_inst9
  | 10, hq => cases hq; exact az_inst10
  | 11, hq => cases hq; exact az_inst11
  | 12, hq => cases hq; exact az_inst12
  | 13, hq => cases hq; exact az_inst13
  | k + 14, hq => simp [vwCl] at hq
