def R_law : String := "ShadeRegisterLaw"
def lw_P (b : Addr) (xs : List Int32) (args : Array Value) (s : State) : Prop := args = #[.ref b] ∧ s.IntsAt b xs ∧ xs.length ≤ 4610 ∧ (Jvm.Cond.and given_1 narrow_1).before args s = true
def lw_Q (_ : Array Value) (s : State) (o : Outcome) (t : State) : Prop := o = .returned (some (.int 1)) ∧ Framed s o t [] 600000 7302250
def lw_Z (below : List Frame) (a : Array Value) (s : State) : State → Prop := fun t => ∃ o, t.status = .running ∧ Ended t below o ∧ lw_Q a s o t
/-- what holds at the law's entry: the machine, the code, the tables' words (any of lw_tbl by 'hts w (by decide +kernel)'), the script of L ints xs at the cell b, what the Statement gives of the start (any of its parts by flat_of_before) -/
def lw_At (p : Program) (s : State) (m : MethodId) (meth : Method) (c : Code) (b L : Nat) (xs : Nat → Int32) : Prop :=
  p.tables.exec = Jvm.exec ∧ c.code = code ∧ meth.sig.returnType = ret ∧ c.maxLocals = 4 ∧ s.vm.findClass R_law = some m.cls ∧ (∀ w ∈ lw_tbl, w.before #[Value.ref b] s = true) ∧ va_X b L xs s s.heap ∧ b < s.heap.size ∧ meth.locks = false ∧ (Jvm.Cond.and given_1 narrow_1).before #[Value.ref b] s = true
/-- the law's own end -/
theorem az_lret {p : Program} {l : Launch} {e : Env} {R : Room} {s : State} {m : MethodId} {below : List Frame} {meth : Method} {c : Code} {b : Nat} (hx : p.tables.exec = Jvm.exec) (hb : c.code = code) (hr : meth.sig.returnType = ret) (hlocks : meth.locks = false) {pc : Nat} {H : Heap} {ls : Array Slot} (hdg : decode code pc = .ok (.ireturn, 1)) : W p l e R s m #[Value.ref b] below meth c H [] 600000 7302250 (lw_Z below #[Value.ref b] s) (F0 m pc ls [.int 1]) := by
  intro T hT X
  obtain ⟨fs, hret, hrun, hended, hW, hframe⟩ := X.leave (v := some (.int 1)) (hlocks := hlocks) (fun h => by rw [hr] at h; cases h)
  have hmeth' : T.vm.method? m = some meth := X.method'
  refine ⟨T.setFrames fs, ?_, .returned (some (.int 1)), hrun, hended, rfl, ⟨_, rfl⟩, hW, hframe⟩
  jvm_step X.here [X.here.top, hx, hb, hdg, hmeth', hr, ret, narrow_b1]
  (try refine ⟨rfl, ?_⟩); (try refine ⟨rfl, ?_⟩)
  first | (intro acts; rw [hret _ acts rfl rfl rfl]) | rw [hret _ _ rfl rfl rfl]
  exact Steps.refl _
/-- what is left to show: the abstract machine runs the law to 1 -/
def az_Main : Prop := ∀ (L : Nat) (xs : Nat → Int32) (o : Option Nat), L ≤ 4610 → ∃ (k : Nat) (t : az_S), az_run (az_ev az_ms az_cds 1049) k_L_law (some .boolean) (some (.int 1)) t k (0, [some (.ref 1000000), none, none, none], [], az_s0 L xs o) ∧ az_n t ≤ 600000 ∧ az_sl t ≤ 7302250
set_option maxHeartbeats 4000000 in
theorem az_whole (hmain : az_Main) {p : Program} {e : Env} {s : State} {m : MethodId} {below : List Frame} {meth : Method} {c : Code} (l : Launch) {b L : Nat} {xs : Nat → Int32} (hL : L ≤ 4610) (C0 : lw_At p s m meth c b L xs) : W p l e room_1 s m #[Value.ref b] below meth c s.heap [] 0 0 (lw_Z below #[Value.ref b] s) (entryFrame m ([Value.ref b] : List Value).toArray 4) := by
  obtain ⟨hx, hb, hr, hml, hown, hts, hX, hbl, hlocks, hgv⟩ := C0
  obtain ⟨D, cA, cs, o, hcs, hKx, hCc⟩ := az_begin hts hX hbl hgv
  obtain ⟨k, t, hrun, hn, hsl⟩ := hmain L xs o hL
  have hC : az_Cx D cA s.heap.size cs p s m #[Value.ref b] c code (az_o 25) := ⟨hx, hb, hown, fun w hw => hts w (List.mem_filter.mp hw).1, hKx, Nat.le_refl _⟩
  have eb : ([Value.ref 1000000] : List Value).map (az_tr (az_ad s.heap.size cs)) = [Value.ref b] := by
    show [Value.ref (az_ad s.heap.size cs 1000000)] = _
    rw [az_ad_ge (by decide), hcs]
  have hlv := az_entry_lv (az_ad s.heap.size cs) [Value.ref 1000000] (maxL := 4) (by decide)
  rw [eb] at hlv
  rw [lg_entry_eq]
  refine az_W_room (R := az_rm 1050 600000 7302250) (by decide) (by decide) (by decide) (by decide) ?_
  have hR : az_Rl D cA s.heap.size cs s 4 0 0 (az_s0 L xs o) (az_entry [Value.ref 1000000] 4) s.heap [] ((lg_sl [Value.ref b] ++ List.replicate (4 - (lg_sl [Value.ref b]).length) Slot.unset).toArray) := ⟨fun k q h => by (have h9 : ([] : va_W)[k]? = some q := h); simp at h9, rfl, va_S.rf, az_ok0 L xs o, hCc, hlv, Nat.le_refl _, Nat.le_refl _⟩
  have hm := az_sim_run (p := p) (l := l) (e := e) (below := below) (meth := meth) (Q := lw_Z below #[Value.ref b] s) (ms := az_ms) (d := 1049) (mcT := 600000) (msT := 7302250) (n0 := 0) (s0 := 0) hC hml (by simp) (az_met az_T l D cA s.heap.size cs 1049) (az_tlaw meth.name) ⟨by omega, by omega⟩ ?_ k _ hrun s.heap [] _ hR
  · exact hm
  · intro pc len ins L9 st H locs ls hd hil hrt hR9
    obtain ⟨hP9, hsz9, hS9, -, -, -, -, -⟩ := hR9
    cases ins
    case ireturn =>
      cases hil.resolve_left (by simp [az_il])
      obtain ⟨v, ty, h1, h2, rfl, h4⟩ := hrt
      cases h4
      refine va_forget (fun q hq => hS9.2.2 q hq) ?_
      refine W.widen (k := 600000) (n := 7302250) (by omega) (by omega) ?_
      exact az_lret hx hb hr hlocks hd
    case return_ => obtain ⟨h1, -⟩ := hrt; cases h1
    case lreturn => obtain ⟨v, h1, -⟩ := hrt; cases h1
    case areturn => obtain ⟨v, rt', h1, h2, -⟩ := hrt; cases h1; rcases h2 with ⟨n, h2⟩ | ⟨n, h2⟩ <;> cases h2
    all_goals exact hrt.elim
