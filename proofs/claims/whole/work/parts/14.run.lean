/-! RUNS: a frame of the abstract machine from its entry to its return, and the contract that it gives -/
abbrev az_M : Type := MethodName × ByteArray × Nat × Option FieldType
def az_lk (ms : Nat → Option az_M) (own nm : String) (ins : Instr) (aux : List Nat) : Prop := match aux with
  | [0, y, n, kc] => ∃ M, ms y = some M ∧ az_clink own ins M.1 M.2.1 M.2.2.1 M.2.2.2 n kc
  | [1, 2, k] => az_slink own k ins
  | _ => az_link own nm ins aux
def az_iok (ms : Nat → Option az_M) (own nm : String) (cc : ByteArray) (q : az_I) : Prop := decode cc q.1 = .ok (q.2.2.1, q.2.1) ∧ (az_il q.2.2.1 = 0 ∨ az_il q.2.2.1 = q.2.1) ∧ az_jok q.1 q.2.2.1 ∧ az_lk ms own nm q.2.2.1 q.2.2.2
theorem az_lk_plain {ms : Nat → Option az_M} {own nm : String} {ins : Instr} {aux : List Nat} {pc len : Nat} {L : az_V} {st : List Value} {σ : az_S} {F : az_F} (h : az_lk ms own nm ins aux) (g1 : ∀ y n kc, aux = [0, y, n, kc] → False) (hn : az_next pc len ins aux L st σ F) : az_link own nm ins aux := by
  unfold az_lk at h
  split at h
  · exact (g1 _ _ _ rfl).elim
  · cases ins <;> first | exact h.elim | exact hn.elim
  · exact h
theorem az_fetch_in {pc : Nat} {x : Nat × Instr × List Nat} : ∀ {cd : List az_I}, az_fetch cd pc = some x → (pc, x) ∈ cd := by
  intro cd
  induction cd with
  | nil => intro h; cases h
  | cons q r ih =>
    intro h
    unfold az_fetch at h
    split at h
    · rename_i e
      cases h
      rw [← e]
      exact List.mem_cons_self
    · exact List.mem_cons_of_mem _ (ih h)
theorem az_step_ext {ms : Nat → Option az_M} {own nm : String} {cc : ByteArray} {E : Nat → List Value → az_S → Option Value → az_S → Prop} (hE : ∀ y as σ r τ, E y as σ r τ → az_ext σ τ) {pc len : Nat} {ins : Instr} {aux : List Nat} {L : az_V} {st : List Value} {σ : az_S} {F : az_F} (hok : az_iok ms own nm cc (pc, len, ins, aux)) (h : az_step E pc len ins aux L st σ F) : az_ext σ F.2.2.2 := by
  obtain ⟨-, -, -, hl⟩ := hok
  unfold az_step at h
  split at h
  · obtain ⟨-, -, -, -, r, τ, h1, rfl⟩ := h
    exact hE _ _ _ _ _ h1
  · obtain ⟨-, a, r, rfl, -, rfl⟩ := h
    exact .rf
  · obtain ⟨-, a, r, rfl, -, -, rfl⟩ := h
    exact .rf
  · obtain ⟨-, n, a, r, b, rfl, -, -, hka, hkb, -, -, -, -, rfl⟩ := h
    exact az_ext.cp (by omega)
  · rename_i n1 n2 n3 n4
    have hl2 := az_lk_plain hl n1 h
    refine az_next_ext h ?_
    intro i ci k e1 e2
    subst e1
    subst e2
    obtain ⟨ci', k', q, hax, hq, -⟩ := hl2
    cases hax
    have := (List.getElem?_eq_some_iff.mp hq).1
    simpa [vwCl] using this
theorem az_run_ext {ms : Nat → Option az_M} {own nm : String} {cc : ByteArray} {E : Nat → List Value → az_S → Option Value → az_S → Prop} (hE : ∀ y as σ r τ, E y as σ r τ → az_ext σ τ) {cd : List az_I} (hcd : ∀ q ∈ cd, az_iok ms own nm cc q) {rt : Option FieldType} {r : Option Value} {t : az_S} : ∀ (k : Nat) (G : az_F), az_run E cd rt r t k G → az_ext G.2.2.2 t := by
  intro k
  induction k with
  | zero => intro G h; exact h.elim
  | succ k ih =>
    intro G h
    obtain ⟨len, ins, aux, hf, h⟩ := h
    rcases h with ⟨-, h⟩ | ⟨F, h1, h2⟩
    · rw [h]; exact .rf
    · exact (az_step_ext hE (hcd _ (az_fetch_in hf)) h1).tr (ih F h2)
section AzRun
variable {p : Program} {l : Launch} {e : Env} {s : State} {m : MethodId} {args : Array Value} {below : List Frame} {meth : Method} {c : Code} {Q : State → Prop} {cc : ByteArray} {own : String}
variable {D : va_G} {cA : Nat → ClassId} {base : Nat} {cs : Nat → Nat} {nL n0 s0 : Nat}
set_option maxHeartbeats 4000000 in
/-- one step -/
theorem az_sim_step {ms : Nat → Option az_M} {d pc len : Nat} {ins : Instr} {aux : List Nat} {E : Nat → List Value → az_S → Option Value → az_S → Prop} {L : az_V} {st : List Value} {σ : az_S} {F : az_F} {H : Heap} {locs : List Loc} {ls : Array Slot} {mcT msT : Nat} (hC : az_Cx D cA base cs p s m args c cc own) (hml : c.maxLocals = nL) (hb0 : s.heap.size = base + n0)
    (hE : ∀ y as σ r τ, E y as σ r τ → az_ext σ τ ∧ ∀ M, ms y = some M → az_Met l D cA base cs d M.1 M.2.1 M.2.2.1 M.2.2.2 as σ r τ)
    (hok : az_iok ms own meth.name cc (pc, len, ins, aux)) (hn : az_step E pc len ins aux L st σ F)
    (hR : az_Rl D cA base cs s nL n0 s0 σ L H locs ls) (hroom : az_n F.2.2.2 - n0 ≤ mcT ∧ az_sl F.2.2.2 - s0 ≤ msT)
    (kk : ∀ (H' : Heap) (locs' : List Loc) (ls' : Array Slot), az_Rl D cA base cs s nL n0 s0 F.2.2.2 F.2.1 H' locs' ls' → W p l e (az_rm (d + 1) mcT msT) s m args below meth c H' locs' (az_n F.2.2.2 - n0) (az_sl F.2.2.2 - s0) Q (F0 m F.1 ls' (F.2.2.1.map (az_tr (az_ad base cs))))) :
    W p l e (az_rm (d + 1) mcT msT) s m args below meth c H locs (az_n σ - n0) (az_sl σ - s0) Q (F0 m pc ls (st.map (az_tr (az_ad base cs)))) := by
  obtain ⟨hd, hil, hj, hl⟩ := hok
  unfold az_step at hn
  split at hn
  · rename_i y n kc
    obtain ⟨rfl, h1, h2, h3, r, τ, h4, rfl⟩ := hn
    obtain ⟨M, hM, hcl⟩ := hl
    obtain ⟨hx, hmt⟩ := hE _ _ _ _ _ h4
    exact az_sim_call hC hml hb0 hd hcl h1 h2 h3 hx (hmt M hM) hR hroom kk
  · obtain ⟨rfl, h⟩ := hn
    exact az_sim_spec (k := 3) (E := E) hC hml hb0 hd hl ⟨rfl, h⟩ hR kk
  · obtain ⟨rfl, h⟩ := hn
    exact az_sim_spec (k := 4) (E := E) hC hml hb0 hd hl ⟨rfl, h⟩ hR kk
  · obtain ⟨rfl, h⟩ := hn
    exact az_sim_spec (k := 5) (E := E) hC hml hb0 hd hl ⟨rfl, h⟩ hR kk
  · rename_i g1 g2 g3 g4
    have hl := az_lk_plain hl g1 hn
    cases ins
    case getfield i => exact az_sim_get hC hn hd (hil.resolve_left (by simp [az_il])).symm hl hR (fun ls' h => kk H locs ls' h)
    case putfield i => exact az_sim_put hC hb0 hn hd (hil.resolve_left (by simp [az_il])).symm hl hR kk
    case new i => exact az_sim_d hC hb0 hn hd (hil.resolve_left (by simp [az_il])) hl trivial hR hroom kk
    case newarray i => exact az_sim_d hC hb0 hn hd (hil.resolve_left (by simp [az_il])) hl trivial hR hroom kk
    case anewarray i => exact az_sim_d hC hb0 hn hd (hil.resolve_left (by simp [az_il])) hl trivial hR hroom kk
    case iastore => exact az_sim_c hC hb0 hn hd (hil.resolve_left (by simp [az_il])) trivial hR kk
    case bastore => exact az_sim_c hC hb0 hn hd (hil.resolve_left (by simp [az_il])) trivial hR kk
    case lastore => exact az_sim_c hC hb0 hn hd (hil.resolve_left (by simp [az_il])) trivial hR kk
    case aastore => exact az_sim_c hC hb0 hn hd (hil.resolve_left (by simp [az_il])) trivial hR kk
    case checkcast i => exact az_sim_b hC hn hd (hil.resolve_left (by simp [az_il])) hl trivial hR (fun ls' h => kk H locs ls' h)
    case getstatic i => exact az_sim_b hC hn hd (hil.resolve_left (by simp [az_il])) hl trivial hR (fun ls' h => kk H locs ls' h)
    case ldc i => exact az_sim_b hC hn hd (hil.resolve_left (by simp [az_il])) hl trivial hR (fun ls' h => kk H locs ls' h)
    case ldc_w i => exact az_sim_b hC hn hd (hil.resolve_left (by simp [az_il])) hl trivial hR (fun ls' h => kk H locs ls' h)
    case ldc2_w i => exact az_sim_b hC hn hd (hil.resolve_left (by simp [az_il])) hl trivial hR (fun ls' h => kk H locs ls' h)
    case iaload => exact az_sim_b hC hn hd (hil.resolve_left (by simp [az_il])) hl trivial hR (fun ls' h => kk H locs ls' h)
    case baload => exact az_sim_b hC hn hd (hil.resolve_left (by simp [az_il])) hl trivial hR (fun ls' h => kk H locs ls' h)
    case laload => exact az_sim_b hC hn hd (hil.resolve_left (by simp [az_il])) hl trivial hR (fun ls' h => kk H locs ls' h)
    case aaload => exact az_sim_b hC hn hd (hil.resolve_left (by simp [az_il])) hl trivial hR (fun ls' h => kk H locs ls' h)
    case arraylength => exact az_sim_b hC hn hd (hil.resolve_left (by simp [az_il])) hl trivial hR (fun ls' h => kk H locs ls' h)
    all_goals exact az_sim_a hC hn hd hil hj trivial hR (fun ls' h => kk H locs ls' h)
/-- a run of a frame -/
theorem az_sim_run {ms : Nat → Option az_M} {d : Nat} {E : Nat → List Value → az_S → Option Value → az_S → Prop} {cd : List az_I} {rt : Option FieldType} {r : Option Value} {t : az_S} {mcT msT : Nat} (hC : az_Cx D cA base cs p s m args c cc own) (hml : c.maxLocals = nL) (hb0 : s.heap.size = base + n0)
    (hE : ∀ y as σ r τ, E y as σ r τ → az_ext σ τ ∧ ∀ M, ms y = some M → az_Met l D cA base cs d M.1 M.2.1 M.2.2.1 M.2.2.2 as σ r τ)
    (hcd : ∀ q ∈ cd, az_iok ms own meth.name cc q) (hroom : az_n t - n0 ≤ mcT ∧ az_sl t - s0 ≤ msT)
    (hret : ∀ (pc len : Nat) (ins : Instr) (L : az_V) (st : List Value) (H : Heap) (locs : List Loc) (ls : Array Slot), decode cc pc = .ok (ins, len) → (az_il ins = 0 ∨ az_il ins = len) → az_ret ins rt st r → az_Rl D cA base cs s nL n0 s0 t L H locs ls → W p l e (az_rm (d + 1) mcT msT) s m args below meth c H locs (az_n t - n0) (az_sl t - s0) Q (F0 m pc ls (st.map (az_tr (az_ad base cs))))) :
    ∀ (k : Nat) (G : az_F), az_run E cd rt r t k G → ∀ (H : Heap) (locs : List Loc) (ls : Array Slot), az_Rl D cA base cs s nL n0 s0 G.2.2.2 G.2.1 H locs ls → W p l e (az_rm (d + 1) mcT msT) s m args below meth c H locs (az_n G.2.2.2 - n0) (az_sl G.2.2.2 - s0) Q (F0 m G.1 ls (G.2.2.1.map (az_tr (az_ad base cs)))) := by
  intro k
  induction k with
  | zero => intro G h; exact h.elim
  | succ k ih =>
    intro G h H locs ls hR
    obtain ⟨len, ins, aux, hf, h⟩ := h
    have hq := hcd _ (az_fetch_in hf)
    rcases h with ⟨h1, h2⟩ | ⟨F, h1, h2⟩
    · rw [h2] at hR ⊢
      exact hret _ _ _ _ _ _ _ _ hq.1 hq.2.1 h1 hR
    · have hx := az_run_ext (fun y as σ r τ h => (hE y as σ r τ h).1) hcd k F h2
      refine az_sim_step hC hml hb0 hE hq h1 hR ?_ (fun H' locs' ls' hR' => ih F h2 H' locs' ls' hR')
      have a1 := hx.1
      have a2 := hx.2.1
      exact ⟨Nat.le_trans (Nat.sub_le_sub_right a1 _) hroom.1, Nat.le_trans (Nat.sub_le_sub_right a2 _) hroom.2⟩
end AzRun
def az_sl0 (as : List Value) : az_V := as.flatMap (fun v => if v.category = 2 then [some v, none] else [some v])
def az_entry (as : List Value) (maxL : Nat) : az_V := az_sl0 as ++ List.replicate (maxL - (az_sl0 as).length) none
theorem az_sl0_len (ad : Nat → Nat) (as : List Value) : (lg_sl (as.map (az_tr ad))).length = (az_sl0 as).length := by
  induction as with
  | nil => rfl
  | cons v r ih =>
    have h1 : (lg_sl ((v :: r).map (az_tr ad))).length = (if v.category = 2 then 2 else 1) + (lg_sl (r.map (az_tr ad))).length := by
      simp only [lg_sl, List.map_cons, List.flatMap_cons, List.length_append, az_tr_cat]
      split <;> rfl
    have h2 : (az_sl0 (v :: r)).length = (if v.category = 2 then 2 else 1) + (az_sl0 r).length := by
      simp only [az_sl0, List.flatMap_cons, List.length_append]
      split <;> rfl
    rw [h1, h2, ih]
theorem az_sl0_get (ad : Nat → Nat) (as : List Value) : ∀ (i : Nat) (v : Value), (az_sl0 as)[i]? = some (some v) → (lg_sl (as.map (az_tr ad)))[i]? = some (.val (az_tr ad v)) := by
  induction as with
  | nil => intro i v h; simp [az_sl0] at h
  | cons w r ih =>
    intro i v h
    by_cases hc : w.category = 2
    · have e1 : az_sl0 (w :: r) = some w :: none :: az_sl0 r := by simp [az_sl0, hc]
      have e2 : lg_sl ((w :: r).map (az_tr ad)) = .val (az_tr ad w) :: .second :: lg_sl (r.map (az_tr ad)) := by simp [lg_sl, az_tr_cat, hc]
      rw [e1] at h
      rw [e2]
      match i, h with
      | 0, h => simp at h; simp [h]
      | 1, h => simp at h
      | i + 2, h => simp at h ⊢; simpa using ih i v h
    · have e1 : az_sl0 (w :: r) = some w :: az_sl0 r := by simp [az_sl0, hc]
      have e2 : lg_sl ((w :: r).map (az_tr ad)) = .val (az_tr ad w) :: lg_sl (r.map (az_tr ad)) := by simp [lg_sl, az_tr_cat, hc]
      rw [e1] at h
      rw [e2]
      match i, h with
      | 0, h => simp at h; simp [h]
      | i + 1, h => simp at h ⊢; simpa using ih i v h
theorem az_entry_lv (ad : Nat → Nat) (as : List Value) {maxL : Nat} (h : (az_sl0 as).length ≤ maxL) : az_lv ad ((lg_sl (as.map (az_tr ad)) ++ List.replicate (maxL - (lg_sl (as.map (az_tr ad))).length) Slot.unset).toArray) maxL (az_entry as maxL) := by
  have hl := az_sl0_len ad as
  obtain ⟨h1, h2, -⟩ := lv_entry (as.map (az_tr ad)) (n := maxL) (by rw [hl]; exact h)
  refine ⟨h1, by simp [az_entry]; omega, h2, fun i v hi => ?_⟩
  unfold az_get az_entry at hi
  by_cases hlt : i < (az_sl0 as).length
  · rw [List.getElem?_append_left hlt] at hi
    have : (az_sl0 as)[i]? = some (some v) := by
      revert hi
      split
      · intro e; rename_i u hu; rw [hu, e]
      · intro e; cases e
    have := az_sl0_get ad as i v this
    rw [List.getElem?_toArray, List.getElem?_append_left (by rw [hl]; exact hlt)]
    exact this
  · rw [List.getElem?_append_right (by omega)] at hi
    exfalso
    revert hi
    split
    · intro e
      rename_i u hu
      rw [e] at hu
      have := List.mem_of_getElem? hu
      simp at this
    · intro e; cases e
/-- calls, by their depth -/
def az_ev (ms : Nat → Option az_M) (cds : Nat → List az_I) : Nat → Nat → List Value → az_S → Option Value → az_S → Prop
  | 0, _, _, _, _, _ => False
  | d + 1, y, as, σ, r, τ => ∃ M k, ms y = some M ∧ (az_sl0 as).length ≤ M.2.2.1 ∧ az_run (az_ev ms cds d) (cds y) M.2.2.2 r τ k (0, az_entry as M.2.2.1, [], σ)
set_option maxHeartbeats 4000000 in
theorem az_met {ms : Nat → Option az_M} {cds : Nat → List az_I} (hT : ∀ y M, ms y = some M → plainFor M.1 = true ∧ ∀ q ∈ cds y, az_iok ms M.1.cls M.1.name M.2.1 q) (l : Launch) (D : va_G) (cA : Nat → ClassId) (base : Nat) (cs : Nat → Nat) : ∀ (d y : Nat) (as : List Value) (σ : az_S) (r : Option Value) (τ : az_S), az_ev ms cds d y as σ r τ → az_ext σ τ ∧ ∀ M, ms y = some M → az_Met l D cA base cs d M.1 M.2.1 M.2.2.1 M.2.2.2 as σ r τ := by
  intro d
  induction d with
  | zero => intro y as σ r τ h; exact h.elim
  | succ d ih =>
    intro y as σ r τ h
    obtain ⟨M, k, hM, hlen, hrun⟩ := h
    obtain ⟨hpn, hcd⟩ := hT y M hM
    have hext : az_ext σ τ := az_run_ext (fun y as σ r τ h => (ih y as σ r τ h).1) hcd k _ hrun
    refine ⟨hext, fun M' hM' => ?_⟩
    cases hM.symm.trans hM'
    obtain ⟨Y, bytes, maxL, ret⟩ := M
    intro hok
    refine va_MetF (cc := bytes) (maxL := maxL) (ret := ret) (ws' := az_G) hpn rfl ?_
    intro p e s m args below meth c s₁ B hml hv
    obtain ⟨hargs, hsz, hP, hKx, hCc⟩ := hv
    subst hargs
    have hx := B.exec
    have hb := B.bytes
    have hr : meth.sig.returnType = ret := B.returns
    have hts0 := atoms_spec (ws := az_ws1 Y bytes maxL ret) B.pre
    have hown : s.vm.findClass Y.cls = some m.cls := findClass_of_methodNamed B.named
    have hlocks := B.notSynchronized
    have hin : meth.name = Y.name := (name_of_methodNamed B.named B.method).1
    have hC : az_Cx D cA base cs p s m (as.map (az_tr (az_ad base cs))).toArray c bytes Y.cls := ⟨hx, hb, hown, fun w hw => hts0 w (List.mem_cons_of_mem _ hw), hKx, by rw [hsz]; exact Nat.le_add_right _ _⟩
    have hlv := az_entry_lv (az_ad base cs) as hlen
    rw [lg_entry_eq]
    have hR : az_Rl D cA base cs s maxL (az_n σ) (az_sl σ) σ (az_entry as maxL) s.heap [] ((lg_sl (as.map (az_tr (az_ad base cs))) ++ List.replicate (maxL - (lg_sl (as.map (az_tr (az_ad base cs)))).length) Slot.unset).toArray) := ⟨hP, hsz, va_S.rf, hok, hCc, hlv, Nat.le_refl _, Nat.le_refl _⟩
    have hmain := az_sim_run (p := p) (l := l) (e := e) (below := below) (meth := meth) (Q := MQ below (az_Qc D cA base cs r τ) (as.map (az_tr (az_ad base cs))).toArray s (az_n τ - az_n σ) (az_sl τ - az_sl σ) (fun q => base ≤ q)) (ms := ms) (d := d) (mcT := az_n τ - az_n σ) (msT := az_sl τ - az_sl σ) (n0 := az_n σ) (s0 := az_sl σ) hC hml hsz ih (by rw [hin]; exact hcd) ⟨Nat.le_refl _, Nat.le_refl _⟩ ?_ k _ hrun s.heap [] _ hR
    · simp only [Nat.sub_self] at hmain
      exact hmain
    · intro pc len ins L st H locs ls hd hil hrt hR9
      obtain ⟨hP9, hsz9, hS9, hok9, hC9, hlv9, -, -⟩ := hR9
      have hq : ∀ t : State, t.heap = H → az_Qc D cA base cs r τ (as.map (az_tr (az_ad base cs))).toArray s (.returned (r.map (az_tr (az_ad base cs)))) t := fun t ht => ⟨rfl, by rw [ht]; exact hP9, by rw [ht]; exact hsz9, fun q hq => by rw [ht]; exact hS9.2.1 q (by omega) (by omega)⟩
      cases ins
      case return_ =>
        cases hil.resolve_left (by simp [az_il])
        obtain ⟨h1, rfl, rfl⟩ := hrt
        exact W.vret hx hb (hr.trans h1) (fun t ht _ => hq t ht) hS9.2.2 hd
      case ireturn =>
        cases hil.resolve_left (by simp [az_il])
        obtain ⟨v, ty, h1, h2, rfl, rfl⟩ := hrt
        exact W.zret hx hb (hr.trans h1) h2 (fun t ht _ => hq t ht) hS9.2.2 hd
      case lreturn =>
        cases hil.resolve_left (by simp [az_il])
        obtain ⟨v, h1, rfl, rfl⟩ := hrt
        exact W.lret hx hb (hr.trans h1) (fun t ht _ => hq t ht) hS9.2.2 hd
      case areturn =>
        cases hil.resolve_left (by simp [az_il])
        obtain ⟨o, rt', h1, h2, rfl, rfl⟩ := hrt
        have e9 : [va_rf o].map (az_tr (az_ad base cs)) = [va_rf (o.map (az_ad base cs))] := by simp only [List.map_cons, List.map_nil, az_tr_rf]
        rw [e9]
        refine W.aret hx hb (hr.trans h1) h2 (va_rf_or _) (fun t ht _ => ?_) hS9.2.2 hd
        have := hq t ht
        simp only [Option.map_some, az_tr_rf] at this
        exact this
      all_goals exact hrt.elim
