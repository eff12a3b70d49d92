/-! CALLS -/
def az_ws1 (Y : MethodName) (bytes : ByteArray) (maxL : Nat) (ret : Option FieldType) : List Cond := Cond.code Y bytes maxL ret :: az_G
def az_rm (d mc ms : Nat) : Room := { frames := d, cells := mc, slots := ms, locals := 80 * d }
def az_Pc (D : va_G) (cA : Nat → ClassId) (base : Nat) (cs : Nat → Nat) (as : List Value) (σ : az_S) : Array Value → State → Prop := va_Pc (as.map (az_tr (az_ad base cs))) (fun U => U.heap.size = base + az_n σ ∧ va_P D vwCl (az_ws cA (az_ad base cs) σ) U.heap ∧ az_Kx D cA cs U ∧ az_C base cs σ U)
def az_Qc (D : va_G) (cA : Nat → ClassId) (base : Nat) (cs : Nat → Nat) (r : Option Value) (τ : az_S) : Array Value → State → Outcome → State → Prop := fun _ st oc t => oc = .returned (r.map (az_tr (az_ad base cs))) ∧ va_P D vwCl (az_ws cA (az_ad base cs) τ) t.heap ∧ t.heap.size = base + az_n τ ∧ ∀ q, q < base → t.heap[q]? = st.heap[q]?
/-- what an abstract run keeps -/
def az_ext (σ τ : az_S) : Prop := az_n σ ≤ az_n τ ∧ az_sl σ ≤ az_sl τ ∧ (az_ok σ → az_ok τ ∧ ∀ (base : Nat) (cs : Nat → Nat) (U : State), az_C base cs σ U → az_C base cs τ U)
theorem az_ext.rf {σ : az_S} : az_ext σ σ := ⟨Nat.le_refl _, Nat.le_refl _, fun h => ⟨h, fun _ _ _ h => h⟩⟩
theorem az_ext.tr {σ τ ρ : az_S} (h1 : az_ext σ τ) (h2 : az_ext τ ρ) : az_ext σ ρ := ⟨Nat.le_trans h1.1 h2.1, Nat.le_trans h1.2.1 h2.2.1, fun h => by
  obtain ⟨a1, b1⟩ := h1.2.2 h
  obtain ⟨a2, b2⟩ := h2.2.2 a1
  exact ⟨a2, fun base cs U h => b2 base cs U (b1 base cs U h)⟩⟩
def az_Met (l : Launch) (D : va_G) (cA : Nat → ClassId) (base : Nat) (cs : Nat → Nat) (d : Nat) (Y : MethodName) (bytes : ByteArray) (maxL : Nat) (ret : Option FieldType) (as : List Value) (σ : az_S) (r : Option Value) (τ : az_S) : Prop :=
  az_ok σ → Met l Y (az_ws1 Y bytes maxL ret) (az_rm d (az_n τ - az_n σ) (az_sl τ - az_sl σ)) (az_Pc D cA base cs as σ) (az_Qc D cA base cs r τ) (az_n τ - az_n σ) (az_sl τ - az_sl σ) (fun q => base ≤ q)
theorem az_GG (Y : MethodName) (bytes : ByteArray) (maxL : Nat) (ret : Option FieldType) (h : Cond.code Y bytes maxL ret ∈ az_G) : GoodIn az_G (az_ws1 Y bytes maxL ret) := by
  intro w hw
  have hw' : w ∈ az_G := by
    rcases List.mem_cons.mp hw with e | e
    · rw [e]; exact h
    · exact e
  exact ⟨hw', good_of_word (List.mem_filter.mp hw').2⟩
theorem az_blind {D : va_G} {cA : Nat → ClassId} {base : Nat} {cs : Nat → Nat} {as : List Value} {σ : az_S} : FrameBlind (az_Pc D cA base cs as σ) := by
  intro a U g mk h
  obtain ⟨h1, h2, h3, h4, h5⟩ := h
  exact ⟨h1, h2, h3, h4.same (s := U) (U := U.calling g mk a) rfl, h5.to (u := U) (U := U.calling g mk a) (Vm.Alike.refl U.vm) (fun _ _ _ => rfl)⟩
/-- what the tables must say of a call -/
def az_clink (own : String) (ins : Instr) (Y : MethodName) (bytes : ByteArray) (maxL : Nat) (ret : Option FieldType) (n kc : Nat) : Prop :=
  Cond.code Y bytes maxL ret ∈ az_G ∧ Cond.initialized Y.cls ∈ az_G ∧ (Y.cls ≠ "java/lang/invoke/MethodHandle" ∧ Y.cls ≠ "java/lang/invoke/VarHandle") ∧ maxL ≤ 60 ∧ match ins with
  | .invokevirtual i => (parseMethodDescriptor Y.desc).map (fun d => d.parameters.length + 1) = some n ∧ ((∃ q, vwCl[kc]? = some q ∧ Y.cls = q.1) ∨ (kc = 113 ∧ Y.cls = "java/lang/String")) ∧ Cond.methodLink own i Y ∈ az_G ∧ Cond.instanceMethod Y ∈ az_G ∧ Cond.selects Y.cls Y Y ∈ az_G
  | .invokestatic i => (parseMethodDescriptor Y.desc).map (fun d => d.parameters.length) = some n ∧ (Cond.methodLink own i Y ∈ az_G ∨ ∃ host, Cond.methodLinkNest own i Y host ∈ lw_tbl) ∧ Cond.static Y ∈ az_G
  | .invokespecial i => (parseMethodDescriptor Y.desc).map (fun d => d.parameters.length + 1) = some n ∧ kc < 999 ∧ ret = none ∧ Y.name = "<init>" ∧ (Cond.methodLink own i Y ∈ az_G ∨ ∃ host, Cond.methodLinkNest own i Y host ∈ lw_tbl) ∧ Cond.instanceMethod Y ∈ az_G
  | _ => False
theorem az_fit {a b n T : Nat} (h1 : a ≤ b) (h2 : n ≤ a) (h3 : b - n ≤ T) : a - n + (b - a) ≤ T := by omega
section AzCall
variable {p : Program} {l : Launch} {e : Env} {s : State} {m : MethodId} {args : Array Value} {below : List Frame} {meth : Method} {c : Code} {Q : State → Prop} {cc : ByteArray} {own : String}
variable {D : va_G} {cA : Nat → ClassId} {base : Nat} {cs : Nat → Nat} {nL n0 s0 : Nat}
/-- behind a call -/
theorem az_back {R : Room} {d pc mc ms : Nat} {σ τ : az_S} {L : az_V} {r : Option Value} {rest st0 : List Value} {H : Heap} {locs : List Loc} {ls : Array Slot} {a : Array Value} (hb0 : s.heap.size = base + n0) (hR : az_Rl D cA base cs s nL n0 s0 σ L H locs ls) (hext : az_ext σ τ) (hmc : mc = az_n τ - az_n σ) (hms : ms = az_sl τ - az_sl σ)
    (hr : va_Run p l e R s m args below meth c H locs (az_n σ - n0) (az_sl σ - s0) mc ms (F0 m pc ls st0) (rest.map (az_tr (az_ad base cs))) (az_Qc D cA base cs r τ a) (fun q => base ≤ q))
    (kk : ∀ (H' : Heap) (locs' : List Loc) (ls' : Array Slot), az_Rl D cA base cs s nL n0 s0 τ L H' locs' ls' → W p l e R s m args below meth c H' locs' (az_n τ - n0) (az_sl τ - s0) Q (F0 m (pc + 3) ls' ((r.toList ++ rest).map (az_tr (az_ad base cs))))) :
    W p l e R s m args below meth c H locs (az_n σ - n0) (az_sl σ - s0) Q (F0 m pc ls st0) := by
  obtain ⟨hP, hsz, hS, hok, hCc, hlv, hn0, hs0⟩ := id hR
  obtain ⟨hx1, hx2, hx3⟩ := hext
  obtain ⟨hok', hC'⟩ := hx3 hok
  intro T hT X
  obtain ⟨v, st₀, t, T', LL, h0, X', hL, e1, e2, ⟨hv, hP1, hz1, hfr⟩, st⟩ := hr T hT X
  cases hv
  have hS1 : va_S (fun q => base ≤ q) s.heap t.heap (locs ++ LL) := by
    refine ⟨?_, fun q h1 h2 => ?_, fun q hq => ?_⟩
    · rw [hz1, hb0]; omega
    · rw [hfr q (by omega), h0]; exact hS.2.1 q h1 h2
    · rcases List.mem_append.mp hq with h | h
      · exact hS.2.2 q h
      · exact hL q h
  have hR1 : az_Rl D cA base cs s nL n0 s0 τ L t.heap (locs ++ LL) ls := ⟨hP1, hz1, hS1, hok', hC' base cs s hCc, hlv, Nat.le_trans hn0 hx1, Nat.le_trans hs0 hx2⟩
  have eN : az_n σ - n0 + mc = az_n τ - n0 := by omega
  have eS : az_sl σ - s0 + ms = az_sl τ - s0 := by omega
  rw [eN, eS] at X'
  obtain ⟨t2, a1, b1⟩ := kk t.heap (locs ++ LL) ls hR1 T' e1 X'
  refine ⟨t2, st t2 ?_, b1⟩
  have ev : (r.map (az_tr (az_ad base cs))).toList ++ rest.map (az_tr (az_ad base cs)) = (r.toList ++ rest).map (az_tr (az_ad base cs)) := by
    cases r <;> simp
  show Steps p.tables e below (T'.setTop (F0 m (pc + 3) ls ((r.map (az_tr (az_ad base cs))).toList ++ rest.map (az_tr (az_ad base cs))))) t2
  rw [ev]
  exact a1
set_option maxHeartbeats 4000000 in
theorem az_sim_call {d pc n kc : Nat} {ins : Instr} {Y : MethodName} {bytes : ByteArray} {maxL : Nat} {ret : Option FieldType} {L : az_V} {st : List Value} {σ τ : az_S} {r : Option Value} {H : Heap} {locs : List Loc} {ls : Array Slot} {mcT msT : Nat} (hC : az_Cx D cA base cs p s m args c cc own) (hml : c.maxLocals = nL) (hb0 : s.heap.size = base + n0) (hd : decode cc pc = .ok (ins, 3)) (hl : az_clink own ins Y bytes maxL ret n kc)
    (hlen : n ≤ st.length) (hcat : ((st.drop n).map fun v => v.category).sum ≤ 8) (hrec : kc = 999 ∨ ∃ a, (st.take n).reverse.head? = some (.ref a) ∧ (az_sh σ a).1 = kc)
    (hext : az_ext σ τ) (hM : az_Met l D cA base cs d Y bytes maxL ret (st.take n).reverse σ r τ)
    (hR : az_Rl D cA base cs s nL n0 s0 σ L H locs ls) (hroom : az_n τ - n0 ≤ mcT ∧ az_sl τ - s0 ≤ msT)
    (kk : ∀ (H' : Heap) (locs' : List Loc) (ls' : Array Slot), az_Rl D cA base cs s nL n0 s0 τ L H' locs' ls' → W p l e (az_rm (d + 1) mcT msT) s m args below meth c H' locs' (az_n τ - n0) (az_sl τ - s0) Q (F0 m (pc + 3) ls' ((r.toList ++ st.drop n).map (az_tr (az_ad base cs))))) :
    W p l e (az_rm (d + 1) mcT msT) s m args below meth c H locs (az_n σ - n0) (az_sl σ - s0) Q (F0 m pc ls (st.map (az_tr (az_ad base cs)))) := by
  obtain ⟨hx, hb, hown, hts, hKx, hbase⟩ := hC
  obtain ⟨hP, hsz, hS, hok, hCc, hlv, hn0, hs0⟩ := id hR
  have hM1 := hM hok
  obtain ⟨hcode, hini, hy, hmL, hl⟩ := hl
  have hcat' : (((st.drop n).map (az_tr (az_ad base cs))).map fun v => v.category).sum ≤ 8 := by rw [az_tr_cats]; exact hcat
  have hsplit : st = (st.take n).reverse.reverse ++ st.drop n := by rw [List.reverse_reverse, List.take_append_drop]
  have hlen2 : (st.take n).reverse.length = n := by simp [Nat.min_eq_left hlen]
  generalize (st.take n).reverse = as at hsplit hlen2 hM1 hrec
  generalize st.drop n = rest at hsplit hcat' kk
  subst hsplit
  have hPre : ∀ U : State, U.heap = H → s.WarmedH U.vm → az_Pc D cA base cs as σ (as.map (az_tr (az_ad base cs))).toArray U := fun U hU hW => ⟨rfl, by rw [hU]; exact hsz, by rw [hU]; exact hP, hKx.warm hW, hCc.to hW.alike (fun q h1 h2 => by rw [hU]; exact hS.2.1 q h1 h2)⟩
  have hfit : az_n σ - n0 + (az_n τ - az_n σ) ≤ (az_rm (d + 1) mcT msT).cells ∧ az_sl σ - s0 + (az_sl τ - az_sl σ) ≤ (az_rm (d + 1) mcT msT).slots := by
    exact ⟨az_fit hext.1 hn0 hroom.1, az_fit hext.2.1 hs0 hroom.2⟩
  have hRm : (az_rm d (az_n τ - az_n σ) (az_sl τ - az_sl σ)).frames + 1 ≤ (az_rm (d + 1) mcT msT).frames ∧ 8 + (maxL + 11) + (az_rm d (az_n τ - az_n σ) (az_sl τ - az_sl σ)).locals ≤ (az_rm (d + 1) mcT msT).locals := by
    show d + 1 ≤ d + 1 ∧ 8 + (maxL + 11) + 80 * d ≤ 80 * (d + 1)
    omega
  have hGG := az_GG Y bytes maxL ret hcode
  have hnp : ∀ {k : Nat}, (parseMethodDescriptor Y.desc).map (fun d => d.parameters.length + 1) = some (k + 1) → (parseMethodDescriptor Y.desc).map (fun d => d.parameters.length) = some k := by
    intro k h
    cases hpd : parseMethodDescriptor Y.desc with
    | none => rw [hpd] at h; cases h
    | some sg => rw [hpd] at h; simp at h ⊢; exact h
  cases ins
  case invokevirtual i =>
    obtain ⟨hnp1, hcls, hlk, hin, hsel⟩ := hl
    have hrec' : ∃ a, as.head? = some (.ref a) ∧ (az_sh σ a).1 = kc := by
      rcases hrec with h | h
      · exfalso
        rcases hcls with ⟨q, hq, -⟩ | ⟨hq, -⟩
        · rw [h] at hq; simp [vwCl] at hq
        · omega
      · exact h
    obtain ⟨b0, hh, hkb⟩ := hrec'
    cases as with
    | nil => cases hh
    | cons v0 As =>
      cases hh
      cases n with
      | zero => cases hlen2
      | succ n =>
      have hAs : As.length = n := Nat.succ.inj hlen2
      have hrv : ∃ cellB : Cell, H[az_ad base cs b0]? = some cellB ∧ cellB.vm.isStatics = false ∧ s.vm.findClass Y.cls = some cellB.cls := by
        rcases hcls with ⟨q, hq, hYc⟩ | ⟨hk, hYc⟩
        · have hci : kc < 14 := by
            have := (List.getElem?_eq_some_iff.mp hq).1
            simpa [vwCl] using this
          obtain ⟨ha, -⟩ := hok.lt (a := b0) (by omega)
          rw [hYc]
          exact va_recv hKx.1 hP hq (q0 := b0) (by rw [az_ws_get ha, az_E_obj hkb hci])
        · have hg := hok.ge (a := b0) (by omega)
          have := (hCc.2.2.2.1 b0 (by rw [hkb, hk])).2.2
          rw [← az_ad_ge (base := base) (cs := cs) hg] at this
          rw [hYc]
          exact va_Orecv this hS
      refine az_back (d := d) (a := (Value.ref (az_ad base cs b0) :: As.map (az_tr (az_ad base cs))).toArray) hb0 hR hext rfl rfl (va_runV (C := Y.cls) (As := As.map (az_tr (az_ad base cs))) (n := n) ⟨hx, hb, hml, hown, hts⟩ hM1 ⟨callB_of (bytes := bytes) (maxL := maxL) (ret := ret) (ws' := az_G) n hts hGG rfl rfl rfl (hts _ hini) (hts _ hlk) ⟨hy.1, hy.2, hnp hnp1⟩ hRm, hts _ hin, hts _ hsel⟩ ⟨az_blind, hrv, hPre⟩ rfl (by simp [hAs]) hlv.1 ?_ (lv_room hcat') hd hfit) kk
      simp [az_tr, List.map_append, List.map_reverse]
  case invokestatic i =>
    obtain ⟨hnp1, hlk, hstt⟩ := hl
    have hst9 : (F0 m pc ls ((as.reverse ++ rest).map (az_tr (az_ad base cs)))).stack = (as.map (az_tr (az_ad base cs))).reverse ++ rest.map (az_tr (az_ad base cs)) := by simp [List.map_append, List.map_reverse]
    rcases hlk with hlk | ⟨host, hlk⟩
    · exact az_back (d := d) (a := (as.map (az_tr (az_ad base cs))).toArray) hb0 hR hext rfl rfl (va_runS (As := as.map (az_tr (az_ad base cs))) (n := n) ⟨hx, hb, hml, hown, hts⟩ hM1 ⟨callB_of (bytes := bytes) (maxL := maxL) (ret := ret) (ws' := az_G) n hts hGG rfl rfl rfl (hts _ hini) (hts _ hlk) ⟨hy.1, hy.2, hnp1⟩ hRm, hts _ hstt⟩ ⟨az_blind, hPre⟩ rfl (by simp [hlen2]) hlv.1 hst9 (lv_room hcat') hd hfit) kk
    · exact az_back (d := d) (a := (as.map (az_tr (az_ad base cs))).toArray) hb0 hR hext rfl rfl (va_runSN (As := as.map (az_tr (az_ad base cs))) (n := n) ⟨hx, hb, hml, hown, hts⟩ hM1 ⟨va_cnB (bytes := bytes) (maxL := maxL) (ret := ret) (ws' := az_G) n hts hGG rfl rfl rfl (hKx.2.1 _ hlk rfl) (hts _ hini) ⟨hy.1, hy.2, hnp1⟩ hRm, hts _ hstt, trivial⟩ ⟨az_blind, hPre⟩ rfl (by simp [hlen2]) hlv.1 hst9 (lv_room hcat') hd hfit) kk
  case invokespecial i =>
    obtain ⟨hnp1, hkc, hret, hnm, hlk, hin⟩ := hl
    subst hret
    have hrec' : ∃ a, as.head? = some (.ref a) ∧ (az_sh σ a).1 = kc := by
      rcases hrec with h | h
      · omega
      · exact h
    obtain ⟨b0, hh, hkb⟩ := hrec'
    cases as with
    | nil => cases hh
    | cons v0 As =>
      cases hh
      cases n with
      | zero => cases hlen2
      | succ n =>
      have hAs : As.length = n := Nat.succ.inj hlen2
      have hst9 : (F0 m pc ls (((Value.ref b0 :: As).reverse ++ rest).map (az_tr (az_ad base cs)))).stack = (As.map (az_tr (az_ad base cs))).reverse ++ .ref (az_ad base cs b0) :: rest.map (az_tr (az_ad base cs)) := by simp [az_tr, List.map_append, List.map_reverse]
      rcases hlk with hlk | ⟨host, hlk⟩
      · exact az_back (d := d) (a := (Value.ref (az_ad base cs b0) :: As.map (az_tr (az_ad base cs))).toArray) hb0 hR hext rfl rfl (va_runI (As := As.map (az_tr (az_ad base cs))) (n := n) ⟨hx, hb, hml, hown, hts⟩ hM1 ⟨callB_of (bytes := bytes) (maxL := maxL) (ret := none) (ws' := az_G) n hts hGG rfl rfl rfl (hts _ hini) (hts _ hlk) ⟨hy.1, hy.2, hnp hnp1⟩ hRm, hnm, hts _ hin⟩ ⟨az_blind, hPre⟩ rfl (by simp [hAs]) hlv.1 hst9 (lv_room hcat') hd hfit) kk
      · exact az_back (d := d) (a := (Value.ref (az_ad base cs b0) :: As.map (az_tr (az_ad base cs))).toArray) hb0 hR hext rfl rfl (va_runIN (As := As.map (az_tr (az_ad base cs))) (n := n) ⟨hx, hb, hml, hown, hts⟩ hM1 ⟨va_cnB (bytes := bytes) (maxL := maxL) (ret := none) (ws' := az_G) n hts hGG rfl rfl rfl (hKx.2.1 _ hlk rfl) (hts _ hini) ⟨hy.1, hy.2, hnp hnp1⟩ hRm, hnm, hts _ hin⟩ ⟨az_blind, hPre⟩ rfl (by simp [hAs]) hlv.1 hst9 (lv_room hcat') hd hfit) kk
  all_goals exact hl.elim
end AzCall
