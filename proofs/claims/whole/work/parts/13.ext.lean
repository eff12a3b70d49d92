theorem az_ext.pi {σ : az_S} {a k : Nat} {v : Int32} (hk : (az_sh σ a).1 < 110) : az_ext σ (az_pi σ a k v) := ⟨Nat.le_refl _, Nat.le_refl _, fun h => ⟨h.pi, fun _ _ _ q => q.pi hk⟩⟩
theorem az_ext.pl {σ : az_S} {a k : Nat} {v : Int64} : az_ext σ (az_pl σ a k v) := ⟨Nat.le_refl _, Nat.le_refl _, fun h => ⟨h.pl, fun _ _ _ q => q.pl⟩⟩
theorem az_ext.pr {σ : az_S} {a k : Nat} {v : Option Nat} (hk : (az_sh σ a).1 < 110) : az_ext σ (az_pr σ a k v) := ⟨Nat.le_refl _, Nat.le_refl _, fun h => ⟨h.pr, fun _ _ _ q => q.pr hk⟩⟩
theorem az_ext.nw {σ : az_S} {kd mm : Nat} (hn : az_n σ < 1000000) (hk : kd < 110) : az_ext σ (az_nw σ kd mm) := ⟨Nat.le_succ _, Nat.le_add_right _ _, fun h => ⟨h.nw hn hk, fun _ _ _ q => q.nw h hn hk⟩⟩
theorem az_ft_lt {ci k : Nat} (h : az_ft ci k = 1 ∨ az_ft ci k = 2) : ci < 110 ∨ ci = 113 := by
  by_cases h1 : ci < 110
  · exact Or.inl h1
  by_cases h2 : ci = 113
  · exact Or.inr h2
  exfalso
  unfold az_ft at h
  split at h <;> first | omega | (rcases h with h | h <;> cases h)
set_option maxHeartbeats 4000000 in
theorem az_next_ext {pc len : Nat} {ins : Instr} {aux : List Nat} {L : az_V} {st : List Value} {σ : az_S} {F : az_F} (h : az_next pc len ins aux L st σ F) (hpf : ∀ i ci k, ins = .putfield i → aux = [ci, k] → ci < 14) : az_ext σ F.2.2.2 := by
  cases ins
  case iconst n => cases h; exact .rf
  case bipush n => cases h; exact .rf
  case sipush n => cases h; exact .rf
  case lconst n => cases h; exact .rf
  case aconst_null => cases h; exact .rf
  case iload_n k => obtain ⟨v, h1, rfl⟩ := h; exact .rf
  case iload k => obtain ⟨v, h1, rfl⟩ := h; exact .rf
  case lload_n k => obtain ⟨v, h1, rfl⟩ := h; exact .rf
  case lload k => obtain ⟨v, h1, rfl⟩ := h; exact .rf
  case aload_n k => obtain ⟨v, h1, rfl⟩ := h; exact .rf
  case aload k => obtain ⟨v, h1, rfl⟩ := h; exact .rf
  case istore_n k => obtain ⟨v, r, rfl, h2, rfl⟩ := h; exact .rf
  case istore k => obtain ⟨v, r, rfl, h2, rfl⟩ := h; exact .rf
  case lstore_n k => obtain ⟨v, r, rfl, h2, rfl⟩ := h; exact .rf
  case lstore k => obtain ⟨v, r, rfl, h2, rfl⟩ := h; exact .rf
  case astore_n k => obtain ⟨v, r, rfl, h2, rfl⟩ := h; exact .rf
  case astore k => obtain ⟨v, r, rfl, h2, rfl⟩ := h; exact .rf
  case iinc k n => obtain ⟨v, h1, rfl⟩ := h; exact .rf
  case iadd => obtain ⟨x, y, r, rfl, rfl⟩ := h; exact .rf
  case isub => obtain ⟨x, y, r, rfl, rfl⟩ := h; exact .rf
  case imul => obtain ⟨x, y, r, rfl, rfl⟩ := h; exact .rf
  case idiv => obtain ⟨x, y, r, rfl, h0, rfl⟩ := h; exact .rf
  case irem => obtain ⟨x, y, r, rfl, h0, rfl⟩ := h; exact .rf
  case iand => obtain ⟨x, y, r, rfl, rfl⟩ := h; exact .rf
  case ior => obtain ⟨x, y, r, rfl, rfl⟩ := h; exact .rf
  case ixor => obtain ⟨x, y, r, rfl, rfl⟩ := h; exact .rf
  case ishl => obtain ⟨x, y, r, rfl, rfl⟩ := h; exact .rf
  case ishr => obtain ⟨x, y, r, rfl, rfl⟩ := h; exact .rf
  case iushr => obtain ⟨x, y, r, rfl, rfl⟩ := h; exact .rf
  case ineg => obtain ⟨x, r, rfl, rfl⟩ := h; exact .rf
  case ladd => obtain ⟨x, y, r, rfl, rfl⟩ := h; exact .rf
  case lsub => obtain ⟨x, y, r, rfl, rfl⟩ := h; exact .rf
  case lmul => obtain ⟨x, y, r, rfl, rfl⟩ := h; exact .rf
  case ldiv => obtain ⟨x, y, r, rfl, h0, rfl⟩ := h; exact .rf
  case land => obtain ⟨x, y, r, rfl, rfl⟩ := h; exact .rf
  case lor => obtain ⟨x, y, r, rfl, rfl⟩ := h; exact .rf
  case lneg => obtain ⟨x, r, rfl, rfl⟩ := h; exact .rf
  case i2l => obtain ⟨x, r, rfl, rfl⟩ := h; exact .rf
  case l2i => obtain ⟨x, r, rfl, rfl⟩ := h; exact .rf
  case i2b => obtain ⟨x, r, rfl, rfl⟩ := h; exact .rf
  case i2c => obtain ⟨x, r, rfl, rfl⟩ := h; exact .rf
  case lcmp => obtain ⟨x, y, r, rfl, rfl⟩ := h; exact .rf
  case dup => obtain ⟨v, r, rfl, h1, rfl⟩ := h; exact .rf
  case pop => obtain ⟨v, r, rfl, h1, rfl⟩ := h; exact .rf
  case dup_x1 => obtain ⟨v, w, r, rfl, h1, h2, rfl⟩ := h; exact .rf
  case dup2 => obtain ⟨v, w, r, rfl, h1, h2, rfl⟩ := h; exact .rf
  case goto off => cases h; exact .rf
  case ifCond cd off => obtain ⟨x, r, rfl, ⟨h1, rfl⟩ | ⟨h1, rfl⟩⟩ := h <;> exact .rf
  case if_icmp cd off => obtain ⟨x, y, r, rfl, ⟨h1, rfl⟩ | ⟨h1, rfl⟩⟩ := h <;> exact .rf
  case if_acmp cd off => obtain ⟨x, r, rfl, rfl⟩ := h; exact .rf
  case ifnull off => obtain ⟨x, r, rfl, ⟨h1, rfl⟩ | ⟨h1, rfl⟩⟩ := h <;> exact .rf
  case tableswitch d lo hi offs => obtain ⟨x, r, rfl, ⟨h1, rfl⟩ | ⟨off, h1, h2, h3, rfl⟩⟩ := h <;> exact .rf
  case lookupswitch d ps => obtain ⟨x, r, rfl, h1, rfl⟩ := h; exact .rf
  case ldc i => obtain ⟨v, rfl, rfl⟩ | ⟨v, rfl, rfl⟩ := h <;> exact .rf
  case ldc_w i => obtain ⟨v, rfl, rfl⟩ := h; exact .rf
  case ldc2_w i => obtain ⟨v, rfl, rfl⟩ := h; exact .rf
  case getstatic i => obtain ⟨k, kd, rfl, rfl⟩ := h; exact .rf
  case getfield i => obtain ⟨ci, k, a, r, rfl, rfl, hk, rfl⟩ := h; exact .rf
  case putfield i =>
    obtain ⟨ci, k, a, rfl, hk, h⟩ := h
    have hci := hpf i ci k rfl rfl
    obtain ⟨_, v, r, rfl, rfl⟩ | ⟨_, v, r, rfl, rfl⟩ | ⟨_, v, r, rfl, rfl⟩ := h
    · exact .pi (by omega)
    · exact .pl
    · exact .pr (by omega)
  case iaload => obtain ⟨i, a, r, rfl, hk, hin, rfl⟩ := h; exact .rf
  case baload => obtain ⟨i, a, r, rfl, hk, hin, rfl⟩ := h; exact .rf
  case laload => obtain ⟨i, a, r, rfl, hk, hin, rfl⟩ := h; exact .rf
  case aaload => obtain ⟨i, a, r, rfl, hk, hin, rfl⟩ := h; exact .rf
  case iastore => obtain ⟨x, i, a, r, rfl, hk, hin, rfl⟩ := h; exact .pi (by omega)
  case bastore => obtain ⟨x, i, a, r, rfl, hin, ⟨hk, rfl⟩ | ⟨hk, rfl⟩⟩ := h <;> exact .pi (by omega)
  case lastore => obtain ⟨x, i, a, r, rfl, hk, hin, rfl⟩ := h; exact .pl
  case aastore => obtain ⟨v, i, a, r, rfl, hk, hkv, hin, rfl⟩ := h; exact .pr (by omega)
  case arraylength => obtain ⟨a, r, rfl, hk, rfl⟩ := h; exact .rf
  case newarray t =>
    obtain ⟨n, r, rfl, h1, h2, h3, h4, rfl⟩ := h
    refine .nw h4 ?_
    cases t <;> decide
  case anewarray i => obtain ⟨n, r, rfl, h1, h2, h3, rfl⟩ := h; exact .nw h3 (by decide)
  case new i => obtain ⟨ci, rfl, h1, h2, rfl⟩ := h; exact .nw h2 (by omega)
  case checkcast i => obtain ⟨ci, a, r, rfl, hci, rfl, hk, rfl⟩ := h; exact .rf
  all_goals exact h.elim
/-- an array of references filled out of another -/
abbrev az_cp (σ : az_S) (a b n : Nat) : az_S := (σ.1, σ.2.1, σ.2.2.1, σ.2.2.2.1, σ.2.2.2.2.1, va_up σ.2.2.2.2.2 b (va_cpy (az_r σ a) (az_r σ b) 0 0 n))
theorem az_ext.cp {σ : az_S} {a b n : Nat} (hk : (az_sh σ b).1 < 110) : az_ext σ (az_cp σ a b n) := by
  refine ⟨Nat.le_refl _, Nat.le_refl _, fun h => ⟨h, fun _ _ _ q => ?_⟩⟩
  refine q.upd fun x hx => ?_
  have hb' : 110 ≤ (az_sh σ x).1 := by rcases hx with h | h <;> exact h.1
  have e : x ≠ b := fun e => by subst e; omega
  exact ⟨rfl, rfl, by simp [az_r, va_up, e]⟩
theorem az_E_cp {cA : Nat → ClassId} {ad : Nat → Nat} {σ : az_S} {a b n x : Nat} (h : x ≠ b) : az_E cA ad (az_cp σ a b n) x = az_E cA ad σ x := by
  have hf : ∀ j q, az_fv (az_cp σ a b n) x j q = az_fv σ x j q := by
    intro j q
    unfold az_fv
    split <;> simp [az_i, az_l, az_r, va_up, h]
  unfold az_E
  simp only [hf]
  simp [az_i, az_l, az_r, az_sh, va_up, h]
/-- what the tables must say of the three calls that stand for a step -/
def az_slink (own : String) (k : Nat) (ins : Instr) : Prop := match ins with
  | .invokespecial i => k = 3 ∧ Cond.methodLink own i Lib.objectInit ∈ az_G ∧ Cond.instanceMethod Lib.objectInit ∈ az_G ∧ Cond.code Lib.objectInit ⟨#[0xb1]⟩ 1 none ∈ az_G
  | .invokevirtual i => k = 4 ∧ Cond.methodLink own i ⟨"java/lang/Object", "getClass", "()Ljava/lang/Class;"⟩ ∈ az_G ∧ Cond.selects "[Ljava/lang/Object;" ⟨"java/lang/Object", "getClass", "()Ljava/lang/Class;"⟩ ⟨"java/lang/Object", "getClass", "()Ljava/lang/Class;"⟩ ∈ az_G ∧ Cond.instanceMethod ⟨"java/lang/Object", "getClass", "()Ljava/lang/Class;"⟩ ∈ az_G ∧ Cond.native ⟨"java/lang/Object", "getClass", "()Ljava/lang/Class;"⟩ ∈ az_G
  | .invokestatic i => k = 5 ∧ Cond.methodLink own i arraycopyName ∈ az_G ∧ Cond.native arraycopyName ∈ az_G ∧ Cond.static arraycopyName ∈ az_G ∧ Cond.initialized "java/lang/System" ∈ az_G
  | _ => False
section AzSpec
variable {p : Program} {l : Launch} {e : Env} {s : State} {m : MethodId} {args : Array Value} {below : List Frame} {meth : Method} {c : Code} {Q : State → Prop} {cc : ByteArray} {own : String}
variable {D : va_G} {cA : Nat → ClassId} {base : Nat} {cs : Nat → Nat} {nL n0 s0 : Nat}
set_option maxHeartbeats 4000000 in
theorem az_sim_spec {d pc k : Nat} {ins : Instr} {E : Nat → List Value → az_S → Option Value → az_S → Prop} {L : az_V} {st : List Value} {σ : az_S} {F : az_F} {H : Heap} {locs : List Loc} {ls : Array Slot} {mcT msT : Nat} (hC : az_Cx D cA base cs p s m args c cc own) (hml : c.maxLocals = nL) (hb0 : s.heap.size = base + n0) (hd : decode cc pc = .ok (ins, 3)) (hl : az_slink own k ins) (hn : az_step E pc 3 ins [1, 2, k] L st σ F)
    (hR : az_Rl D cA base cs s nL n0 s0 σ L H locs ls)
    (kk : ∀ (H' : Heap) (locs' : List Loc) (ls' : Array Slot), az_Rl D cA base cs s nL n0 s0 F.2.2.2 F.2.1 H' locs' ls' → W p l e (az_rm (d + 1) mcT msT) s m args below meth c H' locs' (az_n F.2.2.2 - n0) (az_sl F.2.2.2 - s0) Q (F0 m F.1 ls' (F.2.2.1.map (az_tr (az_ad base cs))))) :
    W p l e (az_rm (d + 1) mcT msT) s m args below meth c H locs (az_n σ - n0) (az_sl σ - s0) Q (F0 m pc ls (st.map (az_tr (az_ad base cs)))) := by
  obtain ⟨hx, hb, hown, hts, hKx, hbase⟩ := hC
  obtain ⟨hP, hsz, hS, hok, hCc, hlv, hn0, hs0⟩ := id hR
  have hfr : 1 ≤ (az_rm (d + 1) mcT msT).frames := Nat.le_add_left 1 d
  have hlo : 80 ≤ (az_rm (d + 1) mcT msT).locals := by show 80 ≤ 80 * (d + 1); omega
  cases ins
  case invokespecial i =>
    obtain ⟨rfl, h1, h2, h3⟩ := hl
    obtain ⟨-, a, r, rfl, hcat, rfl⟩ := hn
    have hcat' : ((r.map (az_tr (az_ad base cs))).map fun v => v.category).sum ≤ 8 := by rw [az_tr_cats]; exact hcat
    refine W.objInit (a := az_ad base cs a) (rest := r.map (az_tr (az_ad base cs))) hx hb hown (hts _ h1) (hts _ h2) (hts _ h3) rfl (by rw [hml]; exact hlv.1) rfl hd hfr ?_ (kk H locs ls hR)
    show 2 * 0 + _ + 12 ≤ _
    omega
  case invokevirtual i =>
    obtain ⟨rfl, h1, h2, h3, h4⟩ := hl
    obtain ⟨-, a, r, rfl, hcat, hk, rfl⟩ := hn
    have hcat' : ((r.map (az_tr (az_ad base cs))).map fun v => v.category).sum ≤ 8 := by rw [az_tr_cats]; exact hcat
    obtain ⟨ha, -⟩ := hok.lt (a := a) (by omega)
    have hg := hP a _ (az_ws_get ha)
    rw [az_E_ref hk] at hg
    have hnm := va_nmO (nm := "[Ljava/lang/Object;") (hKx.1.2 4 _ rfl).2 rfl
    have h9 := kk H locs ls hR
    exact va_getC (C := "[Ljava/lang/Object;") (mi := cs 1000005) hx hb (by rw [hml]; exact hlv.1.symm) hown (hts _ h1) (va_Dc.use hKx.2.2.2.2.1) (hts _ h2) (hts _ h3) (hts _ h4) hKx.2.2.2.1 ⟨_, hg, rfl, hnm⟩ hfr (by omega) hd h9
  case invokestatic i =>
    obtain ⟨rfl, h1, h2, h3, h4⟩ := hl
    obtain ⟨-, n, a, r, b, rfl, hn1, hcat, hka, hkb, hab, hla, hlb, hel, rfl⟩ := hn
    have hcat' : ((r.map (az_tr (az_ad base cs))).map fun v => v.category).sum ≤ 8 := by rw [az_tr_cats]; exact hcat
    have hD := az_D (cA := cA) (base := base) (cs := cs) hok.2.1
    obtain ⟨ha, -⟩ := hok.lt (a := a) (by omega)
    obtain ⟨hb2, -⟩ := hok.lt (a := b) (by omega)
    have hga := (az_ws_get (cA := cA) (ad := az_ad base cs) ha).trans (by rw [az_E_ref hka])
    have hgb := (az_ws_get (cA := cA) (ad := az_ad base cs) hb2).trans (by rw [az_E_ref hkb])
    refine va_copyM (E0 := "java/lang/Object") (E1 := "java/lang/Object") (sp := 0) (dp := 0) (n := n) (rest := r.map (az_tr (az_ad base cs))) hx hb (by rw [hml]; exact hlv.1.symm) hown (hts _ h1) (hts _ h2) (hts _ h3) (hts _ h4) hKx.1 hP hD hS a b 4 4 hga hgb rfl rfl (by decide) (by decide) hn1 (by rw [sb_cl0]; omega) (by rw [sb_cl0]; omega) ?_ hfr ?_ hd (fun H1 locs1 hP1 _ hS1 => az_sized (fun hz => kk H1 locs1 ls (hR.set (a := b) (τ := az_cp σ a b n.toNatClampNeg) rfl rfl hz hb0 ?_ (fun x hx => az_E_cp hx) hS1 hok ((az_ext.cp (by omega)).2.2 hok |>.2 base cs s hCc))))
    · intro i hi y hy
      rw [sb_cl0, Nat.zero_add] at hy
      obtain ⟨v, hv1, hv2⟩ := hel i hi
      rw [hv1] at hy
      cases hy
      obtain ⟨q, hq⟩ := az_clt _ hv2
      obtain ⟨hv, -⟩ := hok.lt (a := v) (by omega)
      refine va_rAny hKx.1 hP (q0 := v) (by rw [az_ws_get hv, az_E_obj rfl hv2]) hq ?_
      intro comp c0 hc1 hc2
      obtain ⟨c3, t3, f1, f2, f3⟩ := Cond.castable_spec (va_Nw.use (A := args) rfl (hKx.2.1 _ (az_ccast _ q hq) rfl))
      cases hc1.symm.trans f2
      cases hc2.symm.trans f1
      exact f3
    · have : nativeFrameWords "java/lang/System" "arraycopy" 5 ≤ 40 := by decide
      omega
    · have e : (fun j => (az_r (az_cp σ a b n.toNatClampNeg) b j).map (az_ad base cs)) = va_cpy (fun j => (az_r σ a j).map (az_ad base cs)) (fun j => (az_r σ b j).map (az_ad base cs)) 0 0 n.toNatClampNeg := by
        funext j
        simp only [az_r, va_up, if_true, va_cpy]
        split <;> rfl
      rw [az_E_ref (σ := az_cp σ a b n.toNatClampNeg) hkb, e]
      rw [sb_cl0] at hP1
      exact hP1
  all_goals exact hl.elim
end AzSpec
