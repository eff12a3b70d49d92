theorem az_lk_off (d : Int) (x : Int) (P : Int → Prop) (hd : P d) : ∀ (l : List (Int × Int)), (∀ o ∈ l, P o.2) → P (Op.lookupswitch.offset l d x) := by
  intro l
  induction l with
  | nil => intro _; exact hd
  | cons a r ih =>
    intro h
    obtain ⟨a, o⟩ := a
    rw [Op.lookupswitch.offset_cons]
    split
    · exact h (a, o) List.mem_cons_self
    · exact ih (fun o ho => h o (List.mem_cons_of_mem _ ho))
section AzSim
variable {p : Program} {l : Launch} {e : Env} {R : Room} {s : State} {m : MethodId} {args : Array Value} {below : List Frame} {meth : Method} {c : Code} {Q : State → Prop} {cc : ByteArray} {own : String}
variable {D : va_G} {cA : Nat → ClassId} {base : Nat} {cs : Nat → Nat} {nL n0 s0 : Nat}
set_option maxHeartbeats 4000000 in
/-- what stays on the stack and in the locals -/
theorem az_sim_a {pc len : Nat} {ins : Instr} {aux : List Nat} {L : az_V} {st : List Value} {σ : az_S} {F : az_F} {H : Heap} {locs : List Loc} {ls : Array Slot} (hC : az_Cx D cA base cs p s m args c cc own) (hn : az_next pc len ins aux L st σ F) (hd : decode cc pc = .ok (ins, len)) (hil : az_il ins = 0 ∨ az_il ins = len) (hj : az_jok pc ins)
    (hins : match ins with | .getfield _ => False | .putfield _ => False | .new _ => False | .checkcast _ => False | .anewarray _ => False | .newarray _ => False | .getstatic _ => False | .ldc _ => False | .ldc_w _ => False | .ldc2_w _ => False | .iaload => False | .baload => False | .laload => False | .aaload => False | .iastore => False | .bastore => False | .lastore => False | .aastore => False | .arraylength => False | _ => True)
    (hR : az_Rl D cA base cs s nL n0 s0 σ L H locs ls)
    (kk : ∀ (ls' : Array Slot), az_Rl D cA base cs s nL n0 s0 F.2.2.2 F.2.1 H locs ls' → W p l e R s m args below meth c H locs (az_n F.2.2.2 - n0) (az_sl F.2.2.2 - s0) Q (F0 m F.1 ls' (F.2.2.1.map (az_tr (az_ad base cs))))) :
    W p l e R s m args below meth c H locs (az_n σ - n0) (az_sl σ - s0) Q (F0 m pc ls (st.map (az_tr (az_ad base cs)))) := by
  obtain ⟨hx, hb, hown, hts, hKx, hbase⟩ := hC
  obtain ⟨hP, hsz, hS, hok, hCc, hlv, hn0, hs0⟩ := id hR
  have hst : ∀ {L' : az_V} {ls' : Array Slot}, az_lv (az_ad base cs) ls' nL L' → az_Rl D cA base cs s nL n0 s0 σ L' H locs ls' := fun h => ⟨hP, hsz, hS, hok, hCc, h, hn0, hs0⟩
  cases ins
  case iconst n => cases hn; cases hil.resolve_left (by simp [az_il]); exact lv_iconst hx hb hd rfl (kk ls hR)
  case bipush n => cases hn; cases hil.resolve_left (by simp [az_il]); exact lv_bipush hx hb hd rfl (kk ls hR)
  case sipush n => cases hn; cases hil.resolve_left (by simp [az_il]); exact lv_sipush hx hb hd rfl (kk ls hR)
  case lconst n => cases hn; cases hil.resolve_left (by simp [az_il]); exact lv_lconst hx hb hd rfl (kk ls hR)
  case aconst_null => cases hn; cases hil.resolve_left (by simp [az_il]); exact lv_null hx hb hd (kk ls hR)
  case iload_n k => obtain ⟨v, h1, rfl⟩ := hn; cases hil.resolve_left (by simp [az_il]); exact lv_iload_n hx hb hd rfl (hlv.2.2.2 _ _ h1) (kk ls hR)
  case iload k => obtain ⟨v, h1, rfl⟩ := hn; cases hil.resolve_left (by simp [az_il]); exact lv_iload hx hb hd (hlv.2.2.2 _ _ h1) (kk ls hR)
  case lload_n k => obtain ⟨v, h1, rfl⟩ := hn; cases hil.resolve_left (by simp [az_il]); exact lv_lload_n hx hb hd rfl (hlv.2.2.2 _ _ h1) (kk ls hR)
  case lload k => obtain ⟨v, h1, rfl⟩ := hn; cases hil.resolve_left (by simp [az_il]); exact lv_lload hx hb hd (hlv.2.2.2 _ _ h1) (kk ls hR)
  case aload_n k =>
    obtain ⟨o, h1, rfl⟩ := hn; cases hil.resolve_left (by simp [az_il])
    cases o with
    | none => exact lv_aload_nN hx hb hd rfl (hlv.2.2.2 _ _ h1) (kk ls hR)
    | some x => exact lv_aload_n hx hb hd rfl (hlv.2.2.2 _ _ h1) (kk ls hR)
  case aload k =>
    obtain ⟨o, h1, rfl⟩ := hn; cases hil.resolve_left (by simp [az_il])
    cases o with
    | none => exact lv_aloadN hx hb hd (hlv.2.2.2 _ _ h1) (kk ls hR)
    | some x => exact lv_aload hx hb hd (hlv.2.2.2 _ _ h1) (kk ls hR)
  case istore_n k => obtain ⟨v, r, rfl, h2, rfl⟩ := hn; cases hil.resolve_left (by simp [az_il]); exact lv_istore_n hx hb hd rfl hlv.has (by rw [← hlv.2.1]; exact h2) rfl (fun ls' h => kk ls' (hst (hlv.put1 (v := .int v) h)))
  case istore k => obtain ⟨v, r, rfl, h2, rfl⟩ := hn; cases hil.resolve_left (by simp [az_il]); exact lv_istore hx hb hd hlv.has (by rw [← hlv.2.1]; exact h2) rfl (fun ls' h => kk ls' (hst (hlv.put1 (v := .int v) h)))
  case lstore_n k => obtain ⟨v, r, rfl, h2, rfl⟩ := hn; cases hil.resolve_left (by simp [az_il]); exact lv_lstore_n hx hb hd rfl hlv.has (by rw [← hlv.2.1]; exact h2) rfl (fun ls' h => kk ls' (hst (hlv.put2 (v := .long v) h)))
  case lstore k => obtain ⟨v, r, rfl, h2, rfl⟩ := hn; cases hil.resolve_left (by simp [az_il]); exact lv_lstore hx hb hd hlv.has (by rw [← hlv.2.1]; exact h2) rfl (fun ls' h => kk ls' (hst (hlv.put2 (v := .long v) h)))
  case astore_n k =>
    obtain ⟨o, r, rfl, h2, rfl⟩ := hn; cases hil.resolve_left (by simp [az_il])
    cases o with
    | none => exact lv_astore_nN hx hb hd rfl hlv.has (by rw [← hlv.2.1]; exact h2) rfl (fun ls' h => kk ls' (hst (hlv.put1 (v := .null) h)))
    | some x => exact lv_astore_n hx hb hd rfl hlv.has (by rw [← hlv.2.1]; exact h2) rfl (fun ls' h => kk ls' (hst (hlv.put1 (v := .ref x) h)))
  case astore k =>
    obtain ⟨o, r, rfl, h2, rfl⟩ := hn; cases hil.resolve_left (by simp [az_il])
    cases o with
    | none => exact lv_astoreN hx hb hd hlv.has (by rw [← hlv.2.1]; exact h2) rfl (fun ls' h => kk ls' (hst (hlv.put1 (v := .null) h)))
    | some x => exact lv_astore hx hb hd hlv.has (by rw [← hlv.2.1]; exact h2) rfl (fun ls' h => kk ls' (hst (hlv.put1 (v := .ref x) h)))
  case iinc k n =>
    obtain ⟨v, h1, rfl⟩ := hn; cases hil.resolve_left (by simp [az_il])
    obtain ⟨q, hq⟩ := List.getElem?_of_mem (az_mem_ll.mpr ⟨_, h1, rfl⟩ : (k, Value.int v) ∈ az_ll (az_ad base cs) L)
    exact lv_iinc hx hb hd hlv.has hq rfl (by rw [← hlv.2.1]; exact az_get_lt h1) rfl (fun ls' h => kk ls' (hst (hlv.put1 (v := .int _) h)))
  case iadd => obtain ⟨x, y, r, rfl, rfl⟩ := hn; cases hil.resolve_left (by simp [az_il]); exact lv_iadd hx hb hd (kk ls hR)
  case isub => obtain ⟨x, y, r, rfl, rfl⟩ := hn; cases hil.resolve_left (by simp [az_il]); exact lv_isub hx hb hd (kk ls hR)
  case imul => obtain ⟨x, y, r, rfl, rfl⟩ := hn; cases hil.resolve_left (by simp [az_il]); exact lv_imul hx hb hd (kk ls hR)
  case idiv => obtain ⟨x, y, r, rfl, h0, rfl⟩ := hn; cases hil.resolve_left (by simp [az_il]); exact lv_idiv hx hb hd h0 (kk ls hR)
  case irem => obtain ⟨x, y, r, rfl, h0, rfl⟩ := hn; cases hil.resolve_left (by simp [az_il]); exact lv_irem hx hb hd h0 (kk ls hR)
  case iand => obtain ⟨x, y, r, rfl, rfl⟩ := hn; cases hil.resolve_left (by simp [az_il]); exact lv_iand hx hb hd (kk ls hR)
  case ior => obtain ⟨x, y, r, rfl, rfl⟩ := hn; cases hil.resolve_left (by simp [az_il]); exact lv_ior hx hb hd (kk ls hR)
  case ixor => obtain ⟨x, y, r, rfl, rfl⟩ := hn; cases hil.resolve_left (by simp [az_il]); exact lv_ixor hx hb hd (kk ls hR)
  case ishl => obtain ⟨x, y, r, rfl, rfl⟩ := hn; cases hil.resolve_left (by simp [az_il]); exact lv_ishl hx hb hd (kk ls hR)
  case ishr => obtain ⟨x, y, r, rfl, rfl⟩ := hn; cases hil.resolve_left (by simp [az_il]); exact lv_ishr hx hb hd (kk ls hR)
  case iushr => obtain ⟨x, y, r, rfl, rfl⟩ := hn; cases hil.resolve_left (by simp [az_il]); exact lv_iushr hx hb hd rfl (kk ls hR)
  case ineg => obtain ⟨x, r, rfl, rfl⟩ := hn; cases hil.resolve_left (by simp [az_il]); exact lv_ineg hx hb hd (kk ls hR)
  case ladd => obtain ⟨x, y, r, rfl, rfl⟩ := hn; cases hil.resolve_left (by simp [az_il]); exact lv_ladd hx hb hd (kk ls hR)
  case lsub => obtain ⟨x, y, r, rfl, rfl⟩ := hn; cases hil.resolve_left (by simp [az_il]); exact lv_lsub hx hb hd (kk ls hR)
  case lmul => obtain ⟨x, y, r, rfl, rfl⟩ := hn; cases hil.resolve_left (by simp [az_il]); exact lv_lmul hx hb hd (kk ls hR)
  case ldiv => obtain ⟨x, y, r, rfl, h0, rfl⟩ := hn; cases hil.resolve_left (by simp [az_il]); exact lv_ldiv hx hb hd h0 (kk ls hR)
  case land => obtain ⟨x, y, r, rfl, rfl⟩ := hn; cases hil.resolve_left (by simp [az_il]); exact lv_land hx hb hd (kk ls hR)
  case lor => obtain ⟨x, y, r, rfl, rfl⟩ := hn; cases hil.resolve_left (by simp [az_il]); exact lv_lor hx hb hd (kk ls hR)
  case lneg => obtain ⟨x, r, rfl, rfl⟩ := hn; cases hil.resolve_left (by simp [az_il]); exact lv_lneg hx hb hd (kk ls hR)
  case i2l => obtain ⟨x, r, rfl, rfl⟩ := hn; cases hil.resolve_left (by simp [az_il]); exact lv_i2l hx hb hd rfl (kk ls hR)
  case l2i => obtain ⟨x, r, rfl, rfl⟩ := hn; cases hil.resolve_left (by simp [az_il]); exact lv_l2i hx hb hd rfl (kk ls hR)
  case i2b => obtain ⟨x, r, rfl, rfl⟩ := hn; cases hil.resolve_left (by simp [az_il]); exact lv_i2b hx hb hd rfl (kk ls hR)
  case i2c => obtain ⟨x, r, rfl, rfl⟩ := hn; cases hil.resolve_left (by simp [az_il]); exact lv_i2c hx hb hd rfl (kk ls hR)
  case lcmp => obtain ⟨x, y, r, rfl, rfl⟩ := hn; cases hil.resolve_left (by simp [az_il]); exact W.lcmp hx hb hd (kk ls hR)
  case dup => obtain ⟨v, r, rfl, h1, rfl⟩ := hn; cases hil.resolve_left (by simp [az_il]); exact lv_dup hx hb hd (by rw [az_tr_cat]; exact h1) (kk ls hR)
  case pop => obtain ⟨v, r, rfl, h1, rfl⟩ := hn; cases hil.resolve_left (by simp [az_il]); exact lv_pop hx hb hd (va := az_tr (az_ad base cs) v) (by rw [az_tr_cat]; exact h1) (kk ls hR)
  case dup_x1 => obtain ⟨v, w, r, rfl, h1, h2, rfl⟩ := hn; cases hil.resolve_left (by simp [az_il]); exact lv_dup_x1 hx hb hd (by rw [az_tr_cat]; exact h1) (by rw [az_tr_cat]; exact h2) (kk ls hR)
  case dup2 => obtain ⟨v, w, r, rfl, h1, h2, rfl⟩ := hn; cases hil.resolve_left (by simp [az_il]); exact lv_dup2_11 hx hb hd (by rw [az_tr_cat]; exact h1) (by rw [az_tr_cat]; exact h2) (kk ls hR)
  case goto off => cases hn; cases hil.resolve_left (by simp [az_il]); exact lv_goto hx hb hd (az_jt hj) (kk ls hR)
  case ifCond cd off =>
    obtain ⟨x, r, rfl, h⟩ := hn
    cases hil.resolve_left (by simp [az_il])
    have ht : az_cmp cd x 0 → W p l e R s m args below meth c H locs (az_n σ - n0) (az_sl σ - s0) Q (F0 m (az_j pc off) ls (r.map (az_tr (az_ad base cs)))) := fun q => by
      rcases h with ⟨h1, rfl⟩ | ⟨h1, rfl⟩
      · exact kk ls hR
      · exact absurd q h1
    have hf : ¬ az_cmp cd x 0 → W p l e R s m args below meth c H locs (az_n σ - n0) (az_sl σ - s0) Q (F0 m (pc + 3) ls (r.map (az_tr (az_ad base cs)))) := fun q => by
      rcases h with ⟨h1, rfl⟩ | ⟨h1, rfl⟩
      · exact absurd h1 q
      · exact kk ls hR
    cases cd
    · exact lv_if_eq hx hb hd (az_jt hj) ht hf
    · exact lv_if_ne hx hb hd (az_jt hj) ht (fun q => hf (fun z => z q))
    · exact lv_if_lt hx hb hd (az_jt hj) ht hf
    · exact lv_if_ge hx hb hd (az_jt hj) ht hf
    · exact lv_if_gt hx hb hd (az_jt hj) ht hf
    · exact lv_if_le hx hb hd (az_jt hj) ht hf
  case if_icmp cd off =>
    obtain ⟨x, y, r, rfl, h⟩ := hn
    cases hil.resolve_left (by simp [az_il])
    have ht : az_cmp cd x y → W p l e R s m args below meth c H locs (az_n σ - n0) (az_sl σ - s0) Q (F0 m (az_j pc off) ls (r.map (az_tr (az_ad base cs)))) := fun q => by
      rcases h with ⟨h1, rfl⟩ | ⟨h1, rfl⟩
      · exact kk ls hR
      · exact absurd q h1
    have hf : ¬ az_cmp cd x y → W p l e R s m args below meth c H locs (az_n σ - n0) (az_sl σ - s0) Q (F0 m (pc + 3) ls (r.map (az_tr (az_ad base cs)))) := fun q => by
      rcases h with ⟨h1, rfl⟩ | ⟨h1, rfl⟩
      · exact absurd h1 q
      · exact kk ls hR
    cases cd
    · exact lv_icmp_eq hx hb hd (az_jt hj) ht hf
    · exact lv_icmp_ne hx hb hd (az_jt hj) ht (fun q => hf (fun z => z q))
    · exact lv_icmp_lt hx hb hd (az_jt hj) ht hf
    · exact lv_icmp_ge hx hb hd (az_jt hj) ht hf
    · exact lv_icmp_gt hx hb hd (az_jt hj) ht hf
    · exact lv_icmp_le hx hb hd (az_jt hj) ht hf
  case ifnull off =>
    obtain ⟨x, r, rfl, h⟩ := hn
    cases hil.resolve_left (by simp [az_il])
    cases x with
    | none =>
      rcases h with ⟨h1, rfl⟩ | ⟨h1, rfl⟩
      · exact lv_ifnullN hx hb hd (az_jt hj) (kk ls hR)
      · exact absurd rfl h1
    | some a =>
      rcases h with ⟨h1, rfl⟩ | ⟨h1, rfl⟩
      · cases h1
      · exact lv_ifnull hx hb hd (kk ls hR)
  case tableswitch d lo hi offs =>
    obtain ⟨x, r, rfl, h⟩ := hn
    rcases h with ⟨h1, rfl⟩ | ⟨off, h1, h2, h3, rfl⟩
    · exact lv_tableOut hx hb hd h1 (az_jt hj.1) (kk ls hR)
    · refine lv_tableIn hx hb hd h1 h2 h3 (az_jt ?_) (kk ls hR)
      have hm : off ∈ offs.toList := by
        have := Array.mem_of_getElem? h3
        exact Array.mem_toList_iff.mpr this
      exact of_decide_eq_true (List.all_eq_true.mp hj.2 off hm)
  case lookupswitch d ps =>
    obtain ⟨x, r, rfl, h1, rfl⟩ := hn
    refine lv_lookup hx hb hd h1 rfl (az_jt ?_) (kk ls hR)
    exact az_lk_off d x.toInt (fun o => 0 ≤ (pc : Int) + o) hj.1 ps.toList (fun o ho => of_decide_eq_true (List.all_eq_true.mp hj.2 o ho))
  case if_acmp cd off =>
    obtain ⟨x, r, rfl, rfl⟩ := hn
    cases hil.resolve_left (by simp [az_il])
    have e : (va_rf x :: va_rf x :: r).map (az_tr (az_ad base cs)) = va_rf (x.map (az_ad base cs)) :: va_rf (x.map (az_ad base cs)) :: r.map (az_tr (az_ad base cs)) := by simp only [List.map_cons, az_tr_rf]
    rw [e]
    cases cd
    · exact lv_acmp_eq hx hb hd (az_jt hj) (fun _ => kk ls hR) (fun q => absurd rfl q)
    · exact lv_acmp_ne hx hb hd (az_jt hj) (fun q => absurd rfl q) (fun _ => kk ls hR)
  all_goals first | exact hn.elim | exact hins.elim
end AzSim
