section AzSim3
variable {p : Program} {l : Launch} {e : Env} {R : Room} {s : State} {m : MethodId} {args : Array Value} {below : List Frame} {meth : Method} {c : Code} {Q : State → Prop} {cc : ByteArray} {own : String}
variable {D : va_G} {cA : Nat → ClassId} {base : Nat} {cs : Nat → Nat} {nL n0 s0 : Nat}
theorem az_ss_ge : ∀ q ∈ az_ss, ¬ q.2.2.2 < 1000000 := by decide
theorem az_alen_go {H : Heap} {locs : List Loc} {cells slots : Nat} {ws : va_W} {pc : Nat} {ls : Array Slot} {rest : List Value} {cl : List vw_C} {tys : List (ClassId × FieldType)} {a : Nat} (hexec : p.tables.exec = Jvm.exec) (hb : c.code = cc) (hK : va_K D cl tys s) (hP : va_P D cl ws H) (q0 t0 : Nat) {E : va_E} (ha : ws[q0]? = some (a, E)) {k : ClassId} {x : vp_A} (hE : E = .inl (k, x)) {ty : FieldType} (ht : tys[t0]? = some (k, ty)) (hdg : decode cc pc = .ok (.arraylength, 1))
    (kk : W p l e R s m args below meth c H locs cells slots Q (F0 m (pc + 1) ls (.int (Int32.ofNat x.1) :: rest))) : W p l e R s m args below meth c H locs cells slots Q (F0 m pc ls (.ref a :: rest)) := by
  subst hE
  exact va_alen hexec hb hK hP q0 t0 ha ht rfl hdg kk
set_option maxHeartbeats 4000000 in
/-- arrays are read, constants come, a cast that holds -/
theorem az_sim_b {pc len : Nat} {ins : Instr} {aux : List Nat} {nm : String} {L : az_V} {st : List Value} {σ : az_S} {F : az_F} {H : Heap} {locs : List Loc} {ls : Array Slot} (hC : az_Cx D cA base cs p s m args c cc own) (hn : az_next pc len ins aux L st σ F) (hd : decode cc pc = .ok (ins, len)) (hil : az_il ins = len) (hl : az_link own nm ins aux)
    (hins : match ins with | .checkcast _ => True | .getstatic _ => True | .ldc _ => True | .ldc_w _ => True | .ldc2_w _ => True | .iaload => True | .baload => True | .laload => True | .aaload => True | .arraylength => True | _ => False)
    (hR : az_Rl D cA base cs s nL n0 s0 σ L H locs ls)
    (kk : ∀ (ls' : Array Slot), az_Rl D cA base cs s nL n0 s0 F.2.2.2 F.2.1 H locs ls' → W p l e R s m args below meth c H locs (az_n F.2.2.2 - n0) (az_sl F.2.2.2 - s0) Q (F0 m F.1 ls' (F.2.2.1.map (az_tr (az_ad base cs))))) :
    W p l e R s m args below meth c H locs (az_n σ - n0) (az_sl σ - s0) Q (F0 m pc ls (st.map (az_tr (az_ad base cs)))) := by
  obtain ⟨hx, hb, hown, hts, hKx, hbase⟩ := hC
  obtain ⟨hP, hsz, hS, hok, hCc, hlv, hn0, hs0⟩ := id hR
  subst hil
  cases ins
  case iaload =>
    obtain ⟨i, a, r, rfl, hk, hin, rfl⟩ := hn
    rcases hk with hk | hk
    · obtain ⟨ha, -⟩ := hok.lt (a := a) (by omega)
      exact va_iald hx hb hKx.1 hP a 0 (by rw [az_ws_get ha, az_E_int hk (Or.inl rfl)]) rfl hin hd (kk ls hR)
    · have hg := hok.ge (a := a) (by omega)
      have := hCc.1 a hk
      rw [← az_ad_ge (base := base) (cs := cs) hg] at this
      exact va_ti hx hb this hS hin rfl hd (kk ls hR)
  case baload =>
    obtain ⟨i, a, r, rfl, hk, hin, rfl⟩ := hn
    rcases hk with hk | hk | hk
    · obtain ⟨ha, -⟩ := hok.lt (a := a) (by omega)
      exact va_zald hx hb hKx.1 hP a 1 (by rw [az_ws_get ha, az_E_int hk (Or.inr (Or.inl rfl))]) rfl hin hd (kk ls hR)
    · obtain ⟨ha, -⟩ := hok.lt (a := a) (by omega)
      exact va_bald hx hb hKx.1 hP a 2 (by rw [az_ws_get ha, az_E_int hk (Or.inr (Or.inr rfl))]) rfl hin hd (kk ls hR)
    · have hg := hok.ge (a := a) (by omega)
      have := hCc.2.2.1 a hk
      rw [← az_ad_ge (base := base) (cs := cs) hg] at this
      exact va_tb hx hb this hS hin rfl hd (kk ls hR)
  case laload =>
    obtain ⟨i, a, r, rfl, hk, hin, rfl⟩ := hn
    obtain ⟨ha, -⟩ := hok.lt (a := a) (by omega)
    exact va_lald hx hb hKx.1 hP a 3 (by rw [az_ws_get ha, az_E_long hk]) rfl hin hd (kk ls hR)
  case aaload =>
    obtain ⟨i, a, r, rfl, hk, hin, rfl⟩ := hn
    obtain ⟨ha, -⟩ := hok.lt (a := a) (by omega)
    have h9 := kk ls hR
    simp only [List.map_cons, az_tr_rf] at h9
    have hg := (az_ws_get (cA := cA) (ad := az_ad base cs) ha).trans (by rw [az_E_ref hk])
    exact va_aldq hx hb hKx.1 hP a 4 (C := "java/lang/Object") hg rfl hin hd h9
  case arraylength =>
    obtain ⟨a, r, rfl, hk, rfl⟩ := hn
    by_cases hw : (az_sh σ a).1 < 110
    · obtain ⟨ha, -⟩ := hok.lt (a := a) hw
      by_cases h3 : (az_sh σ a).1 = 103
      · exact az_alen_go hx hb hKx.1 hP a 3 (az_ws_get ha) (az_E_long h3) rfl hd (kk ls hR)
      by_cases h4 : (az_sh σ a).1 = 104
      · exact az_alen_go hx hb hKx.1 hP a 4 (az_ws_get ha) (az_E_ref h4) rfl hd (kk ls hR)
      by_cases h0 : (az_sh σ a).1 = 100
      · exact az_alen_go hx hb hKx.1 hP a 0 (az_ws_get ha) (az_E_int h0 (Or.inl rfl)) rfl hd (kk ls hR)
      by_cases h1 : (az_sh σ a).1 = 101
      · exact az_alen_go hx hb hKx.1 hP a 1 (az_ws_get ha) (az_E_int h1 (Or.inr (Or.inl rfl))) rfl hd (kk ls hR)
      · exact az_alen_go hx hb hKx.1 hP a 2 (az_ws_get ha) (az_E_int (show (az_sh σ a).1 = 102 by omega) (Or.inr (Or.inr rfl))) rfl hd (kk ls hR)
    · have hg := hok.ge (a := a) (by omega)
      by_cases h0 : (az_sh σ a).1 = 110
      · have := hCc.1 a h0
        rw [← az_ad_ge (base := base) (cs := cs) hg] at this
        exact va_tlen hx hb this hS rfl hd (kk ls hR)
      by_cases h1 : (az_sh σ a).1 = 111
      · have := hCc.2.1 a h1
        rw [← az_ad_ge (base := base) (cs := cs) hg] at this
        exact va_tlen hx hb this hS rfl hd (kk ls hR)
      · have := hCc.2.2.1 a (by omega)
        rw [← az_ad_ge (base := base) (cs := cs) hg] at this
        exact va_tlen hx hb this hS rfl hd (kk ls hR)
  case checkcast i =>
    obtain ⟨ci, a, r, rfl, hci, rfl, hk, rfl⟩ := hn
    obtain ⟨ci', q, hax, hq, hlk⟩ := hl
    cases hax
    obtain ⟨ha, -⟩ := hok.lt (a := a) (by omega)
    exact va_castS hx hb hown (hts _ hlk) (hKx.1.1 ci q hq).2 (va_recv hKx.1 hP hq (q0 := a) (by rw [az_ws_get ha, az_E_obj hk hci])) hd (kk ls hR)
  case getstatic i =>
    obtain ⟨k, kd, rfl, rfl⟩ := hn
    obtain ⟨k', kd', q, hax, hq, hkd, hlk⟩ := hl
    cases hax
    subst hkd
    exact va_gets hx hb (hCc.2.2.2.2.2 k q hq) hS hown (hts _ hlk) (fun _ h => h) hd (kk ls hR)
  case ldc i =>
    rcases hn with ⟨v, rfl, rfl⟩ | ⟨v, rfl, rfl⟩
    · rcases hl with ⟨v', hax, hlk⟩ | ⟨hax, hlk⟩ | ⟨q, hq, h1, h2, hax⟩
      · cases hax
        exact lv_ldc hx hb hown (hts _ hlk) hd (kk ls hR)
      · cases hax
      · cases hax
    · rcases hl with ⟨v', hax, hlk⟩ | ⟨hax, hlk⟩ | ⟨q, hq, h1, h2, hax⟩
      · cases hax
      · cases hax
        exact va_ldcM hx hb hown (hts _ hlk) hKx.2.2.2.1 hd (kk ls hR)
      · cases hax
        subst h1
        subst h2
        have hge : ¬ q.2.2.2 < 1000000 := az_ss_ge q hq
        have h9 := kk ls hR
        simp only [List.map_cons, az_tr, az_ad_ge (base := base) (cs := cs) hge] at h9
        exact va_ldcS hx hb hown (hKx.2.2.2.2.2 q hq) hd h9
  case ldc_w i =>
    obtain ⟨v, rfl, rfl⟩ := hn
    obtain ⟨v', hax, hlk⟩ := hl
    cases hax
    exact lv_ldcw hx hb hown (hts _ hlk) hd (kk ls hR)
  case ldc2_w i =>
    obtain ⟨v, rfl, rfl⟩ := hn
    obtain ⟨v', hax, hlk⟩ := hl
    cases hax
    exact lv_ldc2 hx hb hown (hts _ hlk) hd (kk ls hR)
  all_goals exact hins.elim
theorem az_nar_b {x : Int32} : narrow .byte (.int x) = .int (vp_nar .byte x) := rfl
set_option maxHeartbeats 4000000 in
/-- arrays are written -/
theorem az_sim_c {pc len : Nat} {ins : Instr} {aux : List Nat} {L : az_V} {st : List Value} {σ : az_S} {F : az_F} {H : Heap} {locs : List Loc} {ls : Array Slot} (hC : az_Cx D cA base cs p s m args c cc own) (hb0 : s.heap.size = base + n0) (hn : az_next pc len ins aux L st σ F) (hd : decode cc pc = .ok (ins, len)) (hil : az_il ins = len)
    (hins : match ins with | .iastore => True | .bastore => True | .lastore => True | .aastore => True | _ => False)
    (hR : az_Rl D cA base cs s nL n0 s0 σ L H locs ls)
    (kk : ∀ (H' : Heap) (locs' : List Loc) (ls' : Array Slot), az_Rl D cA base cs s nL n0 s0 F.2.2.2 F.2.1 H' locs' ls' → W p l e R s m args below meth c H' locs' (az_n F.2.2.2 - n0) (az_sl F.2.2.2 - s0) Q (F0 m F.1 ls' (F.2.2.1.map (az_tr (az_ad base cs))))) :
    W p l e R s m args below meth c H locs (az_n σ - n0) (az_sl σ - s0) Q (F0 m pc ls (st.map (az_tr (az_ad base cs)))) := by
  obtain ⟨hx, hb, hown, hts, hKx, hbase⟩ := hC
  obtain ⟨hP, hsz, hS, hok, hCc, hlv, hn0, hs0⟩ := id hR
  have hD := az_D (cA := cA) (base := base) (cs := cs) hok.2.1
  subst hil
  cases ins
  case iastore =>
    obtain ⟨x, i, a, r, rfl, hk, hin, rfl⟩ := hn
    have hk110 : (az_sh σ a).1 < 110 := by omega
    obtain ⟨ha, -⟩ := hok.lt hk110
    refine va_iast hx hb hKx.1 hP hD hS a 0 (by rw [az_ws_get ha, az_E_int hk (Or.inl rfl)]) rfl hin hd (fun H1 locs1 hP1 _ hS1 => az_sized (fun hz => kk H1 locs1 ls (hR.set (τ := az_pi σ a _ x) rfl rfl hz hb0 ?_ (fun b hb => az_E_pi hb) hS1 hok.pi (hCc.pi hk110))))
    rw [az_E_int (σ := az_pi σ a _ x) hk (Or.inl rfl), show az_i (az_pi σ a i.toNatClampNeg x) a = upd (az_i σ a) i.toNatClampNeg x from az_upd_i]
    exact hP1
  case bastore =>
    obtain ⟨x, i, a, r, rfl, hin, hcase⟩ := hn
    rcases hcase with ⟨hk, rfl⟩ | ⟨hk, rfl⟩
    · have hk110 : (az_sh σ a).1 < 110 := by omega
      obtain ⟨ha, -⟩ := hok.lt hk110
      refine va_zast hx hb hKx.1 hP hD hS a 1 (by rw [az_ws_get ha, az_E_int hk (Or.inr (Or.inl rfl))]) rfl hin hd (fun H1 locs1 hP1 _ hS1 => az_sized (fun hz => kk H1 locs1 ls (hR.set (τ := az_pi σ a _ _) rfl rfl hz hb0 ?_ (fun b hb => az_E_pi hb) hS1 hok.pi (hCc.pi hk110))))
      rw [az_E_int (σ := az_pi σ a _ _) hk (Or.inr (Or.inl rfl)), show az_i (az_pi σ a i.toNatClampNeg (vp_nar .boolean x)) a = upd (az_i σ a) i.toNatClampNeg (vp_nar .boolean x) from az_upd_i]
      exact hP1
    · have hk110 : (az_sh σ a).1 < 110 := by omega
      obtain ⟨ha, -⟩ := hok.lt hk110
      refine va_bast hx hb hKx.1 hP hD hS a 2 (by rw [az_ws_get ha, az_E_int hk (Or.inr (Or.inr rfl))]) rfl hin hd (fun H1 locs1 hP1 _ hS1 => az_sized (fun hz => kk H1 locs1 ls (hR.set (τ := az_pi σ a _ _) rfl rfl hz hb0 ?_ (fun b hb => az_E_pi hb) hS1 hok.pi (hCc.pi hk110))))
      rw [az_E_int (σ := az_pi σ a _ _) hk (Or.inr (Or.inr rfl)), show az_i (az_pi σ a i.toNatClampNeg (vp_nar .byte x)) a = upd (az_i σ a) i.toNatClampNeg (vp_nar .byte x) from az_upd_i]
      exact hP1
  case lastore =>
    obtain ⟨x, i, a, r, rfl, hk, hin, rfl⟩ := hn
    have hk110 : (az_sh σ a).1 < 110 := by omega
    obtain ⟨ha, -⟩ := hok.lt hk110
    refine va_last hx hb hKx.1 hP hD hS a 3 (by rw [az_ws_get ha, az_E_long hk]) rfl hin hd (fun H1 locs1 hP1 _ hS1 => az_sized (fun hz => kk H1 locs1 ls (hR.set (τ := az_pl σ a _ x) rfl rfl hz hb0 ?_ (fun b hb => az_E_pl hb) hS1 hok.pl hCc.pl)))
    rw [az_E_long (σ := az_pl σ a _ x) hk, show az_l (az_pl σ a i.toNatClampNeg x) a = vp_updL (az_l σ a) i.toNatClampNeg x from az_upd_i]
    exact hP1
  case aastore =>
    obtain ⟨v, i, a, r, rfl, hk, hkv, hin, rfl⟩ := hn
    have hk110 : (az_sh σ a).1 < 110 := by omega
    obtain ⟨ha, -⟩ := hok.lt hk110
    obtain ⟨hv, -⟩ := hok.lt (a := v) (by omega)
    obtain ⟨q, hq⟩ := az_clt _ hkv
    refine va_astqO hx hb hKx.1 hP hD hS a 4 v (az_sh σ v).1 (E := "java/lang/Object") (r := q) (by rw [az_ws_get ha, az_E_ref hk]) rfl (hKx.2.1 _ (az_ccast _ q hq) rfl) (by rw [az_ws_get hv, az_E_obj rfl hkv]) hq hin hd (fun H1 locs1 hP1 _ hS1 => az_sized (fun hz => kk H1 locs1 ls (hR.set (τ := az_pr σ a _ (some v)) rfl rfl hz hb0 ?_ (fun b hb => az_E_pr hb) hS1 hok.pr (hCc.pr hk110))))
    have e : (fun j => (az_r (az_pr σ a i.toNatClampNeg (some v)) a j).map (az_ad base cs)) = va_up (fun j => (az_r σ a j).map (az_ad base cs)) i.toNatClampNeg (some (az_ad base cs v)) := by
      funext j
      by_cases hj : j = i.toNatClampNeg <;> simp [az_r, az_up, va_up, hj]
    rw [az_E_ref (σ := az_pr σ a _ (some v)) hk, e]
    exact hP1
  all_goals exact hins.elim
end AzSim3
