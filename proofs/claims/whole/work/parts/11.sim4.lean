section AzSim4
variable {p : Program} {l : Launch} {e : Env} {R : Room} {s : State} {m : MethodId} {args : Array Value} {below : List Frame} {meth : Method} {c : Code} {Q : State → Prop} {cc : ByteArray} {own : String}
variable {D : va_G} {cA : Nat → ClassId} {base : Nat} {cs : Nat → Nat} {nL n0 s0 : Nat}
theorem az_sh_nw {σ : az_S} {kd mm : Nat} : az_sh (az_nw σ kd mm) (az_n σ) = (kd, mm) := by simp [az_sh, az_nw, va_up]
theorem az_i_nw {σ : az_S} {kd mm : Nat} : az_i (az_nw σ kd mm) (az_n σ) = fun _ => 0 := by simp [az_i, az_nw, va_up]
theorem az_l_nw {σ : az_S} {kd mm : Nat} : az_l (az_nw σ kd mm) (az_n σ) = fun _ => 0 := by simp [az_l, az_nw, va_up]
theorem az_r_nw {σ : az_S} {kd mm : Nat} : az_r (az_nw σ kd mm) (az_n σ) = fun _ => none := by simp [az_r, az_nw, va_up]
def az_dv (kd : Nat) : Value := match kd with
  | 0 => .int 0
  | 1 => .long 0
  | _ => .null
theorem az_dflt {ty : FieldType} {kd : Nat} (h : az_tk kd ty = true) (hk : kd = 0 ∨ kd = 1 ∨ kd = 2) : defaultValue ty = az_dv kd := by
  rcases hk with rfl | rfl | rfl
  · cases (of_decide_eq_true h : ty = .int); rfl
  · cases (of_decide_eq_true h : ty = .long); rfl
  · cases ty <;> first | (cases h; done) | rfl
theorem az_ft_le : ∀ ci, ci < 14 → ∀ k, k < 90 → az_ft ci k = 0 ∨ az_ft ci k = 1 ∨ az_ft ci k = 2 := by decide +kernel
theorem az_nf_le : ∀ ci, ci < 14 → az_nf ci ≤ 90 := by decide
set_option maxHeartbeats 4000000 in
/-- a cell comes -/
theorem az_sim_d {pc len : Nat} {ins : Instr} {aux : List Nat} {nm : String} {L : az_V} {st : List Value} {σ : az_S} {F : az_F} {H : Heap} {locs : List Loc} {ls : Array Slot} (hC : az_Cx D cA base cs p s m args c cc own) (hb0 : s.heap.size = base + n0) (hn : az_next pc len ins aux L st σ F) (hd : decode cc pc = .ok (ins, len)) (hil : az_il ins = len) (hl : az_link own nm ins aux)
    (hins : match ins with | .new _ => True | .newarray _ => True | .anewarray _ => True | _ => False)
    (hR : az_Rl D cA base cs s nL n0 s0 σ L H locs ls) (hroom : az_n F.2.2.2 - n0 ≤ R.cells ∧ az_sl F.2.2.2 - s0 ≤ R.slots)
    (kk : ∀ (H' : Heap) (locs' : List Loc) (ls' : Array Slot), az_Rl D cA base cs s nL n0 s0 F.2.2.2 F.2.1 H' locs' ls' → W p l e R s m args below meth c H' locs' (az_n F.2.2.2 - n0) (az_sl F.2.2.2 - s0) Q (F0 m F.1 ls' (F.2.2.1.map (az_tr (az_ad base cs))))) :
    W p l e R s m args below meth c H locs (az_n σ - n0) (az_sl σ - s0) Q (F0 m pc ls (st.map (az_tr (az_ad base cs)))) := by
  obtain ⟨hx, hb, hown, hts, hKx, hbase⟩ := hC
  obtain ⟨hP, hsz, hS, hok, hCc, hlv, hn0, hs0⟩ := id hR
  have hD := az_D (cA := cA) (base := base) (cs := cs) hok.2.1
  have hA : ∀ q, s.heap.size ≤ q → (fun q => base ≤ q) q := fun q hq => Nat.le_trans hbase hq
  have eN : az_n σ - n0 + 1 = az_n σ + 1 - n0 := by omega
  have eS : ∀ k, az_sl σ - s0 + k = az_sl σ + k - s0 := fun k => by omega
  subst hil
  cases ins
  case new i =>
    obtain ⟨ci, rfl, hci, hlt, rfl⟩ := hn
    obtain ⟨ci', q, hax, hq, h1, h2, h3⟩ := hl
    cases hax
    have hnf : az_nf ci = q.2.2 := az_cnf ci q hq
    have h4 : az_n σ + 1 - n0 ≤ R.cells ∧ az_sl σ + az_nf ci - s0 ≤ R.slots := hroom
    have hE := az_E_obj (cA := cA) (ad := az_ad base cs) (σ := az_nw σ ci (az_nf ci)) (a := az_n σ) (ci := ci) (by rw [az_sh_nw]) hci
    refine va_new (ci := ci) (fs := (List.range (az_nf ci)).map (fun k => az_tr (az_ad base cs) (az_fv (az_nw σ ci (az_nf ci)) (az_n σ) k (az_ft ci k)))) (C := q.1) (T := q.2.1) (N := q.2.2) hx hb hts (az_cin ci q hq) (az_tyc ci) (az_cty ci q hq) hown (hts _ h1) (hts _ h2) (hts _ h3) hKx.1 hP hD hS hA hq (fun j hj => ?_) (by rw [eN]; exact h4.1) (by rw [← hnf, eS]; exact h4.2) hd (fun q9 H1 hP1 hD1 hS1 => az_sized (fun hz => ?_))
    · have hj' : j < az_nf ci := by rw [hnf]; exact hj
      have hv : vp_V ((List.range (az_nf ci)).map (fun k => az_tr (az_ad base cs) (az_fv (az_nw σ ci (az_nf ci)) (az_n σ) k (az_ft ci k)))) j = az_tr (az_ad base cs) (az_fv (az_nw σ ci (az_nf ci)) (az_n σ) j (az_ft ci j)) := by simp [vp_V, hj']
      rw [hv]
      have hk3 := az_ft_le ci hci j (Nat.lt_of_lt_of_le hj' (az_nf_le ci hci))
      rw [az_dflt (az_ctk ci q hq j hj) hk3]
      rcases hk3 with h | h | h <;> rw [h]
      · show _ = Value.int (az_i (az_nw σ ci (az_nf ci)) (az_n σ) j); rw [az_i_nw]; rfl
      · show _ = Value.long (az_l (az_nw σ ci (az_nf ci)) (az_n σ) j); rw [az_l_nw]; rfl
      · show _ = az_tr (az_ad base cs) (va_rf (az_r (az_nw σ ci (az_nf ci)) (az_n σ) j)); rw [az_r_nw]; rfl
    · obtain ⟨e1, hR1⟩ := hR.push (kd := ci) (mm := az_nf ci) hlt (by omega) hz hb0 hP1 hD1 hE hS1
      have h9 := kk H1 locs ls hR1
      rw [e1, ← hnf]
      rw [show az_n σ - n0 + 1 = az_n (az_nw σ ci (az_nf ci)) - n0 from eN, show az_sl σ - s0 + az_nf ci = az_sl (az_nw σ ci (az_nf ci)) - s0 from eS _]
      exact h9
  case newarray t =>
    obtain ⟨n, r, rfl, hn1, hn2, hty, hlt, rfl⟩ := hn
    have h4 : az_n σ + 1 - n0 ≤ R.cells ∧ az_sl σ + n.toNatClampNeg - s0 ≤ R.slots := hroom
    have fin : ∀ (kd : Nat) (ty : FieldType) (t0 : Nat) (a0 : vp_A), newarray.typeOf t = ty → az_ty t = kd → kd < 110 → (az_tys cA)[t0]? = some (cA kd, ty) → (∀ c1 c2, va_RA s c1 ty → va_RA s c2 ty → c1 = c2) → componentBytes ty ≤ 8 → (∀ cA : ClassId, vp_cell cA a0 = arrV cA n.toNatClampNeg (fun _ => defaultValue ty)) → az_E cA (az_ad base cs) (az_nw σ kd n.toNatClampNeg) (az_n σ) = .inl (cA kd, a0) → W p l e R s m args below meth c H locs (az_n σ - n0) (az_sl σ - s0) Q (F0 m pc ls ((Value.int n :: r).map (az_tr (az_ad base cs)))) := by
      intro kd ty t0 a0 hto hk hkd ht0 hun hcb ha0 hE
      refine va_newa (atype := t) hx hb (hts _ hl) hto hKx.1 hP hD hS hA (n := n) ha0 hn1 rfl ?_ (by rw [eN]; exact h4.1) (by rw [eS]; exact h4.2) hd (fun q9 c9 H1 hK9 hP1 hD1 hS1 => az_sized (fun hz => ?_))
      · have : n.toNatClampNeg * componentBytes ty ≤ 10000 * 8 := Nat.mul_le_mul hn2 hcb
        omega
      · have hc9 : c9 = cA kd := hun c9 (cA kd) (hK9.2 (az_tys cA).length (c9, ty) (by rw [List.getElem?_append_right (Nat.le_refl _), Nat.sub_self]; rfl)).2 (hKx.1.2 t0 _ ht0).2
        subst hc9
        obtain ⟨e1, hR1⟩ := hR.push (kd := kd) (mm := n.toNatClampNeg) hlt hkd hz hb0 hP1 hD1 hE hS1
        have h9 := kk H1 locs ls (by rw [hk]; exact hR1)
        rw [e1]
        rw [show az_n σ - n0 + 1 = az_n (az_nw σ kd n.toNatClampNeg) - n0 from eN, show az_sl σ - s0 + n.toNatClampNeg = az_sl (az_nw σ kd n.toNatClampNeg) - s0 from eS _]
        exact h9
    cases t
    case int => exact fin 100 .int 0 (n.toNatClampNeg, .inl (fun _ => 0)) rfl rfl (by decide) rfl (fun c1 c2 h1 h2 => Option.some.inj ((va_nm_int h1).symm.trans (va_nm_int h2))) (by decide) (fun _ => rfl) (by rw [az_E_int (kd := 100) (by rw [az_sh_nw]) (Or.inl rfl), az_sh_nw, az_i_nw])
    case boolean => exact fin 101 .boolean 1 (n.toNatClampNeg, .inl (fun _ => 0)) rfl rfl (by decide) rfl (fun c1 c2 h1 h2 => Option.some.inj ((va_nm_boolean h1).symm.trans (va_nm_boolean h2))) (by decide) (fun _ => rfl) (by rw [az_E_int (kd := 101) (by rw [az_sh_nw]) (Or.inr (Or.inl rfl)), az_sh_nw, az_i_nw])
    case byte => exact fin 102 .byte 2 (n.toNatClampNeg, .inl (fun _ => 0)) rfl rfl (by decide) rfl (fun c1 c2 h1 h2 => Option.some.inj ((va_nm_byte h1).symm.trans (va_nm_byte h2))) (by decide) (fun _ => rfl) (by rw [az_E_int (kd := 102) (by rw [az_sh_nw]) (Or.inr (Or.inr rfl)), az_sh_nw, az_i_nw])
    case long => exact fin 103 .long 3 (n.toNatClampNeg, .inr (.inl (fun _ => 0))) rfl rfl (by decide) rfl (fun c1 c2 h1 h2 => Option.some.inj ((va_nm_long h1).symm.trans (va_nm_long h2))) (by decide) (fun _ => rfl) (by rw [az_E_long (by rw [az_sh_nw]), az_sh_nw, az_l_nw])
    all_goals exact absurd hty (by decide)
  case anewarray i =>
    obtain ⟨n, r, rfl, hn1, hn2, hlt, rfl⟩ := hn
    have h4 : az_n σ + 1 - n0 ≤ R.cells ∧ az_sl σ + n.toNatClampNeg - s0 ≤ R.slots := hroom
    refine va_newq hx hb hown (hts _ hl) hKx.2.2.1 hKx.1 hP hD hS hA (n := n) hn1 rfl (by omega) (by rw [eN]; exact h4.1) (by rw [eS]; exact h4.2) hd (fun q9 c9 H1 hK9 hP1 hD1 hS1 => az_sized (fun hz => ?_))
    have hc9 : c9 = cA 104 := Option.some.inj ((va_nmO (hK9.2 (az_tys cA).length (c9, .object "java/lang/Object") (by rw [List.getElem?_append_right (Nat.le_refl _), Nat.sub_self]; rfl)).2 rfl).symm.trans (va_nmO (hKx.1.2 4 _ rfl).2 rfl))
    subst hc9
    obtain ⟨e1, hR1⟩ := hR.push (kd := 104) (mm := n.toNatClampNeg) hlt (by decide) hz hb0 hP1 hD1 (by rw [az_E_ref (by rw [az_sh_nw]), az_sh_nw, az_r_nw]; rfl) hS1
    have h9 := kk H1 locs ls hR1
    rw [e1]
    rw [show az_n σ - n0 + 1 = az_n (az_nw σ 104 n.toNatClampNeg) - n0 from eN, show az_sl σ - s0 + n.toNatClampNeg = az_sl (az_nw σ 104 n.toNatClampNeg) - s0 from eS _]
    exact h9
  all_goals exact hins.elim
end AzSim4
