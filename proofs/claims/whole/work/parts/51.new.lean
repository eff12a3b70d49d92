/-! NEW OBJECTS -/
def Ex (σ τ : az_S) (S : List Nat) : Prop := az_n σ ≤ az_n τ ∧ (∀ a, (a < az_n σ ∨ 1000000 ≤ a) → az_sh τ a = az_sh σ a) ∧ ∀ a, (a < az_n σ ∨ 1000000 ≤ a) → a ∉ S → az_i τ a = az_i σ a ∧ az_l τ a = az_l σ a ∧ az_r τ a = az_r σ a
theorem Ex.rf {σ : az_S} {S : List Nat} : Ex σ σ S := ⟨Nat.le_refl _, fun _ _ => rfl, fun _ _ _ => ⟨rfl, rfl, rfl⟩⟩
theorem Ex.tr {σ τ υ : az_S} {S T : List Nat} (h : Ex σ τ S) (k : Ex τ υ T) (hT : ∀ a, a ∈ T → (a < az_n σ ∨ 1000000 ≤ a) → a ∈ S) : Ex σ υ S := by
  have hn := h.1
  refine ⟨Nat.le_trans h.1 k.1, fun a ha => (k.2.1 a (by omega)).trans (h.2.1 a ha), fun a ha hS => ?_⟩
  have h1 := h.2.2 a ha hS
  have k1 := k.2.2 a (by omega) (fun q => hS (hT a q ha))
  exact ⟨k1.1.trans h1.1, k1.2.1.trans h1.2.1, k1.2.2.trans h1.2.2⟩
theorem Ex.su {σ τ : az_S} {S T : List Nat} (h : Ex σ τ S) (hT : ∀ a, a ∈ S → (a < az_n σ ∨ 1000000 ≤ a) → a ∈ T) : Ex σ τ T := ⟨h.1, h.2.1, fun a ha hS => h.2.2 a ha (fun q => hS (hT a q ha))⟩
theorem Mod.ex {σ τ : az_S} {S : List Nat} (h : Mod σ τ S) : Ex σ τ S := ⟨Nat.le_of_eq h.1.symm, fun a _ => by rw [h.2.2.1], fun a _ hS => ⟨h.2.2.2.2.1 a hS, h.2.2.2.2.2 a hS, by rw [h.2.2.2.1]⟩⟩
theorem Ex_nw {σ : az_S} {kd m : Nat} (hn : az_n σ < 1000000) : Ex σ (az_nw σ kd m) [] := by
  refine ⟨Nat.le_succ _, fun a ha => va_up_ne _ _ (by show a ≠ az_n σ; omega), fun a ha _ => ⟨va_up_ne _ _ (by show a ≠ az_n σ; omega), va_up_ne _ _ (by show a ≠ az_n σ; omega), va_up_ne _ _ (by show a ≠ az_n σ; omega)⟩⟩
theorem az_up_ne {α : Type} {f : Nat → Nat → α} {a k b : Nat} {v : α} (h : b ≠ a) : az_up f a k v b = f b := va_up_ne _ _ h
theorem az_up_sf {α : Type} {f : Nat → Nat → α} {a k : Nat} {v : α} : az_up f a k v a k = v := by unfold az_up; rw [va_up_self, va_up_self]
theorem az_up_nk {α : Type} {f : Nat → Nat → α} {a k j : Nat} {v : α} (h : j ≠ k) : az_up f a k v a j = f a j := by unfold az_up; rw [va_up_self, va_up_ne _ _ h]
theorem Ex_pr {σ : az_S} {a k : Nat} {v : Option Nat} : Ex σ (az_pr σ a k v) [a] := ⟨Nat.le_refl _, fun _ _ => rfl, fun b _ hb => ⟨rfl, rfl, az_up_ne (fun e => hb (by rw [e]; simp))⟩⟩
theorem Ex.sm {σ τ : az_S} {S : List Nat} (h : Ex σ τ S) {a : Nat} (ha : a < az_n σ ∨ 1000000 ≤ a) (hS : a ∉ S) : Sm σ τ a := ⟨h.2.1 a ha, (h.2.2 a ha hS).1, (h.2.2 a ha hS).2.2⟩
theorem Ex.q {σ τ : az_S} {S : List Nat} (h : Ex σ τ S) {a : Nat} (ha : a < az_n σ ∨ 1000000 ≤ a) (hS : a ∉ S) : zq τ a = zq σ a := by
  funext w
  unfold zq
  rw [(h.2.2 a ha hS).2.1]
theorem Ex.fx {σ τ : az_S} {S : List Nat} (h : Ex σ τ S) {sz : Nat} (hf : FX sz σ) (hn : 103 ≤ az_n σ) (hS : ∀ a, a ∈ S → ∀ k b, fxq a k ≠ some b) : FX sz τ := by
  refine ⟨hf.1, fun a ha => by rw [h.2.1 a (by omega)]; exact hf.2.1 a ha, fun a k b hb => ?_⟩
  have ha : a < 103 := by
    unfold fxq at hb
    rw [Option.map_eq_some_iff] at hb
    obtain ⟨q, hq, -⟩ := hb
    have h1 := List.find?_some hq
    have h2 := List.mem_of_find?_eq_some hq
    simp only [Bool.and_eq_true, beq_iff_eq] at h1
    have h3 : ∀ q, q ∈ fxl → q.1 < 103 := by decide +kernel
    have := h3 q h2
    omega
  rw [(h.2.2 a (by omega) (fun q => hS a q k b hb)).2.2]
  exact hf.2.2 a k b hb
theorem zx_nw {σ : az_S} {kd m : Nat} (w : Int) : zx (az_nw σ kd m) (az_n σ) w = 0 := by
  unfold zx zi
  split
  · rfl
  · show (va_up σ.2.2.2.1 σ.1 (fun _ => 0) (az_n σ) w.toNat).toInt = 0
    rw [show az_n σ = σ.1 from rfl, va_up_self]
    rfl
theorem zx_pn {σ : az_S} {a k b : Nat} {v : Int32} {w : Int} (h : b ≠ a ∨ w ≠ (k : Int)) : zx (az_pi σ a k v) b w = zx σ b w := by
  unfold zx
  split
  · rfl
  · show (az_up σ.2.2.2.1 a k v b w.toNat).toInt = _
    rw [az_up_i, if_neg (by omega)]
    rfl
section AwAlloc
variable {d : Nat} {cd : List az_I} {rt : Option FieldType} {P : Option Value → az_S → Prop} {pc p' : Nat} {L : az_V} {st : List Value} {σ : az_S}
theorem aw_obj {ins : Instr} {a : Nat} (hf : az_fetch cd pc = some (3, ins, [1, 2, 3])) (hcat : (st.map fun v => v.category).sum ≤ 8) (hp : pc + 3 = p') (h : aw d cd rt P p' L st σ) : aw d cd rt P pc L (.ref a :: st) σ := by
  subst hp
  exact aw_step hf ⟨rfl, a, st, rfl, hcat, rfl⟩ h
theorem aw_cls {ins : Instr} {a : Nat} (hf : az_fetch cd pc = some (3, ins, [1, 2, 4])) (hcat : (st.map fun v => v.category).sum ≤ 8) (hs : (az_sh σ a).1 = 104) (hp : pc + 3 = p') (h : aw d cd rt P p' L (.ref 1000005 :: st) σ) : aw d cd rt P pc L (.ref a :: st) σ := by
  subst hp
  exact aw_step hf ⟨rfl, a, st, rfl, hcat, hs, rfl⟩ h
theorem aw_new {i ci nf : Nat} (hf : az_fetch cd pc = some (3, .new i, [ci])) (hc : Nat.ble (ci + 1) 14 = true) (hl : az_n σ < 1000000) (hnf : az_nf ci = nf) (hp : pc + 3 = p') (h : aw d cd rt P p' L (.ref (az_n σ) :: st) (az_nw σ ci nf)) : aw d cd rt P pc L st σ := by
  subst hp; subst hnf
  exact aw_nx hf (Nat.le_of_ble_eq_true rfl) ⟨ci, rfl, Nat.le_of_ble_eq_true hc, hl, rfl⟩ h
theorem aw_newarr {t : ArrayType} {N kd : Nat} (hf : az_fetch cd pc = some (2, .newarray t, [])) (hN : N ≤ 10000) (ht : az_ty t = kd) (hk : Nat.ble 100 kd = true) (hl : az_n σ < 1000000) (hp : pc + 2 = p') (h : aw d cd rt P p' L (.ref (az_n σ) :: st) (az_nw σ kd N)) : aw d cd rt P pc L (.int (iI (N : Int)) :: st) σ := by
  subst hp; subst ht
  have e : (iI (N : Int)).toNatClampNeg = N := by rw [iI_clamp (by omega) (by omega)]; omega
  have hge : ¬ iI (N : Int) < 0 := fun q => by
    have := (iI_lt (a := (N : Int)) (b := 0) ⟨by omega, by omega⟩ ⟨by decide, by decide⟩).mp q
    omega
  rw [← e] at h
  exact aw_nx hf (Nat.le_of_ble_eq_true rfl) ⟨_, st, rfl, hge, by rw [e]; exact hN, Nat.le_of_ble_eq_true hk, hl, rfl⟩ h
theorem aw_anew {i N : Nat} (hf : az_fetch cd pc = some (3, .anewarray i, [])) (hN : N ≤ 10000) (hl : az_n σ < 1000000) (hp : pc + 3 = p') (h : aw d cd rt P p' L (.ref (az_n σ) :: st) (az_nw σ 104 N)) : aw d cd rt P pc L (.int (iI (N : Int)) :: st) σ := by
  subst hp
  have e : (iI (N : Int)).toNatClampNeg = N := by rw [iI_clamp (by omega) (by omega)]; omega
  have hge : ¬ iI (N : Int) < 0 := fun q => by
    have := (iI_lt (a := (N : Int)) (b := 0) ⟨by omega, by omega⟩ ⟨by decide, by decide⟩).mp q
    omega
  rw [← e] at h
  exact aw_nx hf (Nat.le_of_ble_eq_true rfl) ⟨_, st, rfl, hge, by rw [e]; exact hN, hl, rfl⟩ h
theorem aw_acne {off : Int} {a : Nat} (hf : az_fetch cd pc = some (3, .if_acmp .ne off, [])) (hp : pc + 3 = p') (h : aw d cd rt P p' L st σ) : aw d cd rt P pc L (.ref a :: .ref a :: st) σ := by
  subst hp
  exact aw_nx hf (Nat.le_of_ble_eq_true rfl) ⟨some a, st, rfl, rfl⟩ h
theorem aw_aceq {off : Int} {a : Nat} (hf : az_fetch cd pc = some (3, .if_acmp .eq off, [])) (hp : az_j pc off = p') (h : aw d cd rt P p' L st σ) : aw d cd rt P pc L (.ref a :: .ref a :: st) σ := by
  subst hp
  exact aw_nx hf (Nat.le_of_ble_eq_true rfl) ⟨some a, st, rfl, rfl⟩ h
theorem aw_aast {a N v : Nat} {z : Int} (hf : az_fetch cd pc = some (1, .aastore, [])) (hs : az_sh σ a = (104, N)) (hv : (az_sh σ v).1 < 14) (hN : N ≤ 10000) (h0 : 0 ≤ z) (hj : z < N) (hp : pc + 1 = p') (h : aw d cd rt P p' L st (az_pr σ a z.toNat (some v))) : aw d cd rt P pc L (.ref v :: .int (iI z) :: .ref a :: st) σ := by
  subst hp
  refine aw_nx hf (Nat.le_of_ble_eq_true rfl) ⟨v, _, a, st, rfl, by rw [hs], hv, by rw [hs]; exact iI_in (by omega) (by omega) hN, rfl⟩ ?_
  show aw d cd rt P (pc + 1) L st (az_pr σ a (iI z).toNatClampNeg (some v))
  rw [iI_clamp (by omega) (by omega)]
  exact h
theorem aw_copy {ins : Instr} {a b N M K : Nat} (hf : az_fetch cd pc = some (3, ins, [1, 2, 5])) (hcat : (st.map fun v => v.category).sum ≤ 8) (ha : az_sh σ a = (104, N)) (hb : az_sh σ b = (104, M)) (hab : a ≠ b) (hK : K ≤ N) (hK2 : K ≤ M) (hK3 : K ≤ 10000) (hel : ∀ j, j < K → ∃ v, az_r σ a j = some v ∧ (az_sh σ v).1 < 14) (hp : pc + 3 = p') (h : aw d cd rt P p' L st (σ.1, σ.2.1, σ.2.2.1, σ.2.2.2.1, σ.2.2.2.2.1, va_up σ.2.2.2.2.2 b (va_cpy (az_r σ a) (az_r σ b) 0 0 K))) : aw d cd rt P pc L (.int (iI (K : Int)) :: .int (iI 0) :: .ref b :: .int (iI 0) :: .ref a :: st) σ := by
  subst hp
  have e : (iI (K : Int)).toNatClampNeg = K := by rw [iI_clamp (by omega) (by omega)]; omega
  have hge : ¬ iI (K : Int) < 0 := fun q => by
    have := (iI_lt (a := (K : Int)) (b := 0) ⟨by omega, by omega⟩ ⟨by decide, by decide⟩).mp q
    omega
  rw [← e] at h
  exact aw_step hf ⟨rfl, _, a, st, b, rfl, hge, hcat, by rw [ha], by rw [hb], hab, by rw [e, ha]; exact hK, by rw [e, hb]; exact hK2, by rw [e]; exact hel, rfl⟩ h
end AwAlloc
set_option maxRecDepth 10000 in
set_option maxHeartbeats 2000000 in
theorem j_newLen {d : Nat} {σ : az_S} {a p : Int} (ha0 : 0 ≤ a) (ha1 : a ≤ 1000) (hp0 : 0 ≤ p) (hp1 : p ≤ 1000) : fn (d + 2) 279 [.int (iI a), .int (iI 1), .int (iI p)] σ (.int (iI (a + (if 1 < p then p else 1)))) := by
  refine fn_of (M := (yJ8_newLength_cabcc, cJ8_newLength_cabcc, 4, (some .int))) (cd := k_J8_newLength_cabcc) (L := [some (.int (iI a)), some (.int (iI 1)), some (.int (iI p)), none]) rfl (Nat.le_of_ble_eq_true rfl) rfl rfl ?_
  refine aw_iload_n rfl rfl rfl ?_
  refine aw_iload_n rfl rfl rfl ?_
  refine aw_iload_n rfl rfl rfl ?_
  refine aw_fnc (j_max ⟨by omega, by omega⟩ ⟨by omega, by omega⟩) rfl rfl rfl (Nat.le_of_ble_eq_true rfl) (Or.inl rfl) rfl ?_
  refine aw_iadd rfl rfl ?_
  refine aw_istore_n rfl (Nat.le_of_ble_eq_true rfl) rfl rfl ?_
  change aw _ _ _ _ 8 [some (.int (iI _)), some (.int (iI _)), some (.int (iI _)), some (.int (iI _))] _ _
  have hq : 1 ≤ (if 1 < p then p else 1) ∧ (if 1 < p then p else 1) ≤ 1000 := by split <;> omega
  refine aw_iconst rfl rfl ?_
  refine aw_iload_n rfl rfl rfl ?_
  refine aw_icmp (p' := 21) rfl ⟨by omega, by omega⟩ ⟨by omega, by omega⟩ rfl rfl (fun c1 => ?_) (fun c1 => ?_)
  · dsimp only [zc] at c1
    omega
  · dsimp only [zc] at c1
    refine aw_iload_n rfl rfl rfl ?_
    refine aw_ldc (2147483639) rfl rfl rfl ?_
    refine aw_icmp (p' := 21) rfl ⟨by omega, by omega⟩ ⟨by omega, by omega⟩ rfl rfl (fun c2 => ?_) (fun c2 => ?_)
    · dsimp only [zc] at c2
      omega
    · dsimp only [zc] at c2
      refine aw_iload_n rfl rfl rfl ?_
      refine aw_reti rfl ?_
      exact ⟨rfl, rfl⟩
set_option maxRecDepth 10000 in
theorem j_copy2 {d : Nat} {σ : az_S} {a N m : Nat} (ha : az_sh σ a = (104, N)) (han : a < az_n σ) (hm : N ≤ m) (hm2 : m ≤ 1000) (hl : az_n σ < 1000000) (hel : ∀ j, j < N → ∃ v, az_r σ a j = some v ∧ (az_sh σ v).1 < 14 ∧ v < az_n σ) : cal (d + 2) 277 [.ref a, .int (iI (m : Int)), .ref 1000005] σ (fun r τ => r = some (.ref (az_n σ)) ∧ az_n τ = az_n σ + 1 ∧ az_sl τ = az_sl σ + m ∧ az_sh τ (az_n σ) = (104, m) ∧ Ex σ τ [] ∧ ∀ j, j < N → az_r τ (az_n σ) j = az_r σ a j) := by
  refine cal_of (M := (yJ7_copyOf_6403c, cJ7_copyOf_6403c, 4, some (.array (.object "java/lang/Object")))) (cd := k_J7_copyOf_6403c) (L := [some (.ref a), some (.int (iI (m : Int))), some (.ref 1000005), none]) rfl (Nat.le_of_ble_eq_true rfl) rfl rfl ?_
  have e1 : az_r (az_nw σ 104 m) a = az_r σ a := va_up_ne _ _ (by show a ≠ az_n σ; omega)
  have e2 : az_sh (az_nw σ 104 m) a = az_sh σ a := va_up_ne _ _ (by show a ≠ az_n σ; omega)
  have e3 : az_sh (az_nw σ 104 m) (az_n σ) = (104, m) := va_up_self _ _ _
  refine aw_aload_n rfl rfl rfl ?_
  refine aw_ldcr rfl rfl ?_
  refine aw_acne rfl rfl ?_
  refine aw_iload_n rfl rfl rfl ?_
  refine aw_anew (N := m) rfl (by omega) hl rfl ?_
  refine aw_goto (p' := 24) rfl rfl ?_
  refine aw_astore_n rfl (Nat.le_of_ble_eq_true rfl) rfl rfl ?_
  change aw _ _ _ _ 25 [some (.ref a), some (.int (iI (m : Int))), some (.ref 1000005), some (.ref (az_n σ))] _ _
  refine aw_aload_n rfl rfl rfl ?_
  refine aw_iconst rfl rfl ?_
  refine aw_aload_n rfl rfl rfl ?_
  refine aw_iconst rfl rfl ?_
  refine aw_aload_n rfl rfl rfl ?_
  refine aw_alen (N := N) rfl (by rw [e2]; exact ha) (by decide) rfl ?_
  refine aw_iload_n rfl rfl rfl ?_
  refine aw_fnc (j_min (a := (N : Int)) (b := (m : Int)) ⟨by omega, by omega⟩ ⟨by omega, by omega⟩) rfl rfl rfl (Nat.le_of_ble_eq_true rfl) (Or.inl rfl) rfl ?_
  rw [show (if (m : Int) < (N : Int) then (m : Int) else (N : Int)) = (N : Int) by rw [if_neg (by omega)]]
  refine aw_copy (a := a) (b := az_n σ) (N := N) (M := m) rfl (Nat.le_of_ble_eq_true rfl) (by rw [e2]; exact ha) e3 (by omega) (Nat.le_refl _) hm (by omega) (fun j hj => ?_) rfl ?_
  · obtain ⟨v, h1, h2, h3⟩ := hel j hj
    refine ⟨v, by rw [e1]; exact h1, ?_⟩
    rw [show az_sh (az_nw σ 104 m) v = az_sh σ v from va_up_ne _ _ (by show v ≠ az_n σ; omega)]
    exact h2
  · refine aw_aload_n rfl rfl rfl ?_
    refine aw_retr (o := some _) rfl (Or.inr ⟨_, rfl⟩) ⟨rfl, rfl, rfl, e3, ?_, fun j hj => ?_⟩
    · have h0 := Ex_nw (σ := σ) (kd := 104) (m := m) hl
      refine ⟨h0.1, h0.2.1, fun b hb _ => ⟨(h0.2.2 b hb (by simp)).1, (h0.2.2 b hb (by simp)).2.1, ?_⟩⟩
      show va_up (az_r (az_nw σ 104 m)) (az_n σ) _ b = az_r σ b
      rw [va_up_ne _ _ (by omega)]
      exact (h0.2.2 b hb (by simp)).2.2
    · show va_up (az_r (az_nw σ 104 m)) (az_n σ) _ (az_n σ) j = az_r σ a j
      rw [va_up_self, e1]
      unfold va_cpy
      rw [if_pos (by omega)]
      congr 1
      omega
set_option maxRecDepth 10000 in
theorem j_copy {d : Nat} {σ : az_S} {a N m : Nat} (ha : az_sh σ a = (104, N)) (han : a < az_n σ) (hm : N ≤ m) (hm2 : m ≤ 1000) (hl : az_n σ < 1000000) (hel : ∀ j, j < N → ∃ v, az_r σ a j = some v ∧ (az_sh σ v).1 < 14 ∧ v < az_n σ) : cal (d + 3) 276 [.ref a, .int (iI (m : Int))] σ (fun r τ => r = some (.ref (az_n σ)) ∧ az_n τ = az_n σ + 1 ∧ az_sl τ = az_sl σ + m ∧ az_sh τ (az_n σ) = (104, m) ∧ Ex σ τ [] ∧ ∀ j, j < N → az_r τ (az_n σ) j = az_r σ a j) := by
  refine cal_of (M := (yJ7_copyOf_1904c, cJ7_copyOf_1904c, 2, some (.array (.object "java/lang/Object")))) (cd := k_J7_copyOf_1904c) (L := [some (.ref a), some (.int (iI (m : Int)))]) rfl (Nat.le_of_ble_eq_true rfl) rfl rfl ?_
  refine aw_aload_n rfl rfl rfl ?_
  refine aw_iload_n rfl rfl rfl ?_
  refine aw_aload_n rfl rfl rfl ?_
  refine aw_cls rfl (Nat.le_of_ble_eq_true rfl) (by rw [ha]) rfl ?_
  refine aw_calc (j_copy2 ha han hm hm2 hl hel) rfl rfl rfl (Nat.le_of_ble_eq_true rfl) (Or.inl rfl) rfl ?_
  rintro _ τ ⟨rfl, h⟩
  exact aw_retr (o := some _) rfl (Or.inr ⟨_, rfl⟩) ⟨rfl, h⟩
/-- what growing gives: a new row -/
def Grown (σ τ : az_S) (l q n : Nat) : Prop := az_n τ = az_n σ + 1 ∧ az_sl τ ≤ az_sl σ + 200 ∧ (∃ cap : Nat, az_sh τ (az_n σ) = (104, cap) ∧ n + 1 ≤ cap ∧ cap ≤ 200) ∧ Ex σ τ [l] ∧ zx τ l = zx σ l ∧ az_r τ l 1 = some (az_n σ) ∧ ∀ j, j < n → az_r τ (az_n σ) j = az_r σ q j
set_option maxRecDepth 10000 in
theorem j_grow1 {d : Nat} {σ : az_S} {l q n : Nat} (hk : (az_sh σ l).1 = 0) (hln : l < az_n σ) (hr : az_r σ l 1 = some q) (hq : az_sh σ q = (104, n)) (hqn : q < az_n σ) (hn1 : 1 ≤ n) (hn2 : n ≤ 100) (hl : az_n σ < 1000000) (hel : ∀ j, j < n → ∃ v, az_r σ q j = some v ∧ (az_sh σ v).1 < 14 ∧ v < az_n σ) : cal (d + 4) 268 [.ref l, .int (iI ((n : Int) + 1))] σ (fun r τ => r = some (.ref (az_n σ)) ∧ Grown σ τ l q n) := by
  refine cal_of (M := (yJx4a65c_grow_92f84, cJx4a65c_grow_92f84, 4, some (.array (.object "java/lang/Object")))) (cd := k_Jx4a65c_grow_92f84) (L := [some (.ref l), some (.int (iI ((n : Int) + 1))), none, none]) rfl (Nat.le_of_ble_eq_true rfl) rfl rfl ?_
  refine aw_aload_n rfl rfl rfl ?_
  refine aw_getr (b := q) rfl rfl hk hr rfl ?_
  refine aw_alen (N := n) rfl hq (by decide) rfl ?_
  refine aw_istore_n rfl (Nat.le_of_ble_eq_true rfl) rfl rfl ?_
  change aw _ _ _ _ 6 [some (.ref l), some (.int (iI ((n : Int) + 1))), some (.int (iI (n : Int))), none] _ _
  refine aw_iload_n rfl rfl rfl ?_
  refine aw_if (p' := 20) rfl ⟨by omega, by omega⟩ rfl rfl (fun c => ?_) (fun c => ?_)
  · refine aw_iload_n rfl rfl rfl ?_
    refine aw_iload_n rfl rfl rfl ?_
    refine aw_iload_n rfl rfl rfl ?_
    refine aw_isub rfl rfl ?_
    rw [show (n : Int) + 1 - (n : Int) = 1 by omega]
    refine aw_iload_n rfl rfl rfl ?_
    refine aw_iconst rfl rfl ?_
    refine aw_ishr rfl (by omega) (by omega) (by omega) (by omega) rfl ?_
    rw [show (n : Int) / 2 ^ (1 : Int).toNat = (n : Int) / 2 by rfl]
    refine aw_fnc (j_newLen (a := (n : Int)) (p := (n : Int) / 2) (by omega) (by omega) (by omega) (by omega)) rfl rfl rfl (Nat.le_of_ble_eq_true rfl) (Or.inl rfl) rfl ?_
    obtain ⟨m, hm⟩ := Int.eq_ofNat_of_zero_le (show 0 ≤ (n : Int) + (if 1 < (n : Int) / 2 then (n : Int) / 2 else 1) by split <;> omega)
    have hmb : n + 1 ≤ m ∧ m ≤ 200 := by
      split at hm <;> omega
    rw [hm]
    refine aw_istore_n rfl (Nat.le_of_ble_eq_true rfl) rfl rfl ?_
    change aw _ _ _ _ 31 [some (.ref l), some (.int (iI ((n : Int) + 1))), some (.int (iI (n : Int))), some (.int (iI (m : Int)))] _ _
    refine aw_aload_n rfl rfl rfl ?_
    refine aw_aload_n rfl rfl rfl ?_
    refine aw_getr (b := q) rfl rfl hk hr rfl ?_
    refine aw_iload_n rfl rfl rfl ?_
    refine aw_calc (j_copy (m := m) hq hqn (by omega) (by omega) hl hel) rfl rfl rfl (Nat.le_of_ble_eq_true rfl) (Or.inl rfl) rfl ?_
    rintro _ τ ⟨rfl, h1, h2, h3, h4, h5⟩
    refine aw_dup_x1 rfl rfl rfl rfl ?_
    refine aw_putr rfl rfl (by rw [h4.2.1 l (Or.inl hln)]; exact hk) rfl ?_
    refine aw_retr (o := some _) rfl (Or.inr ⟨_, rfl⟩) ⟨rfl, h1, by show az_sl τ ≤ _; omega, ⟨m, h3, hmb⟩, ?_, ?_, az_up_sf, fun j hj => ?_⟩
    · exact (h4.su (T := [l]) (fun a ha => by simp at ha)).tr Ex_pr (fun a ha _ => ha)
    · exact (h4.sm (Or.inl hln) (by simp)).z
    · rw [← h5 j hj]
      exact congrFun (az_up_ne (by omega)) j
  · dsimp only [zc] at c; omega
set_option maxRecDepth 10000 in
theorem j_grow0 {d : Nat} {σ : az_S} {l : Nat} (hk : (az_sh σ l).1 = 0) (hln : l < az_n σ) (hr : az_r σ l 1 = some 1000001) (hq : az_sh σ 1000001 = (111, 0)) (hs : az_r σ 1000007 0 = some 1000001) (hl : az_n σ < 1000000) : cal (d + 4) 268 [.ref l, .int (iI 1)] σ (fun r τ => r = some (.ref (az_n σ)) ∧ Grown σ τ l 1000001 0) := by
  refine cal_of (M := (yJx4a65c_grow_92f84, cJx4a65c_grow_92f84, 4, some (.array (.object "java/lang/Object")))) (cd := k_Jx4a65c_grow_92f84) (L := [some (.ref l), some (.int (iI 1)), none, none]) rfl (Nat.le_of_ble_eq_true rfl) rfl rfl ?_
  refine aw_aload_n rfl rfl rfl ?_
  refine aw_getr (b := 1000001) rfl rfl hk hr rfl ?_
  refine aw_alen (N := 0) rfl hq (by decide) rfl ?_
  refine aw_istore_n rfl (Nat.le_of_ble_eq_true rfl) rfl rfl ?_
  change aw _ _ _ _ 6 [some (.ref l), some (.int (iI 1)), some (.int (iI 0)), none] _ _
  refine aw_iload_n rfl rfl rfl ?_
  refine aw_if (p' := 20) rfl ⟨by omega, by omega⟩ rfl rfl (fun c => ?_) (fun c => ?_)
  · dsimp only [zc] at c; omega
  · refine aw_aload_n rfl rfl rfl ?_
    refine aw_getr (b := 1000001) rfl rfl hk hr rfl ?_
    refine aw_gstr (b := 1000001) rfl hs rfl ?_
    refine aw_aceq (p' := 45) rfl rfl ?_
    refine aw_aload_n rfl rfl rfl ?_
    refine aw_bipush rfl rfl rfl ?_
    refine aw_iload_n rfl rfl rfl ?_
    refine aw_fnc (j_max (a := 10) (b := 1) ⟨by omega, by omega⟩ ⟨by omega, by omega⟩) rfl rfl rfl (Nat.le_of_ble_eq_true rfl) (Or.inl rfl) rfl ?_
    refine aw_anew (N := 10) rfl (by omega) hl rfl ?_
    refine aw_dup_x1 rfl rfl rfl rfl ?_
    have h4 := Ex_nw (σ := σ) (kd := 104) (m := 10) hl
    refine aw_putr rfl rfl (by rw [h4.2.1 l (Or.inl hln)]; exact hk) rfl ?_
    refine aw_retr (o := some _) rfl (Or.inr ⟨_, rfl⟩) ⟨rfl, rfl, by show az_sl σ + 10 ≤ _; omega, ⟨10, va_up_self _ _ _, by omega, by omega⟩, ?_, ?_, az_up_sf, fun j hj => by omega⟩
    · exact (h4.su (T := [l]) (fun a ha => by simp at ha)).tr Ex_pr (fun a ha _ => ha)
    · exact (h4.sm (Or.inl hln) (by simp)).z
set_option maxRecDepth 10000 in
theorem j_growd {d : Nat} {σ : az_S} {l : Nat} {n : Int} {Pc : Option Value → az_S → Prop} (hk : (az_sh σ l).1 = 0) (hz : zx σ l 2 = n) (h : cal d 268 [.ref l, .int (iI (n + 1))] σ (fun r τ => ∃ b, r = some (.ref b) ∧ Pc (some (.ref b)) τ)) : cal (d + 1) 269 [.ref l] σ Pc := by
  refine cal_of (M := (yJx4a65c_grow_d5877, cJx4a65c_grow_d5877, 1, some (.array (.object "java/lang/Object")))) (cd := k_Jx4a65c_grow_d5877) (L := [some (.ref l)]) rfl (Nat.le_of_ble_eq_true rfl) rfl rfl ?_
  refine aw_aload_n rfl rfl rfl ?_
  refine aw_aload_n rfl rfl rfl ?_
  refine aw_gk (v := n) (2) rfl rfl hk rfl hz rfl (fun _ _ => ?_)
  refine aw_iconst rfl rfl ?_
  refine aw_iadd rfl rfl ?_
  refine aw_calc h rfl rfl rfl (Nat.le_of_ble_eq_true rfl) (Or.inr ⟨_, rfl, hk⟩) rfl ?_
  rintro _ τ ⟨b, rfl, h2⟩
  exact aw_retr (o := some _) rfl (Or.inr ⟨_, rfl⟩) h2
/-- a list with one more -/
def Added (σ τ : az_S) (l q v : Nat) (n : Int) (el : Int → Nat) : Prop := ∃ (S : List Nat) (q' : Nat), (∀ b, b ∈ S → b = l ∨ (b = q ∧ 103 ≤ b ∧ b < az_n σ)) ∧ Ex σ τ S ∧ cLS τ l (n + 1) q' (fun j => if j = n then v else el j) ∧ ((q' = q ∧ az_n τ = az_n σ) ∨ (q' = az_n σ ∧ az_n τ = az_n σ + 1)) ∧ az_sl τ ≤ az_sl σ + 200 ∧ ∀ w : Int, w ≠ 2 → w ≠ 0 → zx τ l w = zx σ l w
set_option maxRecDepth 10000 in
set_option maxHeartbeats 1000000 in
theorem j_add3 {d : Nat} {σ : az_S} {l q v : Nat} {n : Int} {el : Int → Nat} (hk : (az_sh σ l).1 = 0) (hln : l < 103) (h103 : 103 ≤ az_n σ) (hL : cLS σ l n q el) (hn0 : 0 ≤ n) (hn1 : n ≤ 90) (hv : (az_sh σ v).1 < 14) (hvn : v < az_n σ) (hq : az_sh σ 1000001 = (111, 0)) (hs : az_r σ 1000007 0 = some 1000001) (hl : az_n σ < 900000) (hel : ∀ j : Int, 0 ≤ j → j < n → (az_sh σ (el j)).1 < 14 ∧ el j < az_n σ) : cal (d + 6) 273 [.ref l, .ref v, .ref q, .int (iI n)] σ (fun r τ => r = none ∧ Added σ τ l q v n el) := by
  refine cal_of (M := (yJx4a65c_add_72be8, cJx4a65c_add_72be8, 4, none)) (cd := k_Jx4a65c_add_72be8) (L := [some (.ref l), some (.ref v), some (.ref q), some (.int (iI n))]) rfl (Nat.le_of_ble_eq_true rfl) rfl rfl ?_
  obtain ⟨hL1, hL2, hL3⟩ := hL
  -- the end, behind a row with room
  have fin : ∀ (τ : az_S) (q' cap : Nat) (S : List Nat), Ex σ τ S → (∀ b, b ∈ S → b = l) → az_sh τ q' = (104, cap) → n < cap → cap ≤ 200 → 103 ≤ q' → q' < az_n τ → q' ≠ l → ((q' = q ∧ az_n τ = az_n σ) ∨ (q' = az_n σ ∧ az_n τ = az_n σ + 1)) → az_sl τ ≤ az_sl σ + 200 → zx τ l = zx σ l → az_r τ l 1 = some q' → (∀ j : Int, 0 ≤ j → j < n → az_r τ q' j.toNat = some (el j)) → aw (d + 5) k_Jx4a65c_add_72be8 none (fun r τ => r = none ∧ Added σ τ l q v n el) 11 [some (.ref l), some (.ref v), some (.ref q'), some (.int (iI n))] [] τ := by
    intro τ q' cap S hx hS h1 h2 h3 h4 h5 h6 h7 h8 h9 h10 h11
    have hlt : l < az_n σ := by omega
    refine aw_aload_n rfl rfl rfl ?_
    refine aw_iload_n rfl rfl rfl ?_
    refine aw_aload_n rfl rfl rfl ?_
    refine aw_aast (N := cap) rfl h1 (by rw [hx.2.1 v (Or.inl hvn)]; exact hv) (by omega) hn0 (by omega) rfl ?_
    refine aw_aload_n rfl rfl rfl ?_
    refine aw_iload_n rfl rfl rfl ?_
    refine aw_iconst rfl rfl ?_
    refine aw_iadd rfl rfl ?_
    refine aw_fs (2) rfl rfl (by show (az_sh τ l).1 = 0; rw [hx.2.1 l (Or.inl hlt)]; exact hk) rfl ⟨by omega, by omega⟩ rfl (fun υ hD hU hQ => ?_)
    refine aw_retv rfl ⟨rfl, (if q' = q ∧ q < az_n σ then [l, q] else [l]), q', ?_, ?_, ?_, ?_, ?_, ?_⟩
    · intro b hb
      split at hb
      · rename_i e
        rcases List.mem_cons.mp hb with e1 | e1
        · exact Or.inl e1
        · rw [List.mem_singleton.mp e1]; exact Or.inr ⟨rfl, by omega, e.2⟩
      · exact Or.inl (List.mem_singleton.mp hb)
    · refine Ex.tr (τ := τ) (T := [q', l]) (hx.su (fun b hb _ => ?_)) ?_ (fun b hb hb2 => ?_)
      · have := hS b hb
        split <;> simp [this]
      · refine Ex.tr (T := [l]) ((Ex_pr (σ := τ) (a := q')).su (fun b hb _ => ?_)) hD.ex (fun b hb _ => ?_)
        · rw [List.mem_singleton.mp hb]; simp
        · rw [List.mem_singleton.mp hb]; simp
      · rcases List.mem_cons.mp hb with e1 | e1
        · subst e1
          rcases h7 with ⟨e2, e3⟩ | ⟨e2, -⟩
          · rw [if_pos ⟨e2, by omega⟩, e2]; simp
          · omega
        · rw [List.mem_singleton.mp e1]
          split <;> simp
    · have e1 : az_r υ = az_r (az_pr τ q' n.toNat (some v)) := hD.2.2.2.1
      have e2 : az_sh υ = az_sh τ := hD.2.2.1
      refine ⟨by rw [hU, if_pos rfl], ?_, Or.inr ⟨h4, ?_, cap, ?_, by omega, ⟨by omega, h3⟩, fun j j0 j1 => ?_⟩⟩
      · rw [e1]
        show az_up (az_r τ) q' n.toNat (some v) l 1 = some q'
        rw [az_up_ne (fun e => h6 e.symm)]
        exact h10
      · show q' < υ.1
        rw [hD.1]
        exact h5
      · rw [e2]; exact h1
      · rw [e1]
        show az_up (az_r τ) q' n.toNat (some v) q' j.toNat = some (if j = n then v else el j)
        by_cases e : j = n
        · rw [if_pos e, e, az_up_sf]
        · rw [if_neg e, az_up_nk (by omega)]
          exact h11 j j0 (by omega)
    · rcases h7 with ⟨e1, e2⟩ | ⟨e1, e2⟩
      · exact Or.inl ⟨e1, hD.1.trans e2⟩
      · exact Or.inr ⟨e1, hD.1.trans e2⟩
    · show υ.2.1 ≤ _
      rw [hD.2.1]
      exact h8
    · intro w w1 w2
      rw [hU, if_neg w1]
      show zx τ l w = _
      rw [h9]
  refine aw_iload_n rfl rfl rfl ?_
  refine aw_aload_n rfl rfl rfl ?_
  rcases hL3 with ⟨e1, e2⟩ | ⟨e1, e2, cap, e3, e4, e5, e6⟩
  · subst e2
    subst e1
    refine aw_alen (N := 0) rfl hq (by decide) rfl ?_
    refine aw_icmp (p' := 11) rfl ⟨by omega, by omega⟩ ⟨by omega, by omega⟩ rfl rfl (fun c => ?_) (fun c => ?_)
    · dsimp only [zc] at c; omega
    · refine aw_aload_n rfl rfl rfl ?_
      refine aw_calc (j_growd (n := 0) (Pc := fun r τ => r = some (.ref (az_n σ)) ∧ Grown σ τ l 1000001 0) hk hL1 ((j_grow0 (d := d) hk (by omega) hL2 hq hs (by omega)).imp (fun r τ q => ⟨_, q.1, rfl, q.2⟩))) rfl rfl rfl (Nat.le_of_ble_eq_true rfl) (Or.inr ⟨_, rfl, hk⟩) rfl ?_
      rintro _ τ ⟨rfl, g1, g2, ⟨cap, g3, g4, g5⟩, g6, g7, g8, g9⟩
      refine aw_astore_n rfl (Nat.le_of_ble_eq_true rfl) rfl rfl ?_
      exact fin τ (az_n σ) cap [l] g6 (fun b hb => List.mem_singleton.mp hb) g3 (by omega) g5 h103 (by omega) (by omega) (Or.inr ⟨rfl, g1⟩) g2 g7 g8 (fun j a b => by omega)
  · refine aw_alen (N := cap) rfl e3 (by decide) rfl ?_
    refine aw_icmp (p' := 11) rfl ⟨by omega, by omega⟩ ⟨by omega, by omega⟩ rfl rfl (fun c => ?_) (fun c => ?_)
    · dsimp only [zc] at c
      exact fin σ q cap [] Ex.rf (fun b hb => by simp at hb) e3 (by omega) e5.2 e1 e2 (by omega) (Or.inl ⟨rfl, rfl⟩) (by omega) rfl hL2 e6
    · dsimp only [zc] at c
      have en : n = (cap : Int) := by omega
      subst en
      refine aw_aload_n rfl rfl rfl ?_
      refine aw_calc (j_growd (n := (cap : Int)) (Pc := fun r τ => r = some (.ref (az_n σ)) ∧ Grown σ τ l q cap) hk hL1 ((j_grow1 (d := d) hk (by omega) hL2 e3 e2 (by omega) (by omega) (by omega) (fun j hj => by
        have h1 := e6 (j : Int) (by omega) (by omega)
        have h2 := hel (j : Int) (by omega) (by omega)
        rw [Int.toNat_natCast] at h1
        exact ⟨_, h1, h2⟩)).imp (fun r τ q => ⟨_, q.1, rfl, q.2⟩))) rfl rfl rfl (Nat.le_of_ble_eq_true rfl) (Or.inr ⟨_, rfl, hk⟩) rfl ?_
      rintro _ τ ⟨rfl, g1, g2, ⟨cap2, g3, g4, g5⟩, g6, g7, g8, g9⟩
      refine aw_astore_n rfl (Nat.le_of_ble_eq_true rfl) rfl rfl ?_
      exact fin τ (az_n σ) cap2 [l] g6 (fun b hb => List.mem_singleton.mp hb) g3 (by omega) g5 h103 (by omega) (by omega) (Or.inr ⟨rfl, g1⟩) g2 g7 g8 (fun j a b => by rw [g9 j.toNat (by omega)]; exact e6 j a b)
set_option maxRecDepth 10000 in
set_option maxHeartbeats 1000000 in
theorem j_add {d : Nat} {σ : az_S} {l q v : Nat} {n : Int} {el : Int → Nat} (hk : (az_sh σ l).1 = 0) (hln : l < 103) (h103 : 103 ≤ az_n σ) (hL : cLS σ l n q el) (hn0 : 0 ≤ n) (hn1 : n ≤ 90) (hv : (az_sh σ v).1 < 14) (hvn : v < az_n σ) (hq : az_sh σ 1000001 = (111, 0)) (hs : az_r σ 1000007 0 = some 1000001) (hl : az_n σ < 900000) (hel : ∀ j : Int, 0 ≤ j → j < n → (az_sh σ (el j)).1 < 14 ∧ el j < az_n σ) : cal (d + 7) 274 [.ref l, .ref v] σ (fun r τ => r = some (.int (iI 1)) ∧ Added σ τ l q v n el) := by
  refine cal_of (M := (yJx4a65c_add_9ea2d, cJx4a65c_add_9ea2d, 2, some .boolean)) (cd := k_Jx4a65c_add_9ea2d) (L := [some (.ref l), some (.ref v)]) rfl (Nat.le_of_ble_eq_true rfl) rfl rfl ?_
  refine aw_aload_n rfl rfl rfl ?_
  refine aw_dup rfl rfl rfl ?_
  refine aw_gs (0) rfl rfl hk rfl rfl (fun _ _ => ?_)
  refine aw_iconst rfl rfl ?_
  refine aw_iadd rfl rfl ?_
  refine aw_puti rfl rfl hk rfl ?_
  have hd : Mod σ (az_pi σ l 0 (iI (zx σ l 0 + 1))) [l] := Mod_pi (by simp)
  have e2 : zx (az_pi σ l 0 (iI (zx σ l 0 + 1))) l 2 = n := by rw [zx_pn (Or.inr (by decide))]; exact hL.1
  have hL2 : cLS (az_pi σ l 0 (iI (zx σ l 0 + 1))) l n q el := ⟨e2, hL.2.1, hL.2.2⟩
  refine aw_aload_n rfl rfl rfl ?_
  refine aw_aload_n rfl rfl rfl ?_
  refine aw_aload_n rfl rfl rfl ?_
  refine aw_getr (b := q) rfl rfl hk hL.2.1 rfl ?_
  refine aw_aload_n rfl rfl rfl ?_
  refine aw_gk (v := n) (2) rfl rfl hk rfl e2 rfl (fun _ _ => ?_)
  refine aw_calc (j_add3 (v := v) hk hln h103 hL2 hn0 hn1 hv hvn hq hs hl hel) rfl rfl rfl (Nat.le_of_ble_eq_true rfl) (Or.inr ⟨_, rfl, hk⟩) rfl ?_
  rintro _ τ ⟨rfl, S, q', h1, h2, h3, h4, h5, h6⟩
  refine aw_iconst rfl rfl ?_
  refine aw_retn rfl rfl ⟨rfl, l :: S, q', ?_, ?_, h3, h4, h5, ?_⟩
  · intro b hb
    rcases List.mem_cons.mp hb with e | e
    · exact Or.inl e
    · exact h1 b e
  · exact Ex.tr (hd.ex.su (T := l :: S) (fun b hb _ => by rw [List.mem_singleton.mp hb]; simp)) h2 (fun b hb _ => List.mem_cons_of_mem _ hb)
  · intro w w1 w2
    rw [h6 w w1 w2, zx_pn (Or.inr w2)]
