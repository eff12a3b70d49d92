/-! ONE STEP: where the abstract machine goes on, the machine goes on -/
theorem az_jt {pc : Nat} {off : Int} (h : 0 ≤ (pc : Int) + off) : (pc : Int) + off = ((az_j pc off : Nat) : Int) := by
  unfold az_j
  omega
theorem az_ad_lt {base : Nat} {cs : Nat → Nat} {a : Nat} (h : a < 1000000) : az_ad base cs a = base + a := by simp [az_ad, h]
theorem az_ad_ge {base : Nat} {cs : Nat → Nat} {a : Nat} (h : ¬ a < 1000000) : az_ad base cs a = cs a := by simp [az_ad, h]
theorem az_E_obj {cA : Nat → ClassId} {ad : Nat → Nat} {σ : az_S} {a ci : Nat} (h : (az_sh σ a).1 = ci) (hc : ci < 14) : az_E cA ad σ a = .inr (ci, (List.range (az_nf ci)).map (fun k => az_tr ad (az_fv σ a k (az_ft ci k)))) := by
  unfold az_E
  rw [h, if_pos hc]
theorem az_E_int {cA : Nat → ClassId} {ad : Nat → Nat} {σ : az_S} {a kd : Nat} (h : (az_sh σ a).1 = kd) (hc : kd = 100 ∨ kd = 101 ∨ kd = 102) : az_E cA ad σ a = .inl (cA kd, (az_sh σ a).2, .inl (az_i σ a)) := by
  unfold az_E
  rw [h, if_neg (by omega), if_neg (by omega), if_neg (by omega)]
theorem az_E_long {cA : Nat → ClassId} {ad : Nat → Nat} {σ : az_S} {a : Nat} (h : (az_sh σ a).1 = 103) : az_E cA ad σ a = .inl (cA 103, (az_sh σ a).2, .inr (.inl (az_l σ a))) := by
  unfold az_E
  rw [h, if_neg (by omega), if_pos rfl]
theorem az_E_ref {cA : Nat → ClassId} {ad : Nat → Nat} {σ : az_S} {a : Nat} (h : (az_sh σ a).1 = 104) : az_E cA ad σ a = .inl (cA 104, (az_sh σ a).2, .inr (.inr (.inr (.inr (fun j => (az_r σ a j).map ad))))) := by
  unfold az_E
  rw [h, if_neg (by omega), if_neg (by omega), if_pos rfl]
theorem az_ok.lt {σ : az_S} {a : Nat} (h : az_ok σ) (hk : (az_sh σ a).1 < 110) : a < az_n σ ∧ a < 1000000 := by
  have := h.1 a hk
  have := h.2.1
  omega
theorem az_ok.ge {σ : az_S} {a : Nat} (h : az_ok σ) (hk : 110 ≤ (az_sh σ a).1 ∧ (az_sh σ a).1 ≤ 120) : ¬ a < 1000000 := by
  intro q
  have := h.2.2 a q
  omega
theorem az_upd_i {α : Type} {f : Nat → Nat → α} {a k : Nat} {v : α} : az_up f a k v a = va_up (f a) k v := by simp [az_up, va_up]
theorem az_ok.pi {σ : az_S} {a k : Nat} {v : Int32} (h : az_ok σ) : az_ok (az_pi σ a k v) := h
theorem az_ok.pl {σ : az_S} {a k : Nat} {v : Int64} (h : az_ok σ) : az_ok (az_pl σ a k v) := h
theorem az_ok.pr {σ : az_S} {a k : Nat} {v : Option Nat} (h : az_ok σ) : az_ok (az_pr σ a k v) := h
theorem az_ok.nw {σ : az_S} {kd m : Nat} (h : az_ok σ) (hn : az_n σ < 1000000) (hk : kd < 110) : az_ok (az_nw σ kd m) := by
  refine ⟨fun a ha => ?_, hn, fun a ha => ?_⟩
  · by_cases e : a = az_n σ
    · subst e; exact Nat.lt_succ_self _
    · have h1 : (az_sh (az_nw σ kd m) a).1 = (az_sh σ a).1 := by simp [az_sh, az_nw, va_up, e]
      rw [h1] at ha
      exact Nat.lt_succ_of_lt (h.1 a ha)
  · by_cases e : a = az_n σ
    · subst e
      left
      show (va_up σ.2.2.1 σ.1 (kd, m) σ.1).1 < 110
      simp [va_up, hk]
    · have h1 : (az_sh (az_nw σ kd m) a).1 = (az_sh σ a).1 := by simp [az_sh, az_nw, va_up, e]
      rw [h1]
      exact h.2.2 a ha
theorem az_C.pi {base : Nat} {cs : Nat → Nat} {σ : az_S} {U : State} {a k : Nat} {v : Int32} (h : az_C base cs σ U) (hk : (az_sh σ a).1 < 110) : az_C base cs (az_pi σ a k v) U := by
  refine h.upd fun b hb => ?_
  have hb' : 110 ≤ (az_sh σ b).1 := by rcases hb with h | h <;> exact h.1
  have e : b ≠ a := fun e => by subst e; omega
  simp [az_sh, az_i, az_r, az_up, va_up, e]
theorem az_C.pl {base : Nat} {cs : Nat → Nat} {σ : az_S} {U : State} {a k : Nat} {v : Int64} (h : az_C base cs σ U) : az_C base cs (az_pl σ a k v) U := az_C.upd (σ := σ) (τ := az_pl σ a k v) (fun b _ => ⟨rfl, rfl, rfl⟩) h
theorem az_C.pr {base : Nat} {cs : Nat → Nat} {σ : az_S} {U : State} {a k : Nat} {v : Option Nat} (h : az_C base cs σ U) (hk : (az_sh σ a).1 < 110) : az_C base cs (az_pr σ a k v) U := by
  refine h.upd fun b hb => ?_
  have hb' : 110 ≤ (az_sh σ b).1 := by rcases hb with h | h <;> exact h.1
  have e : b ≠ a := fun e => by subst e; omega
  simp [az_sh, az_i, az_r, az_up, va_up, e]
theorem az_C.nw {base : Nat} {cs : Nat → Nat} {σ : az_S} {U : State} {kd m : Nat} (h : az_C base cs σ U) (hok : az_ok σ) (hn : az_n σ < 1000000) (hk : kd < 110) : az_C base cs (az_nw σ kd m) U := by
  refine h.upd fun b hb => ?_
  have e : b ≠ az_n σ := by
    intro e
    subst e
    have h1 := hok.2.2 (az_n σ) hn
    have h2 : (az_sh (az_nw σ kd m) (az_n σ)).1 = kd := by simp [az_sh, az_nw, va_up]
    rcases hb with q | q <;> omega
  simp [az_sh, az_i, az_r, az_nw, va_up, e]
theorem az_fs_pi {ad : Nat → Nat} {σ : az_S} {a k ci N : Nat} {v : Int32} (hk : az_ft ci k = 0) : (List.range N).map (fun j => az_tr ad (az_fv (az_pi σ a k v) a j (az_ft ci j))) = ((List.range N).map (fun j => az_tr ad (az_fv σ a j (az_ft ci j)))).set k (.int v) := by
  rw [az_fs_set]
  apply List.map_congr_left
  intro j _
  by_cases e : j = k
  · subst e
    simp [hk, az_fv, az_i, az_up, va_up, az_tr]
  · simp only [e, if_false]
    congr 1
    unfold az_fv
    split <;> simp [az_i, az_l, az_r, az_up, va_up, e]
theorem az_fs_pl {ad : Nat → Nat} {σ : az_S} {a k ci N : Nat} {v : Int64} (hk : az_ft ci k = 1) : (List.range N).map (fun j => az_tr ad (az_fv (az_pl σ a k v) a j (az_ft ci j))) = ((List.range N).map (fun j => az_tr ad (az_fv σ a j (az_ft ci j)))).set k (.long v) := by
  rw [az_fs_set]
  apply List.map_congr_left
  intro j _
  by_cases e : j = k
  · subst e
    simp [hk, az_fv, az_l, az_up, va_up, az_tr]
  · simp only [e, if_false]
    congr 1
    unfold az_fv
    split <;> simp [az_i, az_l, az_r, az_up, va_up, e]
theorem az_fs_pr {ad : Nat → Nat} {σ : az_S} {a k ci N : Nat} {v : Option Nat} (hk : az_ft ci k = 2) : (List.range N).map (fun j => az_tr ad (az_fv (az_pr σ a k v) a j (az_ft ci j))) = ((List.range N).map (fun j => az_tr ad (az_fv σ a j (az_ft ci j)))).set k (va_rf (v.map ad)) := by
  rw [az_fs_set]
  apply List.map_congr_left
  intro j _
  by_cases e : j = k
  · subst e
    rw [hk, if_pos rfl]
    show az_tr ad (va_rf (az_r (az_pr σ a j v) a j)) = _
    rw [az_tr_rf]
    simp [az_r, az_up, va_up]
  · simp only [e, if_false]
    congr 1
    unfold az_fv
    split <;> simp [az_i, az_l, az_r, az_up, va_up, e]
theorem az_upd_eq {f : Nat → Int32} {k : Nat} {x : Int32} : upd f k x = va_up f k x := rfl
theorem az_updL_eq {f : Nat → Int64} {k : Nat} {x : Int64} : vp_updL f k x = va_up f k x := rfl
theorem az_narrow_ref {ty : FieldType} (h : az_tk 2 ty = true) (o : Option Nat) : narrow ty (va_rf o) = va_rf o ∧ fits ty (va_rf o) = true := by
  cases ty <;> first | (cases h; done) | (cases o <;> exact ⟨rfl, rfl⟩)
