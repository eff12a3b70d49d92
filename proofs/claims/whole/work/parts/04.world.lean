/-! THE WORLD of an abstract store, as cells of the machine's heap -/
def az_ad (base : Nat) (cs : Nat → Nat) (i : Nat) : Nat := if i < 1000000 then base + i else cs i
def az_tr (ad : Nat → Nat) (v : Value) : Value := match v with
  | .ref i => .ref (ad i)
  | w => w
theorem az_tr_rf (ad : Nat → Nat) (o : Option Nat) : az_tr ad (va_rf o) = va_rf (o.map ad) := by cases o <;> rfl
theorem az_tr_cat (ad : Nat → Nat) (v : Value) : (az_tr ad v).category = v.category := by cases v <;> rfl
theorem az_tr_cats (ad : Nat → Nat) (l : List Value) : ((l.map (az_tr ad)).map fun v => v.category) = l.map fun v => v.category := by
  rw [List.map_map]
  congr 1
  funext v
  exact az_tr_cat ad v
def az_E (cA : Nat → ClassId) (ad : Nat → Nat) (σ : az_S) (a : Nat) : va_E :=
  if (az_sh σ a).1 < 14 then .inr ((az_sh σ a).1, (List.range (az_nf (az_sh σ a).1)).map (fun k => az_tr ad (az_fv σ a k (az_ft (az_sh σ a).1 k))))
  else if (az_sh σ a).1 = 103 then .inl (cA 103, (az_sh σ a).2, .inr (.inl (az_l σ a)))
  else if (az_sh σ a).1 = 104 then .inl (cA 104, (az_sh σ a).2, .inr (.inr (.inr (.inr (fun j => (az_r σ a j).map ad)))))
  else .inl (cA (az_sh σ a).1, (az_sh σ a).2, .inl (az_i σ a))
def az_ws (cA : Nat → ClassId) (ad : Nat → Nat) (σ : az_S) : va_W := (List.range (az_n σ)).map (fun a => (ad a, az_E cA ad σ a))
def az_tys (cA : Nat → ClassId) : List (ClassId × FieldType) := [(cA 100, .int), (cA 101, .boolean), (cA 102, .byte), (cA 103, .long), (cA 104, .object "java/lang/Object")]
theorem az_ws_get {cA : Nat → ClassId} {ad : Nat → Nat} {σ : az_S} {a : Nat} (h : a < az_n σ) : (az_ws cA ad σ)[a]? = some (ad a, az_E cA ad σ a) := by
  simp [az_ws, h]
theorem az_D {cA : Nat → ClassId} {base : Nat} {cs : Nat → Nat} {σ : az_S} (h : az_n σ ≤ 1000000) : va_D (fun q => base ≤ q) (az_ws cA (az_ad base cs) σ) := by
  have key : ∀ (k : Nat) (q : Nat × va_E), (az_ws cA (az_ad base cs) σ)[k]? = some q → q.1 = base + k := by
    intro k q hk
    have hl := (List.getElem?_eq_some_iff.mp hk).1
    simp only [az_ws, List.length_map, List.length_range] at hl
    rw [az_ws_get hl] at hk
    cases hk
    simp [az_ad, Nat.lt_of_lt_of_le hl h]
  refine ⟨fun i j x y hx hy e => ?_, fun k q hk => ?_⟩
  · rw [key i x hx, key j y hy] at e
    omega
  · rw [key k q hk]
    exact Nat.le_add_right _ _
theorem az_ws_set {cA : Nat → ClassId} {ad : Nat → Nat} {σ τ : az_S} {a : Nat} (hn : az_n τ = az_n σ) (he : ∀ b, b ≠ a → az_E cA ad τ b = az_E cA ad σ b) : az_ws cA ad τ = (az_ws cA ad σ).set a (ad a, az_E cA ad τ a) := by
  apply List.ext_getElem?
  intro k
  by_cases hk : k < az_n σ
  · rw [az_ws_get (by rw [hn]; exact hk)]
    by_cases hka : k = a
    · subst hka
      rw [List.getElem?_set_self (by simp [az_ws, hk])]
    · rw [List.getElem?_set_ne (Ne.symm hka), az_ws_get hk, he k hka]
  · rw [List.getElem?_eq_none (by simp [az_ws]; omega), List.getElem?_eq_none (by simp [az_ws]; omega)]
theorem az_ws_push {cA : Nat → ClassId} {ad : Nat → Nat} {σ τ : az_S} (hn : az_n τ = az_n σ + 1) (he : ∀ b, b ≠ az_n σ → az_E cA ad τ b = az_E cA ad σ b) : az_ws cA ad τ = az_ws cA ad σ ++ [(ad (az_n σ), az_E cA ad τ (az_n σ))] := by
  unfold az_ws
  rw [hn, List.range_succ, List.map_append]
  congr 1
  apply List.map_congr_left
  intro b hb
  rw [he b (by have := List.mem_range.mp hb; omega)]
theorem az_fv_ne {σ : az_S} {a b k j kd : Nat} {v : Int32} (h : b ≠ a) : az_fv (az_pi σ a k v) b j kd = az_fv σ b j kd := by
  unfold az_fv
  split <;> simp [az_i, az_l, az_r, az_sh, az_pi, az_pl, az_pr, az_up, va_up, h]
theorem az_fvl_ne {σ : az_S} {a b k j kd : Nat} {v : Int64} (h : b ≠ a) : az_fv (az_pl σ a k v) b j kd = az_fv σ b j kd := by
  unfold az_fv
  split <;> simp [az_i, az_l, az_r, az_sh, az_pi, az_pl, az_pr, az_up, va_up, h]
theorem az_fvr_ne {σ : az_S} {a b k j kd : Nat} {v : Option Nat} (h : b ≠ a) : az_fv (az_pr σ a k v) b j kd = az_fv σ b j kd := by
  unfold az_fv
  split <;> simp [az_i, az_l, az_r, az_sh, az_pi, az_pl, az_pr, az_up, va_up, h]
theorem az_E_pi {cA : Nat → ClassId} {ad : Nat → Nat} {σ : az_S} {a b k : Nat} {v : Int32} (h : b ≠ a) : az_E cA ad (az_pi σ a k v) b = az_E cA ad σ b := by
  unfold az_E
  simp only [az_fv_ne h]
  simp [az_i, az_l, az_r, az_sh, az_pi, az_pl, az_pr, az_up, va_up, h]
theorem az_E_pl {cA : Nat → ClassId} {ad : Nat → Nat} {σ : az_S} {a b k : Nat} {v : Int64} (h : b ≠ a) : az_E cA ad (az_pl σ a k v) b = az_E cA ad σ b := by
  unfold az_E
  simp only [az_fvl_ne h]
  simp [az_i, az_l, az_r, az_sh, az_pi, az_pl, az_pr, az_up, va_up, h]
theorem az_E_pr {cA : Nat → ClassId} {ad : Nat → Nat} {σ : az_S} {a b k : Nat} {v : Option Nat} (h : b ≠ a) : az_E cA ad (az_pr σ a k v) b = az_E cA ad σ b := by
  unfold az_E
  simp only [az_fvr_ne h]
  simp [az_i, az_l, az_r, az_sh, az_pi, az_pl, az_pr, az_up, va_up, h]
theorem az_E_nw {cA : Nat → ClassId} {ad : Nat → Nat} {σ : az_S} {b kd m : Nat} (h : b ≠ az_n σ) : az_E cA ad (az_nw σ kd m) b = az_E cA ad σ b := by
  have hf : ∀ j q, az_fv (az_nw σ kd m) b j q = az_fv σ b j q := by
    intro j q
    unfold az_fv
    split <;> simp [az_i, az_l, az_r, az_sh, az_nw, va_up, h]
  unfold az_E
  simp only [hf]
  simp [az_i, az_l, az_r, az_sh, az_nw, va_up, h]
/-- an object's fields with one of them set -/
theorem az_fs_set {N k : Nat} {f : Nat → Value} {v : Value} : ((List.range N).map f).set k v = (List.range N).map (fun j => if j = k then v else f j) := by
  apply List.ext_getElem?
  intro i
  by_cases hi : i < N
  · by_cases hik : i = k
    · subst hik
      rw [List.getElem?_set_self (by simp [hi])]
      simp [hi]
    · rw [List.getElem?_set_ne (Ne.symm hik)]
      simp [hi, hik]
  · rw [List.getElem?_eq_none (by simp; omega), List.getElem?_eq_none (by simp; omega)]
/-- which stores are sound: what has a kind of the world is in it; constants lie apart -/
def az_ok (σ : az_S) : Prop := (∀ a, (az_sh σ a).1 < 110 → a < az_n σ) ∧ az_n σ ≤ 1000000 ∧ (∀ a, a < 1000000 → (az_sh σ a).1 < 110 ∨ (az_sh σ a).1 = 999)
def az_lv (ad : Nat → Nat) (ls : Array Slot) (nL : Nat) (L : az_V) : Prop := ls.size = nL ∧ L.length = nL ∧ lv_wf ls ∧ ∀ i v, az_get L i = some v → ls[i]? = some (.val (az_tr ad v))
def az_ll (ad : Nat → Nat) (L : az_V) : List (Nat × Value) := (List.range L.length).filterMap (fun i => (az_get L i).map (fun v => (i, az_tr ad v)))
theorem az_get_lt {L : az_V} {i : Nat} {v : Value} (h : az_get L i = some v) : i < L.length := by
  unfold az_get at h
  by_cases hi : i < L.length
  · exact hi
  · rw [List.getElem?_eq_none (by omega)] at h
    cases h
theorem az_mem_ll {ad : Nat → Nat} {L : az_V} {q : Nat × Value} : q ∈ az_ll ad L ↔ ∃ v, az_get L q.1 = some v ∧ q.2 = az_tr ad v := by
  unfold az_ll
  rw [List.mem_filterMap]
  constructor
  · rintro ⟨i, _, hi⟩
    cases hg : az_get L i with
    | none => rw [hg] at hi; cases hi
    | some v => rw [hg] at hi; cases hi; exact ⟨v, hg, rfl⟩
  · rintro ⟨v, h1, h2⟩
    refine ⟨q.1, List.mem_range.mpr (az_get_lt h1), ?_⟩
    rw [h1, Option.map_some, ← h2]
theorem az_lv.has {ad : Nat → Nat} {ls : Array Slot} {nL : Nat} {L : az_V} (h : az_lv ad ls nL L) : lv_has ls nL (az_ll ad L) := by
  refine ⟨h.1, h.2.2.1, fun q hq => ?_⟩
  obtain ⟨v, h1, h2⟩ := az_mem_ll.mp hq
  rw [h2]
  exact h.2.2.2 q.1 v h1
theorem az_get_set {L : az_V} {i j : Nat} {u : Option Value} : az_get (L.set i u) j = if j = i ∧ i < L.length then u else az_get L j := by
  unfold az_get
  by_cases hij : j = i
  · subst hij
    by_cases hl : j < L.length
    · rw [List.getElem?_set_self hl]
      simp [hl]
    · simp [hl]
  · rw [List.getElem?_set_ne (Ne.symm hij)]
    simp [hij]
theorem az_kill_len (L : az_V) (i : Nat) : (az_kill L i).length = L.length := by
  cases i <;> simp [az_kill]
theorem az_kl_some {u : Option Value} {v : Value} (h : az_kl u = some v) : u = some v ∧ v.category = 1 := by
  unfold az_kl at h
  split at h
  · cases h
  · cases h
  · rename_i w h1 h2
    subst h
    refine ⟨rfl, ?_⟩
    cases v <;> first | rfl | exact absurd rfl (h1 _) | exact absurd rfl (h2 _)
theorem az_get_kill {L : az_V} {i j : Nat} {v : Value} (h : az_get (az_kill L i) j = some v) : az_get L j = some v ∧ (j + 1 = i → v.category = 1) := by
  cases i with
  | zero => exact ⟨h, fun e => by omega⟩
  | succ k =>
    unfold az_kill at h
    simp only at h
    rw [az_get_set] at h
    split at h
    · rename_i hc
      obtain ⟨h1, h2⟩ := az_kl_some h
      rw [hc.1]
      exact ⟨h1, fun _ => h2⟩
    · rename_i hc
      refine ⟨h, fun e => ?_⟩
      exact absurd ⟨by omega, by have := az_get_lt h; omega⟩ hc
theorem az_lv.put1 {ad : Nat → Nat} {ls ls' : Array Slot} {nL i : Nat} {L : az_V} {v : Value} (h : az_lv ad ls nL L) (h' : lv_has ls' nL ((i, az_tr ad v) :: (az_ll ad L).filter (fun q => !(q.1 == i) && !(q.1 + 1 == i && q.2.category == 2)))) : az_lv ad ls' nL (az_put1 L i v) := by
  refine ⟨h'.1, by simp [az_put1, az_kill_len, h.2.1], h'.2.1, fun j w hj => ?_⟩
  unfold az_put1 at hj
  rw [az_get_set] at hj
  split at hj
  · rename_i hc
    cases hj
    rw [hc.1]
    exact h'.2.2 (i, az_tr ad v) List.mem_cons_self
  · rename_i hc
    obtain ⟨h1, h2⟩ := az_get_kill hj
    have hji : j ≠ i := fun e => hc ⟨e, by rw [az_kill_len, ← e]; exact az_get_lt h1⟩
    refine h'.2.2 (j, az_tr ad w) (List.mem_cons_of_mem _ (List.mem_filter.mpr ⟨az_mem_ll.mpr ⟨w, h1, rfl⟩, ?_⟩))
    by_cases hq : j + 1 = i
    · simp [hji, hq, az_tr_cat, h2 hq]
    · simp [hji, hq]
theorem az_lv.put2 {ad : Nat → Nat} {ls ls' : Array Slot} {nL i : Nat} {L : az_V} {v : Value} (h : az_lv ad ls nL L) (h' : lv_has ls' nL ((i, az_tr ad v) :: (az_ll ad L).filter (fun q => !(q.1 == i) && (!(q.1 == i + 1) && !(q.1 + 1 == i && q.2.category == 2))))) : az_lv ad ls' nL (az_put2 L i v) := by
  refine ⟨h'.1, by simp [az_put2, az_kill_len, h.2.1], h'.2.1, fun j w hj => ?_⟩
  unfold az_put2 at hj
  rw [az_get_set] at hj
  split at hj
  · cases hj
  · rename_i hc2
    rw [az_get_set] at hj
    split at hj
    · rename_i hc
      cases hj
      rw [hc.1]
      exact h'.2.2 (i, az_tr ad v) List.mem_cons_self
    · rename_i hc
      obtain ⟨h1, h2⟩ := az_get_kill hj
      have hl := az_get_lt h1
      have hji : j ≠ i := fun e => hc ⟨e, by rw [az_kill_len, ← e]; exact hl⟩
      have hji2 : j ≠ i + 1 := fun e => hc2 ⟨e, by rw [List.length_set, az_kill_len, ← e]; exact hl⟩
      refine h'.2.2 (j, az_tr ad w) (List.mem_cons_of_mem _ (List.mem_filter.mpr ⟨az_mem_ll.mpr ⟨w, h1, rfl⟩, ?_⟩))
      by_cases hq : j + 1 = i
      · simp [hji, hji2, hq, az_tr_cat, h2 hq]
      · simp [hji, hji2, hq]
