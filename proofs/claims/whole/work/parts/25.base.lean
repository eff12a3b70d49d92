/-! THE FIXED PLACES: the class's object at 0, the reference's at 42, what they are made of -/
def fxk (a : Nat) : Nat := ([12, 7, 100, 100, 100, 0, 0, 0, 0, 9, 100, 100, 100, 100, 100, 100, 10, 100, 100, 100, 100, 103, 10, 100, 100, 100, 100, 103, 2, 6, 100, 101, 100, 5, 100, 100, 100, 100, 103, 103, 3, 100, 13, 100, 100, 100, 100, 100, 100, 100, 100, 100, 100, 100, 100, 100, 100, 100, 100, 100, 100, 100, 100, 100, 100, 100, 100, 100, 100, 100, 100, 100, 100, 100, 102, 100, 100, 100, 100, 100, 100, 100, 103, 100, 100, 100, 100, 100, 101, 100, 100, 101, 100, 100, 100, 100, 101, 100, 103, 100, 103, 100, 100] : List Nat).getD a 999
def fxn (sz a : Nat) : Nat := ([18, 4, 144, 144, 60, 3, 3, 3, 3, 6, 400, 401, 401, 401, 8, 24, 7, 400, 400, 20, 20, 64, 7, 400, 400, 20, 20, 64, 3, 7, 24, sz, sz, 9, 12, (12 * sz), sz, sz, sz, sz, 6, sz, 90, 144, 144, 60, 60, 16, 16, 24, 24, 24, 24, 24, 24, 24, 24, 984, 984, 984, 24, 24, 24, 60, 60, 60, 60, 60, 60, 60, 60, 60, 60, 60, 400, 900, 900, 900, 900, 64, 128, 128, 300, 8, 10, 10, 10, 120, 192, 192, 192, 192, 24, 24, 65, 65, 2304, 2304, 2304, 2304, 2304, 12, 192] : List Nat).getD a 0
def fxl : List (Nat × Nat × Nat) := [(0, 0, 28), (0, 1, 1), (0, 2, 5), (0, 3, 6), (0, 4, 7), (0, 5, 8), (0, 6, 29), (0, 7, 9), (0, 8, 40), (0, 9, 33), (0, 10, 14), (0, 11, 15), (0, 12, 41), (1, 0, 2), (1, 1, 3), (1, 2, 4), (9, 0, 10), (9, 2, 11), (9, 3, 12), (9, 4, 13), (16, 0, 17), (16, 1, 18), (16, 2, 19), (16, 3, 20), (16, 4, 21), (22, 0, 23), (22, 1, 24), (22, 2, 25), (22, 3, 26), (22, 4, 27), (29, 0, 28), (29, 1, 1), (29, 2, 6), (29, 3, 30), (29, 4, 31), (29, 5, 32), (33, 0, 28), (33, 1, 35), (33, 2, 34), (40, 0, 9), (42, 4, 43), (42, 5, 44), (42, 7, 45), (42, 8, 46), (42, 10, 47), (42, 11, 48), (42, 13, 49), (42, 14, 50), (42, 15, 51), (42, 16, 52), (42, 17, 53), (42, 18, 54), (42, 19, 55), (42, 20, 56), (42, 21, 57), (42, 22, 58), (42, 23, 59), (42, 24, 60), (42, 25, 61), (42, 26, 62), (42, 28, 63), (42, 29, 64), (42, 30, 65), (42, 31, 66), (42, 32, 67), (42, 33, 68), (42, 34, 69), (42, 35, 70), (42, 36, 71), (42, 37, 72), (42, 38, 73), (42, 39, 74), (42, 52, 75), (42, 53, 76), (42, 56, 77), (42, 57, 78), (42, 59, 79), (42, 61, 80), (42, 62, 81), (42, 64, 82), (42, 65, 83), (42, 67, 84), (42, 68, 85), (42, 69, 86), (42, 70, 87), (42, 71, 88), (42, 72, 89), (42, 73, 90), (42, 74, 91), (42, 75, 92), (42, 76, 93), (42, 77, 94), (42, 79, 95), (42, 80, 96), (42, 81, 97), (42, 82, 98), (42, 83, 99), (42, 84, 100), (42, 87, 101), (42, 89, 102)]
def fxq (a k : Nat) : Option Nat := (fxl.find? (fun q => q.1 == a && q.2.1 == k)).map (fun q => q.2.2)
def FX (sz : Nat) (σ : az_S) : Prop := (16 ≤ sz ∧ sz ≤ 192) ∧ (∀ a, a < 103 → az_sh σ a = (fxk a, fxn sz a)) ∧ ∀ a k b, fxq a k = some b → az_r σ a k = some b
theorem FX.s {sz : Nat} {σ : az_S} (h : FX sz σ) (a : Nat) (ha : Nat.ble (a + 1) 103 = true) : az_sh σ a = (fxk a, fxn sz a) := h.2.1 a (Nat.le_of_ble_eq_true ha)
theorem FX.k {sz : Nat} {σ : az_S} (h : FX sz σ) (a : Nat) (ha : Nat.ble (a + 1) 103 = true) : (az_sh σ a).1 = fxk a := by rw [h.s a ha]
theorem FX.r {sz : Nat} {σ : az_S} (h : FX sz σ) (a k b : Nat) (hq : fxq a k = some b) : az_r σ a k = some b := h.2.2 a k b hq

/-! VIEWS: what stands in a place, as whole numbers -/
def zx (σ : az_S) (a : Nat) (z : Int) : Int := if z < 0 then 0 else zi σ a z.toNat
def zq (σ : az_S) (a : Nat) (z : Int) : Int := if z < 0 then 0 else (az_l σ a z.toNat).toInt
/-- the places of the reference that are more than scratch -/
def pA (a : Nat) : Bool := (Nat.ble 43 a && Nat.ble a 74) || (Nat.ble 77 a && Nat.ble a 78) || (Nat.ble 84 a && Nat.ble a 87) || Nat.beq a 101
def pF (z : Nat) : Bool := [0, 1, 2, 3, 6, 9, 12, 27, 40, 48, 49, 54, 55, 66, 85].contains z
/-- the reference's state, as a table of whole numbers -/
def V (σ : az_S) (a : Nat) (z : Int) : Int := match pA a with
  | true => zx σ a z
  | false => match Nat.beq a 42 with
    | true => if z < 0 then 0 else (match Nat.beq z.toNat 86 with
      | true => zq σ 42 86
      | false => match pF z.toNat with
        | true => zx σ 42 z
        | false => 0)
    | false => 0
def up (A : Nat → Int → Int) (a : Nat) (z x : Int) : Nat → Int → Int := fun b w => if b = a ∧ w = z then x else A b w
theorem up_self (A : Nat → Int → Int) (a : Nat) (z x : Int) : up A a z x a z = x := if_pos ⟨rfl, rfl⟩
theorem up_ne {A : Nat → Int → Int} {a b : Nat} {z x w : Int} (h : b ≠ a) : up A a z x b w = A b w := if_neg (fun q => h q.1)
theorem up_nz {A : Nat → Int → Int} {a b : Nat} {z x w : Int} (h : w ≠ z) : up A a z x b w = A b w := if_neg (fun q => h q.2)
theorem up_fn {A : Nat → Int → Int} {a b : Nat} {z x : Int} (h : b ≠ a) : up A a z x b = A b := funext fun _ => up_ne h
theorem zx_lo (σ : az_S) (a : Nat) (z : Int) : -2147483648 ≤ zx σ a z := by unfold zx; split; decide; exact zi_lo _ _ _
theorem zx_hi (σ : az_S) (a : Nat) (z : Int) : zx σ a z < 2147483648 := by unfold zx; split; decide; exact zi_hi _ _ _
theorem zx_zi {σ : az_S} {a : Nat} {z : Int} (h : 0 ≤ z) : zx σ a z = zi σ a z.toNat := if_neg (by omega)
theorem zq_lo (σ : az_S) (a : Nat) (z : Int) : -9223372036854775808 ≤ zq σ a z := by unfold zq; split; decide; have := Int64.le_toInt (az_l σ a z.toNat); omega
theorem zq_hi (σ : az_S) (a : Nat) (z : Int) : zq σ a z < 9223372036854775808 := by unfold zq; split; decide; have := Int64.toInt_lt (az_l σ a z.toNat); omega
theorem zq_l {σ : az_S} {a : Nat} {z : Int} (h : 0 ≤ z) : az_l σ a z.toNat = lI (zq σ a z) := by unfold zq lI; rw [if_neg (by omega)]; exact (Int64.ofInt_toInt _).symm
theorem V_lo (σ : az_S) (a : Nat) (z : Int) (h : V σ a z = zx σ a z) : -2147483648 ≤ V σ a z ∧ V σ a z < 2147483648 := by rw [h]; exact ⟨zx_lo _ _ _, zx_hi _ _ _⟩
theorem az_up_i {α : Type} (f : Nat → Nat → α) (a k : Nat) (v : α) (b j : Nat) : az_up f a k v b j = @ite α (b = a ∧ j = k) (instDecidableAnd) v (f b j) := by
  unfold az_up va_up
  by_cases h : b = a
  · subst h; by_cases h2 : j = k
    · simp [h2]
    · simp [h2]
  · simp [h]
theorem zx_pi {σ : az_S} {a : Nat} {z x : Int} (hz : 0 ≤ z) (hx : inI x) (b : Nat) (w : Int) : zx (az_pi σ a z.toNat (iI x)) b w = if b = a ∧ w = z then x else zx σ b w := by
  unfold zx
  by_cases hw : w < 0
  · rw [if_pos hw, if_pos hw, if_neg (by omega)]
  · rw [if_neg hw, if_neg hw]
    show (az_up σ.2.2.2.1 a z.toNat (iI x) b w.toNat).toInt = _
    rw [az_up_i]
    by_cases h : b = a ∧ w = z
    · rw [if_pos h, if_pos ⟨h.1, by rw [h.2]⟩, iI_toInt hx]
    · rw [if_neg h, if_neg (fun q => h ⟨q.1, by omega⟩)]
      rfl
theorem zq_pl {σ : az_S} {a : Nat} {z x : Int} (hz : 0 ≤ z) (h1 : -9223372036854775808 ≤ x) (h2 : x < 9223372036854775808) (b : Nat) (w : Int) : zq (az_pl σ a z.toNat (lI x)) b w = if b = a ∧ w = z then x else zq σ b w := by
  unfold zq
  by_cases hw : w < 0
  · rw [if_pos hw, if_pos hw, if_neg (by omega)]
  · rw [if_neg hw, if_neg hw]
    show (az_up σ.2.2.2.2.1 a z.toNat (lI x) b w.toNat).toInt = _
    rw [az_up_i]
    by_cases h : b = a ∧ w = z
    · rw [if_pos h, if_pos ⟨h.1, by rw [h.2]⟩, lI_toInt h1 h2]
    · rw [if_neg h, if_neg (fun q => h ⟨q.1, by omega⟩)]
/-- what is like: all but the numbers of the places S -/
def Mod (σ τ : az_S) (S : List Nat) : Prop := τ.1 = σ.1 ∧ τ.2.1 = σ.2.1 ∧ az_sh τ = az_sh σ ∧ az_r τ = az_r σ ∧ (∀ a, a ∉ S → az_i τ a = az_i σ a) ∧ ∀ a, a ∉ S → az_l τ a = az_l σ a
theorem Mod.rf {σ : az_S} {S : List Nat} : Mod σ σ S := ⟨rfl, rfl, rfl, rfl, fun _ _ => rfl, fun _ _ => rfl⟩
theorem Mod.tr {σ τ υ : az_S} {S : List Nat} (h : Mod σ τ S) (k : Mod τ υ S) : Mod σ υ S := ⟨k.1.trans h.1, k.2.1.trans h.2.1, k.2.2.1.trans h.2.2.1, k.2.2.2.1.trans h.2.2.2.1, fun a ha => (k.2.2.2.2.1 a ha).trans (h.2.2.2.2.1 a ha), fun a ha => (k.2.2.2.2.2 a ha).trans (h.2.2.2.2.2 a ha)⟩
theorem Mod.su {σ τ : az_S} {S : List Nat} (h : Mod σ τ S) {T : List Nat} (hs : S.all (fun a => T.contains a) = true) : Mod σ τ T := by
  have hx : ∀ a, a ∉ T → a ∉ S := by
    intro a ha hb
    have := List.all_eq_true.mp hs a hb
    exact ha (List.contains_iff_mem.mp this)
  exact ⟨h.1, h.2.1, h.2.2.1, h.2.2.2.1, fun a ha => h.2.2.2.2.1 a (hx a ha), fun a ha => h.2.2.2.2.2 a (hx a ha)⟩
theorem Mod.z {σ τ : az_S} {S : List Nat} (h : Mod σ τ S) (a : Nat) (ha : S.contains a = false) : zx τ a = zx σ a := by
  funext w
  unfold zx zi
  rw [h.2.2.2.2.1 a (fun q => by rw [List.contains_iff_mem.mpr q] at ha; cases ha)]
theorem Mod.q {σ τ : az_S} {S : List Nat} (h : Mod σ τ S) (a : Nat) (ha : S.contains a = false) : zq τ a = zq σ a := by
  funext w
  unfold zq
  rw [h.2.2.2.2.2 a (fun q => by rw [List.contains_iff_mem.mpr q] at ha; cases ha)]
theorem Mod.fx {σ τ : az_S} {S : List Nat} (h : Mod σ τ S) {sz : Nat} (k : FX sz σ) : FX sz τ := by
  refine ⟨k.1, fun a ha => ?_, fun a j b hb => ?_⟩
  · rw [h.2.2.1]; exact k.2.1 a ha
  · rw [h.2.2.2.1]; exact k.2.2 a j b hb
/-- scratch places -/
def sa (a : Nat) : Bool := !pA a && !Nat.beq a 42
theorem Mod.vw {σ τ : az_S} {S : List Nat} (h : Mod σ τ S) (hs : S.all sa = true) : V τ = V σ := by
  have hx : ∀ a, pA a = true → S.contains a = false := by
    intro a ha
    cases hc : S.contains a with
    | false => rfl
    | true =>
      have := List.all_eq_true.mp hs a (List.contains_iff_mem.mp hc)
      unfold sa at this
      rw [ha] at this
      exact absurd this (by simp)
  have h42 : S.contains 42 = false := by
    cases hc : S.contains 42 with
    | false => rfl
    | true =>
      have := List.all_eq_true.mp hs 42 (List.contains_iff_mem.mp hc)
      exact absurd this (by decide)
  funext a w
  unfold V
  cases hp : pA a with
  | true => exact congrFun (h.z a (hx a hp)) w
  | false => simp only [h.z 42 h42, h.q 42 h42]
/-- the reference's state is A -/
def MV (sz : Nat) (A : Nat → Int → Int) (σ : az_S) : Prop := FX sz σ ∧ V σ = A
theorem MV.f {sz : Nat} {A : Nat → Int → Int} {σ : az_S} (h : MV sz A σ) : FX sz σ := h.1
theorem MV.v {sz : Nat} {A : Nat → Int → Int} {σ : az_S} (h : MV sz A σ) : V σ = A := h.2
theorem Mod.M {σ τ : az_S} {S : List Nat} (h : Mod σ τ S) {sz : Nat} {A : Nat → Int → Int} (k : MV sz A σ) (hs : S.all sa = true) : MV sz A τ := ⟨h.fx k.1, (h.vw hs).trans k.2⟩
theorem Mod_pi {σ : az_S} {a k : Nat} {v : Int32} {S : List Nat} (ha : S.contains a = true) : Mod σ (az_pi σ a k v) S := by
  refine ⟨rfl, rfl, rfl, rfl, fun b hb => ?_, fun b hb => rfl⟩
  have : b ≠ a := fun e => hb (by rw [e]; exact List.contains_iff_mem.mp ha)
  show az_up σ.2.2.2.1 a k v b = σ.2.2.2.1 b
  unfold az_up va_up
  simp [this]
theorem Mod_pl {σ : az_S} {a k : Nat} {v : Int64} {S : List Nat} (ha : S.contains a = true) : Mod σ (az_pl σ a k v) S := by
  refine ⟨rfl, rfl, rfl, rfl, fun b hb => rfl, fun b hb => ?_⟩
  have : b ≠ a := fun e => hb (by rw [e]; exact List.contains_iff_mem.mp ha)
  show az_up σ.2.2.2.2.1 a k v b = σ.2.2.2.2.1 b
  unfold az_up va_up
  simp [this]
theorem V_pi {σ : az_S} {a : Nat} {z x : Int} (hz : 0 ≤ z) (hx : inI x) (ha : ∀ τ, V τ a z = zx τ a z) (h42 : a = 42 → z.toNat ≠ 86) : V (az_pi σ a z.toNat (iI x)) = up (V σ) a z x := by
  funext b w
  unfold up
  by_cases h : b = a ∧ w = z
  · rw [if_pos h, h.1, h.2, ha, zx_pi hz hx, if_pos ⟨rfl, rfl⟩]
  · rw [if_neg h]
    unfold V
    have e : zx (az_pi σ a z.toNat (iI x)) b w = zx σ b w := by rw [zx_pi hz hx, if_neg h]
    cases hp : pA b with
    | true => exact e
    | false =>
      cases h42 : Nat.beq b 42 with
      | false => rfl
      | true =>
        have eb : b = 42 := Nat.eq_of_beq_eq_true h42
        subst eb
        simp only [e]
        rfl
section AwRules3
variable {d : Nat} {cd : List az_I} {rt : Option FieldType} {P : Option Value → az_S → Prop} {pc p' : Nat} {L : az_V} {st : List Value} {σ : az_S} {sz : Nat} {A : Nat → Int → Int}
theorem aw_fnc {ins : Instr} {y n kc : Nat} {v : Value} {as rest : List Value} (hc : fn d y as σ v) (hf : az_fetch cd pc = some (3, ins, [0, y, n, kc])) (hst : st = as.reverse ++ rest) (hlen : as.length = n) (hcat : (rest.map fun v => v.category).sum ≤ 8) (hk : kc = 999 ∨ ∃ a, as.head? = some (.ref a) ∧ (az_sh σ a).1 = kc) (hp : pc + 3 = p') (h : aw d cd rt P p' L (v :: rest) σ) : aw d cd rt P pc L st σ := aw_fn as rest hf hst hlen hcat hk hc hp h
theorem aw_calc {ins : Instr} {y n kc : Nat} {Pc : Option Value → az_S → Prop} {as rest : List Value} (hc : cal d y as σ Pc) (hf : az_fetch cd pc = some (3, ins, [0, y, n, kc])) (hst : st = as.reverse ++ rest) (hlen : as.length = n) (hcat : (rest.map fun v => v.category).sum ≤ 8) (hk : kc = 999 ∨ ∃ a, as.head? = some (.ref a) ∧ (az_sh σ a).1 = kc) (hp : pc + 3 = p') (h : ∀ r τ, Pc r τ → aw d cd rt P p' L (r.toList ++ rest) τ) : aw d cd rt P pc L st σ := aw_call as rest hf hst hlen hcat hk hc hp h
-- reading: what is scratch, and the state A
theorem aw_gs {i ci k a : Nat} (j : Int) (hf : az_fetch cd pc = some (3, .getfield i, [ci, k])) (hk : az_ft ci k = 0) (hs : (az_sh σ a).1 = ci) (hj : zx σ a j = zi σ a k) (hp : pc + 3 = p') (h : -2147483648 ≤ zx σ a j → zx σ a j < 2147483648 → aw d cd rt P p' L (.int (iI (zx σ a j)) :: st) σ) : aw d cd rt P pc L (.ref a :: st) σ := aw_geti hf hk hs ((zi_eq σ a k).trans (by rw [hj])) hp (h (zx_lo _ _ _) (zx_hi _ _ _))
theorem aw_gp {i ci k a : Nat} (j : Int) (hM : MV sz A σ) (hf : az_fetch cd pc = some (3, .getfield i, [ci, k])) (hk : az_ft ci k = 0) (hs : (az_sh σ a).1 = ci) (hj : V σ a j = zi σ a k) (hp : pc + 3 = p') (h : -2147483648 ≤ A a j → A a j < 2147483648 → aw d cd rt P p' L (.int (iI (A a j)) :: st) σ) : aw d cd rt P pc L (.ref a :: st) σ := by
  obtain ⟨-, rfl⟩ := hM
  refine aw_geti hf hk hs ((zi_eq σ a k).trans (by rw [← hj])) hp (h ?_ ?_) <;> rw [hj]
  · exact zi_lo _ _ _
  · exact zi_hi _ _ _
theorem aw_as {a N : Nat} {z : Int} (hf : az_fetch cd pc = some (1, .iaload, [])) (hs : az_sh σ a = (100, N)) (hN : N ≤ 10000) (h0 : 0 ≤ z) (hj : z < N) (hp : pc + 1 = p') (h : -2147483648 ≤ zx σ a z → zx σ a z < 2147483648 → aw d cd rt P p' L (.int (iI (zx σ a z)) :: st) σ) : aw d cd rt P pc L (.int (iI z) :: .ref a :: st) σ := aw_iaload (j := z.toNat) hf hs hN (by omega) (by omega) ((zi_eq σ a _).trans (by rw [zx_zi h0])) hp (h (zx_lo σ a _) (zx_hi σ a _))
theorem aw_ap {a N : Nat} {z : Int} (hM : MV sz A σ) (hf : az_fetch cd pc = some (1, .iaload, [])) (hs : az_sh σ a = (100, N)) (hN : N ≤ 10000) (hq : pA a = true) (h0 : 0 ≤ z) (hj : z < N) (hp : pc + 1 = p') (h : -2147483648 ≤ A a z → A a z < 2147483648 → aw d cd rt P p' L (.int (iI (A a z)) :: st) σ) : aw d cd rt P pc L (.int (iI z) :: .ref a :: st) σ := by
  obtain ⟨-, rfl⟩ := hM
  have e : V σ a z = zx σ a z := by unfold V; rw [hq]
  refine aw_as hf hs hN h0 hj hp ?_
  rw [← e]
  exact h
theorem aw_baload {a N j : Nat} {z : Int} {v : Int32} {kd : Nat} (hf : az_fetch cd pc = some (1, .baload, [])) (hs : az_sh σ a = (kd, N)) (hkd : kd = 101 ∨ kd = 102 ∨ kd = 112) (hN : N ≤ 10000) (hz : z = (j : Int)) (hj : j < N) (hv : az_i σ a j = v) (hp : pc + 1 = p') (h : aw d cd rt P p' L (.int v :: st) σ) : aw d cd rt P pc L (.int (iI z) :: .ref a :: st) σ := by
  subst hp; subst hz; subst hv
  refine aw_nx hf (Nat.le_of_ble_eq_true rfl) ⟨_, a, st, rfl, by rw [hs]; exact hkd, by rw [hs]; exact iI_in (by omega) (by omega) hN, rfl⟩ ?_
  show aw d cd rt P (pc + 1) L (.int (az_i σ a (iI (j : Int)).toNatClampNeg) :: st) σ
  rw [iI_clamp (by omega) (by omega)]
  exact h
theorem aw_bs {a N : Nat} {z : Int} {kd : Nat} (hf : az_fetch cd pc = some (1, .baload, [])) (hs : az_sh σ a = (kd, N)) (hkd : kd = 101 ∨ kd = 102 ∨ kd = 112) (hN : N ≤ 10000) (h0 : 0 ≤ z) (hj : z < N) (hp : pc + 1 = p') (h : -2147483648 ≤ zx σ a z → zx σ a z < 2147483648 → aw d cd rt P p' L (.int (iI (zx σ a z)) :: st) σ) : aw d cd rt P pc L (.int (iI z) :: .ref a :: st) σ := aw_baload (j := z.toNat) hf hs hkd hN (by omega) (by omega) ((zi_eq σ a _).trans (by rw [zx_zi h0])) hp (h (zx_lo σ a _) (zx_hi σ a _))
theorem aw_bp {a N : Nat} {z : Int} {kd : Nat} (hM : MV sz A σ) (hf : az_fetch cd pc = some (1, .baload, [])) (hs : az_sh σ a = (kd, N)) (hkd : kd = 101 ∨ kd = 102 ∨ kd = 112) (hN : N ≤ 10000) (hq : pA a = true) (h0 : 0 ≤ z) (hj : z < N) (hp : pc + 1 = p') (h : -2147483648 ≤ A a z → A a z < 2147483648 → aw d cd rt P p' L (.int (iI (A a z)) :: st) σ) : aw d cd rt P pc L (.int (iI z) :: .ref a :: st) σ := by
  obtain ⟨-, rfl⟩ := hM
  have e : V σ a z = zx σ a z := by unfold V; rw [hq]
  refine aw_bs hf hs hkd hN h0 hj hp ?_
  rw [← e]
  exact h
theorem aw_gl {i ci k a : Nat} (j : Int) (hf : az_fetch cd pc = some (3, .getfield i, [ci, k])) (hk : az_ft ci k = 1) (hs : (az_sh σ a).1 = ci) (hj : zq σ a j = (az_l σ a k).toInt) (hp : pc + 3 = p') (h : -9223372036854775808 ≤ zq σ a j → zq σ a j < 9223372036854775808 → aw d cd rt P p' L (.long (lI (zq σ a j)) :: st) σ) : aw d cd rt P pc L (.ref a :: st) σ := aw_getl hf hk hs (by rw [hj]; exact (Int64.ofInt_toInt _).symm) hp (h (zq_lo _ _ _) (zq_hi _ _ _))
theorem aw_lz {a N : Nat} {z : Int} (hf : az_fetch cd pc = some (1, .laload, [])) (hs : az_sh σ a = (103, N)) (hN : N ≤ 10000) (h0 : 0 ≤ z) (hj : z < N) (hp : pc + 1 = p') (h : -9223372036854775808 ≤ zq σ a z → zq σ a z < 9223372036854775808 → aw d cd rt P p' L (.long (lI (zq σ a z)) :: st) σ) : aw d cd rt P pc L (.int (iI z) :: .ref a :: st) σ := by
  subst hp
  refine aw_nx hf (Nat.le_of_ble_eq_true rfl) ⟨_, a, st, rfl, by rw [hs], by rw [hs]; exact iI_in (by omega) (by omega) hN, rfl⟩ ?_
  show aw d cd rt P (pc + 1) L (.long (az_l σ a (iI z).toNatClampNeg) :: st) σ
  rw [iI_clamp (by omega) (by omega), zq_l h0]
  exact h (zq_lo _ _ _) (zq_hi _ _ _)
-- writing
theorem aw_sz {a N : Nat} {z x : Int} (hf : az_fetch cd pc = some (1, .iastore, [])) (hs : az_sh σ a = (100, N)) (hN : N ≤ 10000) (h0 : 0 ≤ z) (hj : z < N) (hp : pc + 1 = p') (h : aw d cd rt P p' L st (az_pi σ a z.toNat (iI x))) : aw d cd rt P pc L (.int (iI x) :: .int (iI z) :: .ref a :: st) σ := aw_iastore (j := z.toNat) hf hs hN (by omega) (by omega) hp h
/-- a store into scratch -/
theorem aw_ss {a N : Nat} {z x : Int} (hM : MV sz A σ) (hf : az_fetch cd pc = some (1, .iastore, [])) (hs : az_sh σ a = (100, N)) (hN : N ≤ 10000) (hq : [a].all sa = true) (h0 : 0 ≤ z) (hj : z < N) (hx : inI x) (hp : pc + 1 = p') (h : ∀ τ, MV sz A τ → Mod σ τ [a] → (∀ w, zx τ a w = if w = z then x else zx σ a w) → aw d cd rt P p' L st τ) : aw d cd rt P pc L (.int (iI x) :: .int (iI z) :: .ref a :: st) σ := by
  have hd : Mod σ (az_pi σ a z.toNat (iI x)) [a] := Mod_pi (by simp)
  refine aw_sz hf hs hN h0 hj hp (h _ (hd.M hM hq) hd (fun w => ?_))
  rw [zx_pi h0 hx]
  simp
/-- a store into the state -/
theorem aw_sp {a N : Nat} {z x : Int} (hM : MV sz A σ) (hf : az_fetch cd pc = some (1, .iastore, [])) (hs : az_sh σ a = (100, N)) (hN : N ≤ 10000) (hq : pA a = true) (h0 : 0 ≤ z) (hj : z < N) (hx : inI x) (hp : pc + 1 = p') (h : ∀ τ, MV sz (up A a z x) τ → Mod σ τ [a] → aw d cd rt P p' L st τ) : aw d cd rt P pc L (.int (iI x) :: .int (iI z) :: .ref a :: st) σ := by
  have hd : Mod σ (az_pi σ a z.toNat (iI x)) [a] := Mod_pi (by simp)
  refine aw_sz hf hs hN h0 hj hp (h _ ⟨hd.fx hM.1, ?_⟩ hd)
  rw [V_pi h0 hx (fun τ => by unfold V; rw [hq]) (fun e => by subst e; exact absurd hq (by decide)), hM.2]
theorem aw_bastore {a N : Nat} {z x : Int} (hf : az_fetch cd pc = some (1, .bastore, [])) (hs : az_sh σ a = (101, N)) (hN : N ≤ 10000) (h0 : 0 ≤ z) (hj : z < N) (hx : x = 0 ∨ x = 1) (hp : pc + 1 = p') (h : aw d cd rt P p' L st (az_pi σ a z.toNat (iI x))) : aw d cd rt P pc L (.int (iI x) :: .int (iI z) :: .ref a :: st) σ := by
  subst hp
  refine aw_nx hf (Nat.le_of_ble_eq_true rfl) ⟨_, _, a, st, rfl, by rw [hs]; exact iI_in (by omega) (by omega) hN, Or.inl ⟨by rw [hs], rfl⟩⟩ ?_
  show aw d cd rt P (pc + 1) L st (az_pi σ a (iI z).toNatClampNeg (vp_nar .boolean (iI x)))
  rw [iI_clamp (by omega) (by omega)]
  rcases hx with rfl | rfl <;> exact h
theorem aw_sb {a N : Nat} {z x : Int} (hM : MV sz A σ) (hf : az_fetch cd pc = some (1, .bastore, [])) (hs : az_sh σ a = (101, N)) (hN : N ≤ 10000) (hq : [a].all sa = true) (h0 : 0 ≤ z) (hj : z < N) (hx : x = 0 ∨ x = 1) (hp : pc + 1 = p') (h : ∀ τ, MV sz A τ → Mod σ τ [a] → (∀ w, zx τ a w = if w = z then x else zx σ a w) → aw d cd rt P p' L st τ) : aw d cd rt P pc L (.int (iI x) :: .int (iI z) :: .ref a :: st) σ := by
  have hd : Mod σ (az_pi σ a z.toNat (iI x)) [a] := Mod_pi (by simp)
  refine aw_bastore hf hs hN h0 hj hx hp (h _ (hd.M hM hq) hd (fun w => ?_))
  rw [zx_pi h0 (by rcases hx with rfl | rfl <;> exact ⟨by decide, by decide⟩)]
  simp
theorem aw_lastore {a N : Nat} {z x : Int} (hf : az_fetch cd pc = some (1, .lastore, [])) (hs : az_sh σ a = (103, N)) (hN : N ≤ 10000) (h0 : 0 ≤ z) (hj : z < N) (hp : pc + 1 = p') (h : aw d cd rt P p' L st (az_pl σ a z.toNat (lI x))) : aw d cd rt P pc L (.long (lI x) :: .int (iI z) :: .ref a :: st) σ := by
  subst hp
  refine aw_nx hf (Nat.le_of_ble_eq_true rfl) ⟨_, _, a, st, rfl, by rw [hs], by rw [hs]; exact iI_in (by omega) (by omega) hN, rfl⟩ ?_
  show aw d cd rt P (pc + 1) L st (az_pl σ a (iI z).toNatClampNeg (lI x))
  rw [iI_clamp (by omega) (by omega)]
  exact h
theorem aw_sl {a N : Nat} {z x : Int} (hM : MV sz A σ) (hf : az_fetch cd pc = some (1, .lastore, [])) (hs : az_sh σ a = (103, N)) (hN : N ≤ 10000) (hq : [a].all sa = true) (h0 : 0 ≤ z) (hj : z < N) (hx1 : -9223372036854775808 ≤ x) (hx2 : x < 9223372036854775808) (hp : pc + 1 = p') (h : ∀ τ, MV sz A τ → Mod σ τ [a] → (∀ w, zq τ a w = if w = z then x else zq σ a w) → aw d cd rt P p' L st τ) : aw d cd rt P pc L (.long (lI x) :: .int (iI z) :: .ref a :: st) σ := by
  have hd : Mod σ (az_pl σ a z.toNat (lI x)) [a] := Mod_pl (by simp)
  refine aw_lastore hf hs hN h0 hj hp (h _ (hd.M hM hq) hd (fun w => ?_))
  rw [zq_pl h0 hx1 hx2]
  simp
/-- a field of the state -/
theorem aw_fp {i ci k a : Nat} {x : Int} (j : Int) (hM : MV sz A σ) (hf : az_fetch cd pc = some (3, .putfield i, [ci, k])) (hk : az_ft ci k = 0) (hs : (az_sh σ a).1 = ci) (hj : j = (k : Int)) (hq : ∀ τ, V τ a j = zx τ a j) (h86 : Nat.beq k 86 = false) (hx : inI x) (hp : pc + 3 = p') (h : ∀ τ, MV sz (up A a j x) τ → Mod σ τ [a] → aw d cd rt P p' L st τ) : aw d cd rt P pc L (.int (iI x) :: .ref a :: st) σ := by
  have hd : Mod σ (az_pi σ a j.toNat (iI x)) [a] := Mod_pi (by simp)
  have e : j.toNat = k := by omega
  have h3 : MV sz (up A a j x) (az_pi σ a j.toNat (iI x)) := by
    refine ⟨hd.fx hM.1, ?_⟩
    rw [V_pi (by omega) hx hq (fun _ q => by rw [e] at q; rw [q] at h86; exact absurd h86 (by decide)), hM.2]
  refine aw_puti hf hk hs hp ?_
  rw [← e]
  exact h _ h3 hd
theorem aw_fs {i ci k a : Nat} {x : Int} (j : Int) (hf : az_fetch cd pc = some (3, .putfield i, [ci, k])) (hk : az_ft ci k = 0) (hs : (az_sh σ a).1 = ci) (hj : j = (k : Int)) (hx : inI x) (hp : pc + 3 = p') (h : ∀ τ, Mod σ τ [a] → (∀ w, zx τ a w = if w = j then x else zx σ a w) → (zq τ a = zq σ a) → aw d cd rt P p' L st τ) : aw d cd rt P pc L (.int (iI x) :: .ref a :: st) σ := by
  have hd : Mod σ (az_pi σ a j.toNat (iI x)) [a] := Mod_pi (by simp)
  have e : j.toNat = k := by omega
  refine aw_puti hf hk hs hp ?_
  rw [← e]
  refine h _ hd (fun w => ?_) rfl
  rw [zx_pi (by omega) hx]
  simp
-- long numbers
theorem lI_add (a b : Int) : lI a + lI b = lI (a + b) := (Int64.ofInt_add a b).symm
theorem lI_sub (a b : Int) : lI a - lI b = lI (a - b) := (Int64.ofInt_sub a b).symm
theorem lI_mul (a b : Int) : lI a * lI b = lI (a * b) := (Int64.ofInt_mul a b).symm
theorem lI_neg (a : Int) : -lI a = lI (-a) := (Int64.ofInt_neg a).symm
theorem aw_ladd {a b : Int} (hf : az_fetch cd pc = some (1, .ladd, [])) (hp : pc + 1 = p') (h : aw d cd rt P p' L (.long (lI (a + b)) :: st) σ) : aw d cd rt P pc L (.long (lI b) :: .long (lI a) :: st) σ := by subst hp; rw [← lI_add] at h; exact aw_nx hf (Nat.le_of_ble_eq_true rfl) ⟨_, _, st, rfl, rfl⟩ h
theorem aw_lsub {a b : Int} (hf : az_fetch cd pc = some (1, .lsub, [])) (hp : pc + 1 = p') (h : aw d cd rt P p' L (.long (lI (a - b)) :: st) σ) : aw d cd rt P pc L (.long (lI b) :: .long (lI a) :: st) σ := by subst hp; rw [← lI_sub] at h; exact aw_nx hf (Nat.le_of_ble_eq_true rfl) ⟨_, _, st, rfl, rfl⟩ h
theorem aw_lmul {a b : Int} (hf : az_fetch cd pc = some (1, .lmul, [])) (hp : pc + 1 = p') (h : aw d cd rt P p' L (.long (lI (a * b)) :: st) σ) : aw d cd rt P pc L (.long (lI b) :: .long (lI a) :: st) σ := by subst hp; rw [← lI_mul] at h; exact aw_nx hf (Nat.le_of_ble_eq_true rfl) ⟨_, _, st, rfl, rfl⟩ h
theorem aw_lneg {a : Int} (hf : az_fetch cd pc = some (1, .lneg, [])) (hp : pc + 1 = p') (h : aw d cd rt P p' L (.long (lI (-a)) :: st) σ) : aw d cd rt P pc L (.long (lI a) :: st) σ := by subst hp; rw [← lI_neg] at h; exact aw_nx hf (Nat.le_of_ble_eq_true rfl) ⟨_, st, rfl, rfl⟩ h
/-- two longs compared and the branch behind it -/
theorem aw_lcif {a b : Int} {c : ClassFile.Cond} {off : Int} {q : Nat} (hf : az_fetch cd pc = some (1, .lcmp, [])) (hf2 : az_fetch cd (pc + 1) = some (3, .ifCond c off, [])) (h1 : -9223372036854775808 ≤ a) (h2 : a < 9223372036854775808) (h3 : -9223372036854775808 ≤ b) (h4 : b < 9223372036854775808) (hp : az_j (pc + 1) off = p') (hq : pc + 4 = q) (ht : zc c a b → aw d cd rt P p' L st σ) (he : ¬ zc c a b → aw d cd rt P q L st σ) : aw d cd rt P pc L (.long (lI b) :: .long (lI a) :: st) σ := by
  refine aw_lcmp hf h1 h2 h3 h4 rfl ?_
  have e : zc c (if b < a then 1 else if a = b then 0 else -1) 0 ↔ zc c a b := by
    cases c <;> simp only [zc] <;> (repeat' split) <;> omega
  refine aw_if hf2 ?_ hp (by omega : pc + 1 + 3 = q) (fun h => ht (e.mp h)) (fun h => he (fun k => h (e.mpr k)))
  constructor <;> (repeat' split) <;> omega
-- switches
theorem aw_tsb (i : Nat) {z off dflt lo hi : Int} {offs : Array Int} {len : Nat} (hf : az_fetch cd pc = some (len, .tableswitch dflt lo hi offs, [])) (ho : offs[i]? = some off) (hz : inI z) (hl : lo + i ≤ hi) (hp : az_j pc off = p') (h1 : z = lo + i → aw d cd rt P p' L st σ) (h2 : ¬ z = lo + i → aw d cd rt P pc L (.int (iI z) :: st) σ) : aw d cd rt P pc L (.int (iI z) :: st) σ := by
  by_cases e : z = lo + i
  · subst hp
    refine aw_nx hf (Nat.le_of_ble_eq_true rfl) ⟨_, st, rfl, Or.inr ⟨off, ?_, ?_, ?_, rfl⟩⟩ (h1 e)
    · rw [iI_toInt hz]; omega
    · rw [iI_toInt hz]; omega
    · rw [iI_toInt hz, show (z - lo).toNat = i by omega]; exact ho
  · exact h2 e
theorem aw_tsd {z dflt lo hi : Int} {offs : Array Int} {len : Nat} (hf : az_fetch cd pc = some (len, .tableswitch dflt lo hi offs, [])) (hz : inI z) (hl : z < lo ∨ hi < z) (hp : az_j pc dflt = p') (h1 : aw d cd rt P p' L st σ) : aw d cd rt P pc L (.int (iI z) :: st) σ := by
  subst hp
  refine aw_nx hf (Nat.le_of_ble_eq_true rfl) ⟨_, st, rfl, Or.inl ⟨?_, rfl⟩⟩ h1
  rw [iI_toInt hz]; exact hl
end AwRules3

/-! WHAT HOLDS of the reference's state -/
def TI (A : Nat → Int → Int) (t : Int) : Prop := (1 ≤ A 56 t ∧ A 56 t ≤ 41) ∧ (A 57 (41 * t) = A 52 t ∧ A 59 (41 * t) = A 52 t) ∧ (∀ i : Int, 0 ≤ i → i < A 56 t → (0 ≤ A 57 (41 * t + i) ∧ A 57 (41 * t + i) ≤ 3599) ∧ (0 ≤ A 58 (41 * t + i) ∧ A 58 (41 * t + i) ≤ 60) ∧ (0 ≤ A 59 (41 * t + i) ∧ A 59 (41 * t + i) ≤ A 42 3)) ∧ ((A 49 t = 1 ∧ 1 ≤ A 53 t ∧ A 53 t ≤ 999) ∨ ((A 49 t = 0 ∨ A 49 t = 2) ∧ A 53 t = 0)) ∧ (0 ≤ A 50 t ∧ A 50 t < A 42 2) ∧ (0 ≤ A 51 t ∧ A 51 t < A 42 9) ∧ (0 ≤ A 52 t ∧ A 52 t ≤ A 42 3) ∧ (-50 ≤ A 54 t ∧ A 54 t ≤ 50 ∧ -50 ≤ A 55 t ∧ A 55 t ≤ 50) ∧ (A 60 t = -1 ∨ (A 52 t ≤ A 60 t ∧ A 60 t ≤ A 42 3 ∧ 0 ≤ A 61 t ∧ A 61 t ≤ A 42 3)) ∧ (A 62 t = -1 ∨ (A 52 t ≤ A 62 t ∧ A 62 t ≤ A 42 3))
def GI (A : Nat → Int → Int) (j : Int) : Prop := (0 ≤ A 63 j ∧ A 63 j < A 42 9) ∧ (0 ≤ A 64 j ∧ A 64 j < A 42 9) ∧ (0 ≤ A 65 j ∧ A 65 j < A 42 12) ∧ (0 ≤ A 66 j ∧ A 66 j ≤ A 67 j ∧ A 67 j ≤ 11) ∧ (0 ≤ A 68 j ∧ A 68 j ≤ 11 ∧ 0 ≤ A 69 j ∧ A 69 j ≤ 11) ∧ (0 ≤ A 70 j ∧ A 70 j ≤ A 71 j ∧ A 71 j ≤ 3599) ∧ (0 ≤ A 72 j ∧ A 72 j ≤ 2) ∧ (0 ≤ A 73 j ∧ A 73 j ≤ A 42 3)
def SI (A : Nat → Int → Int) (j : Int) : Prop := (0 ≤ A 85 j ∧ A 85 j ≤ A 86 j ∧ A 86 j ≤ 3599) ∧ ∀ h : Int, 0 ≤ h → h < 12 → -1 ≤ A 87 (12 * j + h) ∧ A 87 (12 * j + h) < A 42 2
def MI (sz : Nat) (A : Nat → Int → Int) : Prop := (4 ≤ A 42 0 ∧ A 42 0 ≤ 16) ∧ (4 ≤ A 42 1 ∧ A 42 1 ≤ 12) ∧ (A 42 2 = A 42 0 * A 42 1 ∧ A 42 2 = (sz : Int) ∧ 16 ≤ A 42 2 ∧ A 42 2 ≤ 192) ∧ (0 ≤ A 42 3 ∧ A 42 3 ≤ 3599) ∧ (∀ j : Int, 0 ≤ j → j < 144 → (-300 ≤ A 43 j ∧ A 43 j ≤ 300) ∧ (-300 ≤ A 44 j ∧ A 44 j ≤ 300)) ∧ (0 ≤ A 42 6 ∧ A 42 6 ≤ 60) ∧ (∀ j : Int, 0 ≤ j → j < A 42 6 → (0 ≤ A 45 j ∧ A 45 j ≤ 3599) ∧ (0 ≤ A 46 j ∧ A 46 j ≤ 11)) ∧ (0 ≤ A 42 9 ∧ A 42 9 ≤ 16) ∧ (∀ j : Int, 0 ≤ j → j < A 42 9 → A 47 j = -1 ∨ ((0 ≤ A 47 j ∧ A 47 j ≤ A 42 3) ∧ 0 ≤ A 48 j ∧ A 48 j ≤ A 42 3)) ∧ (0 ≤ A 42 12 ∧ A 42 12 ≤ 24) ∧ (∀ t : Int, 0 ≤ t → t < A 42 12 → TI A t) ∧ (0 ≤ A 42 27 ∧ A 42 27 ≤ 60) ∧ (∀ j : Int, 0 ≤ j → j < A 42 27 → GI A j) ∧ (0 ≤ A 42 40 ∧ A 42 40 ≤ 400) ∧ (∀ j : Int, 0 ≤ j → j < 400 → -128 ≤ A 74 j ∧ A 74 j ≤ 127) ∧ (0 ≤ A 42 66 ∧ A 42 66 ≤ 10) ∧ (∀ j : Int, 0 ≤ j → j < A 42 66 → SI A j) ∧ (0 ≤ A 42 85 ∧ A 42 85 ≤ 12)
theorem MI.wide {sz : Nat} {A : Nat → Int → Int} (h : MI sz A) : 4 ≤ A 42 0 ∧ A 42 0 ≤ 16 := h.1
theorem MI.high {sz : Nat} {A : Nat → Int → Int} (h : MI sz A) : 4 ≤ A 42 1 ∧ A 42 1 ≤ 12 := h.2.1
theorem MI.cells {sz : Nat} {A : Nat → Int → Int} (h : MI sz A) : A 42 2 = A 42 0 * A 42 1 ∧ A 42 2 = (sz : Int) ∧ 16 ≤ A 42 2 ∧ A 42 2 ≤ 192 := h.2.2.1
theorem MI.clock {sz : Nat} {A : Nat → Int → Int} (h : MI sz A) : 0 ≤ A 42 3 ∧ A 42 3 ≤ 3599 := h.2.2.2.1
theorem MI.sun {sz : Nat} {A : Nat → Int → Int} (h : MI sz A) : ∀ j : Int, 0 ≤ j → j < 144 → (-300 ≤ A 43 j ∧ A 43 j ≤ 300) ∧ (-300 ≤ A 44 j ∧ A 44 j ≤ 300) := h.2.2.2.2.1
theorem MI.clouds {sz : Nat} {A : Nat → Int → Int} (h : MI sz A) : 0 ≤ A 42 6 ∧ A 42 6 ≤ 60 := h.2.2.2.2.2.1
theorem MI.cloud {sz : Nat} {A : Nat → Int → Int} (h : MI sz A) : ∀ j : Int, 0 ≤ j → j < A 42 6 → (0 ≤ A 45 j ∧ A 45 j ≤ 3599) ∧ (0 ≤ A 46 j ∧ A 46 j ≤ 11) := h.2.2.2.2.2.2.1
theorem MI.people {sz : Nat} {A : Nat → Int → Int} (h : MI sz A) : 0 ≤ A 42 9 ∧ A 42 9 ≤ 16 := h.2.2.2.2.2.2.2.1
theorem MI.person {sz : Nat} {A : Nat → Int → Int} (h : MI sz A) : ∀ j : Int, 0 ≤ j → j < A 42 9 → A 47 j = -1 ∨ ((0 ≤ A 47 j ∧ A 47 j ≤ A 42 3) ∧ 0 ≤ A 48 j ∧ A 48 j ≤ A 42 3) := h.2.2.2.2.2.2.2.2.1
theorem MI.things {sz : Nat} {A : Nat → Int → Int} (h : MI sz A) : 0 ≤ A 42 12 ∧ A 42 12 ≤ 24 := h.2.2.2.2.2.2.2.2.2.1
theorem MI.thing {sz : Nat} {A : Nat → Int → Int} (h : MI sz A) : ∀ t : Int, 0 ≤ t → t < A 42 12 → TI A t := h.2.2.2.2.2.2.2.2.2.2.1
theorem MI.grants {sz : Nat} {A : Nat → Int → Int} (h : MI sz A) : 0 ≤ A 42 27 ∧ A 42 27 ≤ 60 := h.2.2.2.2.2.2.2.2.2.2.2.1
theorem MI.grant {sz : Nat} {A : Nat → Int → Int} (h : MI sz A) : ∀ j : Int, 0 ≤ j → j < A 42 27 → GI A j := h.2.2.2.2.2.2.2.2.2.2.2.2.1
theorem MI.taped {sz : Nat} {A : Nat → Int → Int} (h : MI sz A) : 0 ≤ A 42 40 ∧ A 42 40 ≤ 400 := h.2.2.2.2.2.2.2.2.2.2.2.2.2.1
theorem MI.tape {sz : Nat} {A : Nat → Int → Int} (h : MI sz A) : ∀ j : Int, 0 ≤ j → j < 400 → -128 ≤ A 74 j ∧ A 74 j ≤ 127 := h.2.2.2.2.2.2.2.2.2.2.2.2.2.2.1
theorem MI.stalls {sz : Nat} {A : Nat → Int → Int} (h : MI sz A) : 0 ≤ A 42 66 ∧ A 42 66 ≤ 10 := h.2.2.2.2.2.2.2.2.2.2.2.2.2.2.2.1
theorem MI.stall {sz : Nat} {A : Nat → Int → Int} (h : MI sz A) : ∀ j : Int, 0 ≤ j → j < A 42 66 → SI A j := h.2.2.2.2.2.2.2.2.2.2.2.2.2.2.2.2.1
theorem MI.walks {sz : Nat} {A : Nat → Int → Int} (h : MI sz A) : 0 ≤ A 42 85 ∧ A 42 85 ≤ 12 := h.2.2.2.2.2.2.2.2.2.2.2.2.2.2.2.2.2
