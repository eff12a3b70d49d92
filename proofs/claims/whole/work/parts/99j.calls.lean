/-! ONE CALL OF BOTH -/
def rfP (a : Nat) : Bool := Nat.ble 42 a && Nat.ble a 102
def CF (sz : Nat) (κ : Nat × (Nat → Int32) × Option Nat) (A' : Nat → Int → Int) (g : Nat → Nat) (σ : az_S) (v : Value) : Option Value → az_S → Prop := fun r τ => r = some v ∧ ∃ g', CR sz κ A' g' τ ∧ g' 700 = g 700 ∧ Kp σ τ
def MF (sz : Nat) (A' : Nat → Int → Int) (σ : az_S) (v : Value) : Option Value → az_S → Prop := fun r τ => r = some v ∧ MV sz A' τ ∧ ∃ S, Mod σ τ S ∧ S.all rfP = true
theorem cf_fn {sz : Nat} {κ : Nat × (Nat → Int32) × Option Nat} {A : Nat → Int → Int} {g : Nat → Nat} {σ : az_S} {d y : Nat} {as : List Value} {v : Value} (hC : CR sz κ A g σ) (hd : d ≤ 1049) (h : fn d y as σ v) : cal 1049 y as σ (CF sz κ A g σ v) := ⟨some v, σ, h.mono hd, rfl, g, hC, rfl, Kp.rf⟩
theorem cf_mod {sz : Nat} {κ : Nat × (Nat → Int32) × Option Nat} {A' : Nat → Int → Int} {g : Nat → Nat} {σ : az_S} {d y : Nat} {as : List Value} {v : Value} {S : List Nat} (hd : d ≤ 1049) (h : cal d y as σ (fun r τ => r = some v ∧ CR sz κ A' g τ ∧ Mod σ τ S)) (hS : ∀ a, a ∈ S → ¬ kpl a) : cal 1049 y as σ (CF sz κ A' g σ v) := (h.mono hd).imp (fun r τ q => ⟨q.1, g, q.2.1, rfl, q.2.2.kp hS⟩)
theorem cf_or {sz : Nat} {κ : Nat × (Nat → Int32) × Option Nat} {A' : Nat → Int → Int} {g : Nat → Nat} {σ : az_S} {d y : Nat} {as : List Value} {v : Value} {S : List Nat} {p q : Prop} (hd : d ≤ 1049) (h : cal d y as σ (fun r τ => r = some v ∧ CR sz κ A' g τ ∧ (τ = σ ∨ (p ∧ q ∧ Mod σ τ S)))) (hS : p → q → ∀ a, a ∈ S → ¬ kpl a) : cal 1049 y as σ (CF sz κ A' g σ v) := by
  refine (h.mono hd).imp (fun r τ k => ⟨k.1, g, k.2.1, rfl, ?_⟩)
  rcases k.2.2 with rfl | ⟨k1, k2, k3⟩
  · exact Kp.rf
  · exact k3.kp (hS k1 k2)
theorem mf_fn {sz : Nat} {A : Nat → Int → Int} {σ : az_S} {d y : Nat} {as : List Value} {v : Value} (hM : MV sz A σ) (hd : d ≤ 1049) (h : fn d y as σ v) : cal 1049 y as σ (MF sz A σ v) := ⟨some v, σ, h.mono hd, rfl, hM, [], Mod.rf, rfl⟩
theorem mf_mod {sz : Nat} {A' : Nat → Int → Int} {σ : az_S} {d y : Nat} {as : List Value} {v : Value} {S : List Nat} (hd : d ≤ 1049) (h : cal d y as σ (fun r τ => r = some v ∧ MV sz A' τ ∧ Mod σ τ S)) (hS : S.all rfP = true) : cal 1049 y as σ (MF sz A' σ v) := (h.mono hd).imp (fun r τ q => ⟨q.1, q.2.1, S, q.2.2, hS⟩)
theorem MV.kr {sz : Nat} {A : Nat → Int → Int} {σ τ : az_S} (h : MV sz A σ) (hf : FX sz τ) (hk : ∀ a, 42 ≤ a → a < 103 → az_i τ a = az_i σ a ∧ az_l τ a = az_l σ a) : MV sz A τ := by
  refine ⟨hf, ?_⟩
  rw [← h.2]
  have z : ∀ a, 42 ≤ a → a < 103 → zx τ a = zx σ a := fun a h1 h2 => by funext w; unfold zx zi; rw [(hk a h1 h2).1]
  have zq' : zq τ 42 = zq σ 42 := by funext w; unfold zq; rw [(hk 42 (by decide) (by decide)).2]
  funext a w
  unfold V
  cases hp : pA a with
  | true =>
    have hb : 42 ≤ a ∧ a < 103 := by
      unfold pA at hp
      simp only [Bool.or_eq_true, Bool.and_eq_true] at hp
      rcases hp with ((⟨q1, q2⟩ | ⟨q1, q2⟩) | ⟨q1, q2⟩) | q
      · have := Nat.le_of_ble_eq_true q1; have := Nat.le_of_ble_eq_true q2; omega
      · have := Nat.le_of_ble_eq_true q1; have := Nat.le_of_ble_eq_true q2; omega
      · have := Nat.le_of_ble_eq_true q1; have := Nat.le_of_ble_eq_true q2; omega
      · have := Nat.eq_of_beq_eq_true q; omega
    show zx τ a w = zx σ a w
    rw [z a hb.1 hb.2]
  | false => rw [z 42 (by decide) (by decide), zq']
theorem Kp.kr {σ τ : az_S} (h : Kp σ τ) : ∀ a, 42 ≤ a → a < 103 → az_i τ a = az_i σ a ∧ az_l τ a = az_l σ a := fun a h1 h2 => h.1 a (Or.inl ⟨h1, h2⟩)
theorem cTar.kp {σ τ : az_S} {b : Nat} {R : tRules} (h : cTar σ b R) (hb : b = 16 ∨ b = 22) (hk : Kp σ τ) : cTar τ b R := by
  have n : ∀ a, b ≤ a → a ≤ b + 4 → zx τ a = zx σ a := fun a h1 h2 => by
    funext w
    unfold zx zi
    rw [(hk.1 a (by unfold kpl; omega)).1]
  unfold cTar
  rw [n b (by omega) (by omega), n (b + 1) (by omega) (by omega), n (b + 2) (by omega) (by omega), n (b + 3) (by omega) (by omega), n (b + 4) (by omega) (by omega)]
  exact h
theorem rf_ca {S : List Nat} (h : S.all rfP = true) : S.all ca = true ∧ ∀ a, a ∈ S → 42 ≤ a := by
  have q : ∀ a, a ∈ S → 42 ≤ a ∧ a ≤ 102 := fun a ha => by
    have := List.all_eq_true.mp h a ha
    unfold rfP at this
    rw [Bool.and_eq_true] at this
    exact ⟨Nat.le_of_ble_eq_true this.1, Nat.le_of_ble_eq_true this.2⟩
  refine ⟨List.all_eq_true.mpr (fun a ha => ?_), fun a ha => (q a ha).1⟩
  have := q a ha
  unfold ca
  rw [Bool.or_eq_true, Bool.and_eq_true]
  exact Or.inr ⟨Nat.ble_eq_true_of_le this.1, Nat.ble_eq_true_of_le this.2⟩
theorem JJ.ga {sz : Nat} {κ : Nat × (Nat → Int32) × Option Nat} {A : Nat → Int → Int} {g : Nat → Nat} {R : tRules} {σ : az_S} (h : JJ sz κ A g R σ) : GA sz A R := ⟨h.2.2.1, h.2.2.2.1, h.2.2.2.2.2.1⟩
theorem JJ_next {sz : Nat} {κ : Nat × (Nat → Int32) × Option Nat} {A A' : Nat → Int → Int} {g : Nat → Nat} {R : tRules} {g' : Nat → Nat} {σ τ υ : az_S} {S : List Nat} (hJ : JJ sz κ A g R σ) (hG : GA sz A' R) (hC : CR sz κ A' g' τ) (hg : g' 700 = g 700) (hK : Kp σ τ) (hM : MV sz A' υ) (hD : Mod τ υ S) (hS : S.all rfP = true) : JJ sz κ A' g' R υ ∧ az_n υ ≤ az_n σ + 10 ∧ az_sl υ ≤ az_sl σ + 500 := by
  obtain ⟨j1, j2, j3, j4, j5, j6, j7⟩ := hJ
  have hr := rf_ca hS
  have e1 : az_n υ = az_n τ := hD.1
  have e2 : az_sl υ = az_sl τ := hD.2.1
  have k1 := hK.2.1
  have k2 := hK.2.2
  have hb := j2.force.1
  refine ⟨⟨hM, hC.mod hG.1 hD hr.1, hG.1, hG.2.1, j5, hG.2.2, ?_⟩, by omega, by omega⟩
  rw [hg]
  refine (j7.kp hb hK).mod hD (fun a ha => ?_)
  have := hr.2 a ha
  omega
def sx (xs : Nat → Int32) (z : Int) : Int := (xs z.toNat).toInt
theorem sx_b (xs : Nat → Int32) (z : Int) : inI (sx xs z) := by
  unfold sx
  have h1 := Int32.le_toInt (xs z.toNat)
  have h2 := Int32.toInt_lt (xs z.toNat)
  exact ⟨by omega, by omega⟩
theorem sx_i (xs : Nat → Int32) (z : Int) : xs z.toNat = iI (sx xs z) := (Int32.ofInt_toInt _).symm
section AwLaw
variable {d : Nat} {cd : List az_I} {rt : Option FieldType} {P : Option Value → az_S → Prop} {pc p' : Nat} {L : az_V} {st : List Value} {σ : az_S}
theorem aw_scr {κ : Nat × (Nat → Int32) × Option Nat} {z : Int} (hk : az_sh σ 1000000 = (110, κ.1) ∧ az_i σ 1000000 = κ.2.1) (h0 : 0 ≤ z) (hz : z < κ.1) (hL : κ.1 ≤ 4610) (hf : az_fetch cd pc = some (1, .iaload, [])) (hp : pc + 1 = p') (h : aw d cd rt P p' L (.int (iI (sx κ.2.1 z)) :: st) σ) : aw d cd rt P pc L (.int (iI z) :: .ref 1000000 :: st) σ := by
  refine aw_ialoadc (j := z.toNat) hf hk.1 (by omega) (by omega) (by omega) (by rw [hk.2]; exact sx_i κ.2.1 z) hp h
theorem aw_ieq {off : Int} {x : Int32} (hf : az_fetch cd pc = some (3, .if_icmp .eq off, [])) (hp : az_j pc off = p') (h : aw d cd rt P p' L st σ) : aw d cd rt P pc L (.int x :: .int x :: st) σ := aw_icmpC hf hp rfl (fun _ => h) (fun q => absurd rfl q)
theorem aw_leq {off : Int} {x : Int64} (hf : az_fetch cd pc = some (1, .lcmp, [])) (hf2 : az_fetch cd (pc + 1) = some (3, .ifCond .eq off, [])) (hp : az_j (pc + 1) off = p') (h : aw d cd rt P p' L st σ) : aw d cd rt P pc L (.long x :: .long x :: st) σ := by
  have h1 := Int64.le_toInt x
  have h2 := Int64.toInt_lt x
  have e : x = lI x.toInt := (Int64.ofInt_toInt x).symm
  rw [e]
  exact aw_lcif hf hf2 (by omega) (by omega) (by omega) (by omega) hp rfl (fun _ => h) (fun q => absurd rfl q)
end AwLaw
theorem CR.scr {sz : Nat} {κ : Nat × (Nat → Int32) × Option Nat} {A : Nat → Int → Int} {g : Nat → Nat} {σ : az_S} (h : CR sz κ A g σ) : az_sh σ 1000000 = (110, κ.1) ∧ az_i σ 1000000 = κ.2.1 := by
  have q := h.k 1000000 (by decide)
  refine ⟨q.1, ?_⟩
  rw [q.2.1]
  funext k
  exact if_pos rfl
theorem kp_c {S : List Nat} (h : S.all (fun a => Nat.ble a 15 || Nat.beq a 21 || (Nat.ble 27 a && Nat.ble a 41)) = true) : ∀ a, a ∈ S → ¬ kpl a := by
  intro a ha
  have := List.all_eq_true.mp h a ha
  simp only [Bool.or_eq_true, Bool.and_eq_true] at this
  unfold kpl
  rcases this with (q | q) | ⟨q1, q2⟩
  · have := Nat.le_of_ble_eq_true q; omega
  · have := Nat.eq_of_beq_eq_true q; omega
  · have := Nat.le_of_ble_eq_true q1; have := Nat.le_of_ble_eq_true q2; omega
