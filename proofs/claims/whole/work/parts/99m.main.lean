theorem iI_and63 (a : Int) : iI a &&& iI 63 = iI (a % 64) := by
  have h1 : ∀ b : BitVec 32, b &&& 63#32 = BitVec.ofNat 32 (b.toNat % 64) := by
    intro b
    apply BitVec.eq_of_toNat_eq
    have hb := b.isLt
    rw [BitVec.toNat_and, BitVec.toNat_ofNat, BitVec.toNat_ofNat, show 63 % 2 ^ 32 = 2 ^ 6 - 1 by decide, Nat.and_two_pow_sub_one_eq_mod]
    omega
  have h2 : (iI a).toBitVec = BitVec.ofInt 32 a := rfl
  have h3 : (iI a &&& iI 63).toBitVec = (iI (a % 64)).toBitVec := by
    rw [Int32.toBitVec_and, show (iI 63).toBitVec = 63#32 by rfl, h1, h2, show (iI (a % 64)).toBitVec = BitVec.ofInt 32 (a % 64) from rfl]
    apply BitVec.eq_of_toNat_eq
    rw [BitVec.toNat_ofNat, BitVec.toNat_ofInt, BitVec.toNat_ofInt]
    have := Int.emod_nonneg a (show (64 : Int) ≠ 0 by decide)
    have := Int.emod_lt_of_pos a (show (0 : Int) < 64 by decide)
    have e1 : ((2 ^ 32 : Nat) : Int) = 4294967296 := by decide
    rw [e1, show (2 : Nat) ^ 32 = 4294967296 by decide]
    omega
  exact Int32.toBitVec_inj.mp h3
section AwBits6
variable {d : Nat} {cd : List az_I} {rt : Option FieldType} {P : Option Value → az_S → Prop} {pc p' : Nat} {L : az_V} {st : List Value} {σ : az_S}
theorem aw_iand63 {a : Int} (hf : az_fetch cd pc = some (1, .iand, [])) (hp : pc + 1 = p') (h : aw d cd rt P p' L (.int (iI (a % 64)) :: st) σ) : aw d cd rt P pc L (.int (iI 63) :: .int (iI a) :: st) σ := by
  subst hp
  rw [← iI_and63] at h
  exact aw_nx hf (Nat.le_of_ble_eq_true rfl) ⟨_, _, st, rfl, rfl⟩ h
end AwBits6
def PF_ : Option Value → az_S → Prop := fun r t => r = some (.int 1) ∧ az_n t ≤ 600000 ∧ az_sl t ≤ 7302250
set_option maxRecDepth 20000 in
set_option maxHeartbeats 4000000 in
theorem law_sw {sz : Nat} {κ : Nat × (Nat → Int32) × Option Nat} {A : Nat → Int → Int} {g : Nat → Nat} {R : tRules} {σ : az_S} (hJ : JJ sz κ A g R σ) (hlim : az_n σ ≤ 800000) (hL : κ.1 ≤ 4610) {i : Int} (hi0 : 2 ≤ i) (hi1 : i + 8 < κ.1) {P : Option Value → az_S → Prop} (hP : ∀ τ, (∃ A' g' R', JJ sz κ A' g' R' τ) → az_n τ ≤ az_n σ + 10 → az_sl τ ≤ az_sl σ + 500 → aw 1049 k_L_law (some .boolean) P 1725 [some (.ref 1000000), some (.ref 0), some (.ref 42), some (.int (iI i))] [] τ) {z : Int} (hz0 : 0 ≤ z) (hz1 : z < 64) : aw 1049 k_L_law (some .boolean) P 53 [some (.ref 1000000), some (.ref 0), some (.ref 42), some (.int (iI i))] [.int (iI z)] σ := by
  refine aw_tsb (p' := 208) 0 rfl rfl ⟨by omega, by omega⟩ (by omega) rfl (fun _ => la_days hJ (by omega) hL hi0 (by omega) hP) (fun n0 => ?_)
  refine aw_tsb (p' := 231) 1 rfl rfl ⟨by omega, by omega⟩ (by omega) rfl (fun _ => la_sun hJ (by omega) hL hi0 (by omega) hP) (fun n1 => ?_)
  refine aw_tsb (p' := 284) 2 rfl rfl ⟨by omega, by omega⟩ (by omega) rfl (fun _ => la_cloud hJ (by omega) hL hi0 (by omega) hP) (fun n2 => ?_)
  refine aw_tsb (p' := 317) 3 rfl rfl ⟨by omega, by omega⟩ (by omega) rfl (fun _ => la_person hJ (by omega) hL hi0 (by omega) hP) (fun n3 => ?_)
  refine aw_tsb (p' := 330) 4 rfl rfl ⟨by omega, by omega⟩ (by omega) rfl (fun _ => la_died hJ (by omega) hL hi0 (by omega) hP) (fun n4 => ?_)
  refine aw_tsb (p' := 363) 5 rfl rfl ⟨by omega, by omega⟩ (by omega) rfl (fun _ => la_wall hJ (by omega) hL hi0 (by omega) hP) (fun n5 => ?_)
  refine aw_tsb (p' := 406) 6 rfl rfl ⟨by omega, by omega⟩ (by omega) rfl (fun _ => la_tree hJ (by omega) hL hi0 (by omega) hP) (fun n6 => ?_)
  refine aw_tsb (p' := 459) 7 rfl rfl ⟨by omega, by omega⟩ (by omega) rfl (fun _ => la_pole hJ (by omega) hL hi0 (by omega) hP) (fun n7 => ?_)
  refine aw_tsb (p' := 522) 8 rfl rfl ⟨by omega, by omega⟩ (by omega) rfl (fun _ => la_raise hJ (by omega) hL hi0 (by omega) hP) (fun n8 => ?_)
  refine aw_tsb (p' := 565) 9 rfl rfl ⟨by omega, by omega⟩ (by omega) rfl (fun _ => la_fell hJ (by omega) hL hi0 (by omega) hP) (fun n9 => ?_)
  refine aw_tsb (p' := 598) 10 rfl rfl ⟨by omega, by omega⟩ (by omega) rfl (fun _ => la_height hJ (by omega) hL hi0 (by omega) hP) (fun n10 => ?_)
  refine aw_tsb (p' := 641) 11 rfl rfl ⟨by omega, by omega⟩ (by omega) rfl (fun _ => la_measure hJ (by omega) hL hi0 (by omega) hP) (fun n11 => ?_)
  refine aw_tsb (p' := 684) 12 rfl rfl ⟨by omega, by omega⟩ (by omega) rfl (fun _ => la_thing hJ (by omega) hL hi0 (by omega) hP) (fun n12 => ?_)
  refine aw_tsb (p' := 717) 13 rfl rfl ⟨by omega, by omega⟩ (by omega) rfl (fun _ => la_entry hJ (by omega) hL hi0 (by omega) hP) (fun n13 => ?_)
  refine aw_tsb (p' := 760) 14 rfl rfl ⟨by omega, by omega⟩ (by omega) rfl (fun _ => la_grant hJ (by omega) hL hi0 (by omega) hP) (fun n14 => ?_)
  refine aw_tsb (p' := 859) 15 rfl rfl ⟨by omega, by omega⟩ (by omega) rfl (fun _ => la_holder hJ (by omega) hL hi0 (by omega) hP) (fun n15 => ?_)
  refine aw_tsb (p' := 912) 16 rfl rfl ⟨by omega, by omega⟩ (by omega) rfl (fun _ => la_shaded hJ (by omega) hL hi0 (by omega) hP) (fun n16 => ?_)
  refine aw_tsb (p' := 965) 17 rfl rfl ⟨by omega, by omega⟩ (by omega) rfl (fun _ => la_parts hJ (by omega) hL hi0 (by omega) hP) (fun n17 => ?_)
  refine aw_tsb (p' := 1028) 18 rfl rfl ⟨by omega, by omega⟩ (by omega) rfl (fun _ => la_shadow hJ (by omega) hL hi0 (by omega) hP) (fun n18 => ?_)
  refine aw_tsb (p' := 1081) 19 rfl rfl ⟨by omega, by omega⟩ (by omega) rfl (fun _ => la_account hJ (by omega) hL hi0 (by omega) hP) (fun n19 => ?_)
  refine aw_tsb (p' := 1135) 20 rfl rfl ⟨by omega, by omega⟩ (by omega) rfl (fun _ => la_bill hJ (by omega) hL hi0 (by omega) hP) (fun n20 => ?_)
  refine aw_tsb (p' := 1189) 21 rfl rfl ⟨by omega, by omega⟩ (by omega) rfl (fun _ => la_feed hJ (by omega) hL hi0 (by omega) hP) (fun n21 => ?_)
  refine aw_tsb (p' := 1252) 22 rfl rfl ⟨by omega, by omega⟩ (by omega) rfl (fun _ => la_end hJ (by omega) hL hi0 (by omega) hP) (fun n22 => ?_)
  refine aw_tsb (p' := 1275) 23 rfl rfl ⟨by omega, by omega⟩ (by omega) rfl (fun _ => la_tariff hJ hL hi0 (by omega) hP) (fun n23 => ?_)
  refine aw_tsb (p' := 1288) 24 rfl rfl ⟨by omega, by omega⟩ (by omega) rfl (fun _ => la_fault hJ (by omega) hL hi0 (by omega) hP) (fun n24 => ?_)
  refine aw_tsb (p' := 1311) 25 rfl rfl ⟨by omega, by omega⟩ (by omega) rfl (fun _ => la_gives hJ (by omega) hL hi0 (by omega) hP) (fun n25 => ?_)
  refine aw_tsb (p' := 1386) 26 rfl rfl ⟨by omega, by omega⟩ (by omega) rfl (fun _ => la_stall hJ (by omega) hL hi0 (by omega) hP) (fun n26 => ?_)
  refine aw_tsb (p' := 1429) 27 rfl rfl ⟨by omega, by omega⟩ (by omega) rfl (fun _ => la_place hJ (by omega) hL hi0 (by omega) hP) (fun n27 => ?_)
  refine aw_tsb (p' := 1472) 28 rfl rfl ⟨by omega, by omega⟩ (by omega) rfl (fun _ => la_placeOf hJ (by omega) hL hi0 (by omega) hP) (fun n28 => ?_)
  refine aw_tsb (p' := 1505) 29 rfl rfl ⟨by omega, by omega⟩ (by omega) rfl (fun _ => la_fees hJ (by omega) hL hi0 (by omega) hP) (fun n29 => ?_)
  refine aw_tsb (p' := 1549) 30 rfl rfl ⟨by omega, by omega⟩ (by omega) rfl (fun _ => la_walk hJ (by omega) hL hi0 (by omega) hP) (fun n30 => ?_)
  refine aw_tsb (p' := 1612) 31 rfl rfl ⟨by omega, by omega⟩ (by omega) rfl (fun _ => la_walked hJ (by omega) hL hi0 (by omega) hP) (fun n31 => ?_)
  refine aw_tsb (p' := 1636) 32 rfl rfl ⟨by omega, by omega⟩ (by omega) rfl (fun _ => la_best hJ (by omega) hL hi0 (by omega) hP) (fun n32 => ?_)
  refine aw_tsb (p' := 1669) 33 rfl rfl ⟨by omega, by omega⟩ (by omega) rfl (fun _ => la_serves hJ (by omega) hL hi0 (by omega) hP) (fun n33 => ?_)
  refine aw_tsb (p' := 1702) 34 rfl rfl ⟨by omega, by omega⟩ (by omega) rfl (fun _ => la_about hJ (by omega) hL hi0 (by omega) hP) (fun n34 => ?_)
  refine aw_tsd (p' := 1725) rfl ⟨by omega, by omega⟩ (by omega) rfl ?_
  exact hP σ ⟨A, g, R, hJ⟩ (by omega) (by omega)
set_option maxRecDepth 20000 in
set_option maxHeartbeats 4000000 in
theorem law_l {sz : Nat} {κ : Nat × (Nat → Int32) × Option Nat} (hL : κ.1 ≤ 4610) : ∀ (n : Nat) (k : Nat) (σ : az_S), 513 - k = n → k ≤ 512 → (∃ A g R, JJ sz κ A g R σ) → az_n σ ≤ 103 + 10 * k → az_sl σ ≤ 247200 + 500 * k → ∀ i : Int, i = 2 + 9 * (k : Int) → aw 1049 k_L_law (some .boolean) PF_ 38 [some (.ref 1000000), some (.ref 0), some (.ref 42), some (.int (iI i))] [] σ := by
  intro n
  induction n using Nat.strongRecOn with
  | ind n ih =>
  intro k σ hn hk hJ h1 h2 i hi
  obtain ⟨A, g, R, hJ⟩ := hJ
  have hC := hJ.2.1
  have hs := hC.scr
  refine aw_iload_n rfl rfl rfl ?_
  refine aw_aload_n rfl rfl rfl ?_
  refine aw_alen (N := κ.1) (kd := 110) rfl hs.1 (by decide) rfl ?_
  refine aw_bipush rfl rfl rfl ?_
  refine aw_isub rfl rfl ?_
  refine aw_icmp (p' := 1731) rfl ⟨by omega, by omega⟩ ⟨by omega, by omega⟩ rfl rfl (fun c1 => ?_) (fun c1 => ?_)
  · refine aw_iconst rfl rfl ?_
    refine aw_retn rfl rfl ?_
    exact ⟨rfl, by omega, by omega⟩
  · dsimp only [zc] at c1
    refine aw_aload_n rfl rfl rfl ?_
    refine aw_iload_n rfl rfl rfl ?_
    refine aw_scr hs (by omega) (by omega) hL rfl rfl ?_
    refine aw_bipush rfl rfl rfl ?_
    refine aw_iand63 rfl rfl ?_
    have m0 := Int.emod_nonneg (sx κ.2.1 i) (show (64 : Int) ≠ 0 by decide)
    have m1 := Int.emod_lt_of_pos (sx κ.2.1 i) (show (0 : Int) < 64 by decide)
    refine law_sw hJ (by omega) hL (by omega) (by omega) (fun τ hJ2 n1 n2 => ?_) m0 m1
    refine aw_iinc rfl rfl rfl rfl ?_
    change aw _ _ _ _ 1728 [some (.ref 1000000), some (.ref 0), some (.ref 42), some (.int (iI (i + 9)))] [] _
    refine aw_goto (p' := 38) rfl rfl ?_
    exact ih _ (by omega) (k + 1) τ rfl (by omega) hJ2 (by omega) (by omega) (i + 9) (by push_cast; omega)
noncomputable def cel (κ : Nat × (Nat → Int32) × Option Nat) (k : Int) : Int := if k < κ.1 then sx κ.2.1 k else 0
theorem cel_b (κ : Nat × (Nat → Int32) × Option Nat) (k : Int) : inI (cel κ k) := by
  unfold cel
  split
  · exact sx_b _ _
  · exact ⟨by decide, by decide⟩
set_option maxRecDepth 20000 in
set_option maxHeartbeats 4000000 in
theorem b_cell {d : Nat} {κ : Nat × (Nat → Int32) × Option Nat} {σ : az_S} (hk : az_sh σ 1000000 = (110, κ.1) ∧ az_i σ 1000000 = κ.2.1) (hL : κ.1 ≤ 4610) {k : Int} (h0 : 0 ≤ k) (h1 : k ≤ 1) : fn (d + 1) 281 [.ref 1000000, .int (iI k)] σ (.int (iI (cel κ k))) := by
  refine fn_of (M := (yL_cell, cL_cell, 2, (some .int))) (cd := k_L_cell) (L := [some (.ref 1000000), some (.int (iI k))]) rfl (Nat.le_of_ble_eq_true rfl) rfl rfl ?_
  refine aw_iload_n rfl rfl rfl ?_
  refine aw_aload_n rfl rfl rfl ?_
  refine aw_alen (N := κ.1) (kd := 110) rfl hk.1 (by decide) rfl ?_
  refine aw_icmp (p' := 12) rfl ⟨by omega, by omega⟩ ⟨by omega, by omega⟩ rfl rfl (fun c1 => ?_) (fun c1 => ?_)
  · dsimp only [zc] at c1
    refine aw_iconst rfl rfl ?_
    refine aw_reti rfl ?_
    exact ⟨by unfold cel; rw [if_neg (by omega)], rfl⟩
  · dsimp only [zc] at c1
    refine aw_aload_n rfl rfl rfl ?_
    refine aw_iload_n rfl rfl rfl ?_
    refine aw_scr hk h0 (by omega) hL rfl rfl ?_
    refine aw_goto (p' := 13) rfl rfl ?_
    refine aw_reti rfl ?_
    exact ⟨by unfold cel; rw [if_pos (by omega)], rfl⟩
theorem BX.scr {sz : Nat} {κ : Nat × (Nat → Int32) × Option Nat} {n : Nat} {rl : List (Nat × Nat × Nat)} {I Q : Nat → Int → Int} {σ : az_S} (h : BX sz κ n rl I Q σ) : az_sh σ 1000000 = (110, κ.1) ∧ az_i σ 1000000 = κ.2.1 := by
  have q := h.2.2.2.2.1 1000000 (by decide)
  refine ⟨q.1, ?_⟩
  rw [q.2.1]
  funext k
  exact if_pos rfl
set_option maxRecDepth 20000 in
set_option maxHeartbeats 4000000 in
theorem az_main : az_Main := by
  intro L xs o hL
  obtain ⟨κ, hκ⟩ : ∃ κ : Nat × (Nat → Int32) × Option Nat, κ = (L, xs, o) := ⟨_, rfl⟩
  have hL1 : κ.1 ≤ 4610 := by rw [hκ]; exact hL
  have hw := cel_b κ 0
  have hh := cel_b κ 1
  obtain ⟨w, hw0⟩ : ∃ w, cel κ 0 = w := ⟨_, rfl⟩
  obtain ⟨h, hh0⟩ : ∃ h, cel κ 1 = h := ⟨_, rfl⟩
  rw [hw0] at hw
  rw [hh0] at hh
  have hwh := wh_b w h
  obtain ⟨sz, hsz⟩ : ∃ sz : Nat, cW w * cH h = (sz : Int) := ⟨(cW w * cH h).toNat, by omega⟩
  have hB0 : BX sz κ 0 [] Z0 Z0 (az_s0 L xs o) := by
    rw [hκ]
    exact ⟨⟨by omega, by omega⟩, rfl, Nat.zero_le _, fun a ha => absurd ha (Nat.not_lt_zero a), fun a ha => ⟨rfl, rfl, rfl⟩, fun q hq => absurd hq List.not_mem_nil, fun a ha => absurd ha (Nat.not_lt_zero a), fun a ha => absurd ha (Nat.not_lt_zero a), fun a ha => ⟨rfl, rfl⟩⟩
  have key : aw 1049 k_L_law (some .boolean) PF_ 0 [some (.ref 1000000), none, none, none] [] (az_s0 L xs o) := by
    refine aw_bnew hB0 (by decide) rfl rfl rfl (by decide) rfl (fun τ1 hB1 => ?_)
    refine aw_dup rfl rfl rfl ?_
    refine aw_aload_n rfl rfl rfl ?_
    refine aw_iconst rfl rfl ?_
    refine aw_fnc ((b_cell (d := 0) hB1.scr hL1 (by decide) (by decide)).mono (d' := 1049) (Nat.le_of_ble_eq_true rfl)) rfl rfl rfl (Nat.le_of_ble_eq_true rfl) (Or.inl rfl) rfl ?_
    rw [hw0]
    refine aw_aload_n rfl rfl rfl ?_
    refine aw_iconst rfl rfl ?_
    refine aw_fnc ((b_cell (d := 0) hB1.scr hL1 (by decide) (by decide)).mono (d' := 1049) (Nat.le_of_ble_eq_true rfl)) rfl rfl rfl (Nat.le_of_ble_eq_true rfl) (Or.inl rfl) rfl ?_
    rw [hh0]
    refine aw_calc ((b_class (d := 0) hw hh hsz hB1).mono (d' := 1049) (Nat.le_of_ble_eq_true rfl)) rfl rfl rfl (Nat.le_of_ble_eq_true rfl) (Or.inr ⟨_, rfl, (hB1.k (a := 0) (by decide))⟩) rfl ?_
    rintro _ τ2 ⟨rfl, hB2⟩
    change aw _ _ _ _ 17 [some (.ref 1000000), none, none, none] [.ref 0] _
    refine aw_astore_n rfl (Nat.le_of_ble_eq_true rfl) rfl rfl ?_
    change aw _ _ _ _ 18 [some (.ref 1000000), some (.ref 0), none, none] [] _
    refine aw_bnew hB2 (by decide) rfl rfl rfl (by decide) rfl (fun τ3 hB3 => ?_)
    refine aw_dup rfl rfl rfl ?_
    refine aw_aload_n rfl rfl rfl ?_
    refine aw_iconst rfl rfl ?_
    refine aw_fnc ((b_cell (d := 0) hB3.scr hL1 (by decide) (by decide)).mono (d' := 1049) (Nat.le_of_ble_eq_true rfl)) rfl rfl rfl (Nat.le_of_ble_eq_true rfl) (Or.inl rfl) rfl ?_
    rw [hw0]
    refine aw_aload_n rfl rfl rfl ?_
    refine aw_iconst rfl rfl ?_
    refine aw_fnc ((b_cell (d := 0) hB3.scr hL1 (by decide) (by decide)).mono (d' := 1049) (Nat.le_of_ble_eq_true rfl)) rfl rfl rfl (Nat.le_of_ble_eq_true rfl) (Or.inl rfl) rfl ?_
    rw [hh0]
    refine aw_calc ((b_model (d := 0) hw hh hB3).mono (d' := 1049) (Nat.le_of_ble_eq_true rfl)) rfl rfl rfl (Nat.le_of_ble_eq_true rfl) (Or.inr ⟨_, rfl, (hB3.k (a := 42) (by decide))⟩) rfl ?_
    rintro _ τ4 ⟨rfl, hB4⟩
    change aw _ _ _ _ 35 [some (.ref 1000000), some (.ref 0), none, none] [.ref 42] _
    refine aw_astore_n rfl (Nat.le_of_ble_eq_true rfl) rfl rfl ?_
    change aw _ _ _ _ 36 [some (.ref 1000000), some (.ref 0), some (.ref 42), none] [] _
    refine aw_iconst rfl rfl ?_
    refine aw_istore_n rfl (Nat.le_of_ble_eq_true rfl) rfl rfl ?_
    change aw _ _ _ _ 38 [some (.ref 1000000), some (.ref 0), some (.ref 42), some (.int (iI 2))] [] _
    have hJ := JJ_0 (show BX sz κ 103 rlM (I3 w h) Q3 τ4 from hB4) hsz
    have n1 : az_n τ4 = 103 := hB4.2.1
    have n2 : az_sl τ4 ≤ 2400 * 103 := hB4.2.2.1
    exact law_l hL1 _ 0 τ4 rfl (by omega) ⟨_, _, _, hJ⟩ (by omega) (by omega) 2 rfl
  obtain ⟨r, t, k, h1, h2, h3, h4⟩ := key
  subst h2
  exact ⟨k, t, h1, h3, h4⟩
