theorem c_valueg {d : Nat} {sz : Nat} {κ : Nat × (Nat → Int32) × Option Nat} {A : Nat → Int → Int} {g : Nat → Nat} {σ : az_S} {b : Nat} (hb : b = 16 ∨ b = 22) (hI : MI sz A) {E : Int → Int} {T : Int} {a l p : Int} (hP : PS sz κ A g E T b σ a l) (hp0 : 0 ≤ p) (hp1 : p ≤ 10) (hk : zx σ 11 a = 2 ∨ zx σ 11 a = 3) : cal (d + 3) 23 [.ref 40] σ (PP sz κ A g T b σ a l (Q1 σ a p) (FQ σ a 1 p (fun _ => True))) := by
  obtain ⟨p1, p2, p3, p4, p5, p6, p7⟩ := hP
  rcases hb with rfl | rfl
  · exact c_value16 p1 hI p2 p3 p4 p5.1 p5.2 p6 p7.1 p7.2 hp0 hp1 hk
  · exact c_value22 p1 hI p2 p3 p4 p5.1 p5.2 p6 p7.1 p7.2 hp0 hp1 hk
def tsO : Array Int := #[94, 94, 209, 209, 209, 209, 209, 157, 157, 209, 209, 209, 209, 209, 209, 209, 127, 209, 209, 101]
theorem ts_o {x : Int} (h : x ≠ 2 ∧ x ≠ 3 ∧ x ≠ 21 ∧ x ≠ 18 ∧ x ≠ 9 ∧ x ≠ 10) : (x < 2 ∨ 21 < x) ∨ (2 ≤ x ∧ x ≤ 21 ∧ tsO[(x - 2).toNat]? = some 209) := by
  by_cases q : x < 2 ∨ 21 < x
  · exact Or.inl q
  · refine Or.inr ⟨by omega, by omega, ?_⟩
    have q2 : x = 4 ∨ x = 5 ∨ x = 6 ∨ x = 7 ∨ x = 8 ∨ x = 11 ∨ x = 12 ∨ x = 13 ∨ x = 14 ∨ x = 15 ∨ x = 16 ∨ x = 17 ∨ x = 19 ∨ x = 20 := by omega
    rcases q2 with rfl | rfl | rfl | rfl | rfl | rfl | rfl | rfl | rfl | rfl | rfl | rfl | rfl | rfl <;> rfl
set_option maxRecDepth 10000 in
theorem ob203 {d : Nat} {sz : Nat} {κ : Nat × (Nat → Int32) × Option Nat} {A : Nat → Int → Int} {g : Nat → Nat} {T : Int} {b : Nat} (hb : b = 16 ∨ b = 22) (hI : MI sz A) {Q : Int → List (Int × Int) → Prop} {F : Int → Int → Prop} {σ τ : az_S} {a l x f p k : Int} (hB : BS sz κ A g T b σ τ x f) (hk : inI k) (hF : F x f) : aw (d + 4) k_X2_one none (PP sz κ A g T b σ a l Q F) 203 [some (.ref 40), some (.int (iI p)), some (.int (iI k))] [] τ := by
  have hC := hB.1
  refine aw_aload_n rfl rfl rfl ?_
  refine aw_getr (b := b) rfl rfl (hC.f.k 40 rfl) hB.2.2.2.2.2.2.2 rfl ?_
  refine aw_iload_n rfl rfl rfl ?_
  refine aw_iconst rfl rfl ?_
  refine aw_calc (c_addbg hb hC hI hk ⟨by omega, by omega⟩ hB.2.2.2.2.2.1.1 hB.2.2.2.2.2.1.2) rfl rfl rfl (Nat.le_of_ble_eq_true rfl) (Or.inr ⟨_, rfl, (hC.f.tar hb).1⟩) rfl ?_
  rintro _ ρ ⟨rfl, h1, h2, h3, h4⟩
  have hB2 := hB.add hb h1 h2 h3 h4
  change aw _ _ _ _ 212 [some (.ref 40), some (.int (iI p)), some (.int (iI k))] [] _
  refine aw_goto (p' := 220) rfl rfl ?_
  exact aw_retv rfl (hB2.out hF)
set_option maxRecDepth 10000 in
theorem ob197 {d : Nat} {sz : Nat} {κ : Nat × (Nat → Int32) × Option Nat} {A : Nat → Int → Int} {g : Nat → Nat} {T : Int} {b : Nat} (hb : b = 16 ∨ b = 22) (hI : MI sz A) {Q : Int → List (Int × Int) → Prop} {F : Int → Int → Prop} {σ τ : az_S} {a l x f p k : Int} (hB : BS sz κ A g T b σ τ x f) (hk : inI k) (hF : F x f) : aw (d + 4) k_X2_one none (PP sz κ A g T b σ a l Q F) 197 [some (.ref 40), some (.int (iI p)), some (.int (iI k))] [] τ := by
  have hC := hB.1
  refine aw_aload_n rfl rfl rfl ?_
  refine aw_bipush rfl rfl rfl ?_
  refine aw_calc (c_passb hC hI hB.2.2.1 hB.2.2.2.1 ⟨by omega, by omega⟩ (by decide)) rfl rfl rfl (Nat.le_of_ble_eq_true rfl) (Or.inr ⟨_, rfl, (hC.f.k 40 rfl)⟩) rfl ?_
  rintro _ _ ⟨rfl, rfl⟩
  exact ob203 hb hI hB hk hF
set_option maxRecDepth 10000 in
theorem ob190 {d : Nat} {sz : Nat} {κ : Nat × (Nat → Int32) × Option Nat} {A : Nat → Int → Int} {g : Nat → Nat} {T : Int} {b : Nat} (hb : b = 16 ∨ b = 22) (hI : MI sz A) {Q : Int → List (Int × Int) → Prop} {F : Int → Int → Prop} {σ τ : az_S} {a l x f p k : Int} (hp0 : 0 ≤ p) (hp1 : p ≤ 10) (hB : BS sz κ A g T b σ τ x f) (hk : inI k) (hF : F x f) : aw (d + 4) k_X2_one none (PP sz κ A g T b σ a l Q F) 190 [some (.ref 40), some (.int (iI p)), some (.int (iI k))] [] τ := by
  have hC := hB.1
  refine aw_aload_n rfl rfl rfl ?_
  refine aw_iload_n rfl rfl rfl ?_
  refine aw_iconst rfl rfl ?_
  refine aw_iadd rfl rfl ?_
  refine aw_calc (c_sumb hC hI hB.2.2.1 hB.2.2.2.1 ⟨by omega, by omega⟩) rfl rfl rfl (Nat.le_of_ble_eq_true rfl) (Or.inr ⟨_, rfl, (hC.f.k 40 rfl)⟩) rfl ?_
  rintro _ _ ⟨rfl, rfl⟩
  exact ob197 hb hI hB hk hF
set_option maxRecDepth 10000 in
theorem ob184 {d : Nat} {sz : Nat} {κ : Nat × (Nat → Int32) × Option Nat} {A : Nat → Int → Int} {g : Nat → Nat} {T : Int} {b : Nat} (hb : b = 16 ∨ b = 22) (hI : MI sz A) {Q : Int → List (Int × Int) → Prop} {F : Int → Int → Prop} {σ τ : az_S} {a l x f p k : Int} (hp0 : 0 ≤ p) (hp1 : p ≤ 10) (hB : BS sz κ A g T b σ τ x f) (hk : inI k) (hF : F x f) : aw (d + 4) k_X2_one none (PP sz κ A g T b σ a l Q F) 184 [some (.ref 40), some (.int (iI p)), some (.int (iI k))] [] τ := by
  have hC := hB.1
  refine aw_aload_n rfl rfl rfl ?_
  refine aw_bipush rfl rfl rfl ?_
  refine aw_calc (c_passb hC hI hB.2.2.1 hB.2.2.2.1 ⟨by omega, by omega⟩ (by decide)) rfl rfl rfl (Nat.le_of_ble_eq_true rfl) (Or.inr ⟨_, rfl, (hC.f.k 40 rfl)⟩) rfl ?_
  rintro _ _ ⟨rfl, rfl⟩
  exact ob190 hb hI hp0 hp1 hB hk hF
set_option maxRecDepth 10000 in
set_option maxHeartbeats 2000000 in
theorem on_par {d : Nat} {sz : Nat} {κ : Nat × (Nat → Int32) × Option Nat} {A : Nat → Int → Int} {g : Nat → Nat} {E : Int → Int} {T : Int} {b : Nat} (hb : b = 16 ∨ b = 22) (hI : MI sz A) {p : Int} (hp0 : 0 ≤ p) (hp1 : p ≤ 10) (hsum : p < 10 → Co sz κ A g E T b 20 (d + 4) (p + 1) (fun σ a a' n => Qr 3 σ a (p + 1) a' n ∧ zx σ 11 a' ≠ 17 ∧ zx σ 11 a' ≠ 18 ∧ zx σ 11 a' ≠ 19 ∧ zx σ 11 a' ≠ 20) (fun σ a => FQ σ a 1 (p + 1) (Zr 3))) (hone : p < 10 → Co sz κ A g E T b 22 (d + 4) (p + 1) (fun σ a => Q1 σ a (p + 1)) (fun σ a => FQ σ a 1 (p + 1) (fun _ => True))) {σ : az_S} {a l k : Int} (hP : PS sz κ A g E T b σ a l) (hkk : zx σ 11 a = k) (hk : k = 21) : aw (d + 4) k_X2_one none (PP sz κ A g T b σ a l (Q1 σ a p) (FQ σ a 1 p (fun _ => True))) 107 [some (.ref 40), some (.int (iI p)), some (.int (iI k))] [] σ := by
  have hG := GS.rf hP
  obtain ⟨hC, hTS, hrb, hok, ha, hl5, hl6⟩ := id hP
  have hTb := hTS.2.1
  have hkl := zx_lo σ 11 a
  have hkh := zx_hi σ 11 a
  have kT := (hTS.2.2.2 a ha.1 ha.2).2
  have hlt : a < T := by
    have : a ≠ T := fun q => by have := kT.mpr q; omega
    omega
  have hk21 : zx σ 11 a = 21 := hkk.trans hk
  refine aw_aload_n rfl rfl rfl ?_
  refine aw_bipush rfl rfl rfl ?_
  refine aw_iload_n rfl rfl rfl ?_
  refine aw_calc (c_open hC hI hG.1.2.1 hok hG.1.2.2.2.2.1.1 hG.1.2.2.2.2.1.2 (w := 21) ⟨by omega, by omega⟩ ⟨by omega, by omega⟩ (by decide)) rfl rfl rfl (Nat.le_of_ble_eq_true rfl) (Or.inr ⟨_, rfl, (hC.f.k 40 rfl)⟩) rfl ?_
  intro r1 τ1 ⟨hC1, hD1, hcs1⟩
  by_cases hp : p < 10
  · obtain ⟨rfl, hok1⟩ := hcs1.1 ⟨hk21, hp⟩
    change aw _ _ _ _ 114 [some (.ref 40), some (.int (iI p)), some (.int (iI k))] [.int (iI 1)] _
    refine aw_if (p' := 220) rfl ⟨by omega, by omega⟩ rfl rfl (fun c => ?_) (fun _ => ?_)
    · dsimp only [zc] at c
      omega
    have hG1 := hG.adv hb hC1 hD1 hok1 hlt
    refine aw_aload_n rfl rfl rfl ?_
    refine aw_iload_n rfl rfl rfl ?_
    refine aw_iconst rfl rfl ?_
    refine aw_iadd rfl rfl ?_
    refine aw_calc (hsum hp τ1 (a + 1) _ hG1.1) rfl rfl rfl (Nat.le_of_ble_eq_true rfl) (Or.inr ⟨_, rfl, (hC1.f.k 40 rfl)⟩) rfl ?_
    intro r τ2 hr
    obtain ⟨rfl, hC2, hD2, hcs⟩ := hG1.1.ret hr
    change aw _ _ _ _ 124 [some (.ref 40), some (.int (iI p)), some (.int (iI k))] [] _
    have et := hG1.tok hb
    rcases hcs with ⟨a2, n2, hX2, hQ2, hN2⟩ | ⟨x, f, hB, hF2⟩
    · have hG2 := hG1.call hb hC2 hD2 hX2
      rw [List.nil_append] at hG2
      have hQ3 := hQ2.tk et.1 et.2.1 et.2.2
      rw [et.1] at hN2
      have et2 := hG2.tok hb
      refine aw_aload_n rfl rfl rfl ?_
      refine aw_bipush rfl rfl rfl ?_
      refine aw_calc (c_pass hC2 hI hG2.1.2.1 hG2.1.2.2.2.1 hG2.1.2.2.2.2.1.1 hG2.1.2.2.2.2.1.2 (w := 22) ⟨by omega, by omega⟩ (by decide)) rfl rfl rfl (Nat.le_of_ble_eq_true rfl) (Or.inr ⟨_, rfl, (hC2.f.k 40 rfl)⟩) rfl ?_
      rintro _ τ3 ⟨rfl, hC3, hD3, hy, hz⟩
      rw [et2.1] at hy hz
      change aw _ _ _ _ 130 [some (.ref 40), some (.int (iI p)), some (.int (iI k))] [] _
      refine aw_goto (p' := 220) rfl rfl ?_
      by_cases h22 : zx σ 11 a2 = 22
      · have k2 := (hG2.1.2.1.2.2.2 a2 hG2.1.2.2.2.2.1.1 hG2.1.2.2.2.2.1.2).2
        rw [et2.1] at k2
        have h2T := hG2.1.2.2.2.2.1.2
        have hlt2 : a2 < T := by
          have : a2 ≠ T := fun q => by have := k2.mpr q; omega
          omega
        have hG3 := hG2.adv hb hC3 hD3 (hy h22) hlt2
        exact aw_retv rfl (hG3.out (Q1_par hk21 hp hQ3 hN2 h22))
      · exact aw_retv rfl ((hG2.bs (hG2.1.fail hb hC3 hD3 (hz h22) (by decide))).out (F1_par2 hk21 hp hQ3 hN2 h22))
    · refine aw_aload_n rfl rfl rfl ?_
      refine aw_bipush rfl rfl rfl ?_
      refine aw_calc (c_passb hC2 hI hB.2.2.1 hB.2.2.2.1 ⟨by omega, by omega⟩ (by decide)) rfl rfl rfl (Nat.le_of_ble_eq_true rfl) (Or.inr ⟨_, rfl, (hC2.f.k 40 rfl)⟩) rfl ?_
      rintro _ _ ⟨rfl, rfl⟩
      change aw _ _ _ _ 130 [some (.ref 40), some (.int (iI p)), some (.int (iI k))] [] _
      refine aw_goto (p' := 220) rfl rfl ?_
      exact aw_retv rfl ((hG1.bs hB).out (F1_par hk21 hp (hF2.tk et.1 et.2.1 et.2.2)))
  · obtain ⟨rfl, hbd⟩ := hcs1.2.1 ⟨hk21, by omega⟩
    change aw _ _ _ _ 114 [some (.ref 40), some (.int (iI p)), some (.int (iI k))] [.int (iI 0)] _
    refine aw_if (p' := 220) rfl ⟨by omega, by omega⟩ rfl rfl (fun _ => ?_) (fun c => ?_)
    · exact aw_retv rfl ((hG.bs (hG.1.fail hb hC1 hD1 hbd (by decide))).out (fun c hc _ => beg_err hc (Or.inr (Or.inl ⟨Or.inl hk21, by omega, rfl, rfl⟩))))
    · dsimp only [zc] at c
      omega
set_option maxRecDepth 10000 in
set_option maxHeartbeats 2000000 in
theorem on_neg {d : Nat} {sz : Nat} {κ : Nat × (Nat → Int32) × Option Nat} {A : Nat → Int → Int} {g : Nat → Nat} {E : Int → Int} {T : Int} {b : Nat} (hb : b = 16 ∨ b = 22) (hI : MI sz A) {p : Int} (hp0 : 0 ≤ p) (hp1 : p ≤ 10) (hsum : p < 10 → Co sz κ A g E T b 20 (d + 4) (p + 1) (fun σ a a' n => Qr 3 σ a (p + 1) a' n ∧ zx σ 11 a' ≠ 17 ∧ zx σ 11 a' ≠ 18 ∧ zx σ 11 a' ≠ 19 ∧ zx σ 11 a' ≠ 20) (fun σ a => FQ σ a 1 (p + 1) (Zr 3))) (hone : p < 10 → Co sz κ A g E T b 22 (d + 4) (p + 1) (fun σ a => Q1 σ a (p + 1)) (fun σ a => FQ σ a 1 (p + 1) (fun _ => True))) {σ : az_S} {a l k : Int} (hP : PS sz κ A g E T b σ a l) (hkk : zx σ 11 a = k) (hk : k = 18) : aw (d + 4) k_X2_one none (PP sz κ A g T b σ a l (Q1 σ a p) (FQ σ a 1 p (fun _ => True))) 133 [some (.ref 40), some (.int (iI p)), some (.int (iI k))] [] σ := by
  have hG := GS.rf hP
  obtain ⟨hC, hTS, hrb, hok, ha, hl5, hl6⟩ := id hP
  have hTb := hTS.2.1
  have hkl := zx_lo σ 11 a
  have hkh := zx_hi σ 11 a
  have kT := (hTS.2.2.2 a ha.1 ha.2).2
  have hlt : a < T := by
    have : a ≠ T := fun q => by have := kT.mpr q; omega
    omega
  have hk18 : zx σ 11 a = 18 := hkk.trans hk
  refine aw_aload_n rfl rfl rfl ?_
  refine aw_bipush rfl rfl rfl ?_
  refine aw_iload_n rfl rfl rfl ?_
  refine aw_calc (c_open hC hI hG.1.2.1 hok hG.1.2.2.2.2.1.1 hG.1.2.2.2.2.1.2 (w := 18) ⟨by omega, by omega⟩ ⟨by omega, by omega⟩ (by decide)) rfl rfl rfl (Nat.le_of_ble_eq_true rfl) (Or.inr ⟨_, rfl, (hC.f.k 40 rfl)⟩) rfl ?_
  intro r1 τ1 ⟨hC1, hD1, hcs1⟩
  by_cases hp : p < 10
  · obtain ⟨rfl, hok1⟩ := hcs1.1 ⟨hk18, hp⟩
    change aw _ _ _ _ 140 [some (.ref 40), some (.int (iI p)), some (.int (iI k))] [.int (iI 1)] _
    refine aw_if (p' := 220) rfl ⟨by omega, by omega⟩ rfl rfl (fun c => ?_) (fun _ => ?_)
    · dsimp only [zc] at c
      omega
    have hG1 := hG.adv hb hC1 hD1 hok1 hlt
    refine aw_aload_n rfl rfl rfl ?_
    refine aw_iload_n rfl rfl rfl ?_
    refine aw_iconst rfl rfl ?_
    refine aw_iadd rfl rfl ?_
    refine aw_calc (hone hp τ1 (a + 1) _ hG1.1) rfl rfl rfl (Nat.le_of_ble_eq_true rfl) (Or.inr ⟨_, rfl, (hC1.f.k 40 rfl)⟩) rfl ?_
    intro r τ2 hr
    obtain ⟨rfl, hC2, hD2, hcs⟩ := hG1.1.ret hr
    change aw _ _ _ _ 150 [some (.ref 40), some (.int (iI p)), some (.int (iI k))] [] _
    have et := hG1.tok hb
    rcases hcs with ⟨a2, n2, hX2, hQ2⟩ | ⟨x, f, hB, hF2⟩
    · have hG2 := hG1.call hb hC2 hD2 hX2
      rw [List.nil_append] at hG2
      have hx3 := hX2.2.2.1
      have hx5 := hX2.2.2.2.2.1
      have hQ3 := hQ2.tk et.1 et.2.1 et.2.2
      refine aw_aload_n rfl rfl rfl ?_
      refine aw_getr (b := b) rfl rfl (hC2.f.k 40 rfl) hG2.1.2.2.1 rfl ?_
      refine aw_bipush rfl rfl rfl ?_
      refine aw_iconst rfl rfl ?_
      refine aw_calc (c_addg hb hC2 hI ⟨by omega, by omega⟩ ⟨by omega, by omega⟩ hG2.1.2.2.2.2.2.1 (by omega) (by omega)) rfl rfl rfl (Nat.le_of_ble_eq_true rfl) (Or.inr ⟨_, rfl, (hC2.f.tar hb).1⟩) rfl ?_
      rintro _ τ3 ⟨rfl, h1, h2, h3, h4, h5, h6⟩
      have hG3 := hG2.add hb (o := 402) (v := 0) hl6.2 (by omega) h1 h2 h3 h4 h5 h6
      change aw _ _ _ _ 160 [some (.ref 40), some (.int (iI p)), some (.int (iI k))] [] _
      refine aw_goto (p' := 220) rfl rfl ?_
      exact aw_retv rfl (hG3.out (Q1_neg hk18 hp hQ3))
    · have hB2 := hG1.bs hB
      refine aw_aload_n rfl rfl rfl ?_
      refine aw_getr (b := b) rfl rfl (hC2.f.k 40 rfl) hB.2.2.2.2.2.2.2 rfl ?_
      refine aw_bipush rfl rfl rfl ?_
      refine aw_iconst rfl rfl ?_
      refine aw_calc (c_addbg hb hC2 hI ⟨by omega, by omega⟩ ⟨by omega, by omega⟩ hB.2.2.2.2.2.1.1 hB.2.2.2.2.2.1.2) rfl rfl rfl (Nat.le_of_ble_eq_true rfl) (Or.inr ⟨_, rfl, (hC2.f.tar hb).1⟩) rfl ?_
      rintro _ ρ ⟨rfl, h1, h2, h3, h4⟩
      change aw _ _ _ _ 160 [some (.ref 40), some (.int (iI p)), some (.int (iI k))] [] _
      refine aw_goto (p' := 220) rfl rfl ?_
      exact aw_retv rfl ((hB2.add hb h1 h2 h3 h4).out (F1_neg hk18 hp (hF2.tk et.1 et.2.1 et.2.2)))
  · obtain ⟨rfl, hbd⟩ := hcs1.2.1 ⟨hk18, by omega⟩
    change aw _ _ _ _ 140 [some (.ref 40), some (.int (iI p)), some (.int (iI k))] [.int (iI 0)] _
    refine aw_if (p' := 220) rfl ⟨by omega, by omega⟩ rfl rfl (fun _ => ?_) (fun c => ?_)
    · exact aw_retv rfl ((hG.bs (hG.1.fail hb hC1 hD1 hbd (by decide))).out (fun c hc _ => beg_err hc (Or.inr (Or.inl ⟨Or.inr hk18, by omega, rfl, rfl⟩))))
    · dsimp only [zc] at c
      omega
set_option maxRecDepth 10000 in
set_option maxHeartbeats 2000000 in
theorem on_mm {d : Nat} {sz : Nat} {κ : Nat × (Nat → Int32) × Option Nat} {A : Nat → Int → Int} {g : Nat → Nat} {E : Int → Int} {T : Int} {b : Nat} (hb : b = 16 ∨ b = 22) (hI : MI sz A) {p : Int} (hp0 : 0 ≤ p) (hp1 : p ≤ 10) (hsum : p < 10 → Co sz κ A g E T b 20 (d + 4) (p + 1) (fun σ a a' n => Qr 3 σ a (p + 1) a' n ∧ zx σ 11 a' ≠ 17 ∧ zx σ 11 a' ≠ 18 ∧ zx σ 11 a' ≠ 19 ∧ zx σ 11 a' ≠ 20) (fun σ a => FQ σ a 1 (p + 1) (Zr 3))) (hone : p < 10 → Co sz κ A g E T b 22 (d + 4) (p + 1) (fun σ a => Q1 σ a (p + 1)) (fun σ a => FQ σ a 1 (p + 1) (fun _ => True))) {σ : az_S} {a l k : Int} (hP : PS sz κ A g E T b σ a l) (hkk : zx σ 11 a = k) (hk : k = 9 ∨ k = 10) : aw (d + 4) k_X2_one none (PP sz κ A g T b σ a l (Q1 σ a p) (FQ σ a 1 p (fun _ => True))) 163 [some (.ref 40), some (.int (iI p)), some (.int (iI k))] [] σ := by
  have hG := GS.rf hP
  obtain ⟨hC, hTS, hrb, hok, ha, hl5, hl6⟩ := id hP
  have hTb := hTS.2.1
  have hkl := zx_lo σ 11 a
  have hkh := zx_hi σ 11 a
  have kT := (hTS.2.2.2 a ha.1 ha.2).2
  have hlt : a < T := by
    have : a ≠ T := fun q => by have := kT.mpr q; omega
    omega
  have hk9 : zx σ 11 a = 9 ∨ zx σ 11 a = 10 := by omega
  refine aw_aload_n rfl rfl rfl ?_
  refine aw_calc (c_advance hC hI hTS hok ha.1 hlt) rfl rfl rfl (Nat.le_of_ble_eq_true rfl) (Or.inr ⟨_, rfl, (hC.f.k 40 rfl)⟩) rfl ?_
  rintro _ τ0 ⟨rfl, hC0, hD0, hok0⟩
  have hG0 := hG.adv hb hC0 hD0 hok0 hlt
  change aw _ _ _ _ 167 [some (.ref 40), some (.int (iI p)), some (.int (iI k))] [] _
  have et0 := hG0.tok hb
  by_cases hk21 : zx σ 11 (a + 1) = 21
  · have hk21' : zx τ0 11 (a + 1) = 21 := by rw [et0.1]; exact hk21
    have kT1 := (hG0.1.2.1.2.2.2 (a + 1) hG0.1.2.2.2.2.1.1 hG0.1.2.2.2.2.1.2).2
    have h1T := hG0.1.2.2.2.2.1.2
    have hlt1 : a + 1 < T := by
      have : a + 1 ≠ T := fun q => by have := kT1.mpr q; omega
      omega
    refine aw_aload_n rfl rfl rfl ?_
    refine aw_bipush rfl rfl rfl ?_
    refine aw_iload_n rfl rfl rfl ?_
    refine aw_calc (c_open hC0 hI hG0.1.2.1 hok0 hG0.1.2.2.2.2.1.1 hG0.1.2.2.2.2.1.2 (w := 21) ⟨by omega, by omega⟩ ⟨by omega, by omega⟩ (by decide)) rfl rfl rfl (Nat.le_of_ble_eq_true rfl) (Or.inr ⟨_, rfl, (hC0.f.k 40 rfl)⟩) rfl ?_
    intro r1 τ1 ⟨hC1, hD1, hcs1⟩
    by_cases hp : p < 10
    · obtain ⟨rfl, hok1⟩ := hcs1.1 ⟨hk21', hp⟩
      change aw _ _ _ _ 174 [some (.ref 40), some (.int (iI p)), some (.int (iI k))] [.int (iI 1)] _
      refine aw_if (p' := 220) rfl ⟨by omega, by omega⟩ rfl rfl (fun c => ?_) (fun _ => ?_)
      · dsimp only [zc] at c
        omega
      have hG1 := hG0.adv hb hC1 hD1 hok1 hlt1
      refine aw_aload_n rfl rfl rfl ?_
      refine aw_iload_n rfl rfl rfl ?_
      refine aw_iconst rfl rfl ?_
      refine aw_iadd rfl rfl ?_
      refine aw_calc (hsum hp τ1 (a + 1 + 1) _ hG1.1) rfl rfl rfl (Nat.le_of_ble_eq_true rfl) (Or.inr ⟨_, rfl, (hC1.f.k 40 rfl)⟩) rfl ?_
      intro r τ2 hr
      obtain ⟨rfl, hC2, hD2, hcs⟩ := hG1.1.ret hr
      change aw _ _ _ _ 184 [some (.ref 40), some (.int (iI p)), some (.int (iI k))] [] _
      have et := hG1.tok hb
      rcases hcs with ⟨a2, n2, hX2, hQ2, hN2⟩ | ⟨x, f, hB, hF2⟩
      · have hG2 := hG1.call hb hC2 hD2 hX2
        rw [List.nil_append] at hG2
        have hQ3 := hQ2.tk et.1 et.2.1 et.2.2
        rw [et.1] at hN2
        have et2 := hG2.tok hb
        refine aw_aload_n rfl rfl rfl ?_
        refine aw_bipush rfl rfl rfl ?_
        refine aw_calc (c_pass hC2 hI hG2.1.2.1 hG2.1.2.2.2.1 hG2.1.2.2.2.2.1.1 hG2.1.2.2.2.2.1.2 (w := 25) ⟨by omega, by omega⟩ (by decide)) rfl rfl rfl (Nat.le_of_ble_eq_true rfl) (Or.inr ⟨_, rfl, (hC2.f.k 40 rfl)⟩) rfl ?_
        rintro _ τ3 ⟨rfl, hC3, hD3, hy, hz⟩
        rw [et2.1] at hy hz
        change aw _ _ _ _ 190 [some (.ref 40), some (.int (iI p)), some (.int (iI k))] [] _
        by_cases h25 : zx σ 11 a2 = 25
        · have k2 := (hG2.1.2.1.2.2.2 a2 hG2.1.2.2.2.2.1.1 hG2.1.2.2.2.2.1.2).2
          rw [et2.1] at k2
          have h2T := hG2.1.2.2.2.2.1.2
          have hlt2 : a2 < T := by
            have : a2 ≠ T := fun q => by have := k2.mpr q; omega
            omega
          have hG3 := hG2.adv hb hC3 hD3 (hy h25) hlt2
          have et3 := hG3.tok hb
          refine aw_aload_n rfl rfl rfl ?_
          refine aw_iload_n rfl rfl rfl ?_
          refine aw_iconst rfl rfl ?_
          refine aw_iadd rfl rfl ?_
          refine aw_calc (hsum hp τ3 (a2 + 1) _ hG3.1) rfl rfl rfl (Nat.le_of_ble_eq_true rfl) (Or.inr ⟨_, rfl, (hC3.f.k 40 rfl)⟩) rfl ?_
          intro r τ4 hr
          obtain ⟨rfl, hC4, hD4, hcs⟩ := hG3.1.ret hr
          change aw _ _ _ _ 197 [some (.ref 40), some (.int (iI p)), some (.int (iI k))] [] _
          rcases hcs with ⟨a4, n4, hX4, hQ4, hN4⟩ | ⟨x, f, hB, hF2⟩
          · have hG4 := hG3.call hb hC4 hD4 hX4
            have hQ5 := hQ4.tk et3.1 et3.2.1 et3.2.2
            rw [et3.1] at hN4
            have et4 := hG4.tok hb
            refine aw_aload_n rfl rfl rfl ?_
            refine aw_bipush rfl rfl rfl ?_
            refine aw_calc (c_pass hC4 hI hG4.1.2.1 hG4.1.2.2.2.1 hG4.1.2.2.2.2.1.1 hG4.1.2.2.2.2.1.2 (w := 22) ⟨by omega, by omega⟩ (by decide)) rfl rfl rfl (Nat.le_of_ble_eq_true rfl) (Or.inr ⟨_, rfl, (hC4.f.k 40 rfl)⟩) rfl ?_
            rintro _ τ5 ⟨rfl, hC5, hD5, hy5, hz5⟩
            rw [et4.1] at hy5 hz5
            change aw _ _ _ _ 203 [some (.ref 40), some (.int (iI p)), some (.int (iI k))] [] _
            by_cases h22 : zx σ 11 a4 = 22
            · have k4 := (hG4.1.2.1.2.2.2 a4 hG4.1.2.2.2.2.1.1 hG4.1.2.2.2.2.1.2).2
              rw [et4.1] at k4
              have h4T := hG4.1.2.2.2.2.1.2
              have hlt4 : a4 < T := by
                have : a4 ≠ T := fun q => by have := k4.mpr q; omega
                omega
              have hG5 := hG4.adv hb hC5 hD5 (hy5 h22) hlt4
              have hx3 := hX2.2.2.1
              have hx5 := hX2.2.2.2.2.1
              have hy3 := hX4.2.2.1
              have hy5 := hX4.2.2.2.2.1
              have hle : ((n2 ++ n4).length : Int) = n2.length + n4.length := by simp
              refine aw_aload_n rfl rfl rfl ?_
              refine aw_getr (b := b) rfl rfl (hC5.f.k 40 rfl) hG5.1.2.2.1 rfl ?_
              refine aw_iload_n rfl rfl rfl ?_
              refine aw_iconst rfl rfl ?_
              refine aw_calc (c_addg hb hC5 hI ⟨by omega, by omega⟩ ⟨by omega, by omega⟩ hG5.1.2.2.2.2.2.1 (by omega) (by omega)) rfl rfl rfl (Nat.le_of_ble_eq_true rfl) (Or.inr ⟨_, rfl, (hC5.f.tar hb).1⟩) rfl ?_
              rintro _ τ6 ⟨rfl, h1, h2, h3, h4, h5, h6⟩
              have ho : k = trO (if zx σ 11 a = 9 then 403 else 404) := by
                rcases hk with q | q
                · rw [if_pos (hkk.trans q), q]; rfl
                · rw [if_neg (by omega), q]; rfl
              have hG6 := hG5.add hb (o := if zx σ 11 a = 9 then 403 else 404) (v := 0) hl6.2 (by omega) h1 h2 h3 h4 (by rw [← ho]; exact h5) h6
              change aw _ _ _ _ 212 [some (.ref 40), some (.int (iI p)), some (.int (iI k))] [] _
              refine aw_goto (p' := 220) rfl rfl ?_
              exact aw_retv rfl (hG6.out (Q1_mm hk9 hk21 hp hQ3 h25 hQ5 h22 rfl))
            · exact ob203 hb hI (hG4.bs (hG4.1.fail hb hC5 hD5 (hz5 h22) (by decide))) ⟨by omega, by omega⟩ (F1_mm4 hk9 hk21 hp hQ3 h25 hQ5 hN4 h22)
          · exact ob197 hb hI (hG3.bs hB) ⟨by omega, by omega⟩ (F1_mm3 hk9 hk21 hp hQ3 h25 (hF2.tk et3.1 et3.2.1 et3.2.2))
        · exact ob190 hb hI hp0 hp1 (hG2.bs (hG2.1.fail hb hC3 hD3 (hz h25) (by decide))) ⟨by omega, by omega⟩ (F1_mm2 hk9 hk21 hp hQ3 hN2 h25)
      · exact ob184 hb hI hp0 hp1 (hG1.bs hB) ⟨by omega, by omega⟩ (F1_mm1 hk9 hk21 hp (hF2.tk et.1 et.2.1 et.2.2))
    · obtain ⟨rfl, hbd⟩ := hcs1.2.1 ⟨hk21', by omega⟩
      change aw _ _ _ _ 174 [some (.ref 40), some (.int (iI p)), some (.int (iI k))] [.int (iI 0)] _
      refine aw_if (p' := 220) rfl ⟨by omega, by omega⟩ rfl rfl (fun _ => ?_) (fun c => ?_)
      · exact aw_retv rfl ((hG0.bs (hG0.1.fail hb hC1 hD1 hbd (by decide))).out (fun c hc _ => beg_err hc (Or.inr (Or.inr (Or.inr ⟨hk9, hk21, by omega, rfl, rfl⟩)))))
      · dsimp only [zc] at c
        omega
  · have hk21' : zx τ0 11 (a + 1) ≠ 21 := by rw [et0.1]; exact hk21
    refine aw_aload_n rfl rfl rfl ?_
    refine aw_bipush rfl rfl rfl ?_
    refine aw_iload_n rfl rfl rfl ?_
    refine aw_calc (c_open hC0 hI hG0.1.2.1 hok0 hG0.1.2.2.2.2.1.1 hG0.1.2.2.2.2.1.2 (w := 21) ⟨by omega, by omega⟩ ⟨by omega, by omega⟩ (by decide)) rfl rfl rfl (Nat.le_of_ble_eq_true rfl) (Or.inr ⟨_, rfl, (hC0.f.k 40 rfl)⟩) rfl ?_
    intro r1 τ1 ⟨hC1, hD1, hcs1⟩
    obtain ⟨rfl, hbd⟩ := hcs1.2.2 hk21'
    change aw _ _ _ _ 174 [some (.ref 40), some (.int (iI p)), some (.int (iI k))] [.int (iI 0)] _
    refine aw_if (p' := 220) rfl ⟨by omega, by omega⟩ rfl rfl (fun _ => ?_) (fun c => ?_)
    · exact aw_retv rfl ((hG0.bs (hG0.1.fail hb hC1 hD1 hbd (by decide))).out (fun c hc _ => beg_err hc (Or.inr (Or.inr (Or.inl ⟨hk9, hk21, rfl, rfl⟩)))))
    · dsimp only [zc] at c
      omega
set_option maxRecDepth 10000 in
set_option maxHeartbeats 2000000 in
theorem c_one_w {d : Nat} {sz : Nat} {κ : Nat × (Nat → Int32) × Option Nat} {A : Nat → Int → Int} {g : Nat → Nat} {E : Int → Int} {T : Int} {b : Nat} (hb : b = 16 ∨ b = 22) (hI : MI sz A) {p : Int} (hp0 : 0 ≤ p) (hp1 : p ≤ 10) (hsum : p < 10 → Co sz κ A g E T b 20 (d + 4) (p + 1) (fun σ a a' n => Qr 3 σ a (p + 1) a' n ∧ zx σ 11 a' ≠ 17 ∧ zx σ 11 a' ≠ 18 ∧ zx σ 11 a' ≠ 19 ∧ zx σ 11 a' ≠ 20) (fun σ a => FQ σ a 1 (p + 1) (Zr 3))) (hone : p < 10 → Co sz κ A g E T b 22 (d + 4) (p + 1) (fun σ a => Q1 σ a (p + 1)) (fun σ a => FQ σ a 1 (p + 1) (fun _ => True))) : Co sz κ A g E T b 22 (d + 5) p (fun σ a => Q1 σ a p) (fun σ a => FQ σ a 1 p (fun _ => True)) := by
  intro σ a l hP
  obtain ⟨hC, hTS, hrb, hok, ha, hl5, hl6⟩ := id hP
  have hkl := zx_lo σ 11 a
  have hkh := zx_hi σ 11 a
  obtain ⟨k, hk⟩ : ∃ k, zx σ 11 a = k := ⟨_, rfl⟩
  refine cal_of (M := (yX2_one, cX2_one, 3, none)) (cd := k_X2_one) (L := [some (.ref 40), some (.int (iI p)), none]) rfl (Nat.le_of_ble_eq_true rfl) rfl rfl ?_
  refine aw_aload_n rfl rfl rfl ?_
  refine aw_gk (v := k) (3) rfl rfl (hC.f.k 40 rfl) rfl (hok.2.1.trans hk) rfl (fun _ _ => ?_)
  refine aw_istore_n rfl (Nat.le_of_ble_eq_true rfl) rfl rfl ?_
  change aw _ _ _ _ 5 [some (.ref 40), some (.int (iI p)), some (.int (iI k))] _ _
  refine aw_iload_n rfl rfl rfl ?_
  have hV : (k = 2 ∨ k = 3) → aw (d + 4) k_X2_one none (PP sz κ A g T b σ a l (Q1 σ a p) (FQ σ a 1 p (fun _ => True))) 100 [some (.ref 40), some (.int (iI p)), some (.int (iI k))] [] σ := by
    intro hk2
    refine aw_aload_n rfl rfl rfl ?_
    refine aw_calc (c_valueg hb hI hP hp0 hp1 (by omega)) rfl rfl rfl (Nat.le_of_ble_eq_true rfl) (Or.inr ⟨_, rfl, (hC.f.k 40 rfl)⟩) rfl ?_
    intro r τ hr
    obtain ⟨rfl, _⟩ := id hr
    change aw _ _ _ _ 104 [some (.ref 40), some (.int (iI p)), some (.int (iI k))] [] _
    refine aw_goto (p' := 220) rfl rfl ?_
    exact aw_retv rfl hr
  refine aw_tsb (p' := 100) 0 rfl rfl ⟨by omega, by omega⟩ (by omega) rfl (fun h => hV (Or.inl (by omega))) (fun h0 => ?_)
  refine aw_tsb (p' := 100) 1 rfl rfl ⟨by omega, by omega⟩ (by omega) rfl (fun h => hV (Or.inr (by omega))) (fun h1 => ?_)
  refine aw_tsb (p' := 163) 7 rfl rfl ⟨by omega, by omega⟩ (by omega) rfl (fun h => on_mm hb hI hp0 hp1 hsum hone hP hk (Or.inl (by omega))) (fun h2 => ?_)
  refine aw_tsb (p' := 163) 8 rfl rfl ⟨by omega, by omega⟩ (by omega) rfl (fun h => on_mm hb hI hp0 hp1 hsum hone hP hk (Or.inr (by omega))) (fun h3 => ?_)
  refine aw_tsb (p' := 133) 16 rfl rfl ⟨by omega, by omega⟩ (by omega) rfl (fun h => on_neg hb hI hp0 hp1 hsum hone hP hk (by omega)) (fun h4 => ?_)
  refine aw_tsb (p' := 107) 19 rfl rfl ⟨by omega, by omega⟩ (by omega) rfl (fun h => on_par hb hI hp0 hp1 hsum hone hP hk (by omega)) (fun h5 => ?_)
  have hkn : k ≠ 2 ∧ k ≠ 3 ∧ k ≠ 21 ∧ k ≠ 18 ∧ k ≠ 9 ∧ k ≠ 10 := by omega
  refine aw_tsd2 (p' := 215) rfl ⟨by omega, by omega⟩ (ts_o hkn) rfl ?_
  refine aw_aload_n rfl rfl rfl ?_
  refine aw_iconst rfl rfl ?_
  refine aw_calc (c_fail hC hI hok (f := 1) ⟨by omega, by omega⟩) rfl rfl rfl (Nat.le_of_ble_eq_true rfl) (Or.inr ⟨_, rfl, (hC.f.k 40 rfl)⟩) rfl ?_
  rintro _ τ ⟨rfl, hC1, hD1, hbd⟩
  change aw _ _ _ _ 220 [some (.ref 40), some (.int (iI p)), some (.int (iI k))] [] _
  exact aw_retv rfl ((hP.fail hb hC1 hD1 hbd (by decide)).out (fun c hc _ => beg_err hc (Or.inl ⟨by rw [hk]; exact hkn, rfl, rfl⟩)))
