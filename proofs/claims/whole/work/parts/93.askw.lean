set_option maxRecDepth 10000 in
set_option maxHeartbeats 2000000 in
theorem as_not {d : Nat} {sz : Nat} {κ : Nat × (Nat → Int32) × Option Nat} {A : Nat → Int → Int} {g : Nat → Nat} {E : Int → Int} {T : Int} {b : Nat} (hb : b = 16 ∨ b = 22) (hI : MI sz A) {p : Int} (hp0 : 0 ≤ p) (hp1 : p ≤ 10) (hsum : Co sz κ A g E T b 20 (d + 4) p (fun σ a a' n => Qr 3 σ a p a' n ∧ zx σ 11 a' ≠ 17 ∧ zx σ 11 a' ≠ 18 ∧ zx σ 11 a' ≠ 19 ∧ zx σ 11 a' ≠ 20) (fun σ a => FQ σ a 1 p (Zr 3))) (hask : p < 10 → Co sz κ A g E T b 19 (d + 4) (p + 1) (fun σ a => Qa σ a (p + 1)) (fun σ a => FQ σ a 0 (p + 1) (fun _ => True))) (heither : p < 10 → Co sz κ A g E T b 17 (d + 4) (p + 1) (fun σ a a' n => Qb 1 σ a (p + 1) a' n ∧ zx σ 11 a' ≠ 6 ∧ zx σ 11 a' ≠ 7) (fun σ a => FQ σ a 0 (p + 1) (Zb 1))) {σ : az_S} {a l : Int} (hP : PS sz κ A g E T b σ a l) (hk : zx σ 11 a = 8) : aw (d + 4) k_X2_ask none (PP sz κ A g T b σ a l (Qa σ a p) (FQ σ a 0 p (fun _ => True))) 9 [some (.ref 40), some (.int (iI p)), none] [] σ := by
  have hG := GS.rf hP
  obtain ⟨hC, hTS, hrb, hok, ha, hl5, hl6⟩ := id hP
  have hTb := hTS.2.1
  have hkl := zx_lo σ 11 a
  have hkh := zx_hi σ 11 a
  have kT := (hTS.2.2.2 a ha.1 ha.2).2
  have hlt : a < T := by
    have : a ≠ T := fun q => by have := kT.mpr q; omega
    omega
  refine aw_aload_n rfl rfl rfl ?_
  refine aw_bipush rfl rfl rfl ?_
  refine aw_iload_n rfl rfl rfl ?_
  refine aw_calc (c_open hC hI hTS hok ha.1 ha.2 (w := 8) ⟨by omega, by omega⟩ ⟨by omega, by omega⟩ (by decide)) rfl rfl rfl (Nat.le_of_ble_eq_true rfl) (Or.inr ⟨_, rfl, (hC.f.k 40 rfl)⟩) rfl ?_
  intro r1 τ1 ⟨hC1, hD1, hcs1⟩
  by_cases hp : p < 10
  · obtain ⟨rfl, hok1⟩ := hcs1.1 ⟨hk, hp⟩
    change aw _ _ _ _ 16 [some (.ref 40), some (.int (iI p)), none] [.int (iI 1)] _
    refine aw_if (p' := 122) rfl ⟨by omega, by omega⟩ rfl rfl (fun c => ?_) (fun _ => ?_)
    · dsimp only [zc] at c
      omega
    have hG1 := hG.adv hb hC1 hD1 hok1 hlt
    refine aw_aload_n rfl rfl rfl ?_
    refine aw_iload_n rfl rfl rfl ?_
    refine aw_iconst rfl rfl ?_
    refine aw_iadd rfl rfl ?_
    refine aw_calc (hask hp τ1 (a + 1) _ hG1.1) rfl rfl rfl (Nat.le_of_ble_eq_true rfl) (Or.inr ⟨_, rfl, (hC1.f.k 40 rfl)⟩) rfl ?_
    intro r τ2 hr
    obtain ⟨rfl, hC2, hD2, hcs⟩ := hG1.1.ret hr
    change aw _ _ _ _ 26 [some (.ref 40), some (.int (iI p)), none] [] _
    have et := hG1.tok hb
    rcases hcs with ⟨a2, n2, hX2, hQ2⟩ | ⟨x, f, hB, hF2⟩
    · have hG2 := hG1.call hb hC2 hD2 hX2
      rw [List.nil_append] at hG2
      have hx3 := hX2.2.2.1
      have hx5 := hX2.2.2.2.2.1
      have hQ3 := hQ2.tk et.1 et.2.1 et.2.2
      refine aw_aload_n rfl rfl rfl ?_
      refine aw_getr (b := b) rfl rfl (hC2.f.k 40 rfl) hG2.1.2.2.1 rfl ?_
      refine aw_bipush rfl rfl rfl ?_
      refine aw_iconst rfl rfl ?_
      refine aw_calc (c_addg hb hC2 hI ⟨by omega, by omega⟩ ⟨by omega, by omega⟩ hG2.1.2.2.2.2.2.1 (by omega) (by omega)) rfl rfl rfl (Nat.le_of_ble_eq_true rfl) (Or.inr ⟨_, rfl, (hC2.f.tar hb).1⟩) rfl ?_
      rintro _ τ3 ⟨rfl, h1, h2, h3, h4, h5, h6⟩
      have hG3 := hG2.add hb (o := 405) (v := 0) hl6.2 (by omega) h1 h2 h3 h4 h5 h6
      change aw _ _ _ _ 36 [some (.ref 40), some (.int (iI p)), none] [] _
      refine aw_goto (p' := 122) rfl rfl ?_
      exact aw_retv rfl (hG3.out (Qa_not hk hp hQ3))
    · have hB2 := hG1.bs hB
      refine aw_aload_n rfl rfl rfl ?_
      refine aw_getr (b := b) rfl rfl (hC2.f.k 40 rfl) hB.2.2.2.2.2.2.2 rfl ?_
      refine aw_bipush rfl rfl rfl ?_
      refine aw_iconst rfl rfl ?_
      refine aw_calc (c_addbg hb hC2 hI ⟨by omega, by omega⟩ ⟨by omega, by omega⟩ hB.2.2.2.2.2.1.1 hB.2.2.2.2.2.1.2) rfl rfl rfl (Nat.le_of_ble_eq_true rfl) (Or.inr ⟨_, rfl, (hC2.f.tar hb).1⟩) rfl ?_
      rintro _ ρ ⟨rfl, h1, h2, h3, h4⟩
      change aw _ _ _ _ 36 [some (.ref 40), some (.int (iI p)), none] [] _
      refine aw_goto (p' := 122) rfl rfl ?_
      exact aw_retv rfl ((hB2.add hb h1 h2 h3 h4).out (Fa_not hk hp (hF2.tk et.1 et.2.1 et.2.2)))
  · obtain ⟨rfl, hbd⟩ := hcs1.2.1 ⟨hk, by omega⟩
    change aw _ _ _ _ 16 [some (.ref 40), some (.int (iI p)), none] [.int (iI 0)] _
    refine aw_if (p' := 122) rfl ⟨by omega, by omega⟩ rfl rfl (fun _ => ?_) (fun c => ?_)
    · exact aw_retv rfl ((hP.fail hb hC1 hD1 hbd (by decide)).out (fun c hc _ => ask_err hc (Or.inl hk) (by omega)))
    · dsimp only [zc] at c
      omega
set_option maxRecDepth 10000 in
set_option maxHeartbeats 2000000 in
theorem as_br {d : Nat} {sz : Nat} {κ : Nat × (Nat → Int32) × Option Nat} {A : Nat → Int → Int} {g : Nat → Nat} {E : Int → Int} {T : Int} {b : Nat} (hb : b = 16 ∨ b = 22) (hI : MI sz A) {p : Int} (hp0 : 0 ≤ p) (hp1 : p ≤ 10) (hsum : Co sz κ A g E T b 20 (d + 4) p (fun σ a a' n => Qr 3 σ a p a' n ∧ zx σ 11 a' ≠ 17 ∧ zx σ 11 a' ≠ 18 ∧ zx σ 11 a' ≠ 19 ∧ zx σ 11 a' ≠ 20) (fun σ a => FQ σ a 1 p (Zr 3))) (hask : p < 10 → Co sz κ A g E T b 19 (d + 4) (p + 1) (fun σ a => Qa σ a (p + 1)) (fun σ a => FQ σ a 0 (p + 1) (fun _ => True))) (heither : p < 10 → Co sz κ A g E T b 17 (d + 4) (p + 1) (fun σ a a' n => Qb 1 σ a (p + 1) a' n ∧ zx σ 11 a' ≠ 6 ∧ zx σ 11 a' ≠ 7) (fun σ a => FQ σ a 0 (p + 1) (Zb 1))) {σ : az_S} {a l : Int} (hP : PS sz κ A g E T b σ a l) (hk : zx σ 11 a = 23) : aw (d + 4) k_X2_ask none (PP sz κ A g T b σ a l (Qa σ a p) (FQ σ a 0 p (fun _ => True))) 48 [some (.ref 40), some (.int (iI p)), none] [] σ := by
  have hG := GS.rf hP
  obtain ⟨hC, hTS, hrb, hok, ha, hl5, hl6⟩ := id hP
  have hTb := hTS.2.1
  have hkl := zx_lo σ 11 a
  have hkh := zx_hi σ 11 a
  have kT := (hTS.2.2.2 a ha.1 ha.2).2
  have hlt : a < T := by
    have : a ≠ T := fun q => by have := kT.mpr q; omega
    omega
  refine aw_aload_n rfl rfl rfl ?_
  refine aw_bipush rfl rfl rfl ?_
  refine aw_iload_n rfl rfl rfl ?_
  refine aw_calc (c_open hC hI hTS hok ha.1 ha.2 (w := 23) ⟨by omega, by omega⟩ ⟨by omega, by omega⟩ (by decide)) rfl rfl rfl (Nat.le_of_ble_eq_true rfl) (Or.inr ⟨_, rfl, (hC.f.k 40 rfl)⟩) rfl ?_
  intro r1 τ1 ⟨hC1, hD1, hcs1⟩
  by_cases hp : p < 10
  · obtain ⟨rfl, hok1⟩ := hcs1.1 ⟨hk, hp⟩
    change aw _ _ _ _ 55 [some (.ref 40), some (.int (iI p)), none] [.int (iI 1)] _
    refine aw_if (p' := 122) rfl ⟨by omega, by omega⟩ rfl rfl (fun c => ?_) (fun _ => ?_)
    · dsimp only [zc] at c
      omega
    have hG1 := hG.adv hb hC1 hD1 hok1 hlt
    refine aw_aload_n rfl rfl rfl ?_
    refine aw_iload_n rfl rfl rfl ?_
    refine aw_iconst rfl rfl ?_
    refine aw_iadd rfl rfl ?_
    refine aw_calc (heither hp τ1 (a + 1) _ hG1.1) rfl rfl rfl (Nat.le_of_ble_eq_true rfl) (Or.inr ⟨_, rfl, (hC1.f.k 40 rfl)⟩) rfl ?_
    intro r τ2 hr
    obtain ⟨rfl, hC2, hD2, hcs⟩ := hG1.1.ret hr
    change aw _ _ _ _ 65 [some (.ref 40), some (.int (iI p)), none] [] _
    have et := hG1.tok hb
    rcases hcs with ⟨a2, n2, hX2, hQ2, hN2⟩ | ⟨x, f, hB, hF2⟩
    · have hG2 := hG1.call hb hC2 hD2 hX2
      rw [List.nil_append] at hG2
      have hQ3 := hQ2.tk et.1 et.2.1 et.2.2
      rw [et.1] at hN2
      have et2 := hG2.tok hb
      refine aw_aload_n rfl rfl rfl ?_
      refine aw_bipush rfl rfl rfl ?_
      refine aw_calc (c_pass hC2 hI hG2.1.2.1 hG2.1.2.2.2.1 hG2.1.2.2.2.2.1.1 hG2.1.2.2.2.2.1.2 (w := 24) ⟨by omega, by omega⟩ (by decide)) rfl rfl rfl (Nat.le_of_ble_eq_true rfl) (Or.inr ⟨_, rfl, (hC2.f.k 40 rfl)⟩) rfl ?_
      rintro _ τ3 ⟨rfl, hC3, hD3, hy, hz⟩
      rw [et2.1] at hy hz
      change aw _ _ _ _ 71 [some (.ref 40), some (.int (iI p)), none] [] _
      refine aw_goto (p' := 122) rfl rfl ?_
      by_cases h24 : zx σ 11 a2 = 24

      · have kta2 := (hG2.1.2.1.2.2.2 a2 hG2.1.2.2.2.2.1.1 hG2.1.2.2.2.2.1.2).2
        rw [et2.1] at kta2
        have tta2 := hG2.1.2.2.2.2.1.2
        have hlta2 : a2 < T := by
          have : a2 ≠ T := fun q => by have := kta2.mpr q; omega
          omega
        have hG3 := hG2.adv hb hC3 hD3 (hy h24) hlta2
        exact aw_retv rfl (hG3.out (Qa_br hk hp hQ3 h24))
      · exact aw_retv rfl ((hG2.bs (hG2.1.fail hb hC3 hD3 (hz h24) (by decide))).out (Fa_br2 hk hp hQ3 hN2 h24))
    · refine aw_aload_n rfl rfl rfl ?_
      refine aw_bipush rfl rfl rfl ?_
      refine aw_calc (c_passb hC2 hI hB.2.2.1 hB.2.2.2.1 ⟨by omega, by omega⟩ (by decide)) rfl rfl rfl (Nat.le_of_ble_eq_true rfl) (Or.inr ⟨_, rfl, (hC2.f.k 40 rfl)⟩) rfl ?_
      rintro _ _ ⟨rfl, rfl⟩
      change aw _ _ _ _ 71 [some (.ref 40), some (.int (iI p)), none] [] _
      refine aw_goto (p' := 122) rfl rfl ?_
      exact aw_retv rfl ((hG1.bs hB).out (Fa_br hk hp (hF2.tk et.1 et.2.1 et.2.2)))
  · obtain ⟨rfl, hbd⟩ := hcs1.2.1 ⟨hk, by omega⟩
    change aw _ _ _ _ 55 [some (.ref 40), some (.int (iI p)), none] [.int (iI 0)] _
    refine aw_if (p' := 122) rfl ⟨by omega, by omega⟩ rfl rfl (fun _ => ?_) (fun c => ?_)
    · exact aw_retv rfl ((hP.fail hb hC1 hD1 hbd (by decide)).out (fun c hc _ => ask_err hc (Or.inr hk) (by omega)))
    · dsimp only [zc] at c
      omega
set_option maxRecDepth 10000 in
set_option maxHeartbeats 2000000 in
theorem as_cmp {d : Nat} {sz : Nat} {κ : Nat × (Nat → Int32) × Option Nat} {A : Nat → Int → Int} {g : Nat → Nat} {E : Int → Int} {T : Int} {b : Nat} (hb : b = 16 ∨ b = 22) (hI : MI sz A) {p : Int} (hp0 : 0 ≤ p) (hp1 : p ≤ 10) (hsum : Co sz κ A g E T b 20 (d + 4) p (fun σ a a' n => Qr 3 σ a p a' n ∧ zx σ 11 a' ≠ 17 ∧ zx σ 11 a' ≠ 18 ∧ zx σ 11 a' ≠ 19 ∧ zx σ 11 a' ≠ 20) (fun σ a => FQ σ a 1 p (Zr 3))) (hask : p < 10 → Co sz κ A g E T b 19 (d + 4) (p + 1) (fun σ a => Qa σ a (p + 1)) (fun σ a => FQ σ a 0 (p + 1) (fun _ => True))) (heither : p < 10 → Co sz κ A g E T b 17 (d + 4) (p + 1) (fun σ a a' n => Qb 1 σ a (p + 1) a' n ∧ zx σ 11 a' ≠ 6 ∧ zx σ 11 a' ≠ 7) (fun σ a => FQ σ a 0 (p + 1) (Zb 1))) {σ : az_S} {a l : Int} (hP : PS sz κ A g E T b σ a l) (hk : zx σ 11 a ≠ 8 ∧ zx σ 11 a ≠ 23) : aw (d + 4) k_X2_ask none (PP sz κ A g T b σ a l (Qa σ a p) (FQ σ a 0 p (fun _ => True))) 74 [some (.ref 40), some (.int (iI p)), none] [] σ := by
  have hG := GS.rf hP
  obtain ⟨hC, hTS, hrb, hok, ha, hl5, hl6⟩ := id hP
  have hTb := hTS.2.1
  have hkl := zx_lo σ 11 a
  have hkh := zx_hi σ 11 a
  have kT := (hTS.2.2.2 a ha.1 ha.2).2
  refine aw_aload_n rfl rfl rfl ?_
  refine aw_iload_n rfl rfl rfl ?_
  refine aw_calc (hsum σ a l hP) rfl rfl rfl (Nat.le_of_ble_eq_true rfl) (Or.inr ⟨_, rfl, (hC.f.k 40 rfl)⟩) rfl ?_
  intro r τ1 hr
  obtain ⟨rfl, hC1, hD1, hcs⟩ := hP.ret hr
  change aw _ _ _ _ 79 [some (.ref 40), some (.int (iI p)), none] [] _
  rcases hcs with ⟨a1, n1, hX1, hQ1, hN1⟩ | ⟨x, f, hB, hF1⟩
  · have hG1 := hG.call hb hC1 hD1 (n2 := n1) (by simpa using hX1)
    rw [List.nil_append] at hG1
    have et := hG1.tok hb
    have hkl1 := zx_lo σ 11 a1
    have hkh1 := zx_hi σ 11 a1
    refine aw_aload_n rfl rfl rfl ?_
    refine aw_gk (v := zx σ 11 a1) (3) rfl rfl (hC1.f.k 40 rfl) rfl (by rw [hG1.1.2.2.2.1.2.1, et.1]) rfl (fun _ _ => ?_)
    refine aw_istore_n rfl (Nat.le_of_ble_eq_true rfl) rfl rfl ?_
    change aw _ _ _ _ 84 [some (.ref 40), some (.int (iI p)), some (.int (iI (zx σ 11 a1)))] _ _
    have hbad : ¬ (11 ≤ zx σ 11 a1 ∧ zx σ 11 a1 ≤ 16) → aw (d + 4) k_X2_ask none (PP sz κ A g T b σ a l (Qa σ a p) (FQ σ a 0 p (fun _ => True))) 117 [some (.ref 40), some (.int (iI p)), some (.int (iI (zx σ 11 a1)))] [] τ1 := by
      intro hn
      refine aw_aload_n rfl rfl rfl ?_
      refine aw_iconst rfl rfl ?_
      refine aw_calc (c_fail hC1 hI hG1.1.2.2.2.1 (f := 1) ⟨by omega, by omega⟩) rfl rfl rfl (Nat.le_of_ble_eq_true rfl) (Or.inr ⟨_, rfl, (hC1.f.k 40 rfl)⟩) rfl ?_
      rintro _ τ2 ⟨rfl, hC2, hD2, hbd⟩
      change aw _ _ _ _ 122 [some (.ref 40), some (.int (iI p)), some (.int (iI (zx σ 11 a1)))] [] _
      exact aw_retv rfl ((hG1.bs (hG1.1.fail hb hC2 hD2 hbd (by decide))).out (Fa_cm2 hk hQ1 hN1 hn))
    refine aw_iload_n rfl rfl rfl ?_
    refine aw_bipush rfl rfl rfl ?_
    refine aw_icmp (p' := 117) rfl ⟨by omega, by omega⟩ ⟨by omega, by omega⟩ rfl rfl (fun c1 => ?_) (fun c1 => ?_)
    · dsimp only [zc] at c1
      exact hbad (by omega)
    · dsimp only [zc] at c1
      refine aw_iload_n rfl rfl rfl ?_
      refine aw_bipush rfl rfl rfl ?_
      refine aw_icmp (p' := 117) rfl ⟨by omega, by omega⟩ ⟨by omega, by omega⟩ rfl rfl (fun c2 => ?_) (fun c2 => ?_)
      · dsimp only [zc] at c2
        exact hbad (by omega)
      · dsimp only [zc] at c2
        have hs : 11 ≤ zx σ 11 a1 ∧ zx σ 11 a1 ≤ 16 := by omega
        have kt := (hG1.1.2.1.2.2.2 a1 hG1.1.2.2.2.2.1.1 hG1.1.2.2.2.2.1.2).2
        rw [et.1] at kt
        have tt := hG1.1.2.2.2.2.1.2
        have hlt1 : a1 < T := by
          have : a1 ≠ T := fun q => by have := kt.mpr q; omega
          omega
        refine aw_aload_n rfl rfl rfl ?_
        refine aw_calc (c_advance hC1 hI hG1.1.2.1 hG1.1.2.2.2.1 hG1.1.2.2.2.2.1.1 hlt1) rfl rfl rfl (Nat.le_of_ble_eq_true rfl) (Or.inr ⟨_, rfl, (hC1.f.k 40 rfl)⟩) rfl ?_
        rintro _ τ2 ⟨rfl, hC2, hD2, hok2⟩
        have hG2 := hG1.adv hb hC2 hD2 hok2 hlt1
        have et2 := hG2.tok hb
        change aw _ _ _ _ 100 [some (.ref 40), some (.int (iI p)), some (.int (iI (zx σ 11 a1)))] [] _
        refine aw_aload_n rfl rfl rfl ?_
        refine aw_iload_n rfl rfl rfl ?_
        refine aw_calc (hsum τ2 (a1 + 1) _ hG2.1) rfl rfl rfl (Nat.le_of_ble_eq_true rfl) (Or.inr ⟨_, rfl, (hC2.f.k 40 rfl)⟩) rfl ?_
        intro r τ3 hr
        obtain ⟨rfl, hC3, hD3, hcs⟩ := hG2.1.ret hr
        change aw _ _ _ _ 105 [some (.ref 40), some (.int (iI p)), some (.int (iI (zx σ 11 a1)))] [] _
        rcases hcs with ⟨a3, n3, hX3, hQ3, hN3⟩ | ⟨x, f, hB, hF3⟩
        · have hG3 := hG2.call hb hC3 hD3 hX3
          have hx3 := hX1.2.2.1
          have hx5 := hX1.2.2.2.2.1
          have hy3 := hX3.2.2.1
          have hy5 := hX3.2.2.2.2.1
          have hle : ((n1 ++ n3).length : Int) = n1.length + n3.length := by simp
          rw [et2.1] at hN3
          refine aw_aload_n rfl rfl rfl ?_
          refine aw_getr (b := b) rfl rfl (hC3.f.k 40 rfl) hG3.1.2.2.1 rfl ?_
          refine aw_iload_n rfl rfl rfl ?_
          refine aw_iconst rfl rfl ?_
          refine aw_calc (c_addg hb hC3 hI ⟨by omega, by omega⟩ ⟨by omega, by omega⟩ hG3.1.2.2.2.2.2.1 (by omega) (by omega)) rfl rfl rfl (Nat.le_of_ble_eq_true rfl) (Or.inr ⟨_, rfl, (hC3.f.tar hb).1⟩) rfl ?_
          rintro _ τ4 ⟨rfl, h1, h2, h3, h4, h5, h6⟩
          have hG4 := hG3.add hb (o := sgn (zx σ 11 a1)) (v := 0) hl6.2 (by omega) h1 h2 h3 h4 (by rw [(opC_s hs).2]; exact h5) h6
          change aw _ _ _ _ 114 [some (.ref 40), some (.int (iI p)), some (.int (iI (zx σ 11 a1)))] [] _
          refine aw_goto (p' := 122) rfl rfl ?_
          exact aw_retv rfl (hG4.out (Qa_cmp hk hQ1 hs (hQ3.tk et2.1 et2.2.1 et2.2.2) hN3))
        · have hB2 := hG2.bs hB
          refine aw_aload_n rfl rfl rfl ?_
          refine aw_getr (b := b) rfl rfl (hC3.f.k 40 rfl) hB.2.2.2.2.2.2.2 rfl ?_
          refine aw_iload_n rfl rfl rfl ?_
          refine aw_iconst rfl rfl ?_
          refine aw_calc (c_addbg hb hC3 hI ⟨by omega, by omega⟩ ⟨by omega, by omega⟩ hB.2.2.2.2.2.1.1 hB.2.2.2.2.2.1.2) rfl rfl rfl (Nat.le_of_ble_eq_true rfl) (Or.inr ⟨_, rfl, (hC3.f.tar hb).1⟩) rfl ?_
          rintro _ ρ ⟨rfl, h1, h2, h3, h4⟩
          change aw _ _ _ _ 114 [some (.ref 40), some (.int (iI p)), some (.int (iI (zx σ 11 a1)))] [] _
          refine aw_goto (p' := 122) rfl rfl ?_
          exact aw_retv rfl ((hB2.add hb h1 h2 h3 h4).out (Fa_cm3 hk hQ1 hs (hF3.tk et2.1 et2.2.1 et2.2.2)))
  · refine aw_aload_n rfl rfl rfl ?_
    refine aw_gk (v := 1) (3) rfl rfl (hC1.f.k 40 rfl) rfl hB.2.2.1.2.1 rfl (fun _ _ => ?_)
    refine aw_istore_n rfl (Nat.le_of_ble_eq_true rfl) rfl rfl ?_
    change aw _ _ _ _ 84 [some (.ref 40), some (.int (iI p)), some (.int (iI 1))] _ _
    refine aw_iload_n rfl rfl rfl ?_
    refine aw_bipush rfl rfl rfl ?_
    refine aw_icmp (p' := 117) rfl ⟨by omega, by omega⟩ ⟨by omega, by omega⟩ rfl rfl (fun c1 => ?_) (fun c1 => ?_)
    · refine aw_aload_n rfl rfl rfl ?_
      refine aw_iconst rfl rfl ?_
      refine aw_calc (c_failb hC1 hI hB.2.2.1 hB.2.2.2.1 ⟨by omega, by omega⟩) rfl rfl rfl (Nat.le_of_ble_eq_true rfl) (Or.inr ⟨_, rfl, (hC1.f.k 40 rfl)⟩) rfl ?_
      rintro _ _ ⟨rfl, rfl⟩
      change aw _ _ _ _ 122 [some (.ref 40), some (.int (iI p)), some (.int (iI 1))] [] _
      exact aw_retv rfl (hB.out (Fa_cm1 hk hF1))
    · dsimp only [zc] at c1
      omega
set_option maxRecDepth 10000 in
set_option maxHeartbeats 2000000 in
theorem c_ask_w {d : Nat} {sz : Nat} {κ : Nat × (Nat → Int32) × Option Nat} {A : Nat → Int → Int} {g : Nat → Nat} {E : Int → Int} {T : Int} {b : Nat} (hb : b = 16 ∨ b = 22) (hI : MI sz A) {p : Int} (hp0 : 0 ≤ p) (hp1 : p ≤ 10) (hsum : Co sz κ A g E T b 20 (d + 4) p (fun σ a a' n => Qr 3 σ a p a' n ∧ zx σ 11 a' ≠ 17 ∧ zx σ 11 a' ≠ 18 ∧ zx σ 11 a' ≠ 19 ∧ zx σ 11 a' ≠ 20) (fun σ a => FQ σ a 1 p (Zr 3))) (hask : p < 10 → Co sz κ A g E T b 19 (d + 4) (p + 1) (fun σ a => Qa σ a (p + 1)) (fun σ a => FQ σ a 0 (p + 1) (fun _ => True))) (heither : p < 10 → Co sz κ A g E T b 17 (d + 4) (p + 1) (fun σ a a' n => Qb 1 σ a (p + 1) a' n ∧ zx σ 11 a' ≠ 6 ∧ zx σ 11 a' ≠ 7) (fun σ a => FQ σ a 0 (p + 1) (Zb 1))) : Co sz κ A g E T b 19 (d + 5) p (fun σ a => Qa σ a p) (fun σ a => FQ σ a 0 p (fun _ => True)) := by
  intro σ a l hP
  obtain ⟨hC, hTS, hrb, hok, ha, hl5, hl6⟩ := id hP
  have hkl := zx_lo σ 11 a
  have hkh := zx_hi σ 11 a
  refine cal_of (M := (yX2_ask, cX2_ask, 3, none)) (cd := k_X2_ask) (L := [some (.ref 40), some (.int (iI p)), none]) rfl (Nat.le_of_ble_eq_true rfl) rfl rfl ?_
  refine aw_aload_n rfl rfl rfl ?_
  refine aw_gk (v := zx σ 11 a) (3) rfl rfl (hC.f.k 40 rfl) rfl hok.2.1 rfl (fun _ _ => ?_)
  refine aw_bipush rfl rfl rfl ?_
  refine aw_icmp (p' := 39) rfl ⟨by omega, by omega⟩ ⟨by omega, by omega⟩ rfl rfl (fun c1 => ?_) (fun c1 => ?_)
  · dsimp only [zc] at c1
    refine aw_aload_n rfl rfl rfl ?_
    refine aw_gk (v := zx σ 11 a) (3) rfl rfl (hC.f.k 40 rfl) rfl hok.2.1 rfl (fun _ _ => ?_)
    refine aw_bipush rfl rfl rfl ?_
    refine aw_icmp (p' := 74) rfl ⟨by omega, by omega⟩ ⟨by omega, by omega⟩ rfl rfl (fun c2 => ?_) (fun c2 => ?_)
    · dsimp only [zc] at c2
      exact as_cmp hb hI hp0 hp1 hsum hask heither hP ⟨c1, c2⟩
    · dsimp only [zc] at c2
      exact as_br hb hI hp0 hp1 hsum hask heither hP (by omega)
  · dsimp only [zc] at c1
    exact as_not hb hI hp0 hp1 hsum hask heither hP (by omega)
set_option maxRecDepth 10000 in
theorem c_both_7 {d : Nat} {P : Option Value → az_S → Prop} {sz : Nat} {κ : Nat × (Nat → Int32) × Option Nat} {A : Nat → Int → Int} {g : Nat → Nat} {σ : az_S} (hC : CR sz κ A g σ) {x f p i : Int} (hq : BDp x f σ) (hi : inI i) (h : P none σ) : aw d k_X2_both none P 7 [some (.ref 40), some (.int (iI p)), some (.int (iI i))] [] σ := by
  obtain ⟨hi1, hi2⟩ := hi
  refine aw_iload_n rfl rfl rfl ?_
  refine aw_sipush rfl rfl rfl ?_
  refine aw_icmp (p' := 48) rfl ⟨by omega, by omega⟩ ⟨by omega, by omega⟩ rfl rfl (fun c => ?_) (fun c => ?_)
  · exact aw_retv rfl h
  · refine aw_aload_n rfl rfl rfl ?_
    refine aw_gk (v := 1) (3) rfl rfl (hC.f.k 40 rfl) rfl hq.2.1 rfl (fun _ _ => ?_)
    refine aw_bipush rfl rfl rfl ?_
    refine aw_icmp (p' := 48) rfl ⟨by omega, by omega⟩ ⟨by omega, by omega⟩ rfl rfl (fun c2 => ?_) (fun c2 => ?_)
    · exact aw_retv rfl h
    · dsimp only [zc] at c2
      omega
set_option maxRecDepth 10000 in
theorem c_both_b {d : Nat} {sz : Nat} {κ : Nat × (Nat → Int32) × Option Nat} {A : Nat → Int → Int} {g : Nat → Nat} {T : Int} {b : Nat} (hb : b = 16 ∨ b = 22) (hI : MI sz A) {Q : Int → List (Int × Int) → Prop} {F : Int → Int → Prop} {σ τ : az_S} {a l x f p i : Int} (hB : BS sz κ A g T b σ τ x f) (hi0 : 0 ≤ i) (hi1 : i < 1000) (hF : F x f) : aw (d + 1) k_X2_both none (PP sz κ A g T b σ a l Q F) 32 [some (.ref 40), some (.int (iI p)), some (.int (iI i))] [] τ := by
  have hC := hB.1
  refine aw_aload_n rfl rfl rfl ?_
  refine aw_getr (b := b) rfl rfl (hC.f.k 40 rfl) hB.2.2.2.2.2.2.2 rfl ?_
  refine aw_bipush rfl rfl rfl ?_
  refine aw_iconst rfl rfl ?_
  refine aw_calc (c_addbg hb hC hI ⟨by omega, by omega⟩ ⟨by omega, by omega⟩ hB.2.2.2.2.2.1.1 hB.2.2.2.2.2.1.2) rfl rfl rfl (Nat.le_of_ble_eq_true rfl) (Or.inr ⟨_, rfl, (hC.f.tar hb).1⟩) rfl ?_
  rintro _ ρ ⟨rfl, h1, h2, h3, h4⟩
  have hB2 := hB.add hb h1 h2 h3 h4
  change aw _ _ _ _ 42 [some (.ref 40), some (.int (iI p)), some (.int (iI i))] [] _
  refine aw_iinc rfl rfl rfl rfl ?_
  change aw _ _ _ _ 45 [some (.ref 40), some (.int (iI p)), some (.int (iI (i + 1)))] [] _
  refine aw_goto rfl rfl ?_
  exact c_both_7 h1 hB2.2.2.1 ⟨by omega, by omega⟩ (hB2.out hF)
set_option maxRecDepth 10000 in
set_option maxHeartbeats 2000000 in
theorem c_both_l {d : Nat} {sz : Nat} {κ : Nat × (Nat → Int32) × Option Nat} {A : Nat → Int → Int} {g : Nat → Nat} {E : Int → Int} {T : Int} {b : Nat} (hb : b = 16 ∨ b = 22) (hI : MI sz A) {p : Int} (hp0 : 0 ≤ p) (hp1 : p ≤ 10) (hin : Co sz κ A g E T b 19 (d + 4) p (fun σ a => Qa σ a p) (fun σ a => FQ σ a 0 p (fun _ => True))) {σ : az_S} {a l : Int} (ha0 : 0 ≤ a) (hl0 : 0 ≤ l) (hla : l ≤ a) : ∀ (n : Nat) (τ : az_S) (i a' : Int) (nw : List (Int × Int)), (T - a').toNat = n → GS sz κ A g E T b σ τ a l a' nw → Qb 2 σ a p a' nw → (0 ≤ i ∧ i ≤ a' - a) → aw (d + 4) k_X2_both none (PP sz κ A g T b σ a l ((fun σ a a' n => Qb 2 σ a p a' n ∧ zx σ 11 a' ≠ 7) σ a) ((fun σ a => FQ σ a 0 p (Zb 2)) σ a)) 7 [some (.ref 40), some (.int (iI p)), some (.int (iI i))] [] τ := by
  intro n
  induction n using Nat.strongRecOn with
  | ind n ih =>
  intro τ i a' nw hn hG hQ hi
  have hG0 := hG
  obtain ⟨⟨hC, hTS, hrb, hok, ha', hl5, hl6⟩, hD, hX⟩ := hG0
  have hTb := hTS.2.1
  have et0 := hG.tok hb
  have kT := (hTS.2.2.2 a' ha'.1 ha'.2).2
  rw [et0.1] at kT
  have hkk : zx τ 40 3 = zx σ 11 a' := by rw [hok.2.1, et0.1]
  have hkl := zx_lo σ 11 a'
  have hkh := zx_hi σ 11 a'
  have hn5 := hX.2.2.2.2.1
  refine aw_iload_n rfl rfl rfl ?_
  refine aw_sipush rfl rfl rfl ?_
  refine aw_icmp (p' := 48) rfl ⟨by omega, by omega⟩ ⟨by omega, by omega⟩ rfl rfl (fun c1 => ?_) (fun c1 => ?_)
  · dsimp only [zc] at c1
    have hk0 := kT.mpr (by omega)
    exact aw_retv rfl (hG.out ⟨hQ, by omega⟩)
  · dsimp only [zc] at c1
    refine aw_aload_n rfl rfl rfl ?_
    refine aw_gk (v := zx σ 11 a') (3) rfl rfl (hC.f.k 40 rfl) rfl hkk rfl (fun _ _ => ?_)
    refine aw_bipush rfl rfl rfl ?_
    refine aw_icmp (p' := 48) rfl ⟨by omega, by omega⟩ ⟨by omega, by omega⟩ rfl rfl (fun c2 => ?_) (fun c2 => ?_)
    · dsimp only [zc] at c2
      exact aw_retv rfl (hG.out ⟨hQ, by omega⟩)
    · dsimp only [zc] at c2
      have hk : zx σ 11 a' = 7 := by omega
      have hlt : a' < T := by
        have : a' ≠ T := fun q => by have := kT.mpr q; omega
        omega
      refine aw_aload_n rfl rfl rfl ?_
      refine aw_calc (c_advance hC hI hTS hok ha'.1 hlt) rfl rfl rfl (Nat.le_of_ble_eq_true rfl) (Or.inr ⟨_, rfl, (hC.f.k 40 rfl)⟩) rfl ?_
      rintro _ τ1 ⟨rfl, hC1, hD1, hok1⟩
      have hG1 := hG.adv hb hC1 hD1 hok1 hlt
      change aw _ _ _ _ 27 [some (.ref 40), some (.int (iI p)), some (.int (iI i))] [] _
      refine aw_aload_n rfl rfl rfl ?_
      refine aw_iload_n rfl rfl rfl ?_
      refine aw_calc (hin τ1 (a' + 1) (l + nw.length) hG1.1) rfl rfl rfl (Nat.le_of_ble_eq_true rfl) (Or.inr ⟨_, rfl, (hC1.f.k 40 rfl)⟩) rfl ?_
      intro r τ2 hr
      obtain ⟨rfl, hC2, hD2, hcs⟩ := hG1.1.ret hr
      change aw _ _ _ _ 32 [some (.ref 40), some (.int (iI p)), some (.int (iI i))] [] _
      have et := hG1.tok hb
      rcases hcs with ⟨a2, n2, hX2, hQ2⟩ | ⟨x, f, hB, hF2⟩
      · have hG2 := hG1.call hb hC2 hD2 hX2
        have hl1 : ((nw ++ n2).length : Int) = nw.length + n2.length := by simp
        have hx3 := hX2.2.2.1
        have hx5 := hX2.2.2.2.2.1
        refine aw_aload_n rfl rfl rfl ?_
        refine aw_getr (b := b) rfl rfl (hC2.f.k 40 rfl) hG2.1.2.2.1 rfl ?_
        refine aw_bipush rfl rfl rfl ?_
        refine aw_iconst rfl rfl ?_
        refine aw_calc (c_addg hb hC2 hI ⟨by omega, by omega⟩ ⟨by omega, by omega⟩ hG2.1.2.2.2.2.2.1 (by omega) (by omega)) rfl rfl rfl (Nat.le_of_ble_eq_true rfl) (Or.inr ⟨_, rfl, (hC2.f.tar hb).1⟩) rfl ?_
        rintro _ τ3 ⟨rfl, h1, h2, h3, h4, h5, h6⟩
        have hG3 := hG2.add hb (o := 406) (v := 0) hla (by omega) h1 h2 h3 h4 h5 h6
        change aw _ _ _ _ 42 [some (.ref 40), some (.int (iI p)), some (.int (iI i))] [] _
        refine aw_iinc rfl rfl rfl rfl ?_
        change aw _ _ _ _ 45 [some (.ref 40), some (.int (iI p)), some (.int (iI (i + 1)))] [] _
        refine aw_goto rfl rfl ?_
        exact ih (T - a2).toNat (by omega) τ3 (i + 1) a2 _ rfl hG3 (B2_step hQ hk (hQ2.tk et.1 et.2.1 et.2.2)) ⟨by omega, by omega⟩
      · exact c_both_b hb hI (hG1.bs hB) hi.1 (by omega) (FB2_step hQ hk (hF2.tk et.1 et.2.1 et.2.2))
set_option maxRecDepth 10000 in
set_option maxHeartbeats 2000000 in
theorem c_both {d : Nat} {sz : Nat} {κ : Nat × (Nat → Int32) × Option Nat} {A : Nat → Int → Int} {g : Nat → Nat} {E : Int → Int} {T : Int} {b : Nat} (hb : b = 16 ∨ b = 22) (hI : MI sz A) {p : Int} (hp0 : 0 ≤ p) (hp1 : p ≤ 10) (hin : Co sz κ A g E T b 19 (d + 4) p (fun σ a => Qa σ a p) (fun σ a => FQ σ a 0 p (fun _ => True))) : Co sz κ A g E T b 18 (d + 5) p (fun σ a a' n => Qb 2 σ a p a' n ∧ zx σ 11 a' ≠ 7) (fun σ a => FQ σ a 0 p (Zb 2)) := by
  intro σ a l hP
  have hC := hP.1
  refine cal_of (M := (yX2_both, cX2_both, 3, none)) (cd := k_X2_both) (L := [some (.ref 40), some (.int (iI p)), none]) rfl (Nat.le_of_ble_eq_true rfl) rfl rfl ?_
  refine aw_aload_n rfl rfl rfl ?_
  refine aw_iload_n rfl rfl rfl ?_
  refine aw_calc (hin σ a l hP) rfl rfl rfl (Nat.le_of_ble_eq_true rfl) (Or.inr ⟨_, rfl, (hC.f.k 40 rfl)⟩) rfl ?_
  intro r τ hr
  obtain ⟨rfl, hC2, hD2, hcs⟩ := hP.ret hr
  change aw _ _ _ _ 5 [some (.ref 40), some (.int (iI p)), none] [] _
  refine aw_iconst rfl rfl ?_
  refine aw_istore_n rfl (Nat.le_of_ble_eq_true rfl) rfl rfl ?_
  change aw _ _ _ _ 7 [some (.ref 40), some (.int (iI p)), some (.int (iI 0))] [] _
  obtain ⟨_, _, _, _, ha, _, hl⟩ := id hP
  rcases hcs with ⟨a2, n2, hX2, hQ2⟩ | ⟨x, f, hB, hF2⟩
  · have h0 := GS.rf hP
    have hG2 := h0.call hb hC2 hD2 (n2 := n2) (by simpa using hX2)
    have hx3 := hX2.2.2.1
    exact c_both_l hb hI hp0 hp1 hin ha.1 hl.1 hl.2 _ τ 0 a2 _ rfl hG2 (Qb_1 hQ2) ⟨by omega, by omega⟩
  · exact c_both_7 hC2 hB.2.2.1 ⟨by omega, by omega⟩ (hB.out (fun c hc _ => hF2 c hc trivial))
set_option maxRecDepth 10000 in
theorem c_either_7 {d : Nat} {P : Option Value → az_S → Prop} {sz : Nat} {κ : Nat × (Nat → Int32) × Option Nat} {A : Nat → Int → Int} {g : Nat → Nat} {σ : az_S} (hC : CR sz κ A g σ) {x f p i : Int} (hq : BDp x f σ) (hi : inI i) (h : P none σ) : aw d k_X2_either none P 7 [some (.ref 40), some (.int (iI p)), some (.int (iI i))] [] σ := by
  obtain ⟨hi1, hi2⟩ := hi
  refine aw_iload_n rfl rfl rfl ?_
  refine aw_sipush rfl rfl rfl ?_
  refine aw_icmp (p' := 48) rfl ⟨by omega, by omega⟩ ⟨by omega, by omega⟩ rfl rfl (fun c => ?_) (fun c => ?_)
  · exact aw_retv rfl h
  · refine aw_aload_n rfl rfl rfl ?_
    refine aw_gk (v := 1) (3) rfl rfl (hC.f.k 40 rfl) rfl hq.2.1 rfl (fun _ _ => ?_)
    refine aw_bipush rfl rfl rfl ?_
    refine aw_icmp (p' := 48) rfl ⟨by omega, by omega⟩ ⟨by omega, by omega⟩ rfl rfl (fun c2 => ?_) (fun c2 => ?_)
    · exact aw_retv rfl h
    · dsimp only [zc] at c2
      omega
set_option maxRecDepth 10000 in
theorem c_either_b {d : Nat} {sz : Nat} {κ : Nat × (Nat → Int32) × Option Nat} {A : Nat → Int → Int} {g : Nat → Nat} {T : Int} {b : Nat} (hb : b = 16 ∨ b = 22) (hI : MI sz A) {Q : Int → List (Int × Int) → Prop} {F : Int → Int → Prop} {σ τ : az_S} {a l x f p i : Int} (hB : BS sz κ A g T b σ τ x f) (hi0 : 0 ≤ i) (hi1 : i < 1000) (hF : F x f) : aw (d + 1) k_X2_either none (PP sz κ A g T b σ a l Q F) 32 [some (.ref 40), some (.int (iI p)), some (.int (iI i))] [] τ := by
  have hC := hB.1
  refine aw_aload_n rfl rfl rfl ?_
  refine aw_getr (b := b) rfl rfl (hC.f.k 40 rfl) hB.2.2.2.2.2.2.2 rfl ?_
  refine aw_bipush rfl rfl rfl ?_
  refine aw_iconst rfl rfl ?_
  refine aw_calc (c_addbg hb hC hI ⟨by omega, by omega⟩ ⟨by omega, by omega⟩ hB.2.2.2.2.2.1.1 hB.2.2.2.2.2.1.2) rfl rfl rfl (Nat.le_of_ble_eq_true rfl) (Or.inr ⟨_, rfl, (hC.f.tar hb).1⟩) rfl ?_
  rintro _ ρ ⟨rfl, h1, h2, h3, h4⟩
  have hB2 := hB.add hb h1 h2 h3 h4
  change aw _ _ _ _ 42 [some (.ref 40), some (.int (iI p)), some (.int (iI i))] [] _
  refine aw_iinc rfl rfl rfl rfl ?_
  change aw _ _ _ _ 45 [some (.ref 40), some (.int (iI p)), some (.int (iI (i + 1)))] [] _
  refine aw_goto rfl rfl ?_
  exact c_either_7 h1 hB2.2.2.1 ⟨by omega, by omega⟩ (hB2.out hF)
set_option maxRecDepth 10000 in
set_option maxHeartbeats 2000000 in
theorem c_either_l {d : Nat} {sz : Nat} {κ : Nat × (Nat → Int32) × Option Nat} {A : Nat → Int → Int} {g : Nat → Nat} {E : Int → Int} {T : Int} {b : Nat} (hb : b = 16 ∨ b = 22) (hI : MI sz A) {p : Int} (hp0 : 0 ≤ p) (hp1 : p ≤ 10) (hin : Co sz κ A g E T b 18 (d + 4) p (fun σ a a' n => Qb 2 σ a p a' n ∧ zx σ 11 a' ≠ 7) (fun σ a => FQ σ a 0 p (Zb 2))) {σ : az_S} {a l : Int} (ha0 : 0 ≤ a) (hl0 : 0 ≤ l) (hla : l ≤ a) : ∀ (n : Nat) (τ : az_S) (i a' : Int) (nw : List (Int × Int)), (T - a').toNat = n → GS sz κ A g E T b σ τ a l a' nw → Qb 1 σ a p a' nw ∧ zx σ 11 a' ≠ 7 → (0 ≤ i ∧ i ≤ a' - a) → aw (d + 4) k_X2_either none (PP sz κ A g T b σ a l ((fun σ a a' n => Qb 1 σ a p a' n ∧ zx σ 11 a' ≠ 6 ∧ zx σ 11 a' ≠ 7) σ a) ((fun σ a => FQ σ a 0 p (Zb 1)) σ a)) 7 [some (.ref 40), some (.int (iI p)), some (.int (iI i))] [] τ := by
  intro n
  induction n using Nat.strongRecOn with
  | ind n ih =>
  intro τ i a' nw hn hG hQ hi
  have hG0 := hG
  obtain ⟨⟨hC, hTS, hrb, hok, ha', hl5, hl6⟩, hD, hX⟩ := hG0
  have hTb := hTS.2.1
  have et0 := hG.tok hb
  have kT := (hTS.2.2.2 a' ha'.1 ha'.2).2
  rw [et0.1] at kT
  have hkk : zx τ 40 3 = zx σ 11 a' := by rw [hok.2.1, et0.1]
  have hkl := zx_lo σ 11 a'
  have hkh := zx_hi σ 11 a'
  have hn5 := hX.2.2.2.2.1
  refine aw_iload_n rfl rfl rfl ?_
  refine aw_sipush rfl rfl rfl ?_
  refine aw_icmp (p' := 48) rfl ⟨by omega, by omega⟩ ⟨by omega, by omega⟩ rfl rfl (fun c1 => ?_) (fun c1 => ?_)
  · dsimp only [zc] at c1
    have hk0 := kT.mpr (by omega)
    exact aw_retv rfl (hG.out ⟨hQ.1, by omega, hQ.2⟩)
  · dsimp only [zc] at c1
    refine aw_aload_n rfl rfl rfl ?_
    refine aw_gk (v := zx σ 11 a') (3) rfl rfl (hC.f.k 40 rfl) rfl hkk rfl (fun _ _ => ?_)
    refine aw_bipush rfl rfl rfl ?_
    refine aw_icmp (p' := 48) rfl ⟨by omega, by omega⟩ ⟨by omega, by omega⟩ rfl rfl (fun c2 => ?_) (fun c2 => ?_)
    · dsimp only [zc] at c2
      exact aw_retv rfl (hG.out ⟨hQ.1, by omega, hQ.2⟩)
    · dsimp only [zc] at c2
      have hk : zx σ 11 a' = 6 := by omega
      have hlt : a' < T := by
        have : a' ≠ T := fun q => by have := kT.mpr q; omega
        omega
      refine aw_aload_n rfl rfl rfl ?_
      refine aw_calc (c_advance hC hI hTS hok ha'.1 hlt) rfl rfl rfl (Nat.le_of_ble_eq_true rfl) (Or.inr ⟨_, rfl, (hC.f.k 40 rfl)⟩) rfl ?_
      rintro _ τ1 ⟨rfl, hC1, hD1, hok1⟩
      have hG1 := hG.adv hb hC1 hD1 hok1 hlt
      change aw _ _ _ _ 27 [some (.ref 40), some (.int (iI p)), some (.int (iI i))] [] _
      refine aw_aload_n rfl rfl rfl ?_
      refine aw_iload_n rfl rfl rfl ?_
      refine aw_calc (hin τ1 (a' + 1) (l + nw.length) hG1.1) rfl rfl rfl (Nat.le_of_ble_eq_true rfl) (Or.inr ⟨_, rfl, (hC1.f.k 40 rfl)⟩) rfl ?_
      intro r τ2 hr
      obtain ⟨rfl, hC2, hD2, hcs⟩ := hG1.1.ret hr
      change aw _ _ _ _ 32 [some (.ref 40), some (.int (iI p)), some (.int (iI i))] [] _
      have et := hG1.tok hb
      rcases hcs with ⟨a2, n2, hX2, hQ2⟩ | ⟨x, f, hB, hF2⟩
      · have hG2 := hG1.call hb hC2 hD2 hX2
        have hl1 : ((nw ++ n2).length : Int) = nw.length + n2.length := by simp
        have hx3 := hX2.2.2.1
        have hx5 := hX2.2.2.2.2.1
        refine aw_aload_n rfl rfl rfl ?_
        refine aw_getr (b := b) rfl rfl (hC2.f.k 40 rfl) hG2.1.2.2.1 rfl ?_
        refine aw_bipush rfl rfl rfl ?_
        refine aw_iconst rfl rfl ?_
        refine aw_calc (c_addg hb hC2 hI ⟨by omega, by omega⟩ ⟨by omega, by omega⟩ hG2.1.2.2.2.2.2.1 (by omega) (by omega)) rfl rfl rfl (Nat.le_of_ble_eq_true rfl) (Or.inr ⟨_, rfl, (hC2.f.tar hb).1⟩) rfl ?_
        rintro _ τ3 ⟨rfl, h1, h2, h3, h4, h5, h6⟩
        have hG3 := hG2.add hb (o := 407) (v := 0) hla (by omega) h1 h2 h3 h4 h5 h6
        change aw _ _ _ _ 42 [some (.ref 40), some (.int (iI p)), some (.int (iI i))] [] _
        refine aw_iinc rfl rfl rfl rfl ?_
        change aw _ _ _ _ 45 [some (.ref 40), some (.int (iI p)), some (.int (iI (i + 1)))] [] _
        refine aw_goto rfl rfl ?_
        exact ih (T - a2).toNat (by omega) τ3 (i + 1) a2 _ rfl hG3 (⟨B1_step hQ.1 hk (hQ2.1.tk et.1 et.2.1 et.2.2), by rw [← et.1]; exact hQ2.2⟩) ⟨by omega, by omega⟩
      · exact c_either_b hb hI (hG1.bs hB) hi.1 (by omega) (FB1_step hQ.1 hk (hF2.tk et.1 et.2.1 et.2.2))
set_option maxRecDepth 10000 in
set_option maxHeartbeats 2000000 in
theorem c_either {d : Nat} {sz : Nat} {κ : Nat × (Nat → Int32) × Option Nat} {A : Nat → Int → Int} {g : Nat → Nat} {E : Int → Int} {T : Int} {b : Nat} (hb : b = 16 ∨ b = 22) (hI : MI sz A) {p : Int} (hp0 : 0 ≤ p) (hp1 : p ≤ 10) (hin : Co sz κ A g E T b 18 (d + 4) p (fun σ a a' n => Qb 2 σ a p a' n ∧ zx σ 11 a' ≠ 7) (fun σ a => FQ σ a 0 p (Zb 2))) : Co sz κ A g E T b 17 (d + 5) p (fun σ a a' n => Qb 1 σ a p a' n ∧ zx σ 11 a' ≠ 6 ∧ zx σ 11 a' ≠ 7) (fun σ a => FQ σ a 0 p (Zb 1)) := by
  intro σ a l hP
  have hC := hP.1
  refine cal_of (M := (yX2_either, cX2_either, 3, none)) (cd := k_X2_either) (L := [some (.ref 40), some (.int (iI p)), none]) rfl (Nat.le_of_ble_eq_true rfl) rfl rfl ?_
  refine aw_aload_n rfl rfl rfl ?_
  refine aw_iload_n rfl rfl rfl ?_
  refine aw_calc (hin σ a l hP) rfl rfl rfl (Nat.le_of_ble_eq_true rfl) (Or.inr ⟨_, rfl, (hC.f.k 40 rfl)⟩) rfl ?_
  intro r τ hr
  obtain ⟨rfl, hC2, hD2, hcs⟩ := hP.ret hr
  change aw _ _ _ _ 5 [some (.ref 40), some (.int (iI p)), none] [] _
  refine aw_iconst rfl rfl ?_
  refine aw_istore_n rfl (Nat.le_of_ble_eq_true rfl) rfl rfl ?_
  change aw _ _ _ _ 7 [some (.ref 40), some (.int (iI p)), some (.int (iI 0))] [] _
  obtain ⟨_, _, _, _, ha, _, hl⟩ := id hP
  rcases hcs with ⟨a2, n2, hX2, hQ2⟩ | ⟨x, f, hB, hF2⟩
  · have h0 := GS.rf hP
    have hG2 := h0.call hb hC2 hD2 (n2 := n2) (by simpa using hX2)
    have hx3 := hX2.2.2.1
    exact c_either_l hb hI hp0 hp1 hin ha.1 hl.1 hl.2 _ τ 0 a2 _ rfl hG2 (⟨Qb_2 hQ2.1, hQ2.2⟩) ⟨by omega, by omega⟩
  · exact c_either_7 hC2 hB.2.2.1 ⟨by omega, by omega⟩ (hB.out (fun c hc hz => hF2 c hc (Zb_12 hz)))
theorem c_ae {d : Nat} {sz : Nat} {κ : Nat × (Nat → Int32) × Option Nat} {A : Nat → Int → Int} {g : Nat → Nat} {E : Int → Int} {T : Int} {b : Nat} (hb : b = 16 ∨ b = 22) (hI : MI sz A) {p : Int} (hp0 : 0 ≤ p) (hp1 : p ≤ 10) (h : Co sz κ A g E T b 19 (d + 8) p (fun σ a => Qa σ a p) (fun σ a => FQ σ a 0 p (fun _ => True))) : Co sz κ A g E T b 17 (d + 10) p (fun σ a a' n => Qb 1 σ a p a' n ∧ zx σ 11 a' ≠ 6 ∧ zx σ 11 a' ≠ 7) (fun σ a => FQ σ a 0 p (Zb 1)) := c_either (d := d + 5) hb hI hp0 hp1 (c_both (d := d + 4) hb hI hp0 hp1 h)
theorem c_nest2 {d : Nat} {sz : Nat} {κ : Nat × (Nat → Int32) × Option Nat} {A : Nat → Int → Int} {g : Nat → Nat} {E : Int → Int} {T : Int} {b : Nat} (hb : b = 16 ∨ b = 22) (hI : MI sz A) : ∀ (k : Nat) (p : Int), 10 - p = k → 0 ≤ p → Co sz κ A g E T b 19 (d + 3 * k + 8) p (fun σ a => Qa σ a p) (fun σ a => FQ σ a 0 p (fun _ => True)) := by
  intro k
  induction k with
  | zero =>
    intro p hk hp
    exact c_ask_w (d := d + 3) hb hI hp (by omega) (c_sum_p (d := d) hb hI (k := 0) hk hp) (fun q => absurd q (by omega)) (fun q => absurd q (by omega))
  | succ k ih =>
    intro p hk hp
    have h1 := ih (p + 1) (by omega) (by omega)
    have h2 := c_ae hb hI (by omega) (by omega) h1
    have h4 : Co sz κ A g E T b 20 (d + 3 * (k + 1) + 7) p (fun σ a a' n => Qr 3 σ a p a' n ∧ zx σ 11 a' ≠ 17 ∧ zx σ 11 a' ≠ 18 ∧ zx σ 11 a' ≠ 19 ∧ zx σ 11 a' ≠ 20) (fun σ a => FQ σ a 1 p (Zr 3)) := c_sum_p (d := d) hb hI (k := k + 1) hk hp
    have h3 : Co sz κ A g E T b 19 (d + 3 * k + 6 + 5) p (fun σ a => Qa σ a p) (fun σ a => FQ σ a 0 p (fun _ => True)) := c_ask_w (d := d + 3 * k + 6) hb hI hp (by omega) (h4.mono (by omega)) (fun _ => h1.mono (by omega)) (fun _ => h2)
    exact h3.mono (by omega)
theorem c_either_0 {sz : Nat} {κ : Nat × (Nat → Int32) × Option Nat} {A : Nat → Int → Int} {g : Nat → Nat} {E : Int → Int} {T : Int} {b : Nat} (hb : b = 16 ∨ b = 22) (hI : MI sz A) : Co sz κ A g E T b 17 40 0 (fun σ a a' n => Qb 1 σ a 0 a' n ∧ zx σ 11 a' ≠ 6 ∧ zx σ 11 a' ≠ 7) (fun σ a => FQ σ a 0 0 (Zb 1)) := c_ae (d := 30) hb hI (by omega) (by omega) (c_nest2 (d := 0) hb hI 10 0 (by omega) (by omega))
theorem c_sum_0 {sz : Nat} {κ : Nat × (Nat → Int32) × Option Nat} {A : Nat → Int → Int} {g : Nat → Nat} {E : Int → Int} {T : Int} {b : Nat} (hb : b = 16 ∨ b = 22) (hI : MI sz A) : Co sz κ A g E T b 20 40 0 (fun σ a a' n => Qr 3 σ a 0 a' n ∧ zx σ 11 a' ≠ 17 ∧ zx σ 11 a' ≠ 18 ∧ zx σ 11 a' ≠ 19 ∧ zx σ 11 a' ≠ 20) (fun σ a => FQ σ a 1 0 (Zr 3)) := (c_sum_p (d := 0) hb hI (k := 10) (by omega) (by omega)).mono (by omega)
