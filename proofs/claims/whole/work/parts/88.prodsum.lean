set_option maxRecDepth 10000 in
theorem c_prod_b {d : Nat} {sz : Nat} {κ : Nat × (Nat → Int32) × Option Nat} {A : Nat → Int → Int} {g : Nat → Nat} {T : Int} {b : Nat} (hb : b = 16 ∨ b = 22) (hI : MI sz A) {Q : Int → List (Int × Int) → Prop} {F : Int → Int → Prop} {σ τ : az_S} {a l x f p i o : Int} (hB : BS sz κ A g T b σ τ x f) (hi0 : 0 ≤ i) (hi1 : i < 1000) (ho : inI o) (hF : F x f) : aw (d + 1) k_X2_product none (PP sz κ A g T b σ a l Q F) 46 [some (.ref 40), some (.int (iI p)), some (.int (iI i)), some (.int (iI o))] [] τ := by
  have hC := hB.1
  refine aw_aload_n rfl rfl rfl ?_
  refine aw_getr (b := b) rfl rfl (hC.f.k 40 rfl) hB.2.2.2.2.2.2.2 rfl ?_
  refine aw_iload_n rfl rfl rfl ?_
  refine aw_iconst rfl rfl ?_
  refine aw_calc (c_addbg hb hC hI ho ⟨by omega, by omega⟩ hB.2.2.2.2.2.1.1 hB.2.2.2.2.2.1.2) rfl rfl rfl (Nat.le_of_ble_eq_true rfl) (Or.inr ⟨_, rfl, (hC.f.tar hb).1⟩) rfl ?_
  rintro _ ρ ⟨rfl, h1, h2, h3, h4⟩
  have hB2 := hB.add hb h1 h2 h3 h4
  change aw _ _ _ _ 55 [some (.ref 40), some (.int (iI p)), some (.int (iI i)), some (.int (iI o))] [] _
  refine aw_iinc rfl rfl rfl rfl ?_
  change aw _ _ _ _ 58 [some (.ref 40), some (.int (iI p)), some (.int (iI (i + 1))), some (.int (iI o))] [] _
  refine aw_goto rfl rfl ?_
  exact pb7 h1 hB2.2.2.1 ⟨by omega, by omega⟩ (hB2.out hF)
set_option maxRecDepth 10000 in
set_option maxHeartbeats 2000000 in
theorem c_prod_l {d : Nat} {sz : Nat} {κ : Nat × (Nat → Int32) × Option Nat} {A : Nat → Int → Int} {g : Nat → Nat} {E : Int → Int} {T : Int} {b : Nat} (hb : b = 16 ∨ b = 22) (hI : MI sz A) {p : Int} (hp0 : 0 ≤ p) (hp1 : p ≤ 10) (hin : Co sz κ A g E T b 22 (d + 3) p (fun σ a => Q1 σ a p) (fun σ a => FQ σ a 1 p (fun _ => True))) {σ : az_S} {a l : Int} (ha0 : 0 ≤ a) (hl0 : 0 ≤ l) (hla : l ≤ a) : ∀ (n : Nat) (τ : az_S) (i a' : Int) (nw : List (Int × Int)) (w : Option Value), (T - a').toNat = n → GS sz κ A g E T b σ τ a l a' nw → Qr 4 σ a p a' nw → (0 ≤ i ∧ i ≤ a' - a) → aw (d + 3) k_X2_product none (PP sz κ A g T b σ a l ((fun σ a a' n => Qr 4 σ a p a' n ∧ zx σ 11 a' ≠ 19 ∧ zx σ 11 a' ≠ 20) σ a) ((fun σ a => FQ σ a 1 p (Zr 4)) σ a)) 7 [some (.ref 40), some (.int (iI p)), some (.int (iI i)), w] [] τ := by
  intro n
  induction n using Nat.strongRecOn with
  | ind n ih =>
  intro τ i a' nw w hn hG hQ hi
  have hG0 := hG
  obtain ⟨⟨hC, hTS, hrb, hok, ha', hl5, hl6⟩, hD, hX⟩ := hG0
  have hTb := hTS.2.1
  have et0 := hG.tok hb
  have kT := (hTS.2.2.2 a' ha'.1 ha'.2).2
  rw [et0.1] at kT
  have hkk : zx τ 40 3 = zx σ 11 a' := by rw [hok.2.1, et0.1]
  have hkl := zx_lo σ 11 a'
  have hkh := zx_hi σ 11 a'
  have hn5 := hX.2.2.2.2.1
  have hJ : (zx σ 11 a' = 19 ∨ zx σ 11 a' = 20) → aw (d + 3) k_X2_product none (PP sz κ A g T b σ a l ((fun σ a a' n => Qr 4 σ a p a' n ∧ zx σ 11 a' ≠ 19 ∧ zx σ 11 a' ≠ 20) σ a) ((fun σ a => FQ σ a 1 p (Zr 4)) σ a)) 32 [some (.ref 40), some (.int (iI p)), some (.int (iI i)), w] [] τ := by
    intro hk
    have hlt : a' < T := by
      have : a' ≠ T := fun q => by have := kT.mpr q; omega
      omega
    refine aw_aload_n rfl rfl rfl ?_
    refine aw_gk (v := zx σ 11 a') (3) rfl rfl (hC.f.k 40 rfl) rfl hkk rfl (fun _ _ => ?_)
    refine aw_istore_n rfl (Nat.le_of_ble_eq_true rfl) rfl rfl ?_
    change aw _ _ _ _ 37 [some (.ref 40), some (.int (iI p)), some (.int (iI i)), some (.int (iI (zx σ 11 a')))] _ _
    refine aw_aload_n rfl rfl rfl ?_
    refine aw_calc (c_advance hC hI hTS hok ha'.1 hlt) rfl rfl rfl (Nat.le_of_ble_eq_true rfl) (Or.inr ⟨_, rfl, (hC.f.k 40 rfl)⟩) rfl ?_
    rintro _ τ1 ⟨rfl, hC1, hD1, hok1⟩
    have hG1 := hG.adv hb hC1 hD1 hok1 hlt
    change aw _ _ _ _ 41 [some (.ref 40), some (.int (iI p)), some (.int (iI i)), some (.int (iI (zx σ 11 a')))] [] _
    refine aw_aload_n rfl rfl rfl ?_
    refine aw_iload_n rfl rfl rfl ?_
    refine aw_calc (hin τ1 (a' + 1) (l + nw.length) hG1.1) rfl rfl rfl (Nat.le_of_ble_eq_true rfl) (Or.inr ⟨_, rfl, (hC1.f.k 40 rfl)⟩) rfl ?_
    intro r τ2 hr
    obtain ⟨rfl, hC2, hD2, hcs⟩ := hG1.1.ret hr
    change aw _ _ _ _ 46 [some (.ref 40), some (.int (iI p)), some (.int (iI i)), some (.int (iI (zx σ 11 a')))] [] _
    have et := hG1.tok hb
    rcases hcs with ⟨a2, n2, hX2, hQ2⟩ | ⟨x, f, hB, hF2⟩
    · have hG2 := hG1.call hb hC2 hD2 hX2
      obtain ⟨⟨_, _, hrb2, _, ha2, hl52, hl62⟩, _, hX3⟩ := hG2
      have hG2 := hG1.call hb hC2 hD2 hX2
      have hl1 : ((nw ++ n2).length : Int) = nw.length + n2.length := by simp
      have hx3 := hX2.2.2.1
      have hx5 := hX2.2.2.2.2.1
      refine aw_aload_n rfl rfl rfl ?_
      refine aw_getr (b := b) rfl rfl (hC2.f.k 40 rfl) hrb2 rfl ?_
      refine aw_iload_n rfl rfl rfl ?_
      refine aw_iconst rfl rfl ?_
      refine aw_calc (c_addg hb hC2 hI ⟨by omega, by omega⟩ ⟨by omega, by omega⟩ hl52 (by omega) (by omega)) rfl rfl rfl (Nat.le_of_ble_eq_true rfl) (Or.inr ⟨_, rfl, (hC2.f.tar hb).1⟩) rfl ?_
      rintro _ τ3 ⟨rfl, h1, h2, h3, h4, h5, h6⟩
      have ho : zx σ 11 a' = trO (sgn (zx σ 11 a')) := by rcases hk with q | q <;> rw [q] <;> rfl
      have hG3 := hG2.add hb (o := sgn (zx σ 11 a')) (v := 0) hla (by omega) h1 h2 h3 h4 (by rw [← ho]; exact h5) h6
      change aw _ _ _ _ 55 [some (.ref 40), some (.int (iI p)), some (.int (iI i)), some (.int (iI (zx σ 11 a')))] [] _
      refine aw_iinc rfl rfl rfl rfl ?_
      change aw _ _ _ _ 58 [some (.ref 40), some (.int (iI p)), some (.int (iI (i + 1))), some (.int (iI (zx σ 11 a')))] [] _
      refine aw_goto rfl rfl ?_
      exact ih (T - a2).toNat (by omega) τ3 (i + 1) a2 _ _ rfl hG3 (Q4_step hQ hk rfl et.1 et.2.1 et.2.2 hQ2) ⟨by omega, by omega⟩
    · exact c_prod_b hb hI (hG1.bs hB) hi.1 (by omega) ⟨by omega, by omega⟩ (F4_step hQ hk rfl et.1 et.2.1 et.2.2 hF2)
  refine aw_iload_n rfl rfl rfl ?_
  refine aw_sipush rfl rfl rfl ?_
  refine aw_icmp (p' := 61) rfl ⟨by omega, by omega⟩ ⟨by omega, by omega⟩ rfl rfl (fun c1 => ?_) (fun c1 => ?_)
  · dsimp only [zc] at c1
    have hk0 := kT.mpr (by omega)
    exact aw_retv rfl (hG.out ⟨hQ, by omega, by omega⟩)
  · dsimp only [zc] at c1
    refine aw_aload_n rfl rfl rfl ?_
    refine aw_gk (v := zx σ 11 a') (3) rfl rfl (hC.f.k 40 rfl) rfl hkk rfl (fun _ _ => ?_)
    refine aw_bipush rfl rfl rfl ?_
    refine aw_icmp (p' := 32) rfl ⟨by omega, by omega⟩ ⟨by omega, by omega⟩ rfl rfl (fun c2 => ?_) (fun c2 => ?_)
    · dsimp only [zc] at c2
      exact hJ (Or.inl c2)
    · dsimp only [zc] at c2
      refine aw_aload_n rfl rfl rfl ?_
      refine aw_gk (v := zx σ 11 a') (3) rfl rfl (hC.f.k 40 rfl) rfl hkk rfl (fun _ _ => ?_)
      refine aw_bipush rfl rfl rfl ?_
      refine aw_icmp (p' := 61) rfl ⟨by omega, by omega⟩ ⟨by omega, by omega⟩ rfl rfl (fun c3 => ?_) (fun c3 => ?_)
      · dsimp only [zc] at c3
        exact aw_retv rfl (hG.out ⟨hQ, by omega, by omega⟩)
      · dsimp only [zc] at c3
        exact hJ (Or.inr (by omega))
set_option maxRecDepth 10000 in
set_option maxHeartbeats 2000000 in
theorem c_prod {d : Nat} {sz : Nat} {κ : Nat × (Nat → Int32) × Option Nat} {A : Nat → Int → Int} {g : Nat → Nat} {E : Int → Int} {T : Int} {b : Nat} (hb : b = 16 ∨ b = 22) (hI : MI sz A) {p : Int} (hp0 : 0 ≤ p) (hp1 : p ≤ 10) (hin : Co sz κ A g E T b 22 (d + 3) p (fun σ a => Q1 σ a p) (fun σ a => FQ σ a 1 p (fun _ => True))) : Co sz κ A g E T b 21 (d + 4) p (fun σ a a' n => Qr 4 σ a p a' n ∧ zx σ 11 a' ≠ 19 ∧ zx σ 11 a' ≠ 20) (fun σ a => FQ σ a 1 p (Zr 4)) := by
  intro σ a l hP
  have hC := hP.1
  refine cal_of (M := (yX2_product, cX2_product, 4, none)) (cd := k_X2_product) (L := [some (.ref 40), some (.int (iI p)), none, none]) rfl (Nat.le_of_ble_eq_true rfl) rfl rfl ?_
  refine aw_aload_n rfl rfl rfl ?_
  refine aw_iload_n rfl rfl rfl ?_
  refine aw_calc (hin σ a l hP) rfl rfl rfl (Nat.le_of_ble_eq_true rfl) (Or.inr ⟨_, rfl, (hC.f.k 40 rfl)⟩) rfl ?_
  intro r τ hr
  obtain ⟨rfl, hC2, hD2, hcs⟩ := hP.ret hr
  change aw _ _ _ _ 5 [some (.ref 40), some (.int (iI p)), none, none] [] _
  refine aw_iconst rfl rfl ?_
  refine aw_istore_n rfl (Nat.le_of_ble_eq_true rfl) rfl rfl ?_
  change aw _ _ _ _ 7 [some (.ref 40), some (.int (iI p)), some (.int (iI 0)), none] [] _
  obtain ⟨_, _, _, _, ha, _, hl⟩ := id hP
  rcases hcs with ⟨a2, n2, hX2, hQ2⟩ | ⟨x, f, hB, hF2⟩
  · have h0 := GS.rf hP
    have hG2 := h0.call hb hC2 hD2 (n2 := n2) (by simpa using hX2)
    have hx3 := hX2.2.2.1
    exact c_prod_l hb hI hp0 hp1 hin ha.1 hl.1 hl.2 _ τ 0 a2 _ none rfl hG2 (Qr_1 hQ2) ⟨by omega, by omega⟩
  · exact pb7 hC2 hB.2.2.1 ⟨by omega, by omega⟩ (hB.out (fun c hc _ => hF2 c hc trivial))
set_option maxRecDepth 10000 in
theorem c_sum_b {d : Nat} {sz : Nat} {κ : Nat × (Nat → Int32) × Option Nat} {A : Nat → Int → Int} {g : Nat → Nat} {T : Int} {b : Nat} (hb : b = 16 ∨ b = 22) (hI : MI sz A) {Q : Int → List (Int × Int) → Prop} {F : Int → Int → Prop} {σ τ : az_S} {a l x f p i o : Int} (hB : BS sz κ A g T b σ τ x f) (hi0 : 0 ≤ i) (hi1 : i < 1000) (ho : inI o) (hF : F x f) : aw (d + 1) k_X2_sum none (PP sz κ A g T b σ a l Q F) 46 [some (.ref 40), some (.int (iI p)), some (.int (iI i)), some (.int (iI o))] [] τ := by
  have hC := hB.1
  refine aw_aload_n rfl rfl rfl ?_
  refine aw_getr (b := b) rfl rfl (hC.f.k 40 rfl) hB.2.2.2.2.2.2.2 rfl ?_
  refine aw_iload_n rfl rfl rfl ?_
  refine aw_iconst rfl rfl ?_
  refine aw_calc (c_addbg hb hC hI ho ⟨by omega, by omega⟩ hB.2.2.2.2.2.1.1 hB.2.2.2.2.2.1.2) rfl rfl rfl (Nat.le_of_ble_eq_true rfl) (Or.inr ⟨_, rfl, (hC.f.tar hb).1⟩) rfl ?_
  rintro _ ρ ⟨rfl, h1, h2, h3, h4⟩
  have hB2 := hB.add hb h1 h2 h3 h4
  change aw _ _ _ _ 55 [some (.ref 40), some (.int (iI p)), some (.int (iI i)), some (.int (iI o))] [] _
  refine aw_iinc rfl rfl rfl rfl ?_
  change aw _ _ _ _ 58 [some (.ref 40), some (.int (iI p)), some (.int (iI (i + 1))), some (.int (iI o))] [] _
  refine aw_goto rfl rfl ?_
  exact sb7 h1 hB2.2.2.1 ⟨by omega, by omega⟩ (hB2.out hF)
set_option maxRecDepth 10000 in
set_option maxHeartbeats 2000000 in
theorem c_sum_l {d : Nat} {sz : Nat} {κ : Nat × (Nat → Int32) × Option Nat} {A : Nat → Int → Int} {g : Nat → Nat} {E : Int → Int} {T : Int} {b : Nat} (hb : b = 16 ∨ b = 22) (hI : MI sz A) {p : Int} (hp0 : 0 ≤ p) (hp1 : p ≤ 10) (hin : Co sz κ A g E T b 21 (d + 4) p (fun σ a a' n => Qr 4 σ a p a' n ∧ zx σ 11 a' ≠ 19 ∧ zx σ 11 a' ≠ 20) (fun σ a => FQ σ a 1 p (Zr 4))) {σ : az_S} {a l : Int} (ha0 : 0 ≤ a) (hl0 : 0 ≤ l) (hla : l ≤ a) : ∀ (n : Nat) (τ : az_S) (i a' : Int) (nw : List (Int × Int)) (w : Option Value), (T - a').toNat = n → GS sz κ A g E T b σ τ a l a' nw → Qr 3 σ a p a' nw ∧ zx σ 11 a' ≠ 19 ∧ zx σ 11 a' ≠ 20 → (0 ≤ i ∧ i ≤ a' - a) → aw (d + 4) k_X2_sum none (PP sz κ A g T b σ a l ((fun σ a a' n => Qr 3 σ a p a' n ∧ zx σ 11 a' ≠ 17 ∧ zx σ 11 a' ≠ 18 ∧ zx σ 11 a' ≠ 19 ∧ zx σ 11 a' ≠ 20) σ a) ((fun σ a => FQ σ a 1 p (Zr 3)) σ a)) 7 [some (.ref 40), some (.int (iI p)), some (.int (iI i)), w] [] τ := by
  intro n
  induction n using Nat.strongRecOn with
  | ind n ih =>
  intro τ i a' nw w hn hG hQ hi
  have hG0 := hG
  obtain ⟨⟨hC, hTS, hrb, hok, ha', hl5, hl6⟩, hD, hX⟩ := hG0
  have hTb := hTS.2.1
  have et0 := hG.tok hb
  have kT := (hTS.2.2.2 a' ha'.1 ha'.2).2
  rw [et0.1] at kT
  have hkk : zx τ 40 3 = zx σ 11 a' := by rw [hok.2.1, et0.1]
  have hkl := zx_lo σ 11 a'
  have hkh := zx_hi σ 11 a'
  have hn5 := hX.2.2.2.2.1
  have hJ : (zx σ 11 a' = 17 ∨ zx σ 11 a' = 18) → aw (d + 4) k_X2_sum none (PP sz κ A g T b σ a l ((fun σ a a' n => Qr 3 σ a p a' n ∧ zx σ 11 a' ≠ 17 ∧ zx σ 11 a' ≠ 18 ∧ zx σ 11 a' ≠ 19 ∧ zx σ 11 a' ≠ 20) σ a) ((fun σ a => FQ σ a 1 p (Zr 3)) σ a)) 32 [some (.ref 40), some (.int (iI p)), some (.int (iI i)), w] [] τ := by
    intro hk
    have hlt : a' < T := by
      have : a' ≠ T := fun q => by have := kT.mpr q; omega
      omega
    refine aw_aload_n rfl rfl rfl ?_
    refine aw_gk (v := zx σ 11 a') (3) rfl rfl (hC.f.k 40 rfl) rfl hkk rfl (fun _ _ => ?_)
    refine aw_istore_n rfl (Nat.le_of_ble_eq_true rfl) rfl rfl ?_
    change aw _ _ _ _ 37 [some (.ref 40), some (.int (iI p)), some (.int (iI i)), some (.int (iI (zx σ 11 a')))] _ _
    refine aw_aload_n rfl rfl rfl ?_
    refine aw_calc (c_advance hC hI hTS hok ha'.1 hlt) rfl rfl rfl (Nat.le_of_ble_eq_true rfl) (Or.inr ⟨_, rfl, (hC.f.k 40 rfl)⟩) rfl ?_
    rintro _ τ1 ⟨rfl, hC1, hD1, hok1⟩
    have hG1 := hG.adv hb hC1 hD1 hok1 hlt
    change aw _ _ _ _ 41 [some (.ref 40), some (.int (iI p)), some (.int (iI i)), some (.int (iI (zx σ 11 a')))] [] _
    refine aw_aload_n rfl rfl rfl ?_
    refine aw_iload_n rfl rfl rfl ?_
    refine aw_calc (hin τ1 (a' + 1) (l + nw.length) hG1.1) rfl rfl rfl (Nat.le_of_ble_eq_true rfl) (Or.inr ⟨_, rfl, (hC1.f.k 40 rfl)⟩) rfl ?_
    intro r τ2 hr
    obtain ⟨rfl, hC2, hD2, hcs⟩ := hG1.1.ret hr
    change aw _ _ _ _ 46 [some (.ref 40), some (.int (iI p)), some (.int (iI i)), some (.int (iI (zx σ 11 a')))] [] _
    have et := hG1.tok hb
    rcases hcs with ⟨a2, n2, hX2, hQ2⟩ | ⟨x, f, hB, hF2⟩
    · have hG2 := hG1.call hb hC2 hD2 hX2
      obtain ⟨⟨_, _, hrb2, _, ha2, hl52, hl62⟩, _, hX3⟩ := hG2
      have hG2 := hG1.call hb hC2 hD2 hX2
      have hl1 : ((nw ++ n2).length : Int) = nw.length + n2.length := by simp
      have hx3 := hX2.2.2.1
      have hx5 := hX2.2.2.2.2.1
      refine aw_aload_n rfl rfl rfl ?_
      refine aw_getr (b := b) rfl rfl (hC2.f.k 40 rfl) hrb2 rfl ?_
      refine aw_iload_n rfl rfl rfl ?_
      refine aw_iconst rfl rfl ?_
      refine aw_calc (c_addg hb hC2 hI ⟨by omega, by omega⟩ ⟨by omega, by omega⟩ hl52 (by omega) (by omega)) rfl rfl rfl (Nat.le_of_ble_eq_true rfl) (Or.inr ⟨_, rfl, (hC2.f.tar hb).1⟩) rfl ?_
      rintro _ τ3 ⟨rfl, h1, h2, h3, h4, h5, h6⟩
      have ho : zx σ 11 a' = trO (sgn (zx σ 11 a')) := by rcases hk with q | q <;> rw [q] <;> rfl
      have hG3 := hG2.add hb (o := sgn (zx σ 11 a')) (v := 0) hla (by omega) h1 h2 h3 h4 (by rw [← ho]; exact h5) h6
      change aw _ _ _ _ 55 [some (.ref 40), some (.int (iI p)), some (.int (iI i)), some (.int (iI (zx σ 11 a')))] [] _
      refine aw_iinc rfl rfl rfl rfl ?_
      change aw _ _ _ _ 58 [some (.ref 40), some (.int (iI p)), some (.int (iI (i + 1))), some (.int (iI (zx σ 11 a')))] [] _
      refine aw_goto rfl rfl ?_
      exact ih (T - a2).toNat (by omega) τ3 (i + 1) a2 _ _ rfl hG3 (⟨Q3_step hQ.1 hk rfl et.1 et.2.1 et.2.2 hQ2.1, by rw [← et.1]; exact hQ2.2⟩) ⟨by omega, by omega⟩
    · exact c_sum_b hb hI (hG1.bs hB) hi.1 (by omega) ⟨by omega, by omega⟩ (F3_step hQ.1 hk rfl et.1 et.2.1 et.2.2 hF2)
  refine aw_iload_n rfl rfl rfl ?_
  refine aw_sipush rfl rfl rfl ?_
  refine aw_icmp (p' := 61) rfl ⟨by omega, by omega⟩ ⟨by omega, by omega⟩ rfl rfl (fun c1 => ?_) (fun c1 => ?_)
  · dsimp only [zc] at c1
    have hk0 := kT.mpr (by omega)
    exact aw_retv rfl (hG.out ⟨hQ.1, by omega, by omega, hQ.2.1, hQ.2.2⟩)
  · dsimp only [zc] at c1
    refine aw_aload_n rfl rfl rfl ?_
    refine aw_gk (v := zx σ 11 a') (3) rfl rfl (hC.f.k 40 rfl) rfl hkk rfl (fun _ _ => ?_)
    refine aw_bipush rfl rfl rfl ?_
    refine aw_icmp (p' := 32) rfl ⟨by omega, by omega⟩ ⟨by omega, by omega⟩ rfl rfl (fun c2 => ?_) (fun c2 => ?_)
    · dsimp only [zc] at c2
      exact hJ (Or.inl c2)
    · dsimp only [zc] at c2
      refine aw_aload_n rfl rfl rfl ?_
      refine aw_gk (v := zx σ 11 a') (3) rfl rfl (hC.f.k 40 rfl) rfl hkk rfl (fun _ _ => ?_)
      refine aw_bipush rfl rfl rfl ?_
      refine aw_icmp (p' := 61) rfl ⟨by omega, by omega⟩ ⟨by omega, by omega⟩ rfl rfl (fun c3 => ?_) (fun c3 => ?_)
      · dsimp only [zc] at c3
        exact aw_retv rfl (hG.out ⟨hQ.1, by omega, by omega, hQ.2.1, hQ.2.2⟩)
      · dsimp only [zc] at c3
        exact hJ (Or.inr (by omega))
set_option maxRecDepth 10000 in
set_option maxHeartbeats 2000000 in
theorem c_sum {d : Nat} {sz : Nat} {κ : Nat × (Nat → Int32) × Option Nat} {A : Nat → Int → Int} {g : Nat → Nat} {E : Int → Int} {T : Int} {b : Nat} (hb : b = 16 ∨ b = 22) (hI : MI sz A) {p : Int} (hp0 : 0 ≤ p) (hp1 : p ≤ 10) (hin : Co sz κ A g E T b 21 (d + 4) p (fun σ a a' n => Qr 4 σ a p a' n ∧ zx σ 11 a' ≠ 19 ∧ zx σ 11 a' ≠ 20) (fun σ a => FQ σ a 1 p (Zr 4))) : Co sz κ A g E T b 20 (d + 5) p (fun σ a a' n => Qr 3 σ a p a' n ∧ zx σ 11 a' ≠ 17 ∧ zx σ 11 a' ≠ 18 ∧ zx σ 11 a' ≠ 19 ∧ zx σ 11 a' ≠ 20) (fun σ a => FQ σ a 1 p (Zr 3)) := by
  intro σ a l hP
  have hC := hP.1
  refine cal_of (M := (yX2_sum, cX2_sum, 4, none)) (cd := k_X2_sum) (L := [some (.ref 40), some (.int (iI p)), none, none]) rfl (Nat.le_of_ble_eq_true rfl) rfl rfl ?_
  refine aw_aload_n rfl rfl rfl ?_
  refine aw_iload_n rfl rfl rfl ?_
  refine aw_calc (hin σ a l hP) rfl rfl rfl (Nat.le_of_ble_eq_true rfl) (Or.inr ⟨_, rfl, (hC.f.k 40 rfl)⟩) rfl ?_
  intro r τ hr
  obtain ⟨rfl, hC2, hD2, hcs⟩ := hP.ret hr
  change aw _ _ _ _ 5 [some (.ref 40), some (.int (iI p)), none, none] [] _
  refine aw_iconst rfl rfl ?_
  refine aw_istore_n rfl (Nat.le_of_ble_eq_true rfl) rfl rfl ?_
  change aw _ _ _ _ 7 [some (.ref 40), some (.int (iI p)), some (.int (iI 0)), none] [] _
  obtain ⟨_, _, _, _, ha, _, hl⟩ := id hP
  rcases hcs with ⟨a2, n2, hX2, hQ2⟩ | ⟨x, f, hB, hF2⟩
  · have h0 := GS.rf hP
    have hG2 := h0.call hb hC2 hD2 (n2 := n2) (by simpa using hX2)
    have hx3 := hX2.2.2.1
    exact c_sum_l hb hI hp0 hp1 hin ha.1 hl.1 hl.2 _ τ 0 a2 _ none rfl hG2 (⟨Qr_2 hQ2.1, hQ2.2⟩) ⟨by omega, by omega⟩
  · exact sb7 hC2 hB.2.2.1 ⟨by omega, by omega⟩ (hB.out (fun c hc hz => hF2 c hc (Zr_34 hz)))
