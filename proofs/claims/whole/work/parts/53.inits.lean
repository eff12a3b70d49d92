/-! what a call of the class leaves alone -/
def kpl (a : Nat) : Prop := (42 ≤ a ∧ a < 103) ∨ (16 ≤ a ∧ a ≤ 20) ∨ (22 ≤ a ∧ a ≤ 26)
def Kp (σ τ : az_S) : Prop := (∀ a, kpl a → az_i τ a = az_i σ a ∧ az_l τ a = az_l σ a) ∧ az_n τ ≤ az_n σ + 10 ∧ az_sl τ ≤ az_sl σ + 500
theorem Ex.kp {σ τ : az_S} {S : List Nat} (h : Ex σ τ S) (hS : ∀ a, a ∈ S → ¬ kpl a) (hn : 103 ≤ az_n σ) (h1 : az_n τ ≤ az_n σ + 10) (h2 : az_sl τ ≤ az_sl σ + 500) : Kp σ τ := by
  refine ⟨fun a ha => ?_, h1, h2⟩
  have := h.2.2 a (by unfold kpl at ha; omega) (fun q => hS a q ha)
  exact ⟨this.1, this.2.1⟩
theorem Mod.kp {σ τ : az_S} {S : List Nat} (h : Mod σ τ S) (hS : ∀ a, a ∈ S → ¬ kpl a) : Kp σ τ := ⟨fun a ha => ⟨h.2.2.2.2.1 a (fun q => hS a q ha), h.2.2.2.2.2 a (fun q => hS a q ha)⟩, by have := h.1; show τ.1 ≤ σ.1 + 10; omega, by have := h.2.1; show τ.2.1 ≤ σ.2.1 + 500; omega⟩
theorem Kp.rf {σ : az_S} : Kp σ σ := ⟨fun _ _ => ⟨rfl, rfl⟩, by omega, by omega⟩
/-- a new one comes into its list -/
theorem CR.putP {d : Nat} {sz : Nat} {κ : Nat × (Nat → Int32) × Option Nat} {A A' : Nat → Int → Int} {g : Nat → Nat} {σ τ1 : az_S} (h : CR sz κ A g σ) (hI : MI sz A) (hx : Ex σ τ1 []) (hb : az_n τ1 = az_n σ + 1) (hl : az_n σ ≤ 890000) (hsl : az_sl τ1 ≤ az_sl σ + 200) (hk : (az_sh τ1 (az_n σ)).1 < 14) (hN : A' 42 9 = A 42 9 + 1) (hA : ∀ a z, ¬ (a = 42 ∧ z = 9) → ¬ ((a = 47 ∨ a = 48) ∧ z = A 42 9) → A' a z = A a z) (hO : ∀ q', CP A' (gNew g (200 + (A 42 9).toNat) 1 (az_n σ) 600 q') τ1 (A 42 9)) : cal (d + 7) 274 [.ref 5, .ref (az_n σ)] τ1 (fun r τ => r = some (.int (iI 1)) ∧ ∃ g', CR sz κ A' g' τ ∧ g' 700 = g 700 ∧ Kp σ τ) := by
  have hth := hI.things
  have hpe := hI.people
  have hgr := hI.grants
  have hst := hI.stalls
  have hn := h.n
  obtain ⟨l1, l2, l3, l4⟩ := h.lv hI
  have z5 : ∀ a, a < 103 → Sm σ τ1 a := fun a h1 => hx.sm (Or.inl (by omega)) (by simp)
  have kb := h.k 1000001 (by decide)
  have ks := h.k 1000007 (by decide)
  have hL := h.lP.ex hx (by omega) (by simp) (fun _ _ => by simp)
  refine (j_add (l := 5) (v := az_n σ) (by rw [(z5 5 (by decide)).1]; exact h.f.k 5 rfl) (by decide) (by omega) hL (by omega) (by omega) hk (by omega) (by rw [hx.2.1 1000001 (by omega), kb.1]; rfl) (by rw [(hx.2.2 1000007 (by omega) (by simp)).2.2]; exact h.st0) (by omega) (fun j j0 j1 => ?_)).imp ?_
  · have hlv := l1 j j0 j1
    rw [hx.2.1 _ (Or.inl hlv.2), h.sP j0 j1]
    exact ⟨by decide, by omega⟩
  · rintro r τ ⟨hr, S, q', h1, h2, h3, h4, h5, h6⟩
    have hx2 : Ex σ τ S := (hx.su (T := S) (fun a ha => by simp at ha)).tr h2 (fun a ha _ => ha)
    have hrow : ∀ c, c ∈ S → c = 5 ∨ (c = g 600 ∧ 103 ≤ c ∧ c < az_n σ) := by
      intro c hc
      rcases h1 c hc with e | ⟨e, e1, e2⟩
      · exact Or.inl e
      · refine Or.inr ⟨e, e1, ?_⟩
        rcases h.lP.2.2 with q | q <;> omega
    have sb : ∀ c, az_n σ ≤ c → c < az_n τ1 → Sm τ1 τ c := fun c c1 c2 => h2.sm (Or.inl c2) (fun q => by rcases hrow c q with e | ⟨e, e1, e2⟩ <;> omega)
    refine ⟨hr, _, h.addP hI hx2 hrow (Nat.le_refl _) (by omega) (by omega) (by omega) h3 hN hA ?_, gNew_o (by omega) (by omega), hx2.kp (fun a ha => ?_) hn (by omega) (by omega)⟩
    · have e1 : gP (gNew g (200 + (A 42 9).toNat) 1 (az_n σ) 600 q') (A 42 9) = az_n σ + 0 := by unfold gP; rw [gNew_n (by omega)]; omega
      exact (hO q').sm (sb _ (by omega) (by omega)) rfl rfl rfl
    · unfold kpl
      rcases hrow a ha with e | ⟨e, e1, e2⟩ <;> omega
/-- a new one comes into its list -/
theorem CR.putT {d : Nat} {sz : Nat} {κ : Nat × (Nat → Int32) × Option Nat} {A A' : Nat → Int → Int} {g : Nat → Nat} {σ τ1 : az_S} (h : CR sz κ A g σ) (hI : MI sz A) (hx : Ex σ τ1 []) (hb : az_n τ1 = az_n σ + 4) (hl : az_n σ ≤ 890000) (hsl : az_sl τ1 ≤ az_sl σ + 200) (hk : (az_sh τ1 (az_n σ)).1 < 14) (hN : A' 42 12 = A 42 12 + 1) (hA : ∀ a z, ¬ (a = 42 ∧ z = 12) → ¬ (49 ≤ a ∧ a ≤ 62 ∧ (a < 57 ∨ 59 < a) ∧ z = A 42 12) → ¬ (57 ≤ a ∧ a ≤ 59 ∧ 41 * A 42 12 ≤ z ∧ z < 41 * A 42 12 + 41) → A' a z = A a z) (hO : ∀ q', CT A' (gNew g (300 + 4 * (A 42 12).toNat) 4 (az_n σ) 601 q') τ1 (A 42 12)) : cal (d + 7) 274 [.ref 6, .ref (az_n σ)] τ1 (fun r τ => r = some (.int (iI 1)) ∧ ∃ g', CR sz κ A' g' τ ∧ g' 700 = g 700 ∧ Kp σ τ) := by
  have hth := hI.things
  have hpe := hI.people
  have hgr := hI.grants
  have hst := hI.stalls
  have hn := h.n
  obtain ⟨l1, l2, l3, l4⟩ := h.lv hI
  have z5 : ∀ a, a < 103 → Sm σ τ1 a := fun a h1 => hx.sm (Or.inl (by omega)) (by simp)
  have kb := h.k 1000001 (by decide)
  have ks := h.k 1000007 (by decide)
  have hL := h.lT.ex hx (by omega) (by simp) (fun _ _ => by simp)
  refine (j_add (l := 6) (v := az_n σ) (by rw [(z5 6 (by decide)).1]; exact h.f.k 6 rfl) (by decide) (by omega) hL (by omega) (by omega) hk (by omega) (by rw [hx.2.1 1000001 (by omega), kb.1]; rfl) (by rw [(hx.2.2 1000007 (by omega) (by simp)).2.2]; exact h.st0) (by omega) (fun j j0 j1 => ?_)).imp ?_
  · have hlv := (l2 j j0 j1).1
    rw [hx.2.1 _ (Or.inl hlv.2), h.sT j0 j1]
    exact ⟨by decide, by omega⟩
  · rintro r τ ⟨hr, S, q', h1, h2, h3, h4, h5, h6⟩
    have hx2 : Ex σ τ S := (hx.su (T := S) (fun a ha => by simp at ha)).tr h2 (fun a ha _ => ha)
    have hrow : ∀ c, c ∈ S → c = 6 ∨ (c = g 601 ∧ 103 ≤ c ∧ c < az_n σ) := by
      intro c hc
      rcases h1 c hc with e | ⟨e, e1, e2⟩
      · exact Or.inl e
      · refine Or.inr ⟨e, e1, ?_⟩
        rcases h.lT.2.2 with q | q <;> omega
    have sb : ∀ c, az_n σ ≤ c → c < az_n τ1 → Sm τ1 τ c := fun c c1 c2 => h2.sm (Or.inl c2) (fun q => by rcases hrow c q with e | ⟨e, e1, e2⟩ <;> omega)
    refine ⟨hr, _, h.addT hI hx2 hrow (Nat.le_refl _) (by omega) (by omega) (by omega) h3 hN hA ?_, gNew_o (by omega) (by omega), hx2.kp (fun a ha => ?_) hn (by omega) (by omega)⟩
    · have e1 : gT (gNew g (300 + 4 * (A 42 12).toNat) 4 (az_n σ) 601 q') (A 42 12) = az_n σ + 0 := by unfold gT; rw [gNew_n (by omega)]; omega
      have e2 : gTd (gNew g (300 + 4 * (A 42 12).toNat) 4 (az_n σ) 601 q') (A 42 12) = az_n σ + 1 := by unfold gTd; rw [gNew_n (by omega)]; omega
      have e3 : gTh (gNew g (300 + 4 * (A 42 12).toNat) 4 (az_n σ) 601 q') (A 42 12) = az_n σ + 2 := by unfold gTh; rw [gNew_n (by omega)]; omega
      have e4 : gTt (gNew g (300 + 4 * (A 42 12).toNat) 4 (az_n σ) 601 q') (A 42 12) = az_n σ + 3 := by unfold gTt; rw [gNew_n (by omega)]; omega
      exact (hO q').sm (sb _ (by omega) (by omega)) (sb _ (by omega) (by omega)) (sb _ (by omega) (by omega)) (sb _ (by omega) (by omega)) rfl rfl rfl rfl (fun _ _ _ _ => rfl) (fun _ _ _ _ _ _ => rfl)
    · unfold kpl
      rcases hrow a ha with e | ⟨e, e1, e2⟩ <;> omega
/-- a new one comes into its list -/
theorem CR.putG {d : Nat} {sz : Nat} {κ : Nat × (Nat → Int32) × Option Nat} {A A' : Nat → Int → Int} {g : Nat → Nat} {σ τ1 : az_S} (h : CR sz κ A g σ) (hI : MI sz A) (hx : Ex σ τ1 []) (hb : az_n τ1 = az_n σ + 1) (hl : az_n σ ≤ 890000) (hsl : az_sl τ1 ≤ az_sl σ + 200) (hk : (az_sh τ1 (az_n σ)).1 < 14) (hN : A' 42 27 = A 42 27 + 1) (hA : ∀ a z, ¬ (a = 42 ∧ z = 27) → ¬ (63 ≤ a ∧ a ≤ 73 ∧ z = A 42 27) → A' a z = A a z) (hO : ∀ q', CG A' (gNew g (400 + (A 42 27).toNat) 1 (az_n σ) 602 q') τ1 (A 42 27)) : cal (d + 7) 274 [.ref 7, .ref (az_n σ)] τ1 (fun r τ => r = some (.int (iI 1)) ∧ ∃ g', CR sz κ A' g' τ ∧ g' 700 = g 700 ∧ Kp σ τ) := by
  have hth := hI.things
  have hpe := hI.people
  have hgr := hI.grants
  have hst := hI.stalls
  have hn := h.n
  obtain ⟨l1, l2, l3, l4⟩ := h.lv hI
  have z5 : ∀ a, a < 103 → Sm σ τ1 a := fun a h1 => hx.sm (Or.inl (by omega)) (by simp)
  have kb := h.k 1000001 (by decide)
  have ks := h.k 1000007 (by decide)
  have hL := h.lG.ex hx (by omega) (by simp) (fun _ _ => by simp)
  refine (j_add (l := 7) (v := az_n σ) (by rw [(z5 7 (by decide)).1]; exact h.f.k 7 rfl) (by decide) (by omega) hL (by omega) (by omega) hk (by omega) (by rw [hx.2.1 1000001 (by omega), kb.1]; rfl) (by rw [(hx.2.2 1000007 (by omega) (by simp)).2.2]; exact h.st0) (by omega) (fun j j0 j1 => ?_)).imp ?_
  · have hlv := l3 j j0 j1
    rw [hx.2.1 _ (Or.inl hlv.2), h.sG j0 j1]
    exact ⟨by decide, by omega⟩
  · rintro r τ ⟨hr, S, q', h1, h2, h3, h4, h5, h6⟩
    have hx2 : Ex σ τ S := (hx.su (T := S) (fun a ha => by simp at ha)).tr h2 (fun a ha _ => ha)
    have hrow : ∀ c, c ∈ S → c = 7 ∨ (c = g 602 ∧ 103 ≤ c ∧ c < az_n σ) := by
      intro c hc
      rcases h1 c hc with e | ⟨e, e1, e2⟩
      · exact Or.inl e
      · refine Or.inr ⟨e, e1, ?_⟩
        rcases h.lG.2.2 with q | q <;> omega
    have sb : ∀ c, az_n σ ≤ c → c < az_n τ1 → Sm τ1 τ c := fun c c1 c2 => h2.sm (Or.inl c2) (fun q => by rcases hrow c q with e | ⟨e, e1, e2⟩ <;> omega)
    refine ⟨hr, _, h.addG hI hx2 hrow (Nat.le_refl _) (by omega) (by omega) (by omega) h3 hN hA ?_, gNew_o (by omega) (by omega), hx2.kp (fun a ha => ?_) hn (by omega) (by omega)⟩
    · have e1 : gG (gNew g (400 + (A 42 27).toNat) 1 (az_n σ) 602 q') (A 42 27) = az_n σ + 0 := by unfold gG; rw [gNew_n (by omega)]; omega
      exact (hO q').sm (sb _ (by omega) (by omega)) rfl rfl (fun _ _ _ => rfl)
    · unfold kpl
      rcases hrow a ha with e | ⟨e, e1, e2⟩ <;> omega
/-- a new one comes into its list -/
theorem CR.putS {d : Nat} {sz : Nat} {κ : Nat × (Nat → Int32) × Option Nat} {A A' : Nat → Int → Int} {g : Nat → Nat} {σ τ1 : az_S} (h : CR sz κ A g σ) (hI : MI sz A) (hx : Ex σ τ1 []) (hb : az_n τ1 = az_n σ + 2) (hl : az_n σ ≤ 890000) (hsl : az_sl τ1 ≤ az_sl σ + 200) (hk : (az_sh τ1 (az_n σ)).1 < 14) (hN : A' 42 66 = A 42 66 + 1) (hA : ∀ a z, ¬ (a = 42 ∧ z = 66) → ¬ (84 ≤ a ∧ a ≤ 86 ∧ z = A 42 66) → ¬ (a = 87 ∧ 12 * A 42 66 ≤ z ∧ z < 12 * A 42 66 + 12) → A' a z = A a z) (hO : ∀ q', CS A' (gNew g (500 + 2 * (A 42 66).toNat) 2 (az_n σ) 603 q') τ1 (A 42 66)) : cal (d + 7) 274 [.ref 8, .ref (az_n σ)] τ1 (fun r τ => r = some (.int (iI 1)) ∧ ∃ g', CR sz κ A' g' τ ∧ g' 700 = g 700 ∧ Kp σ τ) := by
  have hth := hI.things
  have hpe := hI.people
  have hgr := hI.grants
  have hst := hI.stalls
  have hn := h.n
  obtain ⟨l1, l2, l3, l4⟩ := h.lv hI
  have z5 : ∀ a, a < 103 → Sm σ τ1 a := fun a h1 => hx.sm (Or.inl (by omega)) (by simp)
  have kb := h.k 1000001 (by decide)
  have ks := h.k 1000007 (by decide)
  have hL := h.lS.ex hx (by omega) (by simp) (fun _ _ => by simp)
  refine (j_add (l := 8) (v := az_n σ) (by rw [(z5 8 (by decide)).1]; exact h.f.k 8 rfl) (by decide) (by omega) hL (by omega) (by omega) hk (by omega) (by rw [hx.2.1 1000001 (by omega), kb.1]; rfl) (by rw [(hx.2.2 1000007 (by omega) (by simp)).2.2]; exact h.st0) (by omega) (fun j j0 j1 => ?_)).imp ?_
  · have hlv := (l4 j j0 j1).1
    rw [hx.2.1 _ (Or.inl hlv.2), h.sS j0 j1]
    exact ⟨by decide, by omega⟩
  · rintro r τ ⟨hr, S, q', h1, h2, h3, h4, h5, h6⟩
    have hx2 : Ex σ τ S := (hx.su (T := S) (fun a ha => by simp at ha)).tr h2 (fun a ha _ => ha)
    have hrow : ∀ c, c ∈ S → c = 8 ∨ (c = g 603 ∧ 103 ≤ c ∧ c < az_n σ) := by
      intro c hc
      rcases h1 c hc with e | ⟨e, e1, e2⟩
      · exact Or.inl e
      · refine Or.inr ⟨e, e1, ?_⟩
        rcases h.lS.2.2 with q | q <;> omega
    have sb : ∀ c, az_n σ ≤ c → c < az_n τ1 → Sm τ1 τ c := fun c c1 c2 => h2.sm (Or.inl c2) (fun q => by rcases hrow c q with e | ⟨e, e1, e2⟩ <;> omega)
    refine ⟨hr, _, h.addS hI hx2 hrow (Nat.le_refl _) (by omega) (by omega) (by omega) h3 hN hA ?_, gNew_o (by omega) (by omega), hx2.kp (fun a ha => ?_) hn (by omega) (by omega)⟩
    · have e1 : gS (gNew g (500 + 2 * (A 42 66).toNat) 2 (az_n σ) 603 q') (A 42 66) = az_n σ + 0 := by unfold gS; rw [gNew_n (by omega)]; omega
      have e2 : gSp (gNew g (500 + 2 * (A 42 66).toNat) 2 (az_n σ) 603 q') (A 42 66) = az_n σ + 1 := by unfold gSp; rw [gNew_n (by omega)]; omega
      exact (hO q').sm (sb _ (by omega) (by omega)) (sb _ (by omega) (by omega)) rfl rfl rfl rfl (fun _ _ _ => rfl)
    · unfold kpl
      rcases hrow a ha with e | ⟨e, e1, e2⟩ <;> omega
set_option maxRecDepth 10000 in
set_option maxHeartbeats 2000000 in
theorem c_pinit {d : Nat} {σ : az_S} {a : Nat} (ha : (az_sh σ a).1 = 4) : cal (d + 1) 24 [.ref a] σ (fun r τ => r = none ∧ Mod σ τ [a] ∧ zx τ a 0 = -1 ∧ zx τ a 1 = -1) := by
  refine cal_of (M := (yX3_init, cX3_init, 1, none)) (cd := k_X3_init) (L := [some (.ref a)]) rfl (Nat.le_of_ble_eq_true rfl) rfl rfl ?_
  refine aw_aload_n rfl rfl rfl ?_
  refine aw_obj rfl (Nat.le_of_ble_eq_true rfl) rfl ?_
  refine aw_aload_n rfl rfl rfl ?_
  refine aw_iconst rfl rfl ?_
  refine aw_fs (0) rfl rfl ha rfl ⟨by omega, by omega⟩ rfl (fun τ1 hD1 hU1 hQ1 => ?_)
  refine aw_aload_n rfl rfl rfl ?_
  refine aw_iconst rfl rfl ?_
  refine aw_fs (1) rfl rfl (by rw [(hD1.su (T := [a]) (by simp)).2.2.1]; exact ha) rfl ⟨by omega, by omega⟩ rfl (fun τ2 hD2 hU2 hQ2 => ?_)
  refine aw_retv rfl ?_
  exact ⟨rfl, ((hD1.su (T := [a]) (by simp)).tr (hD2.su (T := [a]) (by simp))), by rw [hU2, if_neg (by decide), hU1, if_pos rfl], by rw [hU2, if_pos rfl]⟩
set_option maxRecDepth 10000 in
set_option maxHeartbeats 2000000 in
theorem c_limit {d : Nat} {σ : az_S} {a : Nat} {u v f l : Int} (ha : (az_sh σ a).1 = 1) (hu0 : 0 ≤ u) (hu1 : u ≤ 255) (hv0 : 0 ≤ v) (hv1 : v ≤ 255) (hf : inI f) (hl : inI l) : cal (d + 1) 1 [.ref a, .int (iI u), .int (iI v), .int (iI f), .int (iI l)] σ (fun r τ => r = none ∧ Mod σ τ [a] ∧ ∀ w, zx τ a w = if w = 11 then l else if w = 10 then f else if w = 9 then v % 16 else if w = 8 then v / 16 else if w = 7 then u % 16 else if w = 6 then u / 16 else zx σ a w) := by
  obtain ⟨hf1, hf2⟩ := hf
  obtain ⟨hl1, hl2⟩ := hl
  refine cal_of (M := (yX0_limit, cX0_limit, 5, none)) (cd := k_X0_limit) (L := [some (.ref a), some (.int (iI u)), some (.int (iI v)), some (.int (iI f)), some (.int (iI l))]) rfl (Nat.le_of_ble_eq_true rfl) rfl rfl ?_
  refine aw_aload_n rfl rfl rfl ?_
  refine aw_iload_n rfl rfl rfl ?_
  refine aw_bipush rfl rfl rfl ?_
  refine aw_idiv rfl (by omega) (by omega) (by omega) (by omega) rfl ?_
  refine aw_fs (6) rfl rfl ha rfl ⟨by omega, by omega⟩ rfl (fun τ1 hD1 hU1 hQ1 => ?_)
  refine aw_aload_n rfl rfl rfl ?_
  refine aw_iload_n rfl rfl rfl ?_
  refine aw_bipush rfl rfl rfl ?_
  refine aw_irem rfl (by omega) (by omega) (by omega) (by omega) rfl ?_
  refine aw_fs (7) rfl rfl (by rw [(hD1.su (T := [a]) (by simp)).2.2.1]; exact ha) rfl ⟨by omega, by omega⟩ rfl (fun τ2 hD2 hU2 hQ2 => ?_)
  refine aw_aload_n rfl rfl rfl ?_
  refine aw_iload_n rfl rfl rfl ?_
  refine aw_bipush rfl rfl rfl ?_
  refine aw_idiv rfl (by omega) (by omega) (by omega) (by omega) rfl ?_
  refine aw_fs (8) rfl rfl (by rw [((hD1.su (T := [a]) (by simp)).tr (hD2.su (T := [a]) (by simp))).2.2.1]; exact ha) rfl ⟨by omega, by omega⟩ rfl (fun τ3 hD3 hU3 hQ3 => ?_)
  refine aw_aload_n rfl rfl rfl ?_
  refine aw_iload_n rfl rfl rfl ?_
  refine aw_bipush rfl rfl rfl ?_
  refine aw_irem rfl (by omega) (by omega) (by omega) (by omega) rfl ?_
  refine aw_fs (9) rfl rfl (by rw [(((hD1.su (T := [a]) (by simp)).tr (hD2.su (T := [a]) (by simp))).tr (hD3.su (T := [a]) (by simp))).2.2.1]; exact ha) rfl ⟨by omega, by omega⟩ rfl (fun τ4 hD4 hU4 hQ4 => ?_)
  refine aw_aload_n rfl rfl rfl ?_
  refine aw_iload_n rfl rfl rfl ?_
  refine aw_fs (10) rfl rfl (by rw [((((hD1.su (T := [a]) (by simp)).tr (hD2.su (T := [a]) (by simp))).tr (hD3.su (T := [a]) (by simp))).tr (hD4.su (T := [a]) (by simp))).2.2.1]; exact ha) rfl ⟨by omega, by omega⟩ rfl (fun τ5 hD5 hU5 hQ5 => ?_)
  refine aw_aload_n rfl rfl rfl ?_
  refine aw_iload rfl rfl rfl ?_
  refine aw_fs (11) rfl rfl (by rw [(((((hD1.su (T := [a]) (by simp)).tr (hD2.su (T := [a]) (by simp))).tr (hD3.su (T := [a]) (by simp))).tr (hD4.su (T := [a]) (by simp))).tr (hD5.su (T := [a]) (by simp))).2.2.1]; exact ha) rfl ⟨by omega, by omega⟩ rfl (fun τ6 hD6 hU6 hQ6 => ?_)
  refine aw_retv rfl ?_
  exact ⟨rfl, ((((((hD1.su (T := [a]) (by simp)).tr (hD2.su (T := [a]) (by simp))).tr (hD3.su (T := [a]) (by simp))).tr (hD4.su (T := [a]) (by simp))).tr (hD5.su (T := [a]) (by simp))).tr (hD6.su (T := [a]) (by simp))), fun w => by rw [hU6, hU5, hU4, hU3, hU2, hU1]⟩
def th6 (σ : az_S) (a : Nat) : az_S := az_pr (az_nw (az_pr (az_nw (az_pr (az_nw σ 100 41) a 7 (some (az_n σ))) 100 41) a 8 (some (az_n σ + 1))) 100 41) a 9 (some (az_n σ + 2))
theorem th6_f {σ : az_S} {a : Nat} (han : a < az_n σ) (hl : az_n σ < 900000) : az_n (th6 σ a) = az_n σ + 3 ∧ az_sl (th6 σ a) = az_sl σ + 123 ∧ (az_sh (th6 σ a) (az_n σ) = (100, 41) ∧ az_sh (th6 σ a) (az_n σ + 1) = (100, 41) ∧ az_sh (th6 σ a) (az_n σ + 2) = (100, 41)) ∧ Ex σ (th6 σ a) [a] ∧ (az_r (th6 σ a) a 7 = some (az_n σ) ∧ az_r (th6 σ a) a 8 = some (az_n σ + 1) ∧ az_r (th6 σ a) a 9 = some (az_n σ + 2)) ∧ ∀ w, zx (th6 σ a) a w = zx σ a w := by
  have e : ∀ (τ : az_S), Ex σ τ [a] → az_n τ < 1000000 → ∀ k v, Ex σ (az_pr (az_nw τ 100 41) a k v) [a] := by
    intro τ h1 h2 k v
    exact (h1.tr (Ex_nw h2) (fun b hb => by simp at hb)).tr Ex_pr (fun b hb _ => hb)
  have h1 := e σ Ex.rf (by omega) 7 (some (az_n σ))
  have h2 := e _ h1 (by show az_n σ + 1 < 1000000; omega) 8 (some (az_n σ + 1))
  have h3 := e _ h2 (by show az_n σ + 1 + 1 < 1000000; omega) 9 (some (az_n σ + 2))
  have n1 : a ≠ az_n σ := by omega
  have n2 : a ≠ az_n σ + 1 := by omega
  have n3 : a ≠ az_n σ + 1 + 1 := by omega
  refine ⟨rfl, rfl, ⟨?_, ?_, ?_⟩, h3, ⟨?_, ?_, ?_⟩, fun w => ?_⟩
  · show va_up (va_up (va_up σ.2.2.1 σ.1 (100, 41)) (σ.1 + 1) (100, 41)) (σ.1 + 1 + 1) (100, 41) σ.1 = (100, 41)
    rw [va_up_ne _ _ (by omega), va_up_ne _ _ (by omega), va_up_self]
  · show va_up (va_up (va_up σ.2.2.1 σ.1 (100, 41)) (σ.1 + 1) (100, 41)) (σ.1 + 1 + 1) (100, 41) (σ.1 + 1) = (100, 41)
    rw [va_up_ne _ _ (by omega), va_up_self]
  · exact va_up_self _ _ _
  · show az_up (va_up (az_up (va_up (az_up (va_up σ.2.2.2.2.2 σ.1 (fun _ => none)) a 7 (some (az_n σ))) (σ.1 + 1) (fun _ => none)) a 8 (some (az_n σ + 1))) (σ.1 + 1 + 1) (fun _ => none)) a 9 (some (az_n σ + 2)) a 7 = _
    rw [az_up_nk (by decide), va_up_ne _ _ n3, az_up_nk (by decide), va_up_ne _ _ n2, az_up_sf]
  · show az_up (va_up (az_up (va_up (az_up (va_up σ.2.2.2.2.2 σ.1 (fun _ => none)) a 7 (some (az_n σ))) (σ.1 + 1) (fun _ => none)) a 8 (some (az_n σ + 1))) (σ.1 + 1 + 1) (fun _ => none)) a 9 (some (az_n σ + 2)) a 8 = _
    rw [az_up_nk (by decide), va_up_ne _ _ n3, az_up_sf]
  · exact az_up_sf
  · unfold zx zi
    show (if w < 0 then 0 else (va_up (va_up (va_up σ.2.2.2.1 σ.1 (fun _ => 0)) (σ.1 + 1) (fun _ => 0)) (σ.1 + 1 + 1) (fun _ => 0) a w.toNat).toInt) = _
    rw [va_up_ne _ _ n3, va_up_ne _ _ n2, va_up_ne _ _ n1]
set_option maxRecDepth 10000 in
set_option maxHeartbeats 1000000 in
theorem c_tinit {d : Nat} {σ : az_S} {a : Nat} {k c p f : Int} (ha : (az_sh σ a).1 = 11) (han : a < az_n σ) (hl : az_n σ < 900000) (hk : inI k) (hc : inI c) (hp : inI p) (hf : inI f) : cal (d + 1) 85 [.ref a, .int (iI k), .int (iI c), .int (iI p), .int (iI f)] σ (fun r τ => r = none ∧ az_n τ = az_n σ + 3 ∧ az_sl τ = az_sl σ + 123 ∧ (az_sh τ (az_n σ) = (100, 41) ∧ az_sh τ (az_n σ + 1) = (100, 41) ∧ az_sh τ (az_n σ + 2) = (100, 41)) ∧ Ex σ τ [a] ∧ (az_r τ a 7 = some (az_n σ) ∧ az_r τ a 8 = some (az_n σ + 1) ∧ az_r τ a 9 = some (az_n σ + 2)) ∧ ∀ w, zx τ a w = if w = 3 then f else if w = 2 then p else if w = 1 then c else if w = 0 then k else if w = 13 then (-1) else if w = 12 then (-1) else if w = 11 then (-1) else zx σ a w) := by
  obtain ⟨hk1, hk2⟩ := hk
  obtain ⟨hc1, hc2⟩ := hc
  obtain ⟨hp1, hp2⟩ := hp
  obtain ⟨hf1, hf2⟩ := hf
  refine cal_of (M := (yX10_init, cX10_init, 5, none)) (cd := k_X10_init) (L := [some (.ref a), some (.int (iI k)), some (.int (iI c)), some (.int (iI p)), some (.int (iI f))]) rfl (Nat.le_of_ble_eq_true rfl) rfl rfl ?_
  have q1 := Ex_nw (σ := σ) (kd := 100) (m := 41) (by omega)
  have q2 : az_sh (az_nw (az_pr (az_nw σ 100 41) a 7 (some (az_n σ))) 100 41) a = az_sh σ a := (va_up_ne _ _ (by show a ≠ az_n σ + 1; omega)).trans (q1.2.1 a (Or.inl han))
  have q3 : az_sh (az_nw (az_pr (az_nw (az_pr (az_nw σ 100 41) a 7 (some (az_n σ))) 100 41) a 8 (some (az_n σ + 1))) 100 41) a = az_sh σ a := (va_up_ne _ _ (by show a ≠ az_n σ + 1 + 1; omega)).trans q2
  refine aw_aload_n rfl rfl rfl ?_
  refine aw_obj rfl (Nat.le_of_ble_eq_true rfl) rfl ?_
  refine aw_aload_n rfl rfl rfl ?_
  refine aw_bipush rfl rfl rfl ?_
  refine aw_newarr (N := 41) (kd := 100) rfl (by decide) rfl rfl (by omega) rfl ?_
  refine aw_putr rfl rfl (by rw [q1.2.1 a (Or.inl han)]; exact ha) rfl ?_
  refine aw_aload_n rfl rfl rfl ?_
  refine aw_bipush rfl rfl rfl ?_
  refine aw_newarr (N := 41) (kd := 100) rfl (by decide) rfl rfl (by show az_n σ + 1 < 1000000; omega) rfl ?_
  refine aw_putr rfl rfl (by rw [show az_sh (az_nw (az_pr (az_nw σ 100 41) a 7 (some (az_n σ))) 100 41) a = az_sh σ a from q2]; exact ha) rfl ?_
  refine aw_aload_n rfl rfl rfl ?_
  refine aw_bipush rfl rfl rfl ?_
  refine aw_newarr (N := 41) (kd := 100) rfl (by decide) rfl rfl (by show az_n σ + 1 + 1 < 1000000; omega) rfl ?_
  refine aw_putr rfl rfl (by rw [show az_sh (az_nw (az_pr (az_nw (az_pr (az_nw σ 100 41) a 7 (some (az_n σ))) 100 41) a 8 (some (az_n σ + 1))) 100 41) a = az_sh σ a from q3]; exact ha) rfl ?_
  change aw _ _ _ _ 28 _ _ (th6 σ a)
  refine aw_aload_n rfl rfl rfl ?_
  refine aw_iconst rfl rfl ?_
  have hs0 : (az_sh (th6 σ a) a).1 = 11 := (by rw [(th6_f han hl).2.2.2.1.2.1 a (Or.inl han)]; exact ha)
  refine aw_fs (11) rfl rfl hs0 rfl ⟨by omega, by omega⟩ rfl (fun τ1 hD1 hU1 hQ1 => ?_)
  refine aw_aload_n rfl rfl rfl ?_
  refine aw_iconst rfl rfl ?_
  have hs1 : (az_sh τ1 a).1 = 11 := by rw [hD1.2.2.1]; exact hs0
  refine aw_fs (12) rfl rfl hs1 rfl ⟨by omega, by omega⟩ rfl (fun τ2 hD2 hU2 hQ2 => ?_)
  refine aw_aload_n rfl rfl rfl ?_
  refine aw_iconst rfl rfl ?_
  have hs2 : (az_sh τ2 a).1 = 11 := by rw [hD2.2.2.1]; exact hs1
  refine aw_fs (13) rfl rfl hs2 rfl ⟨by omega, by omega⟩ rfl (fun τ3 hD3 hU3 hQ3 => ?_)
  refine aw_aload_n rfl rfl rfl ?_
  refine aw_iload_n rfl rfl rfl ?_
  have hs3 : (az_sh τ3 a).1 = 11 := by rw [hD3.2.2.1]; exact hs2
  refine aw_fs (0) rfl rfl hs3 rfl ⟨by omega, by omega⟩ rfl (fun τ4 hD4 hU4 hQ4 => ?_)
  refine aw_aload_n rfl rfl rfl ?_
  refine aw_iload_n rfl rfl rfl ?_
  have hs4 : (az_sh τ4 a).1 = 11 := by rw [hD4.2.2.1]; exact hs3
  refine aw_fs (1) rfl rfl hs4 rfl ⟨by omega, by omega⟩ rfl (fun τ5 hD5 hU5 hQ5 => ?_)
  refine aw_aload_n rfl rfl rfl ?_
  refine aw_iload_n rfl rfl rfl ?_
  have hs5 : (az_sh τ5 a).1 = 11 := by rw [hD5.2.2.1]; exact hs4
  refine aw_fs (2) rfl rfl hs5 rfl ⟨by omega, by omega⟩ rfl (fun τ6 hD6 hU6 hQ6 => ?_)
  refine aw_aload_n rfl rfl rfl ?_
  refine aw_iload rfl rfl rfl ?_
  have hs6 : (az_sh τ6 a).1 = 11 := by rw [hD6.2.2.1]; exact hs5
  refine aw_fs (3) rfl rfl hs6 rfl ⟨by omega, by omega⟩ rfl (fun τ7 hD7 hU7 hQ7 => ?_)
  obtain ⟨f1, f2, f3, f4, f5, f6⟩ := th6_f han hl
  have hD := ((((((hD1.tr hD2).tr hD3).tr hD4).tr hD5).tr hD6).tr hD7)
  refine aw_retv rfl ⟨rfl, hD.1.trans f1, hD.2.1.trans f2, by rw [hD.2.2.1]; exact f3, f4.tr hD.ex (fun b hb _ => hb), by rw [hD.2.2.2.1]; exact f5, fun w => ?_⟩
  rw [hU7, hU6, hU5, hU4, hU3, hU2, hU1, f6]
set_option maxRecDepth 10000 in
theorem c_ginit {d : Nat} {σ : az_S} {a pr : Nat} {i j t s y : Int} (ha : (az_sh σ a).1 = 1) (hi : inI i) (hj : inI j) (ht : inI t) (hs : inI s) (hy : inI y) : cal (d + 1) 0 [.ref a, .int (iI i), .ref pr, .int (iI j), .int (iI t), .int (iI s), .int (iI y)] σ (fun r τ => r = none ∧ az_n τ = az_n σ ∧ az_sl τ = az_sl σ ∧ Ex σ τ [a] ∧ az_sh τ = az_sh σ ∧ az_r τ a 1 = some pr ∧ ∀ w, zx τ a w = if w = 5 then y else if w = 4 then s else if w = 3 then t else if w = 2 then j else if w = 0 then i else zx σ a w) := by
  obtain ⟨hi1, hi2⟩ := hi
  obtain ⟨hj1, hj2⟩ := hj
  obtain ⟨ht1, ht2⟩ := ht
  obtain ⟨hs1, hs2⟩ := hs
  obtain ⟨hy1, hy2⟩ := hy
  refine cal_of (M := (yX0_init, cX0_init, 7, none)) (cd := k_X0_init) (L := [some (.ref a), some (.int (iI i)), some (.ref pr), some (.int (iI j)), some (.int (iI t)), some (.int (iI s)), some (.int (iI y))]) rfl (Nat.le_of_ble_eq_true rfl) rfl rfl ?_
  refine aw_aload_n rfl rfl rfl ?_
  refine aw_obj rfl (Nat.le_of_ble_eq_true rfl) rfl ?_
  refine aw_aload_n rfl rfl rfl ?_
  refine aw_iload_n rfl rfl rfl ?_
  refine aw_fs (0) rfl rfl ha rfl ⟨by omega, by omega⟩ rfl (fun τ1 hD1 hU1 hQ1 => ?_)
  refine aw_aload_n rfl rfl rfl ?_
  refine aw_aload_n rfl rfl rfl ?_
  have h1 : (az_sh τ1 a).1 = 1 := by rw [hD1.2.2.1]; exact ha
  refine aw_putr rfl rfl h1 rfl ?_
  refine aw_aload_n rfl rfl rfl ?_
  refine aw_iload_n rfl rfl rfl ?_
  refine aw_fs (2) rfl rfl h1 rfl ⟨by omega, by omega⟩ rfl (fun τ2 hD2 hU2 hQ2 => ?_)
  refine aw_aload_n rfl rfl rfl ?_
  refine aw_iload rfl rfl rfl ?_
  have h2 : (az_sh τ2 a).1 = 1 := by rw [hD2.2.2.1]; exact h1
  refine aw_fs (3) rfl rfl h2 rfl ⟨by omega, by omega⟩ rfl (fun τ3 hD3 hU3 hQ3 => ?_)
  refine aw_aload_n rfl rfl rfl ?_
  refine aw_iload rfl rfl rfl ?_
  have h3 : (az_sh τ3 a).1 = 1 := by rw [hD3.2.2.1]; exact h2
  refine aw_fs (4) rfl rfl h3 rfl ⟨by omega, by omega⟩ rfl (fun τ4 hD4 hU4 hQ4 => ?_)
  refine aw_aload_n rfl rfl rfl ?_
  refine aw_iload rfl rfl rfl ?_
  have h4 : (az_sh τ4 a).1 = 1 := by rw [hD4.2.2.1]; exact h3
  refine aw_fs (5) rfl rfl h4 rfl ⟨by omega, by omega⟩ rfl (fun τ5 hD5 hU5 hQ5 => ?_)
  have hD := ((hD2.tr hD3).tr hD4).tr hD5
  refine aw_retv rfl ⟨rfl, hD.1.trans hD1.1, hD.2.1.trans hD1.2.1, (hD1.ex.tr Ex_pr (fun b hb _ => hb)).tr hD.ex (fun b hb _ => hb), hD.2.2.1.trans hD1.2.2.1, by rw [hD.2.2.2.1]; exact az_up_sf, fun w => ?_⟩
  rw [hU5, hU4, hU3, hU2]
  show (if w = 5 then y else if w = 4 then s else if w = 3 then t else if w = 2 then j else zx τ1 a w) = _
  rw [hU1]
set_option maxRecDepth 10000 in
theorem c_sinit {d : Nat} {σ : az_S} {a : Nat} {u v : Int} (ha : (az_sh σ a).1 = 8) (han : a < az_n σ) (hl : az_n σ < 900000) (hu : inI u) (hv : inI v) : cal (d + 2) 52 [.ref a, .int (iI u), .int (iI v)] σ (fun r τ => r = none ∧ az_n τ = az_n σ + 1 ∧ az_sl τ = az_sl σ + 12 ∧ az_sh τ (az_n σ) = (100, 12) ∧ Ex σ τ [a] ∧ az_r τ a 2 = some (az_n σ) ∧ zx τ a 0 = u ∧ zx τ a 1 = v ∧ ∀ w : Int, 0 ≤ w → w < 12 → zx τ (az_n σ) w = -1) := by
  obtain ⟨hu1, hu2⟩ := hu
  obtain ⟨hv1, hv2⟩ := hv
  refine cal_of (M := (yX7_init, cX7_init, 3, none)) (cd := k_X7_init) (L := [some (.ref a), some (.int (iI u)), some (.int (iI v))]) rfl (Nat.le_of_ble_eq_true rfl) rfl rfl ?_
  have q1 := Ex_nw (σ := σ) (kd := 100) (m := 12) (by omega)
  have q2 : az_sh (az_nw σ 100 12) (az_n σ) = (100, 12) := va_up_self _ _ _
  refine aw_aload_n rfl rfl rfl ?_
  refine aw_obj rfl (Nat.le_of_ble_eq_true rfl) rfl ?_
  refine aw_aload_n rfl rfl rfl ?_
  refine aw_bipush rfl rfl rfl ?_
  refine aw_newarr (N := 12) (kd := 100) rfl (by decide) rfl rfl (by omega) rfl ?_
  have h0 : (az_sh (az_nw σ 100 12) a).1 = 8 := by rw [q1.2.1 a (Or.inl han)]; exact ha
  refine aw_putr rfl rfl h0 rfl ?_
  refine aw_aload_n rfl rfl rfl ?_
  refine aw_iload_n rfl rfl rfl ?_
  refine aw_fs (0) rfl rfl h0 rfl ⟨by omega, by omega⟩ rfl (fun τ1 hD1 hU1 hQ1 => ?_)
  have h1 : (az_sh τ1 a).1 = 8 := by rw [hD1.2.2.1]; exact h0
  refine aw_aload_n rfl rfl rfl ?_
  refine aw_iload_n rfl rfl rfl ?_
  refine aw_fs (1) rfl rfl h1 rfl ⟨by omega, by omega⟩ rfl (fun τ2 hD2 hU2 hQ2 => ?_)
  have h2 : (az_sh τ2 a).1 = 8 := by rw [hD2.2.2.1]; exact h1
  refine aw_aload_n rfl rfl rfl ?_
  refine aw_getr (b := az_n σ) rfl rfl h2 (by rw [hD2.2.2.2.1, hD1.2.2.2.1]; exact az_up_sf) rfl ?_
  refine aw_iconst rfl rfl ?_
  have h3 : az_sh τ2 (az_n σ) = (100, 12) := by rw [hD2.2.2.1, hD1.2.2.1]; exact q2
  refine aw_calc (j_fill (N := 12) h3 (by decide) ⟨by omega, by omega⟩) rfl rfl rfl (Nat.le_of_ble_eq_true rfl) (Or.inl rfl) rfl ?_
  rintro _ τ3 ⟨rfl, hD3, hU3⟩
  have hD := hD1.tr hD2
  have hna : a ∉ [az_n σ] := by simp; omega
  refine aw_retv rfl ⟨rfl, hD3.1.trans hD.1, hD3.2.1.trans hD.2.1, by rw [hD3.2.2.1]; exact h3, ?_, by rw [hD3.2.2.2.1, hD.2.2.2.1]; exact az_up_sf, by rw [hD3.nz hna, hU2, if_neg (by decide), hU1, if_pos rfl], by rw [hD3.nz hna, hU2, if_pos rfl], fun w w0 w1 => by rw [hU3, if_pos ⟨w0, by omega⟩]⟩
  exact (((q1.su (T := [a]) (fun b hb => by simp at hb)).tr Ex_pr (fun b hb _ => hb)).tr hD.ex (fun b hb _ => hb)).tr hD3.ex (fun b hb h => by rw [List.mem_singleton.mp hb] at h; omega)
