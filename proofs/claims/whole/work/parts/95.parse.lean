/-! THE CLASS PARSES -/
def gs7 (g : Nat → Nat) (v : Nat) : Nat → Nat := fun c => if c = 700 then v else g c
theorem gs7_o {g : Nat → Nat} {v c : Nat} (h : c ≠ 700) : gs7 g v c = g c := if_neg h
theorem gs7_s {g : Nat → Nat} {v : Nat} : gs7 g v 700 = v := if_pos rfl
theorem gs7_i {g : Nat → Nat} : gs7 g (g 700) = g := by
  funext c
  unfold gs7
  split
  · rename_i h; rw [h]
  · rfl
/-- only the tariffs' references have changed -/
def Rr (σ τ : az_S) : Prop := τ.1 = σ.1 ∧ τ.2.1 = σ.2.1 ∧ az_sh τ = az_sh σ ∧ az_i τ = az_i σ ∧ az_l τ = az_l σ ∧ (∀ k, k ≠ 0 → k ≠ 40 → az_r τ k = az_r σ k) ∧ (∀ k, k ≠ 13 → k ≠ 14 → az_r τ 0 k = az_r σ 0 k) ∧ (∀ k, k ≠ 1 → az_r τ 40 k = az_r σ 40 k)
theorem fxq_0 : ∀ k b, fxq 0 k = some b → k ≠ 13 ∧ k ≠ 14 := by
  intro k b hb
  refine ⟨?_, ?_⟩ <;> (rintro rfl; revert hb; simp [fxq, fxl])
theorem fxq_40 : ∀ k b, fxq 40 k = some b → k ≠ 1 := by
  intro k b hb
  rintro rfl
  revert hb
  simp [fxq, fxl]
theorem CR.rr {sz : Nat} {κ : Nat × (Nat → Int32) × Option Nat} {A : Nat → Int → Int} {g : Nat → Nat} {σ τ : az_S} (h : CR sz κ A g σ) (hI : MI sz A) (hr : Rr σ τ) {v : Nat} (hv : v = 16 ∨ v = 22) (h13 : az_r τ 0 13 = some v) (h14 : az_r τ 0 14 = some (38 - v)) : CR sz κ A (gs7 g v) τ := by
  obtain ⟨r1, r2, r3, r4, r5, r6, r7, r8⟩ := hr
  have hth := hI.things
  have hpe := hI.people
  have hgr := hI.grants
  have hst := hI.stalls
  have hlim := h.lim
  have hn := h.n
  obtain ⟨l1, l2, l3, l4⟩ := h.lv hI
  have zz : ∀ a, zx τ a = zx σ a := fun a => by funext w; unfold zx zi; rw [r4]
  have zqq : ∀ a, zq τ a = zq σ a := fun a => by funext w; unfold zq; rw [r5]
  have nn : az_n τ = az_n σ := r1
  have s : ∀ a, a ≠ 0 → a ≠ 40 → Sm σ τ a := fun a h1 h2 => ⟨by rw [r3], by rw [r4], r6 a h1 h2⟩
  have eP : ∀ j : Int, 0 ≤ j → j < A 42 9 → gP (gs7 g v) j = gP g j := fun j a b => gs7_o (by omega)
  have eT : ∀ j : Int, 0 ≤ j → j < A 42 12 → gT (gs7 g v) j = gT g j := fun j a b => gs7_o (by omega)
  have eTd : ∀ j : Int, 0 ≤ j → j < A 42 12 → gTd (gs7 g v) j = gTd g j := fun j a b => gs7_o (by omega)
  have eTh : ∀ j : Int, 0 ≤ j → j < A 42 12 → gTh (gs7 g v) j = gTh g j := fun j a b => gs7_o (by omega)
  have eTt : ∀ j : Int, 0 ≤ j → j < A 42 12 → gTt (gs7 g v) j = gTt g j := fun j a b => gs7_o (by omega)
  have eG : ∀ j : Int, 0 ≤ j → j < A 42 27 → gG (gs7 g v) j = gG g j := fun j a b => gs7_o (by omega)
  have eS : ∀ j : Int, 0 ≤ j → j < A 42 66 → gS (gs7 g v) j = gS g j := fun j a b => gs7_o (by omega)
  have eSp : ∀ j : Int, 0 ≤ j → j < A 42 66 → gSp (gs7 g v) j = gSp g j := fun j a b => gs7_o (by omega)
  have lst : ∀ (a : Nat) (n : Int) (q : Nat) (el el' : Int → Nat), a ≠ 0 → a ≠ 40 → cLS σ a n q el → (∀ j : Int, 0 ≤ j → j < n → el' j = el j) → cLS τ a n q el' := by
    intro a n q el el' ha ha2 k he
    obtain ⟨k1, k2, k3⟩ := k
    refine ⟨by rw [zz]; exact k1, by rw [r6 a ha ha2]; exact k2, ?_⟩
    rcases k3 with k3 | ⟨k3, k4, cap, k5, k6, k7, k8⟩
    · exact Or.inl k3
    · exact Or.inr ⟨k3, by rw [nn]; exact k4, cap, by rw [r3]; exact k5, k6, k7, fun j x y => by rw [r6 q (by omega) (by omega), he j x y]; exact k8 j x y⟩
  have lv : ∀ c, live A c → c ≠ 700 := fun c hc => by unfold live at hc; omega
  refine ⟨⟨h.f.1, fun a ha => by rw [r3]; exact h.f.2.1 a ha, fun a k b hb => ?_⟩, fun a ha => ?_, by rw [nn]; exact h.n, by rw [zz]; exact h.today, by rw [zz]; exact h.ground, by rw [zz]; exact h.clouds, fun j a b => by rw [zz, zz]; exact h.sun j a b, fun j a b => by rw [zz]; exact h.cld j a b, by rw [zz]; exact h.fault, ⟨by rw [zz]; exact h.tape.1, fun j a b => by rw [zz]; exact h.tape.2 j a b⟩, ⟨by rw [zz]; exact h.path.1, by rw [zqq]; exact h.path.2.1, fun j a b => by rw [zz]; exact h.path.2.2 j a b⟩, ?_, ?_, ?_, ?_, ?_, ?_, ?_, ?_, ?_, ?_, ?_, ?_, ?_, by rw [nn]; exact h.lim⟩
  · by_cases e : a = 0
    · subst e
      have q := fxq_0 k b hb
      rw [r7 k q.1 q.2]
      exact h.f.2.2 0 k b hb
    · by_cases e2 : a = 40
      · subst e2
        rw [r8 k (fxq_40 k b hb)]
        exact h.f.2.2 40 k b hb
      · rw [r6 a e e2]; exact h.f.2.2 a k b hb
  · rw [r3, r4, r6 a (by omega) (by omega)]; exact h.k a ha
  · rw [gs7_o (by decide), r6 33 (by decide) (by decide)]; exact h.route
  · rw [gs7_s]; exact ⟨hv, h13, h14⟩
  · rw [gs7_o (by decide)]; exact lst _ _ _ _ _ (by decide) (by decide) h.lP eP
  · rw [gs7_o (by decide)]; exact lst _ _ _ _ _ (by decide) (by decide) h.lT eT
  · rw [gs7_o (by decide)]; exact lst _ _ _ _ _ (by decide) (by decide) h.lG eG
  · rw [gs7_o (by decide)]; exact lst _ _ _ _ _ (by decide) (by decide) h.lS eS
  · intro c hc; rw [gs7_o (lv c hc), nn]; exact h.pl c hc
  · intro c c' hc hc' e; rw [gs7_o (lv c hc), gs7_o (lv c' hc')] at e; exact h.inj c c' hc hc' e
  · intro c c' h1 h2 h3 h4 e e2; rw [gs7_o (by omega), gs7_o (by omega)] at e; rw [gs7_o (by omega)] at e2; exact h.inq c c' h1 h2 h3 h4 e e2
  · intro j h0 h1; exact (h.person j h0 h1).sm (s _ (by have := l1 j h0 h1; omega) (by have := l1 j h0 h1; omega)) (eP j h0 h1) rfl rfl
  · intro j h0 h1
    have := l2 j h0 h1
    exact (h.thing j h0 h1).sm (s _ (by omega) (by omega)) (s _ (by omega) (by omega)) (s _ (by omega) (by omega)) (s _ (by omega) (by omega)) (eT j h0 h1) (eTd j h0 h1) (eTh j h0 h1) (eTt j h0 h1) (fun _ _ _ _ => rfl) (fun _ _ _ _ _ _ => rfl)
  · intro j h0 h1
    have hG := (hI.grant j h0 h1).1
    exact (h.grant j h0 h1).sm (s _ (by have := l3 j h0 h1; omega) (by have := l3 j h0 h1; omega)) (eG j h0 h1) (eP _ (by omega) (by omega)) (fun _ _ _ => rfl)
  · intro j h0 h1
    have := l4 j h0 h1
    exact (h.stall j h0 h1).sm (s _ (by omega) (by omega)) (s _ (by omega) (by omega)) (eS j h0 h1) (eSp j h0 h1) rfl rfl (fun _ _ _ => rfl)
theorem aw_post {d : Nat} {cd : List az_I} {rt : Option FieldType} {P P' : Option Value → az_S → Prop} {pc : Nat} {L : az_V} {st : List Value} {σ : az_S} (h : aw d cd rt P pc L st σ) (hp : ∀ r τ, P r τ → P' r τ) : aw d cd rt P' pc L st σ := by
  obtain ⟨r, t, k, h1, h2⟩ := h
  exact ⟨r, t, k, h1, hp r t h2⟩
theorem Rr_40 (σ : az_S) (b : Nat) : Rr σ (az_pr σ 40 1 (some b)) := by
  refine ⟨rfl, rfl, rfl, rfl, rfl, fun k h0 h1 => ?_, fun k _ _ => ?_, fun k hk => ?_⟩
  · show az_up σ.2.2.2.2.2 40 1 (some b) k = _
    rw [az_up_ne h1]
  · show az_up σ.2.2.2.2.2 40 1 (some b) 0 k = _
    rw [az_up_ne (by decide)]
  · show az_up σ.2.2.2.2.2 40 1 (some b) 40 k = _
    rw [az_up_nk hk]
theorem pr40 (σ : az_S) (b : Nat) : az_r (az_pr σ 40 1 (some b)) 40 1 = some b := by
  show az_up σ.2.2.2.2.2 40 1 (some b) 40 1 = _
  rw [az_up_sf]
theorem c_clearg {d : Nat} {sz : Nat} {κ : Nat × (Nat → Int32) × Option Nat} {A : Nat → Int → Int} {g : Nat → Nat} {σ : az_S} {b : Nat} (hb : b = 16 ∨ b = 22) (hC : CR sz κ A g σ) (hI : MI sz A) : cal (d + 1) 76 [.ref b] σ (fun r τ => r = none ∧ CR sz κ A g τ ∧ Mod σ τ [b] ∧ zx τ b 5 = 0 ∧ zx τ b 6 = 0) := by
  rcases hb with rfl | rfl
  · exact c_clear16 hC hI
  · exact c_clear22 hC hI
/-- the tokens of a text -/
def Toks (A : Nat → Int → Int) (K V S E : Int → Int) (T : Int) : Prop := E (-1) = 0 ∧ (0 ≤ T ∧ T ≤ 400) ∧ ∀ n : Int, 0 ≤ n → n ≤ T → Tk (A 74) (A 42 40) (E (n - 1)) (K n) (V n) (S n) (E n) ∧ (K n = 0 ↔ n = T)
theorem TS.tk {A : Nat → Int → Int} {τ : az_S} {E : Int → Int} {T : Int} (h : TS A τ E T) : Toks A (zx τ 11) (zx τ 13) (zx τ 12) E T := ⟨h.1, h.2.1, h.2.2.2⟩
def PQ (sz : Nat) (κ : Nat × (Nat → Int32) × Option Nat) (A : Nat → Int → Int) (g : Nat → Nat) (T : Int) (b : Nat) (σ : az_S) (K V S : Int → Int) : Option Value → az_S → Prop := fun r τ => CR sz κ A g τ ∧ Mod σ τ [40, b, b + 1, b + 2, b + 3, b + 4] ∧ ((r = some (.int (iI 1)) ∧ ∃ R, PW R ∧ cTar τ b R ∧ zx τ 40 4 = 0 ∧ zx τ 40 5 = -1 ∧ Rch K V S (CT0 0 []) (CT0 T R)) ∨ (r = some (.int (iI 0)) ∧ ∃ x f, zx τ 40 4 = f ∧ f ≠ 0 ∧ zx τ 40 5 = S x ∧ ∃ e : Cf, Rch K V S (CT0 0 []) e ∧ e.wr = f ∧ e.wa = S x))
set_option maxRecDepth 10000 in
set_option maxHeartbeats 2000000 in
theorem pa78 {d : Nat} {sz : Nat} {κ : Nat × (Nat → Int32) × Option Nat} {A : Nat → Int → Int} {g : Nat → Nat} {E : Int → Int} {T : Int} {b : Nat} (hb : b = 16 ∨ b = 22) (hI : MI sz A) {σ τ : az_S} {x f i : Int} (hC : CR sz κ A g τ) (hTS : TS A σ E T) (hD : Mod σ τ [40, b, b + 1, b + 2, b + 3, b + 4]) (hq : BDp x f τ) (hf : f ≠ 0) (hx : 0 ≤ x ∧ x ≤ T) (hF : ∃ e : Cf, Rch (zx σ 11) (zx σ 13) (zx σ 12) (CT0 0 []) e ∧ e.wr = f ∧ e.wa = zx σ 12 x) : aw (d + 1) k_X2_parseInto (some .boolean) (PQ sz κ A g T b σ (zx σ 11) (zx σ 13) (zx σ 12)) 78 [some (.ref 40), some (.ref b), some (.int (iI i))] [] τ := by
  have hfl := zx_lo τ 40 4
  have hfh := zx_hi τ 40 4
  rw [hq.2.2] at hfl hfh
  have et := hD.tok6 hb
  have hTb := hTS.2.1
  have hTS2 : TS A τ E T := by unfold TS; rw [et.1, et.2.1, et.2.2.1, et.2.2.2]; exact hTS
  refine aw_aload_n rfl rfl rfl ?_
  refine aw_gk (v := f) (4) rfl rfl (hC.f.k 40 rfl) rfl hq.2.2 rfl (fun _ _ => ?_)
  refine aw_if (p' := 100) rfl ⟨by omega, by omega⟩ rfl rfl (fun c => ?_) (fun _ => ?_)
  · dsimp only [zc] at c
    omega
  · refine aw_aload_n rfl rfl rfl ?_
    refine aw_aload_n rfl rfl rfl ?_
    refine aw_getr (b := 9) rfl rfl (hC.f.k 40 rfl) (hC.f.r 40 0 9 rfl) rfl ?_
    refine aw_aload_n rfl rfl rfl ?_
    refine aw_gk (v := x) (2) rfl rfl (hC.f.k 40 rfl) rfl hq.1 rfl (fun _ _ => ?_)
    refine aw_fnc (c_startOf hC hI hTS2 hx.1 hx.2) rfl rfl rfl (Nat.le_of_ble_eq_true rfl) (Or.inr ⟨_, rfl, (hC.f.k 9 rfl)⟩) rfl ?_
    have hkl := zx_lo τ 12 x
    have hkh := zx_hi τ 12 x
    refine aw_cf (5) hC hI rfl rfl (hC.f.k 40 rfl) rfl rfl ⟨by omega, by omega⟩ rfl (fun τ1 hC1 hD1 hU1 => ?_)
    refine aw_aload_n rfl rfl rfl ?_
    refine aw_gk (v := f) (4) rfl rfl (hC1.f.k 40 rfl) rfl (by rw [hU1, if_neg (by decide)]; exact hq.2.2) rfl (fun _ _ => ?_)
    refine aw_if (p' := 111) rfl ⟨by omega, by omega⟩ rfl rfl (fun _ => ?_) (fun c => ?_)
    · refine aw_iconst rfl rfl ?_
      refine aw_retn rfl (by first | rfl | exact bI_nar _) ?_
      refine ⟨hC1, hD.tr (hD1.s6d hb), Or.inr ⟨rfl, x, f, by rw [hU1, if_neg (by decide)]; exact hq.2.2, hf, by rw [hU1, if_pos rfl, et.2.2.1], hF⟩⟩
    · dsimp only [zc] at c
      omega
set_option maxRecDepth 10000 in
set_option maxHeartbeats 2000000 in
theorem pa48b {d : Nat} {sz : Nat} {κ : Nat × (Nat → Int32) × Option Nat} {A : Nat → Int → Int} {g : Nat → Nat} {E : Int → Int} {T : Int} {b : Nat} (hb : b = 16 ∨ b = 22) (hI : MI sz A) {σ τ : az_S} {x f i : Int} (hi : inI i) (hC : CR sz κ A g τ) (hTS : TS A σ E T) (hD : Mod σ τ [40, b, b + 1, b + 2, b + 3, b + 4]) (hq : BDp x f τ) (hf : f ≠ 0) (hx : 0 ≤ x ∧ x ≤ T) (hF : ∃ e : Cf, Rch (zx σ 11) (zx σ 13) (zx σ 12) (CT0 0 []) e ∧ e.wr = f ∧ e.wa = zx σ 12 x) : aw (d + 1) k_X2_parseInto (some .boolean) (PQ sz κ A g T b σ (zx σ 11) (zx σ 13) (zx σ 12)) 48 [some (.ref 40), some (.ref b), some (.int (iI i))] [] τ := by
  obtain ⟨hi1, hi2⟩ := hi
  have hfl := zx_lo τ 40 4
  have hfh := zx_hi τ 40 4
  rw [hq.2.2] at hfl hfh
  refine aw_iload_n rfl rfl rfl ?_
  refine aw_bipush rfl rfl rfl ?_
  refine aw_icmp (p' := 78) rfl ⟨by omega, by omega⟩ ⟨by omega, by omega⟩ rfl rfl (fun _ => pa78 hb hI hC hTS hD hq hf hx hF) (fun _ => ?_)
  refine aw_aload_n rfl rfl rfl ?_
  refine aw_gk (v := 1) (3) rfl rfl (hC.f.k 40 rfl) rfl hq.2.1 rfl (fun _ _ => ?_)
  refine aw_if (p' := 78) rfl ⟨by omega, by omega⟩ rfl rfl (fun c => ?_) (fun _ => ?_)
  · dsimp only [zc] at c
    omega
  · refine aw_aload_n rfl rfl rfl ?_
    refine aw_gk (v := f) (4) rfl rfl (hC.f.k 40 rfl) rfl hq.2.2 rfl (fun _ _ => ?_)
    refine aw_if (p' := 78) rfl ⟨by omega, by omega⟩ rfl rfl (fun _ => pa78 hb hI hC hTS hD hq hf hx hF) (fun c => ?_)
    dsimp only [zc] at c
    omega
set_option maxRecDepth 10000 in
set_option maxHeartbeats 2000000 in
theorem pa48 {sz : Nat} {κ : Nat × (Nat → Int32) × Option Nat} {A : Nat → Int → Int} {g : Nat → Nat} {E : Int → Int} {T : Int} {b : Nat} (hb : b = 16 ∨ b = 22) (hI : MI sz A) {σ : az_S} (hTS : TS A σ E T) : ∀ (n : Nat) (τ : az_S) (a : Int) (R : tRules), (T - a).toNat = n → RS sz κ A g E T b τ a R → Mod σ τ [40, b, b + 1, b + 2, b + 3, b + 4] → Rch (zx σ 11) (zx σ 13) (zx σ 12) (CT0 0 []) (CT0 a R) → aw 41 k_X2_parseInto (some .boolean) (PQ sz κ A g T b σ (zx σ 11) (zx σ 13) (zx σ 12)) 48 [some (.ref 40), some (.ref b), some (.int (iI (R.length : Int)))] [] τ := by
  intro n
  induction n using Nat.strongRecOn with
  | ind n ih =>
  intro τ a R hn hR hD hcf
  obtain ⟨⟨hC, hTS1, hrb, hok, ha, hl5, hl6⟩, hT6, hR20, hrk⟩ := id hR
  have et := hD.tok6 hb
  have kT := (hTS1.2.2.2 a ha.1 ha.2).2
  have hkl := zx_lo τ 11 a
  have hkh := zx_hi τ 11 a
  have hTb := hTS1.2.1
  refine aw_iload_n rfl rfl rfl ?_
  refine aw_bipush rfl rfl rfl ?_
  refine aw_icmp (p' := 78) rfl ⟨by omega, by omega⟩ ⟨by omega, by omega⟩ rfl rfl (fun c => ?_) (fun _ => ?_)
  · dsimp only [zc] at c
    omega
  · refine aw_aload_n rfl rfl rfl ?_
    refine aw_gk (v := zx τ 11 a) (3) rfl rfl (hC.f.k 40 rfl) rfl hok.2.1 rfl (fun _ _ => ?_)
    refine aw_if (p' := 78) rfl ⟨by omega, by omega⟩ rfl rfl (fun c => ?_) (fun c => ?_)
    · dsimp only [zc] at c
      have haT : a = T := kT.mp c
      refine aw_aload_n rfl rfl rfl ?_
      refine aw_gk (v := 0) (4) rfl rfl (hC.f.k 40 rfl) rfl hok.2.2.1 rfl (fun _ _ => ?_)
      refine aw_if (p' := 100) rfl ⟨by omega, by omega⟩ rfl rfl (fun _ => ?_) (fun c2 => ?_)
      · refine aw_aload_n rfl rfl rfl ?_
        refine aw_gk (v := 0) (4) rfl rfl (hC.f.k 40 rfl) rfl hok.2.2.1 rfl (fun _ _ => ?_)
        refine aw_if (p' := 111) rfl ⟨by omega, by omega⟩ rfl rfl (fun c2 => ?_) (fun _ => ?_)
        · dsimp only [zc] at c2
          omega
        · refine aw_iconst rfl rfl ?_
          refine aw_goto (p' := 112) rfl rfl ?_
          refine aw_retn rfl (by first | rfl | exact bI_nar _) ?_
          rw [haT] at hcf
          exact ⟨hC, hD, Or.inl ⟨rfl, R, ⟨hR20, by omega, hrk⟩, hT6, hok.2.2.1, hok.2.2.2, hcf⟩⟩
      · dsimp only [zc] at c2
        omega
    · dsimp only [zc] at c
      refine aw_aload_n rfl rfl rfl ?_
      refine aw_gk (v := 0) (4) rfl rfl (hC.f.k 40 rfl) rfl hok.2.2.1 rfl (fun _ _ => ?_)
      refine aw_if (p' := 78) rfl ⟨by omega, by omega⟩ rfl rfl (fun c2 => ?_) (fun _ => ?_)
      · dsimp only [zc] at c2
        omega
      · refine aw_aload_n rfl rfl rfl ?_
        refine aw_calc (c_rule hb hI hR c) rfl rfl rfl (Nat.le_of_ble_eq_true rfl) (Or.inr ⟨_, rfl, (hC.f.k 40 rfl)⟩) rfl ?_
        rintro _ τ1 ⟨rfl, hC1, hD1, hcs⟩
        have hD01 := hD.tr hD1
        change aw _ _ _ _ 72 [some (.ref 40), some (.ref b), some (.int (iI (R.length : Int)))] [] _
        refine aw_iinc rfl rfl rfl rfl ?_
        change aw _ _ _ _ 75 [some (.ref 40), some (.ref b), some (.int (iI ((R.length : Int) + 1)))] [] _
        refine aw_goto (p' := 48) rfl rfl ?_
        rw [et.2.1, et.2.2.1, et.2.2.2] at hcs
        rcases hcs with ⟨a1, R1, h1, h2, h3, h4⟩ | ⟨x, f, h1, h2, h3, h4, e, h5, h6, h7⟩
        · have e1 : (R.length : Int) + 1 = (R1.length : Int) := by rw [h3]; push_cast; rfl
          rw [e1]
          have := h2.1.2.2.2.2.1
          exact ih (T - a1).toNat (by omega) τ1 a1 R1 rfl h2 hD01 (hcf.tr h4)
        · exact pa48b hb hI ⟨by omega, by omega⟩ hC1 hTS hD01 h1 h2 h3 ⟨e, hcf.tr h5, h6, h7⟩

set_option maxRecDepth 10000 in
set_option maxHeartbeats 2000000 in
theorem c_parse {sz : Nat} {κ : Nat × (Nat → Int32) × Option Nat} {A : Nat → Int → Int} {g : Nat → Nat} {σ : az_S} {b : Nat} (hb : b = 16 ∨ b = 22) (hC : CR sz κ A g σ) (hI : MI sz A) : cal 42 11 [.ref 40, .ref b] σ (fun r τ => ∃ (K V S E : Int → Int) (T : Int), Toks A K V S E T ∧ Mod (az_pr σ 40 1 (some b)) τ ([9, 11, 12, 13] ++ [40, b, b + 1, b + 2, b + 3, b + 4]) ∧ CR sz κ A g τ ∧ ((r = some (.int (iI 1)) ∧ ∃ R, PW R ∧ cTar τ b R ∧ zx τ 40 4 = 0 ∧ zx τ 40 5 = -1 ∧ Rch K V S (CT0 0 []) (CT0 T R)) ∨ (r = some (.int (iI 0)) ∧ ∃ x f, zx τ 40 4 = f ∧ f ≠ 0 ∧ zx τ 40 5 = S x ∧ ∃ e : Cf, Rch K V S (CT0 0 []) e ∧ e.wr = f ∧ e.wa = S x))) := by
  refine cal_of (d := 41) (M := (yX2_parseInto, cX2_parseInto, 3, (some .boolean))) (cd := k_X2_parseInto) (L := [some (.ref 40), some (.ref b), none]) rfl (Nat.le_of_ble_eq_true rfl) rfl rfl ?_
  refine aw_aload_n rfl rfl rfl ?_
  refine aw_aload_n rfl rfl rfl ?_
  refine aw_putr rfl rfl (hC.f.k 40 rfl) rfl ?_
  have hrr := Rr_40 σ b
  have hC1 : CR sz κ A g (az_pr σ 40 1 (some b)) := by
    have e13 : az_r (az_pr σ 40 1 (some b)) 0 13 = az_r σ 0 13 := by show az_up σ.2.2.2.2.2 40 1 (some b) 0 13 = _; rw [az_up_ne (by decide)]
    have e14 : az_r (az_pr σ 40 1 (some b)) 0 14 = az_r σ 0 14 := by show az_up σ.2.2.2.2.2 40 1 (some b) 0 14 = _; rw [az_up_ne (by decide)]
    have q := hC.rr hI hrr hC.force.1 (e13.trans hC.force.2.1) (e14.trans hC.force.2.2)
    rw [gs7_i] at q
    exact q
  have hr1 := pr40 σ b
  generalize az_pr σ 40 1 (some b) = σ1 at hC1 hr1 ⊢
  refine aw_aload_n rfl rfl rfl ?_
  refine aw_getr (b := b) rfl rfl (hC1.f.k 40 rfl) hr1 rfl ?_
  refine aw_calc (c_clearg hb hC1 hI) rfl rfl rfl (Nat.le_of_ble_eq_true rfl) (Or.inr ⟨_, rfl, (hC1.f.tar hb).1⟩) rfl ?_
  rintro _ σ2 ⟨rfl, hC2, hD2, h25, h26⟩
  change aw _ _ _ _ 12 [some (.ref 40), some (.ref b), none] [] _
  refine aw_aload_n rfl rfl rfl ?_
  refine aw_getr (b := 9) rfl rfl (hC2.f.k 40 rfl) (hC2.f.r 40 0 9 rfl) rfl ?_
  refine aw_calc (c_cut hC2 hI) rfl rfl rfl (Nat.le_of_ble_eq_true rfl) (Or.inr ⟨_, rfl, (hC2.f.k 9 rfl)⟩) rfl ?_
  rintro _ σ3 ⟨rfl, hC3, hD3, E, T, hTS3⟩
  change aw _ _ _ _ 19 [some (.ref 40), some (.ref b), none] [] _
  have hTb := hTS3.2.1
  refine aw_aload_n rfl rfl rfl ?_
  refine aw_iconst rfl rfl ?_
  refine aw_cf (2) hC3 hI rfl rfl (hC3.f.k 40 rfl) rfl rfl ⟨by omega, by omega⟩ rfl (fun σ4 hC4 hD4 hU4 => ?_)
  have hTS4 := hTS3.mod hD4 rfl rfl rfl rfl
  refine aw_aload_n rfl rfl rfl ?_
  refine aw_aload_n rfl rfl rfl ?_
  refine aw_getr (b := 9) rfl rfl (hC4.f.k 40 rfl) (hC4.f.r 40 0 9 rfl) rfl ?_
  refine aw_iconst rfl rfl ?_
  refine aw_fnc (c_kindOf hC4 hI hTS4 (by omega) (by omega)) rfl rfl rfl (Nat.le_of_ble_eq_true rfl) (Or.inr ⟨_, rfl, (hC4.f.k 9 rfl)⟩) rfl ?_
  have hkl := zx_lo σ4 11 0
  have hkh := zx_hi σ4 11 0
  refine aw_cf (3) hC4 hI rfl rfl (hC4.f.k 40 rfl) rfl rfl ⟨by omega, by omega⟩ rfl (fun σ5 hC5 hD5 hU5 => ?_)
  refine aw_aload_n rfl rfl rfl ?_
  refine aw_iconst rfl rfl ?_
  refine aw_cf (4) hC5 hI rfl rfl (hC5.f.k 40 rfl) rfl rfl ⟨by omega, by omega⟩ rfl (fun σ6 hC6 hD6 hU6 => ?_)
  refine aw_aload_n rfl rfl rfl ?_
  refine aw_iconst rfl rfl ?_
  refine aw_cf (5) hC6 hI rfl rfl (hC6.f.k 40 rfl) rfl rfl ⟨by omega, by omega⟩ rfl (fun σ7 hC7 hD7 hU7 => ?_)
  refine aw_iconst rfl rfl ?_
  refine aw_istore_n rfl (Nat.le_of_ble_eq_true rfl) rfl rfl ?_
  change aw _ _ _ _ 48 [some (.ref 40), some (.ref b), some (.int (iI 0))] _ _
  have hD47 : Mod σ3 σ7 [40] := ((hD4.tr hD5).tr hD6).tr hD7
  have hTS7 := hTS3.mod hD47 rfl rfl rfl rfl
  have tb := (hD47.t40 hb).1
  have hb3 : zx σ3 b = zx σ2 b := by rcases hb with rfl | rfl <;> exact hD3.z _ rfl
  have hok7 : OKp 0 σ7 := by
    refine ⟨by rw [hU7, if_neg (by decide), hU6, if_neg (by decide), hU5, if_neg (by decide), hU4, if_pos rfl], ?_, by rw [hU7, if_neg (by decide), hU6, if_pos rfl], by rw [hU7, if_pos rfl]⟩
    rw [hU7, if_neg (by decide), hU6, if_neg (by decide), hU5, if_pos rfl, hD7.z 11 rfl, hD6.z 11 rfl, hD5.z 11 rfl]
  have h57 : zx σ7 b 5 = 0 := by rw [tb, hb3]; exact h25
  have h67 : zx σ7 b 6 = 0 := by rw [tb, hb3]; exact h26
  have hr7 : az_r σ7 40 1 = some b := by rw [hD47.2.2.2.1, hD3.2.2.2.1, hD2.2.2.2.1]; exact hr1
  have hRS : RS sz κ A g E T b σ7 0 [] := ⟨⟨hC7, hTS7, hr7, hok7, ⟨by omega, by omega⟩, h57, by decide, by decide⟩, ⟨h57, h67, trivial⟩, by decide, fun p hp => by cases hp⟩
  have hm : Mod σ1 σ7 ([9, 11, 12, 13] ++ [40, b, b + 1, b + 2, b + 3, b + 4]) := by
    rcases hb with rfl | rfl
    · exact ((hD2.su rfl).tr (hD3.su rfl)).tr (hD47.su rfl)
    · exact ((hD2.su rfl).tr (hD3.su rfl)).tr (hD47.su rfl)
  refine aw_post (pa48 hb hI hTS7 _ σ7 0 [] rfl hRS Mod.rf (Rch.rf _)) (fun r τ hr => ?_)
  obtain ⟨q1, q2, q3⟩ := hr
  refine ⟨_, _, _, E, T, hTS7.tk, hm.tr ?_, q1, q3⟩
  rcases hb with rfl | rfl
  · exact q2.su rfl
  · exact q2.su rfl
