set_option maxRecDepth 10000 in
set_option maxHeartbeats 2000000 in
theorem c_hour0_l3 {d : Nat} {sz : Nat} {κ : Nat × (Nat → Int32) × Option Nat} {A : Nat → Int → Int} {g : Nat → Nat} {σ : az_S} (hC : CR sz κ A g σ) (hI : MI sz A) (hv : g 701 = 0) {R : tRules} (hR : PW R) (hT : cTar σ (g 700) R) {x h : Int} (hx0 : 0 ≤ x) (hx1 : x ≤ 3599) (hh0 : 0 ≤ h) (hh1 : h ≤ 11) (hS : cSL A x (A 42 3) σ) (hU0 : cST A x h (A 42 3) σ) {f f' : Int → Int × Int} {rc : Int → Prop} {nx : Int → Int} {u m lb : Int} (hu0 : 0 ≤ u) (hu1 : u < A 42 2) (hm0 : 0 ≤ m) (hm1 : m ≤ 11) (hlb : lb = 0 ∨ lb = 1) (hAf : cAf A f rc 37 39 (A 42 2) σ) (hfb : ∀ e : Int, 0 ≤ e → e < A 42 2 → (0 ≤ (f e).1 ∧ (f e).1 ≤ 1000) ∧ (0 ≤ (f e).2 ∧ (f e).2 ≤ 1000000000000)) (hf1 : ∀ e : Int, 0 ≤ e → e < A 42 2 → (f e).1 ≤ 20 ∨ (f e).1 = 1000) (hnx : ∀ c : Int, 0 ≤ c → c < A 42 2 → (gSteps A u c ≤ m) → (lb = 1 → nx c = c) ∧ (lb = 0 → nx c = wNx A f c)) (hrk : lb = 0 → ∀ c : Int, 0 ≤ c → c < A 42 2 → (gSteps A u c ≤ m) → ∀ k : Int, 0 ≤ k → k < 5 → 0 ≤ mBeside A c k → rc (mBeside A c k)) (hst : ∀ c : Int, 0 ≤ c → c < A 42 2 → (gSteps A u c ≤ m) → (((mOpen A c x (A 42 3) ∧ ¬ mTaken A c x h) ∧ ((0 ≤ (nx c) ∧ (nx c) < A 42 2) ∧ rc (nx c) ∧ (f (nx c)).1 < 1000)) → f' c = (wSun A x h c + (f (nx c)).1, wCost A R x h c + (f (nx c)).2)) ∧ (¬ ((mOpen A c x (A 42 3) ∧ ¬ mTaken A c x h) ∧ ((0 ≤ (nx c) ∧ (nx c) < A 42 2) ∧ rc (nx c) ∧ (f (nx c)).1 < 1000)) → (f' c).1 = 1000)) (hs0 : ∀ e : Int, 0 ≤ e → e < A 42 2 → zx σ 36 e = -1) : ∀ (n : Nat) (τ : az_S) (c : Int) (w1 w2 : Option Value), (A 42 2 - c).toNat = n → CR sz κ A g τ → Mod σ τ [14, 21, 27, 35, 36, 38] → 0 ≤ c → c ≤ A 42 2 → cAf A f' (fun c => (gSteps A u c ≤ m)) 36 38 c τ → (∀ e : Int, c ≤ e → e < A 42 2 → zx τ 36 e = -1) → (∀ c2 : Int, 0 ≤ c2 → c2 < c → gSteps A u c2 ≤ m → (f' c2).1 < 1000 → zx τ 35 (h * A 42 2 + c2) = nx c2) → (∀ w : Int, (w < h * A 42 2 ∨ h * A 42 2 + A 42 2 ≤ w) → zx τ 35 w = zx σ 35 w) → aw (d + 5) k_X11_leadThroughHour none (fun r τ => r = none ∧ CR sz κ A g τ ∧ Mod σ τ [14, 21, 27, 35, 36, 38] ∧ cAf A f' (fun c => (gSteps A u c ≤ m)) 36 38 (A 42 2) τ ∧ (∀ c : Int, 0 ≤ c → c < A 42 2 → (gSteps A u c ≤ m) → (f' c).1 < 1000 → zx τ 35 (h * A 42 2 + c) = nx c) ∧ (∀ w : Int, (w < h * A 42 2 ∨ h * A 42 2 + A 42 2 ≤ w) → zx τ 35 w = zx σ 35 w)) 3 [some (.ref 0), some (.int (iI h)), some (.int (iI u)), some (.int (iI m)), some (.int (iI lb)), some (.int (iI c)), w1, w2] [] τ := by
  intro n
  induction n using Nat.strongRecOn with
  | ind n ih =>
    intro τ c w1 w2 hn hN hD hc0 hc1 hcf hs1 hnn hw
    obtain ⟨hR1, hR2, hR3⟩ := hR
    have hb7 := hC.force.1
    have hce := hI.cells
    have hcl := hI.clock
    have hsz := hC.f.1
    have hgs := fun q => gSteps_b hI hu0 hu1 hc0 q
    have hsm := mSet_b hI x h (A 42 3) c
    have hAf2 := hAf.mi hD.mi rfl rfl
    refine aw_iload rfl rfl rfl ?_
    refine aw_aload_n rfl rfl rfl ?_
    refine aw_getr (b := 28) rfl rfl (hN.f.k 0 rfl) (hN.f.r 0 0 28 rfl) rfl ?_
    refine aw_gk (v := A 42 2) (2) rfl rfl (hN.f.k 28 rfl) rfl hN.ground.2.2 rfl (fun _ _ => ?_)
    refine aw_icmp (p' := 120) rfl ⟨by omega, by omega⟩ ⟨by omega, by omega⟩ rfl rfl (fun c1 => ?_) (fun c1 => ?_)
    · dsimp only [zc] at c1
      refine aw_retv rfl ?_
      refine ⟨rfl, hN, (hD.su (T := [14, 21, 27, 35, 36, 38]) rfl), ?_, ?_, hw⟩
      · rw [show A 42 2 = c by omega]; exact hcf
      · intro e e0 e1 r1 r2; exact hnn e e0 (by omega) r1 r2
    · dsimp only [zc] at c1
      have hgs := hgs (by omega)
      refine aw_aload_n rfl rfl rfl ?_
      refine aw_getr (b := 28) rfl rfl (hN.f.k 0 rfl) (hN.f.r 0 0 28 rfl) rfl ?_
      refine aw_iload_n rfl rfl rfl ?_
      refine aw_iload rfl rfl rfl ?_
      refine aw_fnc (c_steps hN hI (by omega) (by omega) (by omega) (by omega)) rfl rfl rfl (Nat.le_of_ble_eq_true rfl) (Or.inr ⟨_, rfl, (hN.f.k 28 rfl)⟩) rfl ?_
      refine aw_iload_n rfl rfl rfl ?_
      refine aw_icmp (p' := 114) rfl ⟨by omega, by omega⟩ ⟨by omega, by omega⟩ rfl rfl (fun c2 => ?_) (fun c2 => ?_)
      · dsimp only [zc] at c2
        refine aw_iinc rfl rfl rfl rfl ?_
        change aw _ _ _ _ 117 [some (.ref 0), some (.int (iI _)), some (.int (iI _)), some (.int (iI _)), some (.int (iI _)), some (.int (iI _)), _, _] _ _
        refine aw_goto (p' := 3) rfl rfl ?_
        refine ih _ (by omega) _ _ _ _ rfl hN (hD.su (T := [14, 21, 27, 35, 36, 38]) rfl) (by omega) (by omega) (fun e e0 e1 => ?_) (fun e e0 e1 => hs1 e (by omega) e1) (fun e e0 e1 r1 r2 => ?_) hw
        · by_cases ee : e = c
          · rw [ee]
            have hno : ¬ (gSteps A u c ≤ m ∧ (f' c).1 < 1000) := by
              rintro ⟨q1, q2⟩
              have q3 := hst c hc0 (by omega) q1
              have q4 := hnx c hc0 (by omega) q1
              have q5 : ¬ ((mOpen A c x (A 42 3) ∧ ¬ mTaken A c x h) ∧ ((0 ≤ (nx c) ∧ (nx c) < A 42 2) ∧ rc (nx c) ∧ (f (nx c)).1 < 1000)) := by
                rintro ⟨q6, q7⟩
                first | omega | exact absurd q6 (by assumption) | (rw [q4.1 (by omega)] at q7; exact absurd q7 (by assumption)) | (rw [q4.2 (by omega)] at q7; exact absurd q7 (by assumption))
              have := q3.2 q5
              omega
            exact ⟨fun q => absurd q hno, fun _ => hs1 c (by omega) (by omega)⟩
          · exact hcf e e0 (by omega)
        · by_cases ee : e = c
          · exfalso
            rw [ee] at r1 r2
            have q3 := hst c hc0 (by omega) r1
            have q4 := hnx c hc0 (by omega) r1
            have q5 : ¬ ((mOpen A c x (A 42 3) ∧ ¬ mTaken A c x h) ∧ ((0 ≤ (nx c) ∧ (nx c) < A 42 2) ∧ rc (nx c) ∧ (f (nx c)).1 < 1000)) := by
              rintro ⟨q6, q7⟩
              first | omega | exact absurd q6 (by assumption) | (rw [q4.1 (by omega)] at q7; exact absurd q7 (by assumption)) | (rw [q4.2 (by omega)] at q7; exact absurd q7 (by assumption))
            have := q3.2 q5
            omega
          · exact hnn e e0 (by omega) r1 r2
      · dsimp only [zc] at c2
        refine aw_aload_n rfl rfl rfl ?_
        refine aw_iload rfl rfl rfl ?_
        refine aw_iload_n rfl rfl rfl ?_
        refine aw_fnc (c_mayWalk hN hI hx0 hx1 hh0 hh1 (hS.mod hD rfl rfl rfl) (by omega) (by omega)) rfl rfl rfl (Nat.le_of_ble_eq_true rfl) (Or.inr ⟨_, rfl, (hN.f.k 0 rfl)⟩) rfl ?_
        refine aw_ifeqb (p' := 114) rfl rfl rfl (fun c3 => ?_) (fun c3 => ?_)
        · refine aw_iinc rfl rfl rfl rfl ?_
          change aw _ _ _ _ 117 [some (.ref 0), some (.int (iI _)), some (.int (iI _)), some (.int (iI _)), some (.int (iI _)), some (.int (iI _)), _, _] _ _
          refine aw_goto (p' := 3) rfl rfl ?_
          refine ih _ (by omega) _ _ _ _ rfl hN (hD.su (T := [14, 21, 27, 35, 36, 38]) rfl) (by omega) (by omega) (fun e e0 e1 => ?_) (fun e e0 e1 => hs1 e (by omega) e1) (fun e e0 e1 r1 r2 => ?_) hw
          · by_cases ee : e = c
            · rw [ee]
              have hno : ¬ (gSteps A u c ≤ m ∧ (f' c).1 < 1000) := by
                rintro ⟨q1, q2⟩
                have q3 := hst c hc0 (by omega) q1
                have q4 := hnx c hc0 (by omega) q1
                have q5 : ¬ ((mOpen A c x (A 42 3) ∧ ¬ mTaken A c x h) ∧ ((0 ≤ (nx c) ∧ (nx c) < A 42 2) ∧ rc (nx c) ∧ (f (nx c)).1 < 1000)) := by
                  rintro ⟨q6, q7⟩
                  first | omega | exact absurd q6 (by assumption) | (rw [q4.1 (by omega)] at q7; exact absurd q7 (by assumption)) | (rw [q4.2 (by omega)] at q7; exact absurd q7 (by assumption))
                have := q3.2 q5
                omega
              exact ⟨fun q => absurd q hno, fun _ => hs1 c (by omega) (by omega)⟩
            · exact hcf e e0 (by omega)
          · by_cases ee : e = c
            · exfalso
              rw [ee] at r1 r2
              have q3 := hst c hc0 (by omega) r1
              have q4 := hnx c hc0 (by omega) r1
              have q5 : ¬ ((mOpen A c x (A 42 3) ∧ ¬ mTaken A c x h) ∧ ((0 ≤ (nx c) ∧ (nx c) < A 42 2) ∧ rc (nx c) ∧ (f (nx c)).1 < 1000)) := by
                rintro ⟨q6, q7⟩
                first | omega | exact absurd q6 (by assumption) | (rw [q4.1 (by omega)] at q7; exact absurd q7 (by assumption)) | (rw [q4.2 (by omega)] at q7; exact absurd q7 (by assumption))
              have := q3.2 q5
              omega
            · exact hnn e e0 (by omega) r1 r2
        · refine aw_iload rfl rfl rfl ?_
          refine aw_if (p' := 49) rfl ⟨by omega, by omega⟩ rfl rfl (fun c4 => ?_) (fun c4 => ?_)
          · dsimp only [zc] at c4
            skip
            refine aw_aload_n rfl rfl rfl ?_
            refine aw_getr (b := 33) rfl rfl (hN.f.k 0 rfl) (hN.f.r 0 9 33 rfl) rfl ?_
            refine aw_iload rfl rfl rfl ?_
            refine aw_fnc (c_bestNx0 hN hI hv hAf2 hfb hc0 (by omega) (fun k k0 k1 kb => hrk (by omega) c hc0 (by omega) (by omega) k k0 k1 kb)) rfl rfl rfl (Nat.le_of_ble_eq_true rfl) (Or.inr ⟨_, rfl, (hN.f.k 33 rfl)⟩) rfl ?_
            have hnr := (nxN_r hI (f := f) hc0 (by omega : c < A 42 2) 5).1
            have hnr2 : -1 ≤ wNx A f c ∧ wNx A f c < A 42 2 := hnr
            refine aw_istore rfl (Nat.le_of_ble_eq_true rfl) rfl rfl ?_
            change aw _ _ _ _ 60 [some (.ref 0), some (.int (iI _)), some (.int (iI _)), some (.int (iI _)), some (.int (iI _)), some (.int (iI _)), some (.int (iI _)), _] _ _
            refine aw_aload_n rfl rfl rfl ?_
            refine aw_getr (b := 33) rfl rfl (hN.f.k 0 rfl) (hN.f.r 0 9 33 rfl) rfl ?_
            refine aw_iload rfl rfl rfl ?_
            refine aw_fnc (c_leads0 hN hI hv hAf2 hfb ⟨by omega, by omega⟩) rfl rfl rfl (Nat.le_of_ble_eq_true rfl) (Or.inr ⟨_, rfl, (hN.f.k 33 rfl)⟩) rfl ?_
            refine aw_ifeqb (p' := 114) rfl rfl rfl (fun c5 => ?_) (fun c5 => ?_)
            · refine aw_iinc rfl rfl rfl rfl ?_
              change aw _ _ _ _ 117 [some (.ref 0), some (.int (iI _)), some (.int (iI _)), some (.int (iI _)), some (.int (iI _)), some (.int (iI _)), some (.int (iI _)), _] _ _
              refine aw_goto (p' := 3) rfl rfl ?_
              refine ih _ (by omega) _ _ _ _ rfl hN (hD.su (T := [14, 21, 27, 35, 36, 38]) rfl) (by omega) (by omega) (fun e e0 e1 => ?_) (fun e e0 e1 => hs1 e (by omega) e1) (fun e e0 e1 r1 r2 => ?_) hw
              · by_cases ee : e = c
                · rw [ee]
                  have hno : ¬ (gSteps A u c ≤ m ∧ (f' c).1 < 1000) := by
                    rintro ⟨q1, q2⟩
                    have q3 := hst c hc0 (by omega) q1
                    have q4 := hnx c hc0 (by omega) q1
                    have q5 : ¬ ((mOpen A c x (A 42 3) ∧ ¬ mTaken A c x h) ∧ ((0 ≤ (nx c) ∧ (nx c) < A 42 2) ∧ rc (nx c) ∧ (f (nx c)).1 < 1000)) := by
                      rintro ⟨q6, q7⟩
                      first | omega | exact absurd q6 (by assumption) | (rw [q4.1 (by omega)] at q7; exact absurd q7 (by assumption)) | (rw [q4.2 (by omega)] at q7; exact absurd q7 (by assumption))
                    have := q3.2 q5
                    omega
                  exact ⟨fun q => absurd q hno, fun _ => hs1 c (by omega) (by omega)⟩
                · exact hcf e e0 (by omega)
              · by_cases ee : e = c
                · exfalso
                  rw [ee] at r1 r2
                  have q3 := hst c hc0 (by omega) r1
                  have q4 := hnx c hc0 (by omega) r1
                  have q5 : ¬ ((mOpen A c x (A 42 3) ∧ ¬ mTaken A c x h) ∧ ((0 ≤ (nx c) ∧ (nx c) < A 42 2) ∧ rc (nx c) ∧ (f (nx c)).1 < 1000)) := by
                    rintro ⟨q6, q7⟩
                    first | omega | exact absurd q6 (by assumption) | (rw [q4.1 (by omega)] at q7; exact absurd q7 (by assumption)) | (rw [q4.2 (by omega)] at q7; exact absurd q7 (by assumption))
                  have := q3.2 q5
                  omega
                · exact hnn e e0 (by omega) r1 r2
            · have hln := (by assumption : ((0 ≤ (wNx A f c) ∧ (wNx A f c) < A 42 2) ∧ rc (wNx A f c) ∧ (f (wNx A f c)).1 < 1000))
              refine aw_aload_n rfl rfl rfl ?_
              refine aw_getr (b := 29) rfl rfl (hN.f.k 0 rfl) (hN.f.r 0 6 29 rfl) rfl ?_
              refine aw_iload rfl rfl rfl ?_
              refine aw_fnc (c_shaders hN hI hx0 hx1 hh0 hh1 hcl.1 hcl.2 (hU0.mod hD rfl) (by omega) (by omega)) rfl rfl rfl (Nat.le_of_ble_eq_true rfl) (Or.inr ⟨_, rfl, (hN.f.k 29 rfl)⟩) rfl ?_
              refine aw_if (p' := 88) rfl ⟨by omega, by omega⟩ rfl rfl (fun c6 => ?_) (fun c6 => ?_)
              · dsimp only [zc] at c6
                refine aw_iconst rfl rfl ?_
                refine aw_istore rfl (Nat.le_of_ble_eq_true rfl) rfl rfl ?_
                change aw _ _ _ _ 91 [some (.ref 0), some (.int (iI _)), some (.int (iI _)), some (.int (iI _)), some (.int (iI _)), some (.int (iI _)), some (.int (iI _)), some (.int (iI _))] _ _
                refine aw_aload_n rfl rfl rfl ?_
                refine aw_getr (b := 33) rfl rfl (hN.f.k 0 rfl) (hN.f.r 0 9 33 rfl) rfl ?_
                refine aw_iload_n rfl rfl rfl ?_
                refine aw_iload rfl rfl rfl ?_
                refine aw_iload rfl rfl rfl ?_
                refine aw_iload rfl rfl rfl ?_
                refine aw_aload_n rfl rfl rfl ?_
                refine aw_iload rfl rfl rfl ?_
                refine aw_iload_n rfl rfl rfl ?_
                refine aw_iconst rfl rfl ?_
                refine aw_iconst rfl rfl ?_
                refine aw_calc (c_charge (m := -1) (p := -1) hN hI ⟨hR1, hR2, hR3⟩ (hT.mod hD (by intro a ha; simp only [List.mem_cons, List.not_mem_nil, or_false] at ha; omega)) hx0 hx1 hh0 hh1 hcl.1 hcl.2 (hS.mod hD rfl rfl rfl) (hU0.mod hD rfl) hc0 (by omega) (by omega) (by omega) (pk_all rfl)) rfl rfl rfl (Nat.le_of_ble_eq_true rfl) (Or.inr ⟨_, rfl, (hN.f.k 0 rfl)⟩) rfl ?_
                rintro _ τ7 ⟨rfl, hM7, hD7⟩
                change aw _ _ _ _ 111 [some (.ref 0), some (.int (iI _)), some (.int (iI _)), some (.int (iI _)), some (.int (iI _)), some (.int (iI _)), some (.int (iI _)), some (.int (iI _))] [.long (lI _), .int (iI _), .int (iI _), .int (iI _), .int (iI _), .ref 33] _
                have hcb := mChg_b hI ⟨hR1, hR2, hR3⟩ (x := x) (h := h) (y := A 42 3) (c := c) (s := -1) (p := -1) hx0 hx1 hh0 hh1 (by omega) (by omega)
                refine aw_calc (c_lead0 (f := f) (rc := rc) hM7 hI hv (hAf.mi ((((hD.su (T := [14, 21, 27, 35, 36, 38]) rfl).tr (hD7.su (T := [14, 21, 27, 35, 36, 38]) rfl))).mi) rfl rfl) hfb hh0 hh1 hc0 (by omega) hln (by omega) (by omega) (by omega) (by omega)) rfl rfl rfl (Nat.le_of_ble_eq_true rfl) (Or.inr ⟨_, rfl, (hM7.f.k 33 rfl)⟩) rfl ?_
                rintro _ τ8 ⟨rfl, hM8, hD8, hV8, hU8, hW8⟩
                change aw _ _ _ _ 114 [some (.ref 0), some (.int (iI _)), some (.int (iI _)), some (.int (iI _)), some (.int (iI _)), some (.int (iI _)), some (.int (iI _)), some (.int (iI _))] [] _
                refine aw_iinc rfl rfl rfl rfl ?_
                change aw _ _ _ _ 117 [some (.ref 0), some (.int (iI _)), some (.int (iI _)), some (.int (iI _)), some (.int (iI _)), some (.int (iI _)), some (.int (iI _)), some (.int (iI _))] _ _
                refine aw_goto (p' := 3) rfl rfl ?_
                have q1 : gSteps A u c ≤ m := by omega
                have q3 := hst c hc0 (by omega) q1
                have q4 := hnx c hc0 (by omega) q1
                have q8 := q4.2 (by omega)
                rw [q8] at q3
                have q9 := q3.1 ⟨by assumption, by assumption⟩
                have q10 : (f' c).1 < 1000 := by
                  rw [q9]
                  have := hf1 _ hln.1.1 hln.1.2
                  have := hln.2.2
                  have hws : 0 ≤ wSun A x h c ∧ wSun A x h c ≤ 1 := by unfold wSun; split <;> omega
                  show wSun A x h c + _ < 1000
                  omega
                refine ih _ (by omega) _ _ _ _ rfl hM8 (((hD.su (T := [14, 21, 27, 35, 36, 38]) rfl).tr (hD7.su (T := [14, 21, 27, 35, 36, 38]) rfl)).tr (hD8.su (T := [14, 21, 27, 35, 36, 38]) rfl)) (by omega) (by omega) (fun e e0 e1 => ?_) (fun e e0 e1 => ?_) (fun e e0 e1 r1 r2 => ?_) (fun w q => ?_)
                · rw [hU8, hW8, hD7.z 36 rfl, hD7.q 38 rfl]
                  by_cases ee : e = c
                  · rw [ee, if_pos rfl, if_pos rfl]
                    refine ⟨fun _ => ?_, fun q => absurd ⟨q1, q10⟩ q⟩
                    rw [q9]
                    refine ⟨?_, ?_⟩
                    · show _ = wSun A x h c + _
                      have hss : wSun A x h c = (if mMany A x h (A 42 3) c = 0 then 1 else 0) := rfl
                      have hm0 := mSet_0 (A := A) (x := x) (h := h) (y := A 42 3) (c := c)
                      split at hss <;> omega
                    · show _ = wCost A R x h c + _
                      unfold wCost
                      omega
                  · rw [if_neg ee, if_neg ee]
                    exact hcf e e0 (by omega)
                · rw [hU8, hD7.z 36 rfl, if_neg (by omega)]
                  exact hs1 e (by omega) e1
                · rw [hV8, hD7.z 35 rfl]
                  by_cases ee : e = c
                  · rw [ee, if_pos rfl, q8]
                  · rw [if_neg (by omega)]
                    exact hnn e e0 (by omega) r1 r2
                · rw [hV8, hD7.z 35 rfl, if_neg (by omega)]
                  exact hw w q
              · dsimp only [zc] at c6
                refine aw_iconst rfl rfl ?_
                refine aw_goto (p' := 89) rfl rfl ?_
                refine aw_istore rfl (Nat.le_of_ble_eq_true rfl) rfl rfl ?_
                change aw _ _ _ _ 91 [some (.ref 0), some (.int (iI _)), some (.int (iI _)), some (.int (iI _)), some (.int (iI _)), some (.int (iI _)), some (.int (iI _)), some (.int (iI _))] _ _
                refine aw_aload_n rfl rfl rfl ?_
                refine aw_getr (b := 33) rfl rfl (hN.f.k 0 rfl) (hN.f.r 0 9 33 rfl) rfl ?_
                refine aw_iload_n rfl rfl rfl ?_
                refine aw_iload rfl rfl rfl ?_
                refine aw_iload rfl rfl rfl ?_
                refine aw_iload rfl rfl rfl ?_
                refine aw_aload_n rfl rfl rfl ?_
                refine aw_iload rfl rfl rfl ?_
                refine aw_iload_n rfl rfl rfl ?_
                refine aw_iconst rfl rfl ?_
                refine aw_iconst rfl rfl ?_
                refine aw_calc (c_charge (m := -1) (p := -1) hN hI ⟨hR1, hR2, hR3⟩ (hT.mod hD (by intro a ha; simp only [List.mem_cons, List.not_mem_nil, or_false] at ha; omega)) hx0 hx1 hh0 hh1 hcl.1 hcl.2 (hS.mod hD rfl rfl rfl) (hU0.mod hD rfl) hc0 (by omega) (by omega) (by omega) (pk_all rfl)) rfl rfl rfl (Nat.le_of_ble_eq_true rfl) (Or.inr ⟨_, rfl, (hN.f.k 0 rfl)⟩) rfl ?_
                rintro _ τ9 ⟨rfl, hM9, hD9⟩
                change aw _ _ _ _ 111 [some (.ref 0), some (.int (iI _)), some (.int (iI _)), some (.int (iI _)), some (.int (iI _)), some (.int (iI _)), some (.int (iI _)), some (.int (iI _))] [.long (lI _), .int (iI _), .int (iI _), .int (iI _), .int (iI _), .ref 33] _
                have hcb := mChg_b hI ⟨hR1, hR2, hR3⟩ (x := x) (h := h) (y := A 42 3) (c := c) (s := -1) (p := -1) hx0 hx1 hh0 hh1 (by omega) (by omega)
                refine aw_calc (c_lead0 (f := f) (rc := rc) hM9 hI hv (hAf.mi ((((hD.su (T := [14, 21, 27, 35, 36, 38]) rfl).tr (hD9.su (T := [14, 21, 27, 35, 36, 38]) rfl))).mi) rfl rfl) hfb hh0 hh1 hc0 (by omega) hln (by omega) (by omega) (by omega) (by omega)) rfl rfl rfl (Nat.le_of_ble_eq_true rfl) (Or.inr ⟨_, rfl, (hM9.f.k 33 rfl)⟩) rfl ?_
                rintro _ τ10 ⟨rfl, hM10, hD10, hV10, hU10, hW10⟩
                change aw _ _ _ _ 114 [some (.ref 0), some (.int (iI _)), some (.int (iI _)), some (.int (iI _)), some (.int (iI _)), some (.int (iI _)), some (.int (iI _)), some (.int (iI _))] [] _
                refine aw_iinc rfl rfl rfl rfl ?_
                change aw _ _ _ _ 117 [some (.ref 0), some (.int (iI _)), some (.int (iI _)), some (.int (iI _)), some (.int (iI _)), some (.int (iI _)), some (.int (iI _)), some (.int (iI _))] _ _
                refine aw_goto (p' := 3) rfl rfl ?_
                have q1 : gSteps A u c ≤ m := by omega
                have q3 := hst c hc0 (by omega) q1
                have q4 := hnx c hc0 (by omega) q1
                have q8 := q4.2 (by omega)
                rw [q8] at q3
                have q9 := q3.1 ⟨by assumption, by assumption⟩
                have q10 : (f' c).1 < 1000 := by
                  rw [q9]
                  have := hf1 _ hln.1.1 hln.1.2
                  have := hln.2.2
                  have hws : 0 ≤ wSun A x h c ∧ wSun A x h c ≤ 1 := by unfold wSun; split <;> omega
                  show wSun A x h c + _ < 1000
                  omega
                refine ih _ (by omega) _ _ _ _ rfl hM10 (((hD.su (T := [14, 21, 27, 35, 36, 38]) rfl).tr (hD9.su (T := [14, 21, 27, 35, 36, 38]) rfl)).tr (hD10.su (T := [14, 21, 27, 35, 36, 38]) rfl)) (by omega) (by omega) (fun e e0 e1 => ?_) (fun e e0 e1 => ?_) (fun e e0 e1 r1 r2 => ?_) (fun w q => ?_)
                · rw [hU10, hW10, hD9.z 36 rfl, hD9.q 38 rfl]
                  by_cases ee : e = c
                  · rw [ee, if_pos rfl, if_pos rfl]
                    refine ⟨fun _ => ?_, fun q => absurd ⟨q1, q10⟩ q⟩
                    rw [q9]
                    refine ⟨?_, ?_⟩
                    · show _ = wSun A x h c + _
                      have hss : wSun A x h c = (if mMany A x h (A 42 3) c = 0 then 1 else 0) := rfl
                      have hm0 := mSet_0 (A := A) (x := x) (h := h) (y := A 42 3) (c := c)
                      split at hss <;> omega
                    · show _ = wCost A R x h c + _
                      unfold wCost
                      omega
                  · rw [if_neg ee, if_neg ee]
                    exact hcf e e0 (by omega)
                · rw [hU10, hD9.z 36 rfl, if_neg (by omega)]
                  exact hs1 e (by omega) e1
                · rw [hV10, hD9.z 35 rfl]
                  by_cases ee : e = c
                  · rw [ee, if_pos rfl, q8]
                  · rw [if_neg (by omega)]
                    exact hnn e e0 (by omega) r1 r2
                · rw [hV10, hD9.z 35 rfl, if_neg (by omega)]
                  exact hw w q
          · dsimp only [zc] at c4
            skip
            refine aw_iload rfl rfl rfl ?_
            refine aw_goto (p' := 58) rfl rfl ?_
            refine aw_istore rfl (Nat.le_of_ble_eq_true rfl) rfl rfl ?_
            change aw _ _ _ _ 60 [some (.ref 0), some (.int (iI _)), some (.int (iI _)), some (.int (iI _)), some (.int (iI _)), some (.int (iI _)), some (.int (iI _)), _] _ _
            refine aw_aload_n rfl rfl rfl ?_
            refine aw_getr (b := 33) rfl rfl (hN.f.k 0 rfl) (hN.f.r 0 9 33 rfl) rfl ?_
            refine aw_iload rfl rfl rfl ?_
            refine aw_fnc (c_leads0 hN hI hv hAf2 hfb ⟨by omega, by omega⟩) rfl rfl rfl (Nat.le_of_ble_eq_true rfl) (Or.inr ⟨_, rfl, (hN.f.k 33 rfl)⟩) rfl ?_
            refine aw_ifeqb (p' := 114) rfl rfl rfl (fun c11 => ?_) (fun c11 => ?_)
            · refine aw_iinc rfl rfl rfl rfl ?_
              change aw _ _ _ _ 117 [some (.ref 0), some (.int (iI _)), some (.int (iI _)), some (.int (iI _)), some (.int (iI _)), some (.int (iI _)), some (.int (iI _)), _] _ _
              refine aw_goto (p' := 3) rfl rfl ?_
              refine ih _ (by omega) _ _ _ _ rfl hN (hD.su (T := [14, 21, 27, 35, 36, 38]) rfl) (by omega) (by omega) (fun e e0 e1 => ?_) (fun e e0 e1 => hs1 e (by omega) e1) (fun e e0 e1 r1 r2 => ?_) hw
              · by_cases ee : e = c
                · rw [ee]
                  have hno : ¬ (gSteps A u c ≤ m ∧ (f' c).1 < 1000) := by
                    rintro ⟨q1, q2⟩
                    have q3 := hst c hc0 (by omega) q1
                    have q4 := hnx c hc0 (by omega) q1
                    have q5 : ¬ ((mOpen A c x (A 42 3) ∧ ¬ mTaken A c x h) ∧ ((0 ≤ (nx c) ∧ (nx c) < A 42 2) ∧ rc (nx c) ∧ (f (nx c)).1 < 1000)) := by
                      rintro ⟨q6, q7⟩
                      first | omega | exact absurd q6 (by assumption) | (rw [q4.1 (by omega)] at q7; exact absurd q7 (by assumption)) | (rw [q4.2 (by omega)] at q7; exact absurd q7 (by assumption))
                    have := q3.2 q5
                    omega
                  exact ⟨fun q => absurd q hno, fun _ => hs1 c (by omega) (by omega)⟩
                · exact hcf e e0 (by omega)
              · by_cases ee : e = c
                · exfalso
                  rw [ee] at r1 r2
                  have q3 := hst c hc0 (by omega) r1
                  have q4 := hnx c hc0 (by omega) r1
                  have q5 : ¬ ((mOpen A c x (A 42 3) ∧ ¬ mTaken A c x h) ∧ ((0 ≤ (nx c) ∧ (nx c) < A 42 2) ∧ rc (nx c) ∧ (f (nx c)).1 < 1000)) := by
                    rintro ⟨q6, q7⟩
                    first | omega | exact absurd q6 (by assumption) | (rw [q4.1 (by omega)] at q7; exact absurd q7 (by assumption)) | (rw [q4.2 (by omega)] at q7; exact absurd q7 (by assumption))
                  have := q3.2 q5
                  omega
                · exact hnn e e0 (by omega) r1 r2
            · have hln := (by assumption : ((0 ≤ c ∧ c < A 42 2) ∧ rc c ∧ (f c).1 < 1000))
              refine aw_aload_n rfl rfl rfl ?_
              refine aw_getr (b := 29) rfl rfl (hN.f.k 0 rfl) (hN.f.r 0 6 29 rfl) rfl ?_
              refine aw_iload rfl rfl rfl ?_
              refine aw_fnc (c_shaders hN hI hx0 hx1 hh0 hh1 hcl.1 hcl.2 (hU0.mod hD rfl) (by omega) (by omega)) rfl rfl rfl (Nat.le_of_ble_eq_true rfl) (Or.inr ⟨_, rfl, (hN.f.k 29 rfl)⟩) rfl ?_
              refine aw_if (p' := 88) rfl ⟨by omega, by omega⟩ rfl rfl (fun c12 => ?_) (fun c12 => ?_)
              · dsimp only [zc] at c12
                refine aw_iconst rfl rfl ?_
                refine aw_istore rfl (Nat.le_of_ble_eq_true rfl) rfl rfl ?_
                change aw _ _ _ _ 91 [some (.ref 0), some (.int (iI _)), some (.int (iI _)), some (.int (iI _)), some (.int (iI _)), some (.int (iI _)), some (.int (iI _)), some (.int (iI _))] _ _
                refine aw_aload_n rfl rfl rfl ?_
                refine aw_getr (b := 33) rfl rfl (hN.f.k 0 rfl) (hN.f.r 0 9 33 rfl) rfl ?_
                refine aw_iload_n rfl rfl rfl ?_
                refine aw_iload rfl rfl rfl ?_
                refine aw_iload rfl rfl rfl ?_
                refine aw_iload rfl rfl rfl ?_
                refine aw_aload_n rfl rfl rfl ?_
                refine aw_iload rfl rfl rfl ?_
                refine aw_iload_n rfl rfl rfl ?_
                refine aw_iconst rfl rfl ?_
                refine aw_iconst rfl rfl ?_
                refine aw_calc (c_charge (m := -1) (p := -1) hN hI ⟨hR1, hR2, hR3⟩ (hT.mod hD (by intro a ha; simp only [List.mem_cons, List.not_mem_nil, or_false] at ha; omega)) hx0 hx1 hh0 hh1 hcl.1 hcl.2 (hS.mod hD rfl rfl rfl) (hU0.mod hD rfl) hc0 (by omega) (by omega) (by omega) (pk_all rfl)) rfl rfl rfl (Nat.le_of_ble_eq_true rfl) (Or.inr ⟨_, rfl, (hN.f.k 0 rfl)⟩) rfl ?_
                rintro _ τ13 ⟨rfl, hM13, hD13⟩
                change aw _ _ _ _ 111 [some (.ref 0), some (.int (iI _)), some (.int (iI _)), some (.int (iI _)), some (.int (iI _)), some (.int (iI _)), some (.int (iI _)), some (.int (iI _))] [.long (lI _), .int (iI _), .int (iI _), .int (iI _), .int (iI _), .ref 33] _
                have hcb := mChg_b hI ⟨hR1, hR2, hR3⟩ (x := x) (h := h) (y := A 42 3) (c := c) (s := -1) (p := -1) hx0 hx1 hh0 hh1 (by omega) (by omega)
                refine aw_calc (c_lead0 (f := f) (rc := rc) hM13 hI hv (hAf.mi ((((hD.su (T := [14, 21, 27, 35, 36, 38]) rfl).tr (hD13.su (T := [14, 21, 27, 35, 36, 38]) rfl))).mi) rfl rfl) hfb hh0 hh1 hc0 (by omega) hln (by omega) (by omega) (by omega) (by omega)) rfl rfl rfl (Nat.le_of_ble_eq_true rfl) (Or.inr ⟨_, rfl, (hM13.f.k 33 rfl)⟩) rfl ?_
                rintro _ τ14 ⟨rfl, hM14, hD14, hV14, hU14, hW14⟩
                change aw _ _ _ _ 114 [some (.ref 0), some (.int (iI _)), some (.int (iI _)), some (.int (iI _)), some (.int (iI _)), some (.int (iI _)), some (.int (iI _)), some (.int (iI _))] [] _
                refine aw_iinc rfl rfl rfl rfl ?_
                change aw _ _ _ _ 117 [some (.ref 0), some (.int (iI _)), some (.int (iI _)), some (.int (iI _)), some (.int (iI _)), some (.int (iI _)), some (.int (iI _)), some (.int (iI _))] _ _
                refine aw_goto (p' := 3) rfl rfl ?_
                have q1 : gSteps A u c ≤ m := by omega
                have q3 := hst c hc0 (by omega) q1
                have q4 := hnx c hc0 (by omega) q1
                have q8 := q4.1 (by omega)
                rw [q8] at q3
                have q9 := q3.1 ⟨by assumption, by assumption⟩
                have q10 : (f' c).1 < 1000 := by
                  rw [q9]
                  have := hf1 _ hln.1.1 hln.1.2
                  have := hln.2.2
                  have hws : 0 ≤ wSun A x h c ∧ wSun A x h c ≤ 1 := by unfold wSun; split <;> omega
                  show wSun A x h c + _ < 1000
                  omega
                refine ih _ (by omega) _ _ _ _ rfl hM14 (((hD.su (T := [14, 21, 27, 35, 36, 38]) rfl).tr (hD13.su (T := [14, 21, 27, 35, 36, 38]) rfl)).tr (hD14.su (T := [14, 21, 27, 35, 36, 38]) rfl)) (by omega) (by omega) (fun e e0 e1 => ?_) (fun e e0 e1 => ?_) (fun e e0 e1 r1 r2 => ?_) (fun w q => ?_)
                · rw [hU14, hW14, hD13.z 36 rfl, hD13.q 38 rfl]
                  by_cases ee : e = c
                  · rw [ee, if_pos rfl, if_pos rfl]
                    refine ⟨fun _ => ?_, fun q => absurd ⟨q1, q10⟩ q⟩
                    rw [q9]
                    refine ⟨?_, ?_⟩
                    · show _ = wSun A x h c + _
                      have hss : wSun A x h c = (if mMany A x h (A 42 3) c = 0 then 1 else 0) := rfl
                      have hm0 := mSet_0 (A := A) (x := x) (h := h) (y := A 42 3) (c := c)
                      split at hss <;> omega
                    · show _ = wCost A R x h c + _
                      unfold wCost
                      omega
                  · rw [if_neg ee, if_neg ee]
                    exact hcf e e0 (by omega)
                · rw [hU14, hD13.z 36 rfl, if_neg (by omega)]
                  exact hs1 e (by omega) e1
                · rw [hV14, hD13.z 35 rfl]
                  by_cases ee : e = c
                  · rw [ee, if_pos rfl, q8]
                  · rw [if_neg (by omega)]
                    exact hnn e e0 (by omega) r1 r2
                · rw [hV14, hD13.z 35 rfl, if_neg (by omega)]
                  exact hw w q
              · dsimp only [zc] at c12
                refine aw_iconst rfl rfl ?_
                refine aw_goto (p' := 89) rfl rfl ?_
                refine aw_istore rfl (Nat.le_of_ble_eq_true rfl) rfl rfl ?_
                change aw _ _ _ _ 91 [some (.ref 0), some (.int (iI _)), some (.int (iI _)), some (.int (iI _)), some (.int (iI _)), some (.int (iI _)), some (.int (iI _)), some (.int (iI _))] _ _
                refine aw_aload_n rfl rfl rfl ?_
                refine aw_getr (b := 33) rfl rfl (hN.f.k 0 rfl) (hN.f.r 0 9 33 rfl) rfl ?_
                refine aw_iload_n rfl rfl rfl ?_
                refine aw_iload rfl rfl rfl ?_
                refine aw_iload rfl rfl rfl ?_
                refine aw_iload rfl rfl rfl ?_
                refine aw_aload_n rfl rfl rfl ?_
                refine aw_iload rfl rfl rfl ?_
                refine aw_iload_n rfl rfl rfl ?_
                refine aw_iconst rfl rfl ?_
                refine aw_iconst rfl rfl ?_
                refine aw_calc (c_charge (m := -1) (p := -1) hN hI ⟨hR1, hR2, hR3⟩ (hT.mod hD (by intro a ha; simp only [List.mem_cons, List.not_mem_nil, or_false] at ha; omega)) hx0 hx1 hh0 hh1 hcl.1 hcl.2 (hS.mod hD rfl rfl rfl) (hU0.mod hD rfl) hc0 (by omega) (by omega) (by omega) (pk_all rfl)) rfl rfl rfl (Nat.le_of_ble_eq_true rfl) (Or.inr ⟨_, rfl, (hN.f.k 0 rfl)⟩) rfl ?_
                rintro _ τ15 ⟨rfl, hM15, hD15⟩
                change aw _ _ _ _ 111 [some (.ref 0), some (.int (iI _)), some (.int (iI _)), some (.int (iI _)), some (.int (iI _)), some (.int (iI _)), some (.int (iI _)), some (.int (iI _))] [.long (lI _), .int (iI _), .int (iI _), .int (iI _), .int (iI _), .ref 33] _
                have hcb := mChg_b hI ⟨hR1, hR2, hR3⟩ (x := x) (h := h) (y := A 42 3) (c := c) (s := -1) (p := -1) hx0 hx1 hh0 hh1 (by omega) (by omega)
                refine aw_calc (c_lead0 (f := f) (rc := rc) hM15 hI hv (hAf.mi ((((hD.su (T := [14, 21, 27, 35, 36, 38]) rfl).tr (hD15.su (T := [14, 21, 27, 35, 36, 38]) rfl))).mi) rfl rfl) hfb hh0 hh1 hc0 (by omega) hln (by omega) (by omega) (by omega) (by omega)) rfl rfl rfl (Nat.le_of_ble_eq_true rfl) (Or.inr ⟨_, rfl, (hM15.f.k 33 rfl)⟩) rfl ?_
                rintro _ τ16 ⟨rfl, hM16, hD16, hV16, hU16, hW16⟩
                change aw _ _ _ _ 114 [some (.ref 0), some (.int (iI _)), some (.int (iI _)), some (.int (iI _)), some (.int (iI _)), some (.int (iI _)), some (.int (iI _)), some (.int (iI _))] [] _
                refine aw_iinc rfl rfl rfl rfl ?_
                change aw _ _ _ _ 117 [some (.ref 0), some (.int (iI _)), some (.int (iI _)), some (.int (iI _)), some (.int (iI _)), some (.int (iI _)), some (.int (iI _)), some (.int (iI _))] _ _
                refine aw_goto (p' := 3) rfl rfl ?_
                have q1 : gSteps A u c ≤ m := by omega
                have q3 := hst c hc0 (by omega) q1
                have q4 := hnx c hc0 (by omega) q1
                have q8 := q4.1 (by omega)
                rw [q8] at q3
                have q9 := q3.1 ⟨by assumption, by assumption⟩
                have q10 : (f' c).1 < 1000 := by
                  rw [q9]
                  have := hf1 _ hln.1.1 hln.1.2
                  have := hln.2.2
                  have hws : 0 ≤ wSun A x h c ∧ wSun A x h c ≤ 1 := by unfold wSun; split <;> omega
                  show wSun A x h c + _ < 1000
                  omega
                refine ih _ (by omega) _ _ _ _ rfl hM16 (((hD.su (T := [14, 21, 27, 35, 36, 38]) rfl).tr (hD15.su (T := [14, 21, 27, 35, 36, 38]) rfl)).tr (hD16.su (T := [14, 21, 27, 35, 36, 38]) rfl)) (by omega) (by omega) (fun e e0 e1 => ?_) (fun e e0 e1 => ?_) (fun e e0 e1 r1 r2 => ?_) (fun w q => ?_)
                · rw [hU16, hW16, hD15.z 36 rfl, hD15.q 38 rfl]
                  by_cases ee : e = c
                  · rw [ee, if_pos rfl, if_pos rfl]
                    refine ⟨fun _ => ?_, fun q => absurd ⟨q1, q10⟩ q⟩
                    rw [q9]
                    refine ⟨?_, ?_⟩
                    · show _ = wSun A x h c + _
                      have hss : wSun A x h c = (if mMany A x h (A 42 3) c = 0 then 1 else 0) := rfl
                      have hm0 := mSet_0 (A := A) (x := x) (h := h) (y := A 42 3) (c := c)
                      split at hss <;> omega
                    · show _ = wCost A R x h c + _
                      unfold wCost
                      omega
                  · rw [if_neg ee, if_neg ee]
                    exact hcf e e0 (by omega)
                · rw [hU16, hD15.z 36 rfl, if_neg (by omega)]
                  exact hs1 e (by omega) e1
                · rw [hV16, hD15.z 35 rfl]
                  by_cases ee : e = c
                  · rw [ee, if_pos rfl, q8]
                  · rw [if_neg (by omega)]
                    exact hnn e e0 (by omega) r1 r2
                · rw [hV16, hD15.z 35 rfl, if_neg (by omega)]
                  exact hw w q
set_option maxRecDepth 10000 in
set_option maxHeartbeats 2000000 in
theorem c_hour0 {d : Nat} {sz : Nat} {κ : Nat × (Nat → Int32) × Option Nat} {A : Nat → Int → Int} {g : Nat → Nat} {σ : az_S} (hC : CR sz κ A g σ) (hI : MI sz A) (hv : g 701 = 0) {R : tRules} (hR : PW R) (hT : cTar σ (g 700) R) {x h : Int} (hx0 : 0 ≤ x) (hx1 : x ≤ 3599) (hh0 : 0 ≤ h) (hh1 : h ≤ 11) (hS : cSL A x (A 42 3) σ) (hU0 : cST A x h (A 42 3) σ) {f f' : Int → Int × Int} {rc : Int → Prop} {nx : Int → Int} {u m lb : Int} (hu0 : 0 ≤ u) (hu1 : u < A 42 2) (hm0 : 0 ≤ m) (hm1 : m ≤ 11) (hlb : lb = 0 ∨ lb = 1) (hAf : cAf A f rc 37 39 (A 42 2) σ) (hfb : ∀ e : Int, 0 ≤ e → e < A 42 2 → (0 ≤ (f e).1 ∧ (f e).1 ≤ 1000) ∧ (0 ≤ (f e).2 ∧ (f e).2 ≤ 1000000000000)) (hf1 : ∀ e : Int, 0 ≤ e → e < A 42 2 → (f e).1 ≤ 20 ∨ (f e).1 = 1000) (hnx : ∀ c : Int, 0 ≤ c → c < A 42 2 → (gSteps A u c ≤ m) → (lb = 1 → nx c = c) ∧ (lb = 0 → nx c = wNx A f c)) (hrk : lb = 0 → ∀ c : Int, 0 ≤ c → c < A 42 2 → (gSteps A u c ≤ m) → ∀ k : Int, 0 ≤ k → k < 5 → 0 ≤ mBeside A c k → rc (mBeside A c k)) (hst : ∀ c : Int, 0 ≤ c → c < A 42 2 → (gSteps A u c ≤ m) → (((mOpen A c x (A 42 3) ∧ ¬ mTaken A c x h) ∧ ((0 ≤ (nx c) ∧ (nx c) < A 42 2) ∧ rc (nx c) ∧ (f (nx c)).1 < 1000)) → f' c = (wSun A x h c + (f (nx c)).1, wCost A R x h c + (f (nx c)).2)) ∧ (¬ ((mOpen A c x (A 42 3) ∧ ¬ mTaken A c x h) ∧ ((0 ≤ (nx c) ∧ (nx c) < A 42 2) ∧ rc (nx c) ∧ (f (nx c)).1 < 1000)) → (f' c).1 = 1000)) (hs0 : ∀ e : Int, 0 ≤ e → e < A 42 2 → zx σ 36 e = -1) : cal (d + 6) 152 [.ref 0, .int (iI h), .int (iI u), .int (iI m), .int (iI lb)] σ (fun r τ => r = none ∧ CR sz κ A g τ ∧ Mod σ τ [14, 21, 27, 35, 36, 38] ∧ cAf A f' (fun c => (gSteps A u c ≤ m)) 36 38 (A 42 2) τ ∧ (∀ c : Int, 0 ≤ c → c < A 42 2 → (gSteps A u c ≤ m) → (f' c).1 < 1000 → zx τ 35 (h * A 42 2 + c) = nx c) ∧ (∀ w : Int, (w < h * A 42 2 ∨ h * A 42 2 + A 42 2 ≤ w) → zx τ 35 w = zx σ 35 w)) := by
  obtain ⟨hR1, hR2, hR3⟩ := hR
  have hb7 := hC.force.1
  have hce := hI.cells
  have hcl := hI.clock
  have hsz := hC.f.1
  refine cal_of (M := (yX11_leadThroughHour, cX11_leadThroughHour, 8, none)) (cd := k_X11_leadThroughHour) (L := [some (.ref 0), some (.int (iI h)), some (.int (iI u)), some (.int (iI m)), some (.int (iI lb)), none, none, none]) rfl (Nat.le_of_ble_eq_true rfl) rfl rfl ?_
  refine aw_iconst rfl rfl ?_
  refine aw_istore rfl (Nat.le_of_ble_eq_true rfl) rfl rfl ?_
  change aw _ _ _ _ 3 [some (.ref 0), some (.int (iI _)), some (.int (iI _)), some (.int (iI _)), some (.int (iI _)), some (.int (iI _)), none, none] _ _
  exact c_hour0_l3 hC hI hv ⟨hR1, hR2, hR3⟩ hT hx0 hx1 hh0 hh1 hS hU0 hu0 hu1 hm0 hm1 hlb hAf hfb hf1 hnx hrk hst hs0 _ _ 0 _ _ rfl hC Mod.rf (by omega) (by omega) (fun e _ _ => by omega) (fun e e0 e1 => hs0 e (by omega) e1) (fun e _ _ => by omega) (fun w _ => rfl)
set_option maxRecDepth 10000 in
set_option maxHeartbeats 2000000 in
theorem c_hour1_l3 {d : Nat} {sz : Nat} {κ : Nat × (Nat → Int32) × Option Nat} {A : Nat → Int → Int} {g : Nat → Nat} {σ : az_S} (hC : CR sz κ A g σ) (hI : MI sz A) (hv : g 701 = 1) {R : tRules} (hR : PW R) (hT : cTar σ (g 700) R) {x h : Int} (hx0 : 0 ≤ x) (hx1 : x ≤ 3599) (hh0 : 0 ≤ h) (hh1 : h ≤ 11) (hS : cSL A x (A 42 3) σ) (hU0 : cST A x h (A 42 3) σ) {f f' : Int → Int × Int} {rc : Int → Prop} {nx : Int → Int} {u m lb : Int} (hu0 : 0 ≤ u) (hu1 : u < A 42 2) (hm0 : 0 ≤ m) (hm1 : m ≤ 11) (hlb : lb = 0 ∨ lb = 1) (hAf : cAf A f rc 36 38 (A 42 2) σ) (hfb : ∀ e : Int, 0 ≤ e → e < A 42 2 → (0 ≤ (f e).1 ∧ (f e).1 ≤ 1000) ∧ (0 ≤ (f e).2 ∧ (f e).2 ≤ 1000000000000)) (hf1 : ∀ e : Int, 0 ≤ e → e < A 42 2 → (f e).1 ≤ 20 ∨ (f e).1 = 1000) (hnx : ∀ c : Int, 0 ≤ c → c < A 42 2 → (gSteps A u c ≤ m) → (lb = 1 → nx c = c) ∧ (lb = 0 → nx c = wNx A f c)) (hrk : lb = 0 → ∀ c : Int, 0 ≤ c → c < A 42 2 → (gSteps A u c ≤ m) → ∀ k : Int, 0 ≤ k → k < 5 → 0 ≤ mBeside A c k → rc (mBeside A c k)) (hst : ∀ c : Int, 0 ≤ c → c < A 42 2 → (gSteps A u c ≤ m) → (((mOpen A c x (A 42 3) ∧ ¬ mTaken A c x h) ∧ ((0 ≤ (nx c) ∧ (nx c) < A 42 2) ∧ rc (nx c) ∧ (f (nx c)).1 < 1000)) → f' c = (wSun A x h c + (f (nx c)).1, wCost A R x h c + (f (nx c)).2)) ∧ (¬ ((mOpen A c x (A 42 3) ∧ ¬ mTaken A c x h) ∧ ((0 ≤ (nx c) ∧ (nx c) < A 42 2) ∧ rc (nx c) ∧ (f (nx c)).1 < 1000)) → (f' c).1 = 1000)) (hs0 : ∀ e : Int, 0 ≤ e → e < A 42 2 → zx σ 37 e = -1) : ∀ (n : Nat) (τ : az_S) (c : Int) (w1 w2 : Option Value), (A 42 2 - c).toNat = n → CR sz κ A g τ → Mod σ τ [14, 21, 27, 35, 37, 39] → 0 ≤ c → c ≤ A 42 2 → cAf A f' (fun c => (gSteps A u c ≤ m)) 37 39 c τ → (∀ e : Int, c ≤ e → e < A 42 2 → zx τ 37 e = -1) → (∀ c2 : Int, 0 ≤ c2 → c2 < c → gSteps A u c2 ≤ m → (f' c2).1 < 1000 → zx τ 35 (h * A 42 2 + c2) = nx c2) → (∀ w : Int, (w < h * A 42 2 ∨ h * A 42 2 + A 42 2 ≤ w) → zx τ 35 w = zx σ 35 w) → aw (d + 5) k_X11_leadThroughHour none (fun r τ => r = none ∧ CR sz κ A g τ ∧ Mod σ τ [14, 21, 27, 35, 37, 39] ∧ cAf A f' (fun c => (gSteps A u c ≤ m)) 37 39 (A 42 2) τ ∧ (∀ c : Int, 0 ≤ c → c < A 42 2 → (gSteps A u c ≤ m) → (f' c).1 < 1000 → zx τ 35 (h * A 42 2 + c) = nx c) ∧ (∀ w : Int, (w < h * A 42 2 ∨ h * A 42 2 + A 42 2 ≤ w) → zx τ 35 w = zx σ 35 w)) 3 [some (.ref 0), some (.int (iI h)), some (.int (iI u)), some (.int (iI m)), some (.int (iI lb)), some (.int (iI c)), w1, w2] [] τ := by
  intro n
  induction n using Nat.strongRecOn with
  | ind n ih =>
    intro τ c w1 w2 hn hN hD hc0 hc1 hcf hs1 hnn hw
    obtain ⟨hR1, hR2, hR3⟩ := hR
    have hb7 := hC.force.1
    have hce := hI.cells
    have hcl := hI.clock
    have hsz := hC.f.1
    have hgs := fun q => gSteps_b hI hu0 hu1 hc0 q
    have hsm := mSet_b hI x h (A 42 3) c
    have hAf2 := hAf.mi hD.mi rfl rfl
    refine aw_iload rfl rfl rfl ?_
    refine aw_aload_n rfl rfl rfl ?_
    refine aw_getr (b := 28) rfl rfl (hN.f.k 0 rfl) (hN.f.r 0 0 28 rfl) rfl ?_
    refine aw_gk (v := A 42 2) (2) rfl rfl (hN.f.k 28 rfl) rfl hN.ground.2.2 rfl (fun _ _ => ?_)
    refine aw_icmp (p' := 120) rfl ⟨by omega, by omega⟩ ⟨by omega, by omega⟩ rfl rfl (fun c1 => ?_) (fun c1 => ?_)
    · dsimp only [zc] at c1
      refine aw_retv rfl ?_
      refine ⟨rfl, hN, (hD.su (T := [14, 21, 27, 35, 37, 39]) rfl), ?_, ?_, hw⟩
      · rw [show A 42 2 = c by omega]; exact hcf
      · intro e e0 e1 r1 r2; exact hnn e e0 (by omega) r1 r2
    · dsimp only [zc] at c1
      have hgs := hgs (by omega)
      refine aw_aload_n rfl rfl rfl ?_
      refine aw_getr (b := 28) rfl rfl (hN.f.k 0 rfl) (hN.f.r 0 0 28 rfl) rfl ?_
      refine aw_iload_n rfl rfl rfl ?_
      refine aw_iload rfl rfl rfl ?_
      refine aw_fnc (c_steps hN hI (by omega) (by omega) (by omega) (by omega)) rfl rfl rfl (Nat.le_of_ble_eq_true rfl) (Or.inr ⟨_, rfl, (hN.f.k 28 rfl)⟩) rfl ?_
      refine aw_iload_n rfl rfl rfl ?_
      refine aw_icmp (p' := 114) rfl ⟨by omega, by omega⟩ ⟨by omega, by omega⟩ rfl rfl (fun c2 => ?_) (fun c2 => ?_)
      · dsimp only [zc] at c2
        refine aw_iinc rfl rfl rfl rfl ?_
        change aw _ _ _ _ 117 [some (.ref 0), some (.int (iI _)), some (.int (iI _)), some (.int (iI _)), some (.int (iI _)), some (.int (iI _)), _, _] _ _
        refine aw_goto (p' := 3) rfl rfl ?_
        refine ih _ (by omega) _ _ _ _ rfl hN (hD.su (T := [14, 21, 27, 35, 37, 39]) rfl) (by omega) (by omega) (fun e e0 e1 => ?_) (fun e e0 e1 => hs1 e (by omega) e1) (fun e e0 e1 r1 r2 => ?_) hw
        · by_cases ee : e = c
          · rw [ee]
            have hno : ¬ (gSteps A u c ≤ m ∧ (f' c).1 < 1000) := by
              rintro ⟨q1, q2⟩
              have q3 := hst c hc0 (by omega) q1
              have q4 := hnx c hc0 (by omega) q1
              have q5 : ¬ ((mOpen A c x (A 42 3) ∧ ¬ mTaken A c x h) ∧ ((0 ≤ (nx c) ∧ (nx c) < A 42 2) ∧ rc (nx c) ∧ (f (nx c)).1 < 1000)) := by
                rintro ⟨q6, q7⟩
                first | omega | exact absurd q6 (by assumption) | (rw [q4.1 (by omega)] at q7; exact absurd q7 (by assumption)) | (rw [q4.2 (by omega)] at q7; exact absurd q7 (by assumption))
              have := q3.2 q5
              omega
            exact ⟨fun q => absurd q hno, fun _ => hs1 c (by omega) (by omega)⟩
          · exact hcf e e0 (by omega)
        · by_cases ee : e = c
          · exfalso
            rw [ee] at r1 r2
            have q3 := hst c hc0 (by omega) r1
            have q4 := hnx c hc0 (by omega) r1
            have q5 : ¬ ((mOpen A c x (A 42 3) ∧ ¬ mTaken A c x h) ∧ ((0 ≤ (nx c) ∧ (nx c) < A 42 2) ∧ rc (nx c) ∧ (f (nx c)).1 < 1000)) := by
              rintro ⟨q6, q7⟩
              first | omega | exact absurd q6 (by assumption) | (rw [q4.1 (by omega)] at q7; exact absurd q7 (by assumption)) | (rw [q4.2 (by omega)] at q7; exact absurd q7 (by assumption))
            have := q3.2 q5
            omega
          · exact hnn e e0 (by omega) r1 r2
      · dsimp only [zc] at c2
        refine aw_aload_n rfl rfl rfl ?_
        refine aw_iload rfl rfl rfl ?_
        refine aw_iload_n rfl rfl rfl ?_
        refine aw_fnc (c_mayWalk hN hI hx0 hx1 hh0 hh1 (hS.mod hD rfl rfl rfl) (by omega) (by omega)) rfl rfl rfl (Nat.le_of_ble_eq_true rfl) (Or.inr ⟨_, rfl, (hN.f.k 0 rfl)⟩) rfl ?_
        refine aw_ifeqb (p' := 114) rfl rfl rfl (fun c3 => ?_) (fun c3 => ?_)
        · refine aw_iinc rfl rfl rfl rfl ?_
          change aw _ _ _ _ 117 [some (.ref 0), some (.int (iI _)), some (.int (iI _)), some (.int (iI _)), some (.int (iI _)), some (.int (iI _)), _, _] _ _
          refine aw_goto (p' := 3) rfl rfl ?_
          refine ih _ (by omega) _ _ _ _ rfl hN (hD.su (T := [14, 21, 27, 35, 37, 39]) rfl) (by omega) (by omega) (fun e e0 e1 => ?_) (fun e e0 e1 => hs1 e (by omega) e1) (fun e e0 e1 r1 r2 => ?_) hw
          · by_cases ee : e = c
            · rw [ee]
              have hno : ¬ (gSteps A u c ≤ m ∧ (f' c).1 < 1000) := by
                rintro ⟨q1, q2⟩
                have q3 := hst c hc0 (by omega) q1
                have q4 := hnx c hc0 (by omega) q1
                have q5 : ¬ ((mOpen A c x (A 42 3) ∧ ¬ mTaken A c x h) ∧ ((0 ≤ (nx c) ∧ (nx c) < A 42 2) ∧ rc (nx c) ∧ (f (nx c)).1 < 1000)) := by
                  rintro ⟨q6, q7⟩
                  first | omega | exact absurd q6 (by assumption) | (rw [q4.1 (by omega)] at q7; exact absurd q7 (by assumption)) | (rw [q4.2 (by omega)] at q7; exact absurd q7 (by assumption))
                have := q3.2 q5
                omega
              exact ⟨fun q => absurd q hno, fun _ => hs1 c (by omega) (by omega)⟩
            · exact hcf e e0 (by omega)
          · by_cases ee : e = c
            · exfalso
              rw [ee] at r1 r2
              have q3 := hst c hc0 (by omega) r1
              have q4 := hnx c hc0 (by omega) r1
              have q5 : ¬ ((mOpen A c x (A 42 3) ∧ ¬ mTaken A c x h) ∧ ((0 ≤ (nx c) ∧ (nx c) < A 42 2) ∧ rc (nx c) ∧ (f (nx c)).1 < 1000)) := by
                rintro ⟨q6, q7⟩
                first | omega | exact absurd q6 (by assumption) | (rw [q4.1 (by omega)] at q7; exact absurd q7 (by assumption)) | (rw [q4.2 (by omega)] at q7; exact absurd q7 (by assumption))
              have := q3.2 q5
              omega
            · exact hnn e e0 (by omega) r1 r2
        · refine aw_iload rfl rfl rfl ?_
          refine aw_if (p' := 49) rfl ⟨by omega, by omega⟩ rfl rfl (fun c4 => ?_) (fun c4 => ?_)
          · dsimp only [zc] at c4
            skip
            refine aw_aload_n rfl rfl rfl ?_
            refine aw_getr (b := 33) rfl rfl (hN.f.k 0 rfl) (hN.f.r 0 9 33 rfl) rfl ?_
            refine aw_iload rfl rfl rfl ?_
            refine aw_fnc (c_bestNx1 hN hI hv hAf2 hfb hc0 (by omega) (fun k k0 k1 kb => hrk (by omega) c hc0 (by omega) (by omega) k k0 k1 kb)) rfl rfl rfl (Nat.le_of_ble_eq_true rfl) (Or.inr ⟨_, rfl, (hN.f.k 33 rfl)⟩) rfl ?_
            have hnr := (nxN_r hI (f := f) hc0 (by omega : c < A 42 2) 5).1
            have hnr2 : -1 ≤ wNx A f c ∧ wNx A f c < A 42 2 := hnr
            refine aw_istore rfl (Nat.le_of_ble_eq_true rfl) rfl rfl ?_
            change aw _ _ _ _ 60 [some (.ref 0), some (.int (iI _)), some (.int (iI _)), some (.int (iI _)), some (.int (iI _)), some (.int (iI _)), some (.int (iI _)), _] _ _
            refine aw_aload_n rfl rfl rfl ?_
            refine aw_getr (b := 33) rfl rfl (hN.f.k 0 rfl) (hN.f.r 0 9 33 rfl) rfl ?_
            refine aw_iload rfl rfl rfl ?_
            refine aw_fnc (c_leads1 hN hI hv hAf2 hfb ⟨by omega, by omega⟩) rfl rfl rfl (Nat.le_of_ble_eq_true rfl) (Or.inr ⟨_, rfl, (hN.f.k 33 rfl)⟩) rfl ?_
            refine aw_ifeqb (p' := 114) rfl rfl rfl (fun c5 => ?_) (fun c5 => ?_)
            · refine aw_iinc rfl rfl rfl rfl ?_
              change aw _ _ _ _ 117 [some (.ref 0), some (.int (iI _)), some (.int (iI _)), some (.int (iI _)), some (.int (iI _)), some (.int (iI _)), some (.int (iI _)), _] _ _
              refine aw_goto (p' := 3) rfl rfl ?_
              refine ih _ (by omega) _ _ _ _ rfl hN (hD.su (T := [14, 21, 27, 35, 37, 39]) rfl) (by omega) (by omega) (fun e e0 e1 => ?_) (fun e e0 e1 => hs1 e (by omega) e1) (fun e e0 e1 r1 r2 => ?_) hw
              · by_cases ee : e = c
                · rw [ee]
                  have hno : ¬ (gSteps A u c ≤ m ∧ (f' c).1 < 1000) := by
                    rintro ⟨q1, q2⟩
                    have q3 := hst c hc0 (by omega) q1
                    have q4 := hnx c hc0 (by omega) q1
                    have q5 : ¬ ((mOpen A c x (A 42 3) ∧ ¬ mTaken A c x h) ∧ ((0 ≤ (nx c) ∧ (nx c) < A 42 2) ∧ rc (nx c) ∧ (f (nx c)).1 < 1000)) := by
                      rintro ⟨q6, q7⟩
                      first | omega | exact absurd q6 (by assumption) | (rw [q4.1 (by omega)] at q7; exact absurd q7 (by assumption)) | (rw [q4.2 (by omega)] at q7; exact absurd q7 (by assumption))
                    have := q3.2 q5
                    omega
                  exact ⟨fun q => absurd q hno, fun _ => hs1 c (by omega) (by omega)⟩
                · exact hcf e e0 (by omega)
              · by_cases ee : e = c
                · exfalso
                  rw [ee] at r1 r2
                  have q3 := hst c hc0 (by omega) r1
                  have q4 := hnx c hc0 (by omega) r1
                  have q5 : ¬ ((mOpen A c x (A 42 3) ∧ ¬ mTaken A c x h) ∧ ((0 ≤ (nx c) ∧ (nx c) < A 42 2) ∧ rc (nx c) ∧ (f (nx c)).1 < 1000)) := by
                    rintro ⟨q6, q7⟩
                    first | omega | exact absurd q6 (by assumption) | (rw [q4.1 (by omega)] at q7; exact absurd q7 (by assumption)) | (rw [q4.2 (by omega)] at q7; exact absurd q7 (by assumption))
                  have := q3.2 q5
                  omega
                · exact hnn e e0 (by omega) r1 r2
            · have hln := (by assumption : ((0 ≤ (wNx A f c) ∧ (wNx A f c) < A 42 2) ∧ rc (wNx A f c) ∧ (f (wNx A f c)).1 < 1000))
              refine aw_aload_n rfl rfl rfl ?_
              refine aw_getr (b := 29) rfl rfl (hN.f.k 0 rfl) (hN.f.r 0 6 29 rfl) rfl ?_
              refine aw_iload rfl rfl rfl ?_
              refine aw_fnc (c_shaders hN hI hx0 hx1 hh0 hh1 hcl.1 hcl.2 (hU0.mod hD rfl) (by omega) (by omega)) rfl rfl rfl (Nat.le_of_ble_eq_true rfl) (Or.inr ⟨_, rfl, (hN.f.k 29 rfl)⟩) rfl ?_
              refine aw_if (p' := 88) rfl ⟨by omega, by omega⟩ rfl rfl (fun c6 => ?_) (fun c6 => ?_)
              · dsimp only [zc] at c6
                refine aw_iconst rfl rfl ?_
                refine aw_istore rfl (Nat.le_of_ble_eq_true rfl) rfl rfl ?_
                change aw _ _ _ _ 91 [some (.ref 0), some (.int (iI _)), some (.int (iI _)), some (.int (iI _)), some (.int (iI _)), some (.int (iI _)), some (.int (iI _)), some (.int (iI _))] _ _
                refine aw_aload_n rfl rfl rfl ?_
                refine aw_getr (b := 33) rfl rfl (hN.f.k 0 rfl) (hN.f.r 0 9 33 rfl) rfl ?_
                refine aw_iload_n rfl rfl rfl ?_
                refine aw_iload rfl rfl rfl ?_
                refine aw_iload rfl rfl rfl ?_
                refine aw_iload rfl rfl rfl ?_
                refine aw_aload_n rfl rfl rfl ?_
                refine aw_iload rfl rfl rfl ?_
                refine aw_iload_n rfl rfl rfl ?_
                refine aw_iconst rfl rfl ?_
                refine aw_iconst rfl rfl ?_
                refine aw_calc (c_charge (m := -1) (p := -1) hN hI ⟨hR1, hR2, hR3⟩ (hT.mod hD (by intro a ha; simp only [List.mem_cons, List.not_mem_nil, or_false] at ha; omega)) hx0 hx1 hh0 hh1 hcl.1 hcl.2 (hS.mod hD rfl rfl rfl) (hU0.mod hD rfl) hc0 (by omega) (by omega) (by omega) (pk_all rfl)) rfl rfl rfl (Nat.le_of_ble_eq_true rfl) (Or.inr ⟨_, rfl, (hN.f.k 0 rfl)⟩) rfl ?_
                rintro _ τ7 ⟨rfl, hM7, hD7⟩
                change aw _ _ _ _ 111 [some (.ref 0), some (.int (iI _)), some (.int (iI _)), some (.int (iI _)), some (.int (iI _)), some (.int (iI _)), some (.int (iI _)), some (.int (iI _))] [.long (lI _), .int (iI _), .int (iI _), .int (iI _), .int (iI _), .ref 33] _
                have hcb := mChg_b hI ⟨hR1, hR2, hR3⟩ (x := x) (h := h) (y := A 42 3) (c := c) (s := -1) (p := -1) hx0 hx1 hh0 hh1 (by omega) (by omega)
                refine aw_calc (c_lead1 (f := f) (rc := rc) hM7 hI hv (hAf.mi ((((hD.su (T := [14, 21, 27, 35, 37, 39]) rfl).tr (hD7.su (T := [14, 21, 27, 35, 37, 39]) rfl))).mi) rfl rfl) hfb hh0 hh1 hc0 (by omega) hln (by omega) (by omega) (by omega) (by omega)) rfl rfl rfl (Nat.le_of_ble_eq_true rfl) (Or.inr ⟨_, rfl, (hM7.f.k 33 rfl)⟩) rfl ?_
                rintro _ τ8 ⟨rfl, hM8, hD8, hV8, hU8, hW8⟩
                change aw _ _ _ _ 114 [some (.ref 0), some (.int (iI _)), some (.int (iI _)), some (.int (iI _)), some (.int (iI _)), some (.int (iI _)), some (.int (iI _)), some (.int (iI _))] [] _
                refine aw_iinc rfl rfl rfl rfl ?_
                change aw _ _ _ _ 117 [some (.ref 0), some (.int (iI _)), some (.int (iI _)), some (.int (iI _)), some (.int (iI _)), some (.int (iI _)), some (.int (iI _)), some (.int (iI _))] _ _
                refine aw_goto (p' := 3) rfl rfl ?_
                have q1 : gSteps A u c ≤ m := by omega
                have q3 := hst c hc0 (by omega) q1
                have q4 := hnx c hc0 (by omega) q1
                have q8 := q4.2 (by omega)
                rw [q8] at q3
                have q9 := q3.1 ⟨by assumption, by assumption⟩
                have q10 : (f' c).1 < 1000 := by
                  rw [q9]
                  have := hf1 _ hln.1.1 hln.1.2
                  have := hln.2.2
                  have hws : 0 ≤ wSun A x h c ∧ wSun A x h c ≤ 1 := by unfold wSun; split <;> omega
                  show wSun A x h c + _ < 1000
                  omega
                refine ih _ (by omega) _ _ _ _ rfl hM8 (((hD.su (T := [14, 21, 27, 35, 37, 39]) rfl).tr (hD7.su (T := [14, 21, 27, 35, 37, 39]) rfl)).tr (hD8.su (T := [14, 21, 27, 35, 37, 39]) rfl)) (by omega) (by omega) (fun e e0 e1 => ?_) (fun e e0 e1 => ?_) (fun e e0 e1 r1 r2 => ?_) (fun w q => ?_)
                · rw [hU8, hW8, hD7.z 37 rfl, hD7.q 39 rfl]
                  by_cases ee : e = c
                  · rw [ee, if_pos rfl, if_pos rfl]
                    refine ⟨fun _ => ?_, fun q => absurd ⟨q1, q10⟩ q⟩
                    rw [q9]
                    refine ⟨?_, ?_⟩
                    · show _ = wSun A x h c + _
                      have hss : wSun A x h c = (if mMany A x h (A 42 3) c = 0 then 1 else 0) := rfl
                      have hm0 := mSet_0 (A := A) (x := x) (h := h) (y := A 42 3) (c := c)
                      split at hss <;> omega
                    · show _ = wCost A R x h c + _
                      unfold wCost
                      omega
                  · rw [if_neg ee, if_neg ee]
                    exact hcf e e0 (by omega)
                · rw [hU8, hD7.z 37 rfl, if_neg (by omega)]
                  exact hs1 e (by omega) e1
                · rw [hV8, hD7.z 35 rfl]
                  by_cases ee : e = c
                  · rw [ee, if_pos rfl, q8]
                  · rw [if_neg (by omega)]
                    exact hnn e e0 (by omega) r1 r2
                · rw [hV8, hD7.z 35 rfl, if_neg (by omega)]
                  exact hw w q
              · dsimp only [zc] at c6
                refine aw_iconst rfl rfl ?_
                refine aw_goto (p' := 89) rfl rfl ?_
                refine aw_istore rfl (Nat.le_of_ble_eq_true rfl) rfl rfl ?_
                change aw _ _ _ _ 91 [some (.ref 0), some (.int (iI _)), some (.int (iI _)), some (.int (iI _)), some (.int (iI _)), some (.int (iI _)), some (.int (iI _)), some (.int (iI _))] _ _
                refine aw_aload_n rfl rfl rfl ?_
                refine aw_getr (b := 33) rfl rfl (hN.f.k 0 rfl) (hN.f.r 0 9 33 rfl) rfl ?_
                refine aw_iload_n rfl rfl rfl ?_
                refine aw_iload rfl rfl rfl ?_
                refine aw_iload rfl rfl rfl ?_
                refine aw_iload rfl rfl rfl ?_
                refine aw_aload_n rfl rfl rfl ?_
                refine aw_iload rfl rfl rfl ?_
                refine aw_iload_n rfl rfl rfl ?_
                refine aw_iconst rfl rfl ?_
                refine aw_iconst rfl rfl ?_
                refine aw_calc (c_charge (m := -1) (p := -1) hN hI ⟨hR1, hR2, hR3⟩ (hT.mod hD (by intro a ha; simp only [List.mem_cons, List.not_mem_nil, or_false] at ha; omega)) hx0 hx1 hh0 hh1 hcl.1 hcl.2 (hS.mod hD rfl rfl rfl) (hU0.mod hD rfl) hc0 (by omega) (by omega) (by omega) (pk_all rfl)) rfl rfl rfl (Nat.le_of_ble_eq_true rfl) (Or.inr ⟨_, rfl, (hN.f.k 0 rfl)⟩) rfl ?_
                rintro _ τ9 ⟨rfl, hM9, hD9⟩
                change aw _ _ _ _ 111 [some (.ref 0), some (.int (iI _)), some (.int (iI _)), some (.int (iI _)), some (.int (iI _)), some (.int (iI _)), some (.int (iI _)), some (.int (iI _))] [.long (lI _), .int (iI _), .int (iI _), .int (iI _), .int (iI _), .ref 33] _
                have hcb := mChg_b hI ⟨hR1, hR2, hR3⟩ (x := x) (h := h) (y := A 42 3) (c := c) (s := -1) (p := -1) hx0 hx1 hh0 hh1 (by omega) (by omega)
                refine aw_calc (c_lead1 (f := f) (rc := rc) hM9 hI hv (hAf.mi ((((hD.su (T := [14, 21, 27, 35, 37, 39]) rfl).tr (hD9.su (T := [14, 21, 27, 35, 37, 39]) rfl))).mi) rfl rfl) hfb hh0 hh1 hc0 (by omega) hln (by omega) (by omega) (by omega) (by omega)) rfl rfl rfl (Nat.le_of_ble_eq_true rfl) (Or.inr ⟨_, rfl, (hM9.f.k 33 rfl)⟩) rfl ?_
                rintro _ τ10 ⟨rfl, hM10, hD10, hV10, hU10, hW10⟩
                change aw _ _ _ _ 114 [some (.ref 0), some (.int (iI _)), some (.int (iI _)), some (.int (iI _)), some (.int (iI _)), some (.int (iI _)), some (.int (iI _)), some (.int (iI _))] [] _
                refine aw_iinc rfl rfl rfl rfl ?_
                change aw _ _ _ _ 117 [some (.ref 0), some (.int (iI _)), some (.int (iI _)), some (.int (iI _)), some (.int (iI _)), some (.int (iI _)), some (.int (iI _)), some (.int (iI _))] _ _
                refine aw_goto (p' := 3) rfl rfl ?_
                have q1 : gSteps A u c ≤ m := by omega
                have q3 := hst c hc0 (by omega) q1
                have q4 := hnx c hc0 (by omega) q1
                have q8 := q4.2 (by omega)
                rw [q8] at q3
                have q9 := q3.1 ⟨by assumption, by assumption⟩
                have q10 : (f' c).1 < 1000 := by
                  rw [q9]
                  have := hf1 _ hln.1.1 hln.1.2
                  have := hln.2.2
                  have hws : 0 ≤ wSun A x h c ∧ wSun A x h c ≤ 1 := by unfold wSun; split <;> omega
                  show wSun A x h c + _ < 1000
                  omega
                refine ih _ (by omega) _ _ _ _ rfl hM10 (((hD.su (T := [14, 21, 27, 35, 37, 39]) rfl).tr (hD9.su (T := [14, 21, 27, 35, 37, 39]) rfl)).tr (hD10.su (T := [14, 21, 27, 35, 37, 39]) rfl)) (by omega) (by omega) (fun e e0 e1 => ?_) (fun e e0 e1 => ?_) (fun e e0 e1 r1 r2 => ?_) (fun w q => ?_)
                · rw [hU10, hW10, hD9.z 37 rfl, hD9.q 39 rfl]
                  by_cases ee : e = c
                  · rw [ee, if_pos rfl, if_pos rfl]
                    refine ⟨fun _ => ?_, fun q => absurd ⟨q1, q10⟩ q⟩
                    rw [q9]
                    refine ⟨?_, ?_⟩
                    · show _ = wSun A x h c + _
                      have hss : wSun A x h c = (if mMany A x h (A 42 3) c = 0 then 1 else 0) := rfl
                      have hm0 := mSet_0 (A := A) (x := x) (h := h) (y := A 42 3) (c := c)
                      split at hss <;> omega
                    · show _ = wCost A R x h c + _
                      unfold wCost
                      omega
                  · rw [if_neg ee, if_neg ee]
                    exact hcf e e0 (by omega)
                · rw [hU10, hD9.z 37 rfl, if_neg (by omega)]
                  exact hs1 e (by omega) e1
                · rw [hV10, hD9.z 35 rfl]
                  by_cases ee : e = c
                  · rw [ee, if_pos rfl, q8]
                  · rw [if_neg (by omega)]
                    exact hnn e e0 (by omega) r1 r2
                · rw [hV10, hD9.z 35 rfl, if_neg (by omega)]
                  exact hw w q
          · dsimp only [zc] at c4
            skip
            refine aw_iload rfl rfl rfl ?_
            refine aw_goto (p' := 58) rfl rfl ?_
            refine aw_istore rfl (Nat.le_of_ble_eq_true rfl) rfl rfl ?_
            change aw _ _ _ _ 60 [some (.ref 0), some (.int (iI _)), some (.int (iI _)), some (.int (iI _)), some (.int (iI _)), some (.int (iI _)), some (.int (iI _)), _] _ _
            refine aw_aload_n rfl rfl rfl ?_
            refine aw_getr (b := 33) rfl rfl (hN.f.k 0 rfl) (hN.f.r 0 9 33 rfl) rfl ?_
            refine aw_iload rfl rfl rfl ?_
            refine aw_fnc (c_leads1 hN hI hv hAf2 hfb ⟨by omega, by omega⟩) rfl rfl rfl (Nat.le_of_ble_eq_true rfl) (Or.inr ⟨_, rfl, (hN.f.k 33 rfl)⟩) rfl ?_
            refine aw_ifeqb (p' := 114) rfl rfl rfl (fun c11 => ?_) (fun c11 => ?_)
            · refine aw_iinc rfl rfl rfl rfl ?_
              change aw _ _ _ _ 117 [some (.ref 0), some (.int (iI _)), some (.int (iI _)), some (.int (iI _)), some (.int (iI _)), some (.int (iI _)), some (.int (iI _)), _] _ _
              refine aw_goto (p' := 3) rfl rfl ?_
              refine ih _ (by omega) _ _ _ _ rfl hN (hD.su (T := [14, 21, 27, 35, 37, 39]) rfl) (by omega) (by omega) (fun e e0 e1 => ?_) (fun e e0 e1 => hs1 e (by omega) e1) (fun e e0 e1 r1 r2 => ?_) hw
              · by_cases ee : e = c
                · rw [ee]
                  have hno : ¬ (gSteps A u c ≤ m ∧ (f' c).1 < 1000) := by
                    rintro ⟨q1, q2⟩
                    have q3 := hst c hc0 (by omega) q1
                    have q4 := hnx c hc0 (by omega) q1
                    have q5 : ¬ ((mOpen A c x (A 42 3) ∧ ¬ mTaken A c x h) ∧ ((0 ≤ (nx c) ∧ (nx c) < A 42 2) ∧ rc (nx c) ∧ (f (nx c)).1 < 1000)) := by
                      rintro ⟨q6, q7⟩
                      first | omega | exact absurd q6 (by assumption) | (rw [q4.1 (by omega)] at q7; exact absurd q7 (by assumption)) | (rw [q4.2 (by omega)] at q7; exact absurd q7 (by assumption))
                    have := q3.2 q5
                    omega
                  exact ⟨fun q => absurd q hno, fun _ => hs1 c (by omega) (by omega)⟩
                · exact hcf e e0 (by omega)
              · by_cases ee : e = c
                · exfalso
                  rw [ee] at r1 r2
                  have q3 := hst c hc0 (by omega) r1
                  have q4 := hnx c hc0 (by omega) r1
                  have q5 : ¬ ((mOpen A c x (A 42 3) ∧ ¬ mTaken A c x h) ∧ ((0 ≤ (nx c) ∧ (nx c) < A 42 2) ∧ rc (nx c) ∧ (f (nx c)).1 < 1000)) := by
                    rintro ⟨q6, q7⟩
                    first | omega | exact absurd q6 (by assumption) | (rw [q4.1 (by omega)] at q7; exact absurd q7 (by assumption)) | (rw [q4.2 (by omega)] at q7; exact absurd q7 (by assumption))
                  have := q3.2 q5
                  omega
                · exact hnn e e0 (by omega) r1 r2
            · have hln := (by assumption : ((0 ≤ c ∧ c < A 42 2) ∧ rc c ∧ (f c).1 < 1000))
              refine aw_aload_n rfl rfl rfl ?_
              refine aw_getr (b := 29) rfl rfl (hN.f.k 0 rfl) (hN.f.r 0 6 29 rfl) rfl ?_
              refine aw_iload rfl rfl rfl ?_
              refine aw_fnc (c_shaders hN hI hx0 hx1 hh0 hh1 hcl.1 hcl.2 (hU0.mod hD rfl) (by omega) (by omega)) rfl rfl rfl (Nat.le_of_ble_eq_true rfl) (Or.inr ⟨_, rfl, (hN.f.k 29 rfl)⟩) rfl ?_
              refine aw_if (p' := 88) rfl ⟨by omega, by omega⟩ rfl rfl (fun c12 => ?_) (fun c12 => ?_)
              · dsimp only [zc] at c12
                refine aw_iconst rfl rfl ?_
                refine aw_istore rfl (Nat.le_of_ble_eq_true rfl) rfl rfl ?_
                change aw _ _ _ _ 91 [some (.ref 0), some (.int (iI _)), some (.int (iI _)), some (.int (iI _)), some (.int (iI _)), some (.int (iI _)), some (.int (iI _)), some (.int (iI _))] _ _
                refine aw_aload_n rfl rfl rfl ?_
                refine aw_getr (b := 33) rfl rfl (hN.f.k 0 rfl) (hN.f.r 0 9 33 rfl) rfl ?_
                refine aw_iload_n rfl rfl rfl ?_
                refine aw_iload rfl rfl rfl ?_
                refine aw_iload rfl rfl rfl ?_
                refine aw_iload rfl rfl rfl ?_
                refine aw_aload_n rfl rfl rfl ?_
                refine aw_iload rfl rfl rfl ?_
                refine aw_iload_n rfl rfl rfl ?_
                refine aw_iconst rfl rfl ?_
                refine aw_iconst rfl rfl ?_
                refine aw_calc (c_charge (m := -1) (p := -1) hN hI ⟨hR1, hR2, hR3⟩ (hT.mod hD (by intro a ha; simp only [List.mem_cons, List.not_mem_nil, or_false] at ha; omega)) hx0 hx1 hh0 hh1 hcl.1 hcl.2 (hS.mod hD rfl rfl rfl) (hU0.mod hD rfl) hc0 (by omega) (by omega) (by omega) (pk_all rfl)) rfl rfl rfl (Nat.le_of_ble_eq_true rfl) (Or.inr ⟨_, rfl, (hN.f.k 0 rfl)⟩) rfl ?_
                rintro _ τ13 ⟨rfl, hM13, hD13⟩
                change aw _ _ _ _ 111 [some (.ref 0), some (.int (iI _)), some (.int (iI _)), some (.int (iI _)), some (.int (iI _)), some (.int (iI _)), some (.int (iI _)), some (.int (iI _))] [.long (lI _), .int (iI _), .int (iI _), .int (iI _), .int (iI _), .ref 33] _
                have hcb := mChg_b hI ⟨hR1, hR2, hR3⟩ (x := x) (h := h) (y := A 42 3) (c := c) (s := -1) (p := -1) hx0 hx1 hh0 hh1 (by omega) (by omega)
                refine aw_calc (c_lead1 (f := f) (rc := rc) hM13 hI hv (hAf.mi ((((hD.su (T := [14, 21, 27, 35, 37, 39]) rfl).tr (hD13.su (T := [14, 21, 27, 35, 37, 39]) rfl))).mi) rfl rfl) hfb hh0 hh1 hc0 (by omega) hln (by omega) (by omega) (by omega) (by omega)) rfl rfl rfl (Nat.le_of_ble_eq_true rfl) (Or.inr ⟨_, rfl, (hM13.f.k 33 rfl)⟩) rfl ?_
                rintro _ τ14 ⟨rfl, hM14, hD14, hV14, hU14, hW14⟩
                change aw _ _ _ _ 114 [some (.ref 0), some (.int (iI _)), some (.int (iI _)), some (.int (iI _)), some (.int (iI _)), some (.int (iI _)), some (.int (iI _)), some (.int (iI _))] [] _
                refine aw_iinc rfl rfl rfl rfl ?_
                change aw _ _ _ _ 117 [some (.ref 0), some (.int (iI _)), some (.int (iI _)), some (.int (iI _)), some (.int (iI _)), some (.int (iI _)), some (.int (iI _)), some (.int (iI _))] _ _
                refine aw_goto (p' := 3) rfl rfl ?_
                have q1 : gSteps A u c ≤ m := by omega
                have q3 := hst c hc0 (by omega) q1
                have q4 := hnx c hc0 (by omega) q1
                have q8 := q4.1 (by omega)
                rw [q8] at q3
                have q9 := q3.1 ⟨by assumption, by assumption⟩
                have q10 : (f' c).1 < 1000 := by
                  rw [q9]
                  have := hf1 _ hln.1.1 hln.1.2
                  have := hln.2.2
                  have hws : 0 ≤ wSun A x h c ∧ wSun A x h c ≤ 1 := by unfold wSun; split <;> omega
                  show wSun A x h c + _ < 1000
                  omega
                refine ih _ (by omega) _ _ _ _ rfl hM14 (((hD.su (T := [14, 21, 27, 35, 37, 39]) rfl).tr (hD13.su (T := [14, 21, 27, 35, 37, 39]) rfl)).tr (hD14.su (T := [14, 21, 27, 35, 37, 39]) rfl)) (by omega) (by omega) (fun e e0 e1 => ?_) (fun e e0 e1 => ?_) (fun e e0 e1 r1 r2 => ?_) (fun w q => ?_)
                · rw [hU14, hW14, hD13.z 37 rfl, hD13.q 39 rfl]
                  by_cases ee : e = c
                  · rw [ee, if_pos rfl, if_pos rfl]
                    refine ⟨fun _ => ?_, fun q => absurd ⟨q1, q10⟩ q⟩
                    rw [q9]
                    refine ⟨?_, ?_⟩
                    · show _ = wSun A x h c + _
                      have hss : wSun A x h c = (if mMany A x h (A 42 3) c = 0 then 1 else 0) := rfl
                      have hm0 := mSet_0 (A := A) (x := x) (h := h) (y := A 42 3) (c := c)
                      split at hss <;> omega
                    · show _ = wCost A R x h c + _
                      unfold wCost
                      omega
                  · rw [if_neg ee, if_neg ee]
                    exact hcf e e0 (by omega)
                · rw [hU14, hD13.z 37 rfl, if_neg (by omega)]
                  exact hs1 e (by omega) e1
                · rw [hV14, hD13.z 35 rfl]
                  by_cases ee : e = c
                  · rw [ee, if_pos rfl, q8]
                  · rw [if_neg (by omega)]
                    exact hnn e e0 (by omega) r1 r2
                · rw [hV14, hD13.z 35 rfl, if_neg (by omega)]
                  exact hw w q
              · dsimp only [zc] at c12
                refine aw_iconst rfl rfl ?_
                refine aw_goto (p' := 89) rfl rfl ?_
                refine aw_istore rfl (Nat.le_of_ble_eq_true rfl) rfl rfl ?_
                change aw _ _ _ _ 91 [some (.ref 0), some (.int (iI _)), some (.int (iI _)), some (.int (iI _)), some (.int (iI _)), some (.int (iI _)), some (.int (iI _)), some (.int (iI _))] _ _
                refine aw_aload_n rfl rfl rfl ?_
                refine aw_getr (b := 33) rfl rfl (hN.f.k 0 rfl) (hN.f.r 0 9 33 rfl) rfl ?_
                refine aw_iload_n rfl rfl rfl ?_
                refine aw_iload rfl rfl rfl ?_
                refine aw_iload rfl rfl rfl ?_
                refine aw_iload rfl rfl rfl ?_
                refine aw_aload_n rfl rfl rfl ?_
                refine aw_iload rfl rfl rfl ?_
                refine aw_iload_n rfl rfl rfl ?_
                refine aw_iconst rfl rfl ?_
                refine aw_iconst rfl rfl ?_
                refine aw_calc (c_charge (m := -1) (p := -1) hN hI ⟨hR1, hR2, hR3⟩ (hT.mod hD (by intro a ha; simp only [List.mem_cons, List.not_mem_nil, or_false] at ha; omega)) hx0 hx1 hh0 hh1 hcl.1 hcl.2 (hS.mod hD rfl rfl rfl) (hU0.mod hD rfl) hc0 (by omega) (by omega) (by omega) (pk_all rfl)) rfl rfl rfl (Nat.le_of_ble_eq_true rfl) (Or.inr ⟨_, rfl, (hN.f.k 0 rfl)⟩) rfl ?_
                rintro _ τ15 ⟨rfl, hM15, hD15⟩
                change aw _ _ _ _ 111 [some (.ref 0), some (.int (iI _)), some (.int (iI _)), some (.int (iI _)), some (.int (iI _)), some (.int (iI _)), some (.int (iI _)), some (.int (iI _))] [.long (lI _), .int (iI _), .int (iI _), .int (iI _), .int (iI _), .ref 33] _
                have hcb := mChg_b hI ⟨hR1, hR2, hR3⟩ (x := x) (h := h) (y := A 42 3) (c := c) (s := -1) (p := -1) hx0 hx1 hh0 hh1 (by omega) (by omega)
                refine aw_calc (c_lead1 (f := f) (rc := rc) hM15 hI hv (hAf.mi ((((hD.su (T := [14, 21, 27, 35, 37, 39]) rfl).tr (hD15.su (T := [14, 21, 27, 35, 37, 39]) rfl))).mi) rfl rfl) hfb hh0 hh1 hc0 (by omega) hln (by omega) (by omega) (by omega) (by omega)) rfl rfl rfl (Nat.le_of_ble_eq_true rfl) (Or.inr ⟨_, rfl, (hM15.f.k 33 rfl)⟩) rfl ?_
                rintro _ τ16 ⟨rfl, hM16, hD16, hV16, hU16, hW16⟩
                change aw _ _ _ _ 114 [some (.ref 0), some (.int (iI _)), some (.int (iI _)), some (.int (iI _)), some (.int (iI _)), some (.int (iI _)), some (.int (iI _)), some (.int (iI _))] [] _
                refine aw_iinc rfl rfl rfl rfl ?_
                change aw _ _ _ _ 117 [some (.ref 0), some (.int (iI _)), some (.int (iI _)), some (.int (iI _)), some (.int (iI _)), some (.int (iI _)), some (.int (iI _)), some (.int (iI _))] _ _
                refine aw_goto (p' := 3) rfl rfl ?_
                have q1 : gSteps A u c ≤ m := by omega
                have q3 := hst c hc0 (by omega) q1
                have q4 := hnx c hc0 (by omega) q1
                have q8 := q4.1 (by omega)
                rw [q8] at q3
                have q9 := q3.1 ⟨by assumption, by assumption⟩
                have q10 : (f' c).1 < 1000 := by
                  rw [q9]
                  have := hf1 _ hln.1.1 hln.1.2
                  have := hln.2.2
                  have hws : 0 ≤ wSun A x h c ∧ wSun A x h c ≤ 1 := by unfold wSun; split <;> omega
                  show wSun A x h c + _ < 1000
                  omega
                refine ih _ (by omega) _ _ _ _ rfl hM16 (((hD.su (T := [14, 21, 27, 35, 37, 39]) rfl).tr (hD15.su (T := [14, 21, 27, 35, 37, 39]) rfl)).tr (hD16.su (T := [14, 21, 27, 35, 37, 39]) rfl)) (by omega) (by omega) (fun e e0 e1 => ?_) (fun e e0 e1 => ?_) (fun e e0 e1 r1 r2 => ?_) (fun w q => ?_)
                · rw [hU16, hW16, hD15.z 37 rfl, hD15.q 39 rfl]
                  by_cases ee : e = c
                  · rw [ee, if_pos rfl, if_pos rfl]
                    refine ⟨fun _ => ?_, fun q => absurd ⟨q1, q10⟩ q⟩
                    rw [q9]
                    refine ⟨?_, ?_⟩
                    · show _ = wSun A x h c + _
                      have hss : wSun A x h c = (if mMany A x h (A 42 3) c = 0 then 1 else 0) := rfl
                      have hm0 := mSet_0 (A := A) (x := x) (h := h) (y := A 42 3) (c := c)
                      split at hss <;> omega
                    · show _ = wCost A R x h c + _
                      unfold wCost
                      omega
                  · rw [if_neg ee, if_neg ee]
                    exact hcf e e0 (by omega)
                · rw [hU16, hD15.z 37 rfl, if_neg (by omega)]
                  exact hs1 e (by omega) e1
                · rw [hV16, hD15.z 35 rfl]
                  by_cases ee : e = c
                  · rw [ee, if_pos rfl, q8]
                  · rw [if_neg (by omega)]
                    exact hnn e e0 (by omega) r1 r2
                · rw [hV16, hD15.z 35 rfl, if_neg (by omega)]
                  exact hw w q
set_option maxRecDepth 10000 in
set_option maxHeartbeats 2000000 in
theorem c_hour1 {d : Nat} {sz : Nat} {κ : Nat × (Nat → Int32) × Option Nat} {A : Nat → Int → Int} {g : Nat → Nat} {σ : az_S} (hC : CR sz κ A g σ) (hI : MI sz A) (hv : g 701 = 1) {R : tRules} (hR : PW R) (hT : cTar σ (g 700) R) {x h : Int} (hx0 : 0 ≤ x) (hx1 : x ≤ 3599) (hh0 : 0 ≤ h) (hh1 : h ≤ 11) (hS : cSL A x (A 42 3) σ) (hU0 : cST A x h (A 42 3) σ) {f f' : Int → Int × Int} {rc : Int → Prop} {nx : Int → Int} {u m lb : Int} (hu0 : 0 ≤ u) (hu1 : u < A 42 2) (hm0 : 0 ≤ m) (hm1 : m ≤ 11) (hlb : lb = 0 ∨ lb = 1) (hAf : cAf A f rc 36 38 (A 42 2) σ) (hfb : ∀ e : Int, 0 ≤ e → e < A 42 2 → (0 ≤ (f e).1 ∧ (f e).1 ≤ 1000) ∧ (0 ≤ (f e).2 ∧ (f e).2 ≤ 1000000000000)) (hf1 : ∀ e : Int, 0 ≤ e → e < A 42 2 → (f e).1 ≤ 20 ∨ (f e).1 = 1000) (hnx : ∀ c : Int, 0 ≤ c → c < A 42 2 → (gSteps A u c ≤ m) → (lb = 1 → nx c = c) ∧ (lb = 0 → nx c = wNx A f c)) (hrk : lb = 0 → ∀ c : Int, 0 ≤ c → c < A 42 2 → (gSteps A u c ≤ m) → ∀ k : Int, 0 ≤ k → k < 5 → 0 ≤ mBeside A c k → rc (mBeside A c k)) (hst : ∀ c : Int, 0 ≤ c → c < A 42 2 → (gSteps A u c ≤ m) → (((mOpen A c x (A 42 3) ∧ ¬ mTaken A c x h) ∧ ((0 ≤ (nx c) ∧ (nx c) < A 42 2) ∧ rc (nx c) ∧ (f (nx c)).1 < 1000)) → f' c = (wSun A x h c + (f (nx c)).1, wCost A R x h c + (f (nx c)).2)) ∧ (¬ ((mOpen A c x (A 42 3) ∧ ¬ mTaken A c x h) ∧ ((0 ≤ (nx c) ∧ (nx c) < A 42 2) ∧ rc (nx c) ∧ (f (nx c)).1 < 1000)) → (f' c).1 = 1000)) (hs0 : ∀ e : Int, 0 ≤ e → e < A 42 2 → zx σ 37 e = -1) : cal (d + 6) 152 [.ref 0, .int (iI h), .int (iI u), .int (iI m), .int (iI lb)] σ (fun r τ => r = none ∧ CR sz κ A g τ ∧ Mod σ τ [14, 21, 27, 35, 37, 39] ∧ cAf A f' (fun c => (gSteps A u c ≤ m)) 37 39 (A 42 2) τ ∧ (∀ c : Int, 0 ≤ c → c < A 42 2 → (gSteps A u c ≤ m) → (f' c).1 < 1000 → zx τ 35 (h * A 42 2 + c) = nx c) ∧ (∀ w : Int, (w < h * A 42 2 ∨ h * A 42 2 + A 42 2 ≤ w) → zx τ 35 w = zx σ 35 w)) := by
  obtain ⟨hR1, hR2, hR3⟩ := hR
  have hb7 := hC.force.1
  have hce := hI.cells
  have hcl := hI.clock
  have hsz := hC.f.1
  refine cal_of (M := (yX11_leadThroughHour, cX11_leadThroughHour, 8, none)) (cd := k_X11_leadThroughHour) (L := [some (.ref 0), some (.int (iI h)), some (.int (iI u)), some (.int (iI m)), some (.int (iI lb)), none, none, none]) rfl (Nat.le_of_ble_eq_true rfl) rfl rfl ?_
  refine aw_iconst rfl rfl ?_
  refine aw_istore rfl (Nat.le_of_ble_eq_true rfl) rfl rfl ?_
  change aw _ _ _ _ 3 [some (.ref 0), some (.int (iI _)), some (.int (iI _)), some (.int (iI _)), some (.int (iI _)), some (.int (iI _)), none, none] _ _
  exact c_hour1_l3 hC hI hv ⟨hR1, hR2, hR3⟩ hT hx0 hx1 hh0 hh1 hS hU0 hu0 hu1 hm0 hm1 hlb hAf hfb hf1 hnx hrk hst hs0 _ _ 0 _ _ rfl hC Mod.rf (by omega) (by omega) (fun e _ _ => by omega) (fun e e0 e1 => hs0 e (by omega) e1) (fun e _ _ => by omega) (fun w _ => rfl)
