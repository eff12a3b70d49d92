set_option maxRecDepth 10000 in
theorem c_personN {d : Nat} {sz : Nat} {κ : Nat × (Nat → Int32) × Option Nat} {A : Nat → Int → Int} {g : Nat → Nat} {σ : az_S} (hC : CR sz κ A g σ) (hI : MI sz A) (hlim : az_n σ ≤ 890000) (hlt : A 42 9 < 16) : aw (d + 7) k_X11_person (some .int) (fun r τ => r = some (.int (iI (zit (A 42 9 ≠ 16) (A 42 9 + 1 - 1) (-1)))) ∧ ∃ g', CR sz κ (m_person_op A) g' τ ∧ g' 700 = g 700 ∧ Kp σ τ) 14 [some (.ref 0)] [] σ := by
  have hpe := hI.people
  have hn := hC.n
  have hnw := Ex_nw (σ := σ) (kd := 4) (m := 2) (by omega)
  have hs4 : az_sh (az_nw σ 4 2) (az_n σ) = (4, 2) := va_up_self _ _ _
  refine aw_aload_n rfl rfl rfl ?_
  refine aw_getr (b := 5) rfl rfl (hC.f.k 0 rfl) (hC.f.r 0 2 5 rfl) rfl ?_
  refine aw_new (nf := 2) rfl rfl (by omega) rfl rfl ?_
  refine aw_dup rfl rfl rfl ?_
  refine aw_calc (c_pinit (a := az_n σ) (by rw [hs4])) rfl rfl rfl (Nat.le_of_ble_eq_true rfl) (Or.inr ⟨_, rfl, by rw [hs4]⟩) rfl ?_
  rintro _ τ1 ⟨rfl, hD1, v0, v1⟩
  have hx : Ex σ τ1 [] := hnw.tr hD1.ex (fun b hb h => by rw [List.mem_singleton.mp hb] at h; omega)
  have hsh : az_sh τ1 (az_n σ) = (4, 2) := by rw [hD1.2.2.1]; exact hs4
  refine aw_calc (hC.putP (A' := m_person_op A) hI hx hD1.1 hlim (by rw [show az_sl τ1 = az_sl σ + 2 from hD1.2.1]; omega) (by rw [hsh]; decide) (by unfold m_person_op; rw [tit_t (by omega)]; simp [up]) (fun a z h1 h2 => ?_) (fun q' => ?_)) rfl rfl rfl (Nat.le_of_ble_eq_true rfl) (Or.inr ⟨_, rfl, by rw [(hx.sm (Or.inl (by omega)) (by simp)).1]; exact hC.f.k 5 rfl⟩) rfl ?_
  · unfold m_person_op
    rw [tit_t (by omega)]
    simp only [up]
    rw [if_neg (by omega), if_neg (by omega)]
  · have e1 : gP (gNew g (200 + (A 42 9).toNat) 1 (az_n σ) 600 q') (A 42 9) = az_n σ := by unfold gP; rw [gNew_n (by omega)]; omega
    unfold CP m_person_op
    rw [tit_t (by omega), e1]
    refine ⟨hsh, by rw [v0]; simp [up], fun q => ?_⟩
    exfalso
    simp [up] at q
  · rintro _ τ ⟨rfl, g', h1, h2, h3⟩
    have ec : m_person_op A 42 9 = A 42 9 + 1 := by unfold m_person_op; rw [tit_t (by omega)]; simp [up]
    refine aw_pop rfl rfl rfl ?_
    refine aw_aload_n rfl rfl rfl ?_
    refine aw_getr (b := 5) rfl rfl (h1.f.k 0 rfl) (h1.f.r 0 2 5 rfl) rfl ?_
    refine aw_fnc (c_size (h1.f.k 5 rfl) h1.lP.1) rfl rfl rfl (Nat.le_of_ble_eq_true rfl) (Or.inr ⟨_, rfl, h1.f.k 5 rfl⟩) rfl ?_
    refine aw_iconst rfl rfl ?_
    refine aw_isub rfl rfl ?_
    exact aw_reti rfl ⟨by rw [ec, zit_t (by omega)], g', h1, h2, h3⟩
set_option maxRecDepth 10000 in
set_option maxHeartbeats 2000000 in
theorem c_person {d : Nat} {sz : Nat} {κ : Nat × (Nat → Int32) × Option Nat} {A : Nat → Int → Int} {g : Nat → Nat} {σ : az_S} (hC : CR sz κ A g σ) (hI : MI sz A) (hlim : az_n σ ≤ 890000) : cal (d + 8) 98 [.ref 0] σ (fun r τ => r = some (.int (iI (zit (A 42 9 ≠ 16) (A 42 9 + 1 - 1) (-1)))) ∧ ∃ g', CR sz κ (m_person_op A) g' τ ∧ g' 700 = g 700 ∧ Kp σ τ) := by
  have hpe := hI.people
  refine cal_of (M := (yX11_person, cX11_person, 1, (some .int))) (cd := k_X11_person) (L := [some (.ref 0)]) rfl (Nat.le_of_ble_eq_true rfl) rfl rfl ?_
  refine aw_aload_n rfl rfl rfl ?_
  refine aw_getr (b := 5) rfl rfl (hC.f.k 0 rfl) (hC.f.r 0 2 5 rfl) rfl ?_
  refine aw_fnc (c_size (hC.f.k 5 rfl) hC.lP.1) rfl rfl rfl (Nat.le_of_ble_eq_true rfl) (Or.inr ⟨_, rfl, (hC.f.k 5 rfl)⟩) rfl ?_
  refine aw_bipush rfl rfl rfl ?_
  refine aw_icmp (p' := 14) rfl ⟨by omega, by omega⟩ ⟨by omega, by omega⟩ rfl rfl (fun c1 => ?_) (fun c1 => ?_)
  · dsimp only [zc] at c1
    exact c_personN hC hI hlim (by omega)
  · dsimp only [zc] at c1
    refine aw_iconst rfl rfl ?_
    refine aw_reti rfl ?_
    refine ⟨?_, g, ?_, rfl, Kp.rf⟩
    · rw [zit_f (by omega)]
    · unfold m_person_op; rw [tit_f (by omega)]; exact hC
/-- a thing that is made but not yet in the list -/
def Made (A : Nat → Int → Int) (σ τ : az_S) (k c p e u v : Int) : Prop := Ex σ τ [] ∧ az_n τ = az_n σ + 4 ∧ az_sl τ ≤ az_sl σ + 150 ∧ (az_sh τ (az_n σ) = (11, 14) ∧ az_sh τ (az_n σ + 1) = (100, 41) ∧ az_sh τ (az_n σ + 2) = (100, 41) ∧ az_sh τ (az_n σ + 3) = (100, 41)) ∧ (az_r τ (az_n σ) 7 = some (az_n σ + 1) ∧ az_r τ (az_n σ) 8 = some (az_n σ + 2) ∧ az_r τ (az_n σ) 9 = some (az_n σ + 3)) ∧ (zx τ (az_n σ) 0 = k ∧ zx τ (az_n σ) 1 = c ∧ zx τ (az_n σ) 2 = p ∧ zx τ (az_n σ) 3 = A 42 3 ∧ zx τ (az_n σ) 4 = e ∧ zx τ (az_n σ) 5 = u ∧ zx τ (az_n σ) 6 = v ∧ zx τ (az_n σ) 10 = 0 ∧ zx τ (az_n σ) 11 = -1 ∧ zx τ (az_n σ) 13 = -1)
set_option maxRecDepth 10000 in
set_option maxHeartbeats 1000000 in
theorem c_addThing {d : Nat} {sz : Nat} {κ : Nat × (Nat → Int32) × Option Nat} {A : Nat → Int → Int} {g : Nat → Nat} {σ : az_S} (hC : CR sz κ A g σ) (hI : MI sz A) (hlim : az_n σ ≤ 890000) {A' : Nat → Int → Int} {τ : az_S} {k c p e u v h : Int} (hM : Made A σ τ k c p e u v) (hh : inI h) (hlt : A 42 12 < 24) (hN : A' 42 12 = A 42 12 + 1) (hA : ∀ a z, ¬ (a = 42 ∧ z = 12) → ¬ (49 ≤ a ∧ a ≤ 62 ∧ (a < 57 ∨ 59 < a) ∧ z = A 42 12) → ¬ (57 ≤ a ∧ a ≤ 59 ∧ 41 * A 42 12 ≤ z ∧ z < 41 * A 42 12 + 41) → A' a z = A a z) (a49 : A' 49 (A 42 12) = k) (a50 : A' 50 (A 42 12) = c) (a51 : A' 51 (A 42 12) = p) (a52 : A' 52 (A 42 12) = A 42 3) (a53 : A' 53 (A 42 12) = e) (a54 : A' 54 (A 42 12) = u) (a55 : A' 55 (A 42 12) = v) (a56 : A' 56 (A 42 12) = 1) (a60 : A' 60 (A 42 12) = -1) (a62 : A' 62 (A 42 12) = -1) (a57 : A' 57 (41 * A 42 12) = A 42 3) (a58 : A' 58 (41 * A 42 12) = h) (a59 : A' 59 (41 * A 42 12) = A 42 3) : cal (d + 8) 143 [.ref 0, .ref (az_n σ), .int (iI h)] τ (fun r τ => r = some (.int (iI (A 42 12))) ∧ ∃ g', CR sz κ A' g' τ ∧ g' 700 = g 700 ∧ Kp σ τ) := by
  have hth := hI.things
  have hcl := hI.clock
  have hn := hC.n
  obtain ⟨hx, hN4, hsl, ⟨s0, s1, s2, s3⟩, ⟨r1, r2, r3⟩, v0, v1, v2, v3, v4, v5, v6, v10, v11, v13⟩ := hM
  refine cal_of (M := (yX11_addThing, cX11_addThing, 3, some .int)) (cd := k_X11_addThing) (L := [some (.ref 0), some (.ref (az_n σ)), some (.int (iI h))]) rfl (Nat.le_of_ble_eq_true rfl) rfl rfl ?_
  have z5 : ∀ a, a < 103 → Sm σ τ a := fun a h1 => hx.sm (Or.inl (by omega)) (by simp)
  have k0 : (az_sh τ 0).1 = 12 := by rw [(z5 0 (by decide)).1]; exact hC.f.k 0 rfl
  have td : zx τ 0 15 = A 42 3 := by rw [(z5 0 (by decide)).z]; exact hC.today
  refine aw_aload_n rfl rfl rfl ?_
  refine aw_aload_n rfl rfl rfl ?_
  refine aw_gk (v := A 42 3) (15) rfl rfl k0 rfl td rfl (fun _ _ => ?_)
  refine aw_iload_n rfl rfl rfl ?_
  refine aw_aload_n rfl rfl rfl ?_
  refine aw_gk (v := A 42 3) (15) rfl rfl k0 rfl td rfl (fun _ _ => ?_)
  refine aw_calc (c_tellr (a := az_n σ) (b := az_n σ + 1) (c := az_n σ + 2) (e := az_n σ + 3) (n := 0) (by rw [s0]) s1 s2 s3 r1 r2 r3 v10 (by omega) (by omega) ⟨by omega, by omega⟩ hh ⟨by omega, by omega⟩ (by omega) (by omega) (by omega) (by omega) (by omega) (by omega)) rfl rfl rfl (Nat.le_of_ble_eq_true rfl) (Or.inr ⟨_, rfl, by rw [s0]⟩) rfl ?_
  rintro _ τ2 ⟨rfl, hD, u1, u2, u3, u4⟩
  have hx2 : Ex σ τ2 [] := hx.tr hD.ex (fun b hb h => by simp only [List.mem_cons, List.not_mem_nil, or_false] at hb; omega)
  have z6 : ∀ a, a < 103 → Sm σ τ2 a := fun a h1 => hx2.sm (Or.inl (by omega)) (by simp)
  refine aw_aload_n rfl rfl rfl ?_
  refine aw_getr (b := 6) rfl rfl (by rw [(z6 0 (by decide)).1]; exact hC.f.k 0 rfl) (by rw [(z6 0 (by decide)).2.2]; exact hC.f.r 0 3 6 rfl) rfl ?_
  refine aw_aload_n rfl rfl rfl ?_
  refine aw_calc (hC.putT (A' := A') hI hx2 (hD.1.trans hN4) hlim (by rw [show az_sl τ2 = az_sl τ from hD.2.1]; omega) (by rw [hD.2.2.1, s0]; decide) hN hA (fun q' => ?_)) rfl rfl rfl (Nat.le_of_ble_eq_true rfl) (Or.inr ⟨_, rfl, by rw [(z6 6 (by decide)).1]; exact hC.f.k 6 rfl⟩) rfl ?_
  · have e1 : gT (gNew g (300 + 4 * (A 42 12).toNat) 4 (az_n σ) 601 q') (A 42 12) = az_n σ := by unfold gT; rw [gNew_n (by omega)]; omega
    have e2 : gTd (gNew g (300 + 4 * (A 42 12).toNat) 4 (az_n σ) 601 q') (A 42 12) = az_n σ + 1 := by unfold gTd; rw [gNew_n (by omega)]; omega
    have e3 : gTh (gNew g (300 + 4 * (A 42 12).toNat) 4 (az_n σ) 601 q') (A 42 12) = az_n σ + 2 := by unfold gTh; rw [gNew_n (by omega)]; omega
    have e4 : gTt (gNew g (300 + 4 * (A 42 12).toNat) 4 (az_n σ) 601 q') (A 42 12) = az_n σ + 3 := by unfold gTt; rw [gNew_n (by omega)]; omega
    have eu : ∀ w : Int, w ≠ 10 → zx τ2 (az_n σ) w = zx τ (az_n σ) w := fun w hw => by rw [u1, if_neg hw]
    unfold CT
    rw [e1, e2, e3, e4, hD.2.2.1, hD.2.2.2.1]
    refine ⟨⟨s0, s1, s2, s3⟩, ⟨r1, r2, r3⟩, ⟨?_, ?_, ?_, ?_, ?_, ?_, ?_, ?_, ?_, ?_, ?_⟩, fun i i0 i1 => ?_⟩
    · rw [eu 0 (by decide), v0, a49]
    · rw [eu 1 (by decide), v1, a50]
    · rw [eu 2 (by decide), v2, a51]
    · rw [eu 3 (by decide), v3, a52]
    · rw [eu 4 (by decide), v4, a53]
    · rw [eu 5 (by decide), v5, a54]
    · rw [eu 6 (by decide), v6, a55]
    · rw [u1, if_pos rfl, a56]; rfl
    · rw [eu 11 (by decide), v11, a60]
    · intro q; rw [a60] at q; omega
    · rw [eu 13 (by decide), v13, a62]
    · rw [a56] at i1
      have ei : i = 0 := by omega
      subst ei
      rw [Int.add_zero, a57, a58, a59, u2, u3, u4, if_pos rfl, if_pos rfl, if_pos rfl]
      exact ⟨rfl, rfl, rfl⟩
  · rintro _ τ ⟨rfl, g', h1, h2, h3⟩
    refine aw_pop rfl rfl rfl ?_
    refine aw_aload_n rfl rfl rfl ?_
    refine aw_getr (b := 6) rfl rfl (h1.f.k 0 rfl) (h1.f.r 0 3 6 rfl) rfl ?_
    refine aw_fnc (c_size (h1.f.k 6 rfl) h1.lT.1) rfl rfl rfl (Nat.le_of_ble_eq_true rfl) (Or.inr ⟨_, rfl, h1.f.k 6 rfl⟩) rfl ?_
    refine aw_iconst rfl rfl ?_
    refine aw_isub rfl rfl ?_
    exact aw_reti rfl ⟨by rw [hN, show A 42 12 + 1 - 1 = A 42 12 by omega], g', h1, h2, h3⟩
theorem c_made {sz : Nat} {A : Nat → Int → Int} {σ τ : az_S} {k c p : Int} (hn : az_n σ < 900000) (h1 : az_n τ = az_n (az_nw σ 11 14) + 3) (h2 : az_sl τ = az_sl (az_nw σ 11 14) + 123) (h3 : az_sh τ (az_n (az_nw σ 11 14)) = (100, 41) ∧ az_sh τ (az_n (az_nw σ 11 14) + 1) = (100, 41) ∧ az_sh τ (az_n (az_nw σ 11 14) + 2) = (100, 41)) (h4 : Ex (az_nw σ 11 14) τ [az_n σ]) (h5 : az_r τ (az_n σ) 7 = some (az_n (az_nw σ 11 14)) ∧ az_r τ (az_n σ) 8 = some (az_n (az_nw σ 11 14) + 1) ∧ az_r τ (az_n σ) 9 = some (az_n (az_nw σ 11 14) + 2)) (h6 : ∀ w, zx τ (az_n σ) w = if w = 3 then A 42 3 else if w = 2 then p else if w = 1 then c else if w = 0 then k else if w = 13 then (-1) else if w = 12 then (-1) else if w = 11 then (-1) else zx (az_nw σ 11 14) (az_n σ) w) : Made A σ τ k c p 0 0 0 := by
  have en : az_n (az_nw σ 11 14) = az_n σ + 1 := rfl
  have es : az_sl (az_nw σ 11 14) = az_sl σ + 14 := rfl
  have hnw := Ex_nw (σ := σ) (kd := 11) (m := 14) (by omega)
  rw [en] at h1 h3 h5
  refine ⟨hnw.tr h4 (fun b hb h => by rw [List.mem_singleton.mp hb] at h; omega), by omega, by omega, ⟨?_, h3⟩, h5, by rw [h6]; simp, by rw [h6]; simp, by rw [h6]; simp, by rw [h6]; simp, ?_, ?_, ?_, ?_, by rw [h6]; simp, by rw [h6]; simp⟩
  · rw [h4.2.1 (az_n σ) (Or.inl (by omega))]
    exact va_up_self _ _ _
  all_goals (rw [h6, zx_nw]; simp)
theorem Made.st4 {A : Nat → Int → Int} {σ τ υ : az_S} {k c p e u v x : Int} (h : Made A σ τ k c p e u v) (hn : az_n σ < 900000) (hD : Mod τ υ [az_n σ]) (hU : ∀ w, zx υ (az_n σ) w = if w = 4 then x else zx τ (az_n σ) w) : Made A σ υ k c p x u v := by
  obtain ⟨hx, hN4, hsl, hs, hr, v0, v1, v2, v3, v4, v5, v6, v10, v11, v13⟩ := h
  refine ⟨hx.tr hD.ex (fun b hb h => by rw [List.mem_singleton.mp hb] at h; omega), hD.1.trans hN4, by rw [show az_sl υ = az_sl τ from hD.2.1]; exact hsl, by rw [hD.2.2.1]; exact hs, by rw [hD.2.2.2.1]; exact hr, ?_⟩
  simp [hU, v0, v1, v2, v3, v5, v6, v10, v11, v13]
theorem Made.st5 {A : Nat → Int → Int} {σ τ υ : az_S} {k c p e u v x : Int} (h : Made A σ τ k c p e u v) (hn : az_n σ < 900000) (hD : Mod τ υ [az_n σ]) (hU : ∀ w, zx υ (az_n σ) w = if w = 5 then x else zx τ (az_n σ) w) : Made A σ υ k c p e x v := by
  obtain ⟨hx, hN4, hsl, hs, hr, v0, v1, v2, v3, v4, v5, v6, v10, v11, v13⟩ := h
  refine ⟨hx.tr hD.ex (fun b hb h => by rw [List.mem_singleton.mp hb] at h; omega), hD.1.trans hN4, by rw [show az_sl υ = az_sl τ from hD.2.1]; exact hsl, by rw [hD.2.2.1]; exact hs, by rw [hD.2.2.2.1]; exact hr, ?_⟩
  simp [hU, v0, v1, v2, v3, v4, v6, v10, v11, v13]
theorem Made.st6 {A : Nat → Int → Int} {σ τ υ : az_S} {k c p e u v x : Int} (h : Made A σ τ k c p e u v) (hn : az_n σ < 900000) (hD : Mod τ υ [az_n σ]) (hU : ∀ w, zx υ (az_n σ) w = if w = 6 then x else zx τ (az_n σ) w) : Made A σ υ k c p e u x := by
  obtain ⟨hx, hN4, hsl, hs, hr, v0, v1, v2, v3, v4, v5, v6, v10, v11, v13⟩ := h
  refine ⟨hx.tr hD.ex (fun b hb h => by rw [List.mem_singleton.mp hb] at h; omega), hD.1.trans hN4, by rw [show az_sl υ = az_sl τ from hD.2.1]; exact hsl, by rw [hD.2.2.1]; exact hs, by rw [hD.2.2.2.1]; exact hr, ?_⟩
  simp [hU, v0, v1, v2, v3, v4, v5, v10, v11, v13]
theorem up_q {A : Nat → Int → Int} {a b : Nat} {z x w : Int} (h : ¬ (b = a ∧ w = z)) : up A a z x b w = A b w := if_neg h
theorem mStands_o {A : Nat → Int → Int} {k c p h : Int} {a : Nat} {z : Int} (h0 : 0 ≤ A 42 12) (h1 : ¬ (a = 42 ∧ z = 12)) (h2 : ¬ (49 ≤ a ∧ a ≤ 62 ∧ (a < 57 ∨ 59 < a) ∧ z = A 42 12)) (h3 : ¬ (57 ≤ a ∧ a ≤ 59 ∧ 41 * A 42 12 ≤ z ∧ z < 41 * A 42 12 + 41)) : mStands A k c p h a z = A a z := by
  have e56 : mStands0 A k c p 56 (A 42 12) = 0 := by simp [mStands0, up]
  unfold mStands mEnter
  rw [e56, up_q (by omega), up_q (by omega), up_q (by omega), up_q (by omega)]
  unfold mStands0
  (repeat rw [up_q (by omega)])
set_option maxRecDepth 10000 in
set_option maxHeartbeats 1000000 in
theorem c_wallN {d : Nat} {sz : Nat} {κ : Nat × (Nat → Int32) × Option Nat} {A : Nat → Int → Int} {g : Nat → Nat} {σ : az_S} (hC : CR sz κ A g σ) (hI : MI sz A) (hlim : az_n σ ≤ 890000) {c p h : Int} (hc : inI c) (hp : inI p) (hh : inI h) (hok : (mStand A c p h)) : aw (d + 8) k_X11_wall (some .int) (fun r τ => r = some (.int (iI (zit (mStand A c p h) (A 42 12) (-1)))) ∧ ∃ g', CR sz κ (m_wall_op A c p h) g' τ ∧ g' 700 = g 700 ∧ Kp σ τ) 12 [some (.ref 0), some (.int (iI c)), some (.int (iI p)), some (.int (iI h))] [] σ := by
  have hth := hI.things
  have hcl := hI.clock
  have hn := hC.n
  obtain ⟨hc1, hc2⟩ := hc
  obtain ⟨hp1, hp2⟩ := hp
  obtain ⟨hh1, hh2⟩ := hh
  have hlt : A 42 12 < 24 := hok.1.2.2.2
  have hnw := Ex_nw (σ := σ) (kd := 11) (m := 14) (by omega)
  have hs4 : az_sh (az_nw σ 11 14) (az_n σ) = (11, 14) := va_up_self _ _ _
  have z5 : ∀ a, a < 103 → Sm σ (az_nw σ 11 14) a := fun a h1 => hnw.sm (Or.inl (by omega)) (by simp)
  refine aw_aload_n rfl rfl rfl ?_
  refine aw_new (nf := 14) rfl rfl (by omega) rfl rfl ?_
  refine aw_dup rfl rfl rfl ?_
  refine aw_iconst rfl rfl ?_
  refine aw_iload_n rfl rfl rfl ?_
  refine aw_iload_n rfl rfl rfl ?_
  refine aw_aload_n rfl rfl rfl ?_
  refine aw_gk (v := A 42 3) (15) rfl rfl (by rw [(z5 0 (by decide)).1]; exact hC.f.k 0 rfl) rfl (by rw [(z5 0 (by decide)).z]; exact hC.today) rfl (fun _ _ => ?_)
  refine aw_calc (c_tinit (a := az_n σ) (by rw [hs4]) (by show az_n σ < az_n σ + 1; omega) (by show az_n σ + 1 < 900000; omega) ⟨by omega, by omega⟩ ⟨by omega, by omega⟩ ⟨by omega, by omega⟩ ⟨by omega, by omega⟩) rfl rfl rfl (Nat.le_of_ble_eq_true rfl) (Or.inr ⟨_, rfl, by rw [hs4]⟩) rfl ?_
  rintro _ τ1 ⟨rfl, t1, t2, t3, t4, t5, t6⟩
  have hM1 := c_made (sz := sz) (A := A) (by omega) t1 t2 t3 t4 t5 t6
  refine aw_iload_n rfl rfl rfl ?_
  refine aw_calc (c_addThing (A' := (mStands A 0 c p h)) hC hI hlim hM1 ⟨hh1, hh2⟩ hlt (by simp [mStands, mStands0, mEnter, up]) (fun a z q1 q2 q3 => by (repeat rw [up_q (by omega)]); exact mStands_o hth.1 q1 q2 q3) (by simp [mStands, mStands0, mEnter, up]) (by simp [mStands, mStands0, mEnter, up]) (by simp [mStands, mStands0, mEnter, up]) (by simp [mStands, mStands0, mEnter, up]) (by simp [mStands, mStands0, mEnter, up]) (by simp [mStands, mStands0, mEnter, up]) (by simp [mStands, mStands0, mEnter, up]) (by simp [mStands, mStands0, mEnter, up]) (by simp [mStands, mStands0, mEnter, up]) (by simp [mStands, mStands0, mEnter, up]) (by simp [mStands, mStands0, mEnter, up]) (by simp [mStands, mStands0, mEnter, up]) (by simp [mStands, mStands0, mEnter, up])) rfl rfl rfl (Nat.le_of_ble_eq_true rfl) (Or.inr ⟨_, rfl, by rw [(hM1.1.sm (Or.inl (by omega)) (by simp)).1]; exact hC.f.k 0 rfl⟩) rfl ?_
  rintro _ τ ⟨rfl, g', h1, h2, h3⟩
  exact aw_reti rfl ⟨by rw [zit_t hok], g', by unfold m_wall_op; rw [tit_t hok]; exact h1, h2, h3⟩
set_option maxRecDepth 10000 in
set_option maxHeartbeats 2000000 in
theorem c_wall {d : Nat} {sz : Nat} {κ : Nat × (Nat → Int32) × Option Nat} {A : Nat → Int → Int} {g : Nat → Nat} {σ : az_S} (hC : CR sz κ A g σ) (hI : MI sz A) (hlim : az_n σ ≤ 890000) {c : Int} (hc : inI c) {p : Int} (hp : inI p) {h : Int} (hh : inI h) : cal (d + 9) 100 [.ref 0, .int (iI c), .int (iI p), .int (iI h)] σ (fun r τ => r = some (.int (iI (zit (mStand A c p h) (A 42 12) (-1)))) ∧ ∃ g', CR sz κ (m_wall_op A c p h) g' τ ∧ g' 700 = g 700 ∧ Kp σ τ) := by
  obtain ⟨hc1, hc2⟩ := hc
  obtain ⟨hp1, hp2⟩ := hp
  obtain ⟨hh1, hh2⟩ := hh
  refine cal_of (M := (yX11_wall, cX11_wall, 4, (some .int))) (cd := k_X11_wall) (L := [some (.ref 0), some (.int (iI c)), some (.int (iI p)), some (.int (iI h))]) rfl (Nat.le_of_ble_eq_true rfl) rfl rfl ?_
  refine aw_aload_n rfl rfl rfl ?_
  refine aw_iload_n rfl rfl rfl ?_
  refine aw_iload_n rfl rfl rfl ?_
  refine aw_iload_n rfl rfl rfl ?_
  refine aw_fnc (c_mayStand hC hI ⟨by omega, by omega⟩ ⟨by omega, by omega⟩ ⟨by omega, by omega⟩) rfl rfl rfl (Nat.le_of_ble_eq_true rfl) (Or.inr ⟨_, rfl, (hC.f.k 0 rfl)⟩) rfl ?_
  refine aw_ifneb (p' := 12) rfl rfl rfl (fun c1 => ?_) (fun c1 => ?_)
  · exact c_wallN hC hI hlim ⟨hc1, hc2⟩ ⟨hp1, hp2⟩ ⟨hh1, hh2⟩ (by assumption)
  · refine aw_iconst rfl rfl ?_
    refine aw_reti rfl ?_
    have hno : ¬ (mStand A c p h) := by
      assumption
    refine ⟨?_, g, ?_, rfl, Kp.rf⟩
    · rw [zit_f hno]
    · unfold m_wall_op; rw [tit_f hno]; exact hC
set_option maxRecDepth 10000 in
set_option maxHeartbeats 1000000 in
theorem c_treeN {d : Nat} {sz : Nat} {κ : Nat × (Nat → Int32) × Option Nat} {A : Nat → Int → Int} {g : Nat → Nat} {σ : az_S} (hC : CR sz κ A g σ) (hI : MI sz A) (hlim : az_n σ ≤ 890000) {c p h g0 : Int} (hc : inI c) (hp : inI p) (hh : inI h) (hg0 : inI g0) (hok : (mStand A c p h ∧ (1 ≤ g0 ∧ g0 ≤ 999))) : aw (d + 8) k_X11_tree (some .int) (fun r τ => r = some (.int (iI (zit (mStand A c p h ∧ (1 ≤ g0 ∧ g0 ≤ 999)) (A 42 12) (-1)))) ∧ ∃ g', CR sz κ (m_tree_op A c p h g0) g' τ ∧ g' 700 = g 700 ∧ Kp σ τ) 26 [some (.ref 0), some (.int (iI c)), some (.int (iI p)), some (.int (iI h)), some (.int (iI g0)), none] [] σ := by
  have hth := hI.things
  have hcl := hI.clock
  have hn := hC.n
  obtain ⟨hc1, hc2⟩ := hc
  obtain ⟨hp1, hp2⟩ := hp
  obtain ⟨hh1, hh2⟩ := hh
  obtain ⟨hg01, hg02⟩ := hg0
  have hlt : A 42 12 < 24 := hok.1.1.2.2.2
  have hnw := Ex_nw (σ := σ) (kd := 11) (m := 14) (by omega)
  have hs4 : az_sh (az_nw σ 11 14) (az_n σ) = (11, 14) := va_up_self _ _ _
  have z5 : ∀ a, a < 103 → Sm σ (az_nw σ 11 14) a := fun a h1 => hnw.sm (Or.inl (by omega)) (by simp)
  refine aw_new (nf := 14) rfl rfl (by omega) rfl rfl ?_
  refine aw_dup rfl rfl rfl ?_
  refine aw_iconst rfl rfl ?_
  refine aw_iload_n rfl rfl rfl ?_
  refine aw_iload_n rfl rfl rfl ?_
  refine aw_aload_n rfl rfl rfl ?_
  refine aw_gk (v := A 42 3) (15) rfl rfl (by rw [(z5 0 (by decide)).1]; exact hC.f.k 0 rfl) rfl (by rw [(z5 0 (by decide)).z]; exact hC.today) rfl (fun _ _ => ?_)
  refine aw_calc (c_tinit (a := az_n σ) (by rw [hs4]) (by show az_n σ < az_n σ + 1; omega) (by show az_n σ + 1 < 900000; omega) ⟨by omega, by omega⟩ ⟨by omega, by omega⟩ ⟨by omega, by omega⟩ ⟨by omega, by omega⟩) rfl rfl rfl (Nat.le_of_ble_eq_true rfl) (Or.inr ⟨_, rfl, by rw [hs4]⟩) rfl ?_
  rintro _ τ1 ⟨rfl, t1, t2, t3, t4, t5, t6⟩
  have hM1 := c_made (sz := sz) (A := A) (by omega) t1 t2 t3 t4 t5 t6
  refine aw_astore rfl (Nat.le_of_ble_eq_true rfl) rfl rfl ?_
  refine aw_aload rfl rfl rfl ?_
  refine aw_iload rfl rfl rfl ?_
  refine aw_fs (4) rfl rfl (by rw [hM1.2.2.2.1.1]) rfl ⟨by omega, by omega⟩ rfl (fun τ2 hD2 hU2 hQ2 => ?_)
  have hM2 := hM1.st4 (by omega) hD2 hU2
  refine aw_aload_n rfl rfl rfl ?_
  refine aw_aload rfl rfl rfl ?_
  refine aw_iload_n rfl rfl rfl ?_
  refine aw_calc (c_addThing (A' := (up (mStands A 1 c p h) 53 (A 42 12) g0)) hC hI hlim hM2 ⟨hh1, hh2⟩ hlt (by simp [mStands, mStands0, mEnter, up]) (fun a z q1 q2 q3 => by (repeat rw [up_q (by omega)]); exact mStands_o hth.1 q1 q2 q3) (by simp [mStands, mStands0, mEnter, up]) (by simp [mStands, mStands0, mEnter, up]) (by simp [mStands, mStands0, mEnter, up]) (by simp [mStands, mStands0, mEnter, up]) (by simp [mStands, mStands0, mEnter, up]) (by simp [mStands, mStands0, mEnter, up]) (by simp [mStands, mStands0, mEnter, up]) (by simp [mStands, mStands0, mEnter, up]) (by simp [mStands, mStands0, mEnter, up]) (by simp [mStands, mStands0, mEnter, up]) (by simp [mStands, mStands0, mEnter, up]) (by simp [mStands, mStands0, mEnter, up]) (by simp [mStands, mStands0, mEnter, up])) rfl rfl rfl (Nat.le_of_ble_eq_true rfl) (Or.inr ⟨_, rfl, by rw [(hM2.1.sm (Or.inl (by omega)) (by simp)).1]; exact hC.f.k 0 rfl⟩) rfl ?_
  rintro _ τ ⟨rfl, g', h1, h2, h3⟩
  exact aw_reti rfl ⟨by rw [zit_t hok], g', by unfold m_tree_op; rw [tit_t hok]; exact h1, h2, h3⟩
set_option maxRecDepth 10000 in
set_option maxHeartbeats 2000000 in
theorem c_tree {d : Nat} {sz : Nat} {κ : Nat × (Nat → Int32) × Option Nat} {A : Nat → Int → Int} {g : Nat → Nat} {σ : az_S} (hC : CR sz κ A g σ) (hI : MI sz A) (hlim : az_n σ ≤ 890000) {c : Int} (hc : inI c) {p : Int} (hp : inI p) {h : Int} (hh : inI h) {g0 : Int} (hg0 : inI g0) : cal (d + 9) 101 [.ref 0, .int (iI c), .int (iI p), .int (iI h), .int (iI g0)] σ (fun r τ => r = some (.int (iI (zit (mStand A c p h ∧ (1 ≤ g0 ∧ g0 ≤ 999)) (A 42 12) (-1)))) ∧ ∃ g', CR sz κ (m_tree_op A c p h g0) g' τ ∧ g' 700 = g 700 ∧ Kp σ τ) := by
  obtain ⟨hc1, hc2⟩ := hc
  obtain ⟨hp1, hp2⟩ := hp
  obtain ⟨hh1, hh2⟩ := hh
  obtain ⟨hg01, hg02⟩ := hg0
  refine cal_of (M := (yX11_tree, cX11_tree, 6, (some .int))) (cd := k_X11_tree) (L := [some (.ref 0), some (.int (iI c)), some (.int (iI p)), some (.int (iI h)), some (.int (iI g0)), none]) rfl (Nat.le_of_ble_eq_true rfl) rfl rfl ?_
  refine aw_iload rfl rfl rfl ?_
  refine aw_iconst rfl rfl ?_
  refine aw_icmp (p' := 24) rfl ⟨by omega, by omega⟩ ⟨by omega, by omega⟩ rfl rfl (fun c1 => ?_) (fun c1 => ?_)
  · dsimp only [zc] at c1
    refine aw_iconst rfl rfl ?_
    refine aw_reti rfl ?_
    have hno : ¬ (mStand A c p h ∧ (1 ≤ g0 ∧ g0 ≤ 999)) := by
      rintro ⟨q1, q2⟩
      first | omega | exact absurd q1 (by assumption)
    refine ⟨?_, g, ?_, rfl, Kp.rf⟩
    · rw [zit_f hno]
    · unfold m_tree_op; rw [tit_f hno]; exact hC
  · dsimp only [zc] at c1
    refine aw_iload rfl rfl rfl ?_
    refine aw_sipush rfl rfl rfl ?_
    refine aw_icmp (p' := 24) rfl ⟨by omega, by omega⟩ ⟨by omega, by omega⟩ rfl rfl (fun c2 => ?_) (fun c2 => ?_)
    · dsimp only [zc] at c2
      refine aw_iconst rfl rfl ?_
      refine aw_reti rfl ?_
      have hno : ¬ (mStand A c p h ∧ (1 ≤ g0 ∧ g0 ≤ 999)) := by
        rintro ⟨q1, q2⟩
        first | omega | exact absurd q1 (by assumption)
      refine ⟨?_, g, ?_, rfl, Kp.rf⟩
      · rw [zit_f hno]
      · unfold m_tree_op; rw [tit_f hno]; exact hC
    · dsimp only [zc] at c2
      refine aw_aload_n rfl rfl rfl ?_
      refine aw_iload_n rfl rfl rfl ?_
      refine aw_iload_n rfl rfl rfl ?_
      refine aw_iload_n rfl rfl rfl ?_
      refine aw_fnc (c_mayStand hC hI ⟨by omega, by omega⟩ ⟨by omega, by omega⟩ ⟨by omega, by omega⟩) rfl rfl rfl (Nat.le_of_ble_eq_true rfl) (Or.inr ⟨_, rfl, (hC.f.k 0 rfl)⟩) rfl ?_
      refine aw_ifneb (p' := 26) rfl rfl rfl (fun c3 => ?_) (fun c3 => ?_)
      · exact c_treeN hC hI hlim ⟨hc1, hc2⟩ ⟨hp1, hp2⟩ ⟨hh1, hh2⟩ ⟨hg01, hg02⟩ ⟨by assumption, by omega⟩
      · refine aw_iconst rfl rfl ?_
        refine aw_reti rfl ?_
        have hno : ¬ (mStand A c p h ∧ (1 ≤ g0 ∧ g0 ≤ 999)) := by
          rintro ⟨q1, q2⟩
          first | omega | exact absurd q1 (by assumption)
        refine ⟨?_, g, ?_, rfl, Kp.rf⟩
        · rw [zit_f hno]
        · unfold m_tree_op; rw [tit_f hno]; exact hC
set_option maxRecDepth 10000 in
set_option maxHeartbeats 1000000 in
theorem c_poleN {d : Nat} {sz : Nat} {κ : Nat × (Nat → Int32) × Option Nat} {A : Nat → Int → Int} {g : Nat → Nat} {σ : az_S} (hC : CR sz κ A g σ) (hI : MI sz A) (hlim : az_n σ ≤ 890000) {c p h u v : Int} (hc : inI c) (hp : inI p) (hh : inI h) (hu : inI u) (hv : inI v) (hok : (mStand A c p h ∧ (-50 ≤ u ∧ u ≤ 50) ∧ (-50 ≤ v ∧ v ≤ 50))) : aw (d + 8) k_X11_pole (some .int) (fun r τ => r = some (.int (iI (zit (mStand A c p h ∧ (-50 ≤ u ∧ u ≤ 50) ∧ (-50 ≤ v ∧ v ≤ 50)) (A 42 12) (-1)))) ∧ ∃ g', CR sz κ (m_pole_op A c p h u v) g' τ ∧ g' 700 = g 700 ∧ Kp σ τ) 32 [some (.ref 0), some (.int (iI c)), some (.int (iI p)), some (.int (iI h)), some (.int (iI u)), some (.int (iI v)), none] [] σ := by
  have hth := hI.things
  have hcl := hI.clock
  have hn := hC.n
  obtain ⟨hc1, hc2⟩ := hc
  obtain ⟨hp1, hp2⟩ := hp
  obtain ⟨hh1, hh2⟩ := hh
  obtain ⟨hu1, hu2⟩ := hu
  obtain ⟨hv1, hv2⟩ := hv
  have hlt : A 42 12 < 24 := hok.1.1.2.2.2
  have hnw := Ex_nw (σ := σ) (kd := 11) (m := 14) (by omega)
  have hs4 : az_sh (az_nw σ 11 14) (az_n σ) = (11, 14) := va_up_self _ _ _
  have z5 : ∀ a, a < 103 → Sm σ (az_nw σ 11 14) a := fun a h1 => hnw.sm (Or.inl (by omega)) (by simp)
  refine aw_new (nf := 14) rfl rfl (by omega) rfl rfl ?_
  refine aw_dup rfl rfl rfl ?_
  refine aw_iconst rfl rfl ?_
  refine aw_iload_n rfl rfl rfl ?_
  refine aw_iload_n rfl rfl rfl ?_
  refine aw_aload_n rfl rfl rfl ?_
  refine aw_gk (v := A 42 3) (15) rfl rfl (by rw [(z5 0 (by decide)).1]; exact hC.f.k 0 rfl) rfl (by rw [(z5 0 (by decide)).z]; exact hC.today) rfl (fun _ _ => ?_)
  refine aw_calc (c_tinit (a := az_n σ) (by rw [hs4]) (by show az_n σ < az_n σ + 1; omega) (by show az_n σ + 1 < 900000; omega) ⟨by omega, by omega⟩ ⟨by omega, by omega⟩ ⟨by omega, by omega⟩ ⟨by omega, by omega⟩) rfl rfl rfl (Nat.le_of_ble_eq_true rfl) (Or.inr ⟨_, rfl, by rw [hs4]⟩) rfl ?_
  rintro _ τ1 ⟨rfl, t1, t2, t3, t4, t5, t6⟩
  have hM1 := c_made (sz := sz) (A := A) (by omega) t1 t2 t3 t4 t5 t6
  refine aw_astore rfl (Nat.le_of_ble_eq_true rfl) rfl rfl ?_
  refine aw_aload rfl rfl rfl ?_
  refine aw_iload rfl rfl rfl ?_
  refine aw_fs (5) rfl rfl (by rw [hM1.2.2.2.1.1]) rfl ⟨by omega, by omega⟩ rfl (fun τ2 hD2 hU2 hQ2 => ?_)
  have hM2 := hM1.st5 (by omega) hD2 hU2
  refine aw_aload rfl rfl rfl ?_
  refine aw_iload rfl rfl rfl ?_
  refine aw_fs (6) rfl rfl (by rw [hM2.2.2.2.1.1]) rfl ⟨by omega, by omega⟩ rfl (fun τ3 hD3 hU3 hQ3 => ?_)
  have hM3 := hM2.st6 (by omega) hD3 hU3
  refine aw_aload_n rfl rfl rfl ?_
  refine aw_aload rfl rfl rfl ?_
  refine aw_iload_n rfl rfl rfl ?_
  refine aw_calc (c_addThing (A' := (up (up (mStands A 2 c p h) 54 (A 42 12) u) 55 (A 42 12) v)) hC hI hlim hM3 ⟨hh1, hh2⟩ hlt (by simp [mStands, mStands0, mEnter, up]) (fun a z q1 q2 q3 => by (repeat rw [up_q (by omega)]); exact mStands_o hth.1 q1 q2 q3) (by simp [mStands, mStands0, mEnter, up]) (by simp [mStands, mStands0, mEnter, up]) (by simp [mStands, mStands0, mEnter, up]) (by simp [mStands, mStands0, mEnter, up]) (by simp [mStands, mStands0, mEnter, up]) (by simp [mStands, mStands0, mEnter, up]) (by simp [mStands, mStands0, mEnter, up]) (by simp [mStands, mStands0, mEnter, up]) (by simp [mStands, mStands0, mEnter, up]) (by simp [mStands, mStands0, mEnter, up]) (by simp [mStands, mStands0, mEnter, up]) (by simp [mStands, mStands0, mEnter, up]) (by simp [mStands, mStands0, mEnter, up])) rfl rfl rfl (Nat.le_of_ble_eq_true rfl) (Or.inr ⟨_, rfl, by rw [(hM3.1.sm (Or.inl (by omega)) (by simp)).1]; exact hC.f.k 0 rfl⟩) rfl ?_
  rintro _ τ ⟨rfl, g', h1, h2, h3⟩
  exact aw_reti rfl ⟨by rw [zit_t hok], g', by unfold m_pole_op; rw [tit_t hok]; exact h1, h2, h3⟩
set_option maxRecDepth 10000 in
set_option maxHeartbeats 2000000 in
theorem c_pole {d : Nat} {sz : Nat} {κ : Nat × (Nat → Int32) × Option Nat} {A : Nat → Int → Int} {g : Nat → Nat} {σ : az_S} (hC : CR sz κ A g σ) (hI : MI sz A) (hlim : az_n σ ≤ 890000) {c : Int} (hc : inI c) {p : Int} (hp : inI p) {h : Int} (hh : inI h) {u : Int} (hu : inI u) {v : Int} (hv : inI v) : cal (d + 9) 102 [.ref 0, .int (iI c), .int (iI p), .int (iI h), .int (iI u), .int (iI v)] σ (fun r τ => r = some (.int (iI (zit (mStand A c p h ∧ (-50 ≤ u ∧ u ≤ 50) ∧ (-50 ≤ v ∧ v ≤ 50)) (A 42 12) (-1)))) ∧ ∃ g', CR sz κ (m_pole_op A c p h u v) g' τ ∧ g' 700 = g 700 ∧ Kp σ τ) := by
  obtain ⟨hc1, hc2⟩ := hc
  obtain ⟨hp1, hp2⟩ := hp
  obtain ⟨hh1, hh2⟩ := hh
  obtain ⟨hu1, hu2⟩ := hu
  obtain ⟨hv1, hv2⟩ := hv
  refine cal_of (M := (yX11_pole, cX11_pole, 7, (some .int))) (cd := k_X11_pole) (L := [some (.ref 0), some (.int (iI c)), some (.int (iI p)), some (.int (iI h)), some (.int (iI u)), some (.int (iI v)), none]) rfl (Nat.le_of_ble_eq_true rfl) rfl rfl ?_
  refine aw_iload rfl rfl rfl ?_
  refine aw_bipush rfl rfl rfl ?_
  refine aw_fnc (c_isWithin ⟨by omega, by omega⟩ (by omega) (by omega)) rfl rfl rfl (Nat.le_of_ble_eq_true rfl) (Or.inl rfl) rfl ?_
  refine aw_ifeqb (p' := 30) rfl rfl rfl (fun c1 => ?_) (fun c1 => ?_)
  · refine aw_iconst rfl rfl ?_
    refine aw_reti rfl ?_
    have hno : ¬ (mStand A c p h ∧ (-50 ≤ u ∧ u ≤ 50) ∧ (-50 ≤ v ∧ v ≤ 50)) := by
      rintro ⟨q1, q2⟩
      first | omega | exact absurd q1 (by assumption)
    refine ⟨?_, g, ?_, rfl, Kp.rf⟩
    · rw [zit_f hno]
    · unfold m_pole_op; rw [tit_f hno]; exact hC
  · refine aw_iload rfl rfl rfl ?_
    refine aw_bipush rfl rfl rfl ?_
    refine aw_fnc (c_isWithin ⟨by omega, by omega⟩ (by omega) (by omega)) rfl rfl rfl (Nat.le_of_ble_eq_true rfl) (Or.inl rfl) rfl ?_
    refine aw_ifeqb (p' := 30) rfl rfl rfl (fun c2 => ?_) (fun c2 => ?_)
    · refine aw_iconst rfl rfl ?_
      refine aw_reti rfl ?_
      have hno : ¬ (mStand A c p h ∧ (-50 ≤ u ∧ u ≤ 50) ∧ (-50 ≤ v ∧ v ≤ 50)) := by
        rintro ⟨q1, q2⟩
        first | omega | exact absurd q1 (by assumption)
      refine ⟨?_, g, ?_, rfl, Kp.rf⟩
      · rw [zit_f hno]
      · unfold m_pole_op; rw [tit_f hno]; exact hC
    · refine aw_aload_n rfl rfl rfl ?_
      refine aw_iload_n rfl rfl rfl ?_
      refine aw_iload_n rfl rfl rfl ?_
      refine aw_iload_n rfl rfl rfl ?_
      refine aw_fnc (c_mayStand hC hI ⟨by omega, by omega⟩ ⟨by omega, by omega⟩ ⟨by omega, by omega⟩) rfl rfl rfl (Nat.le_of_ble_eq_true rfl) (Or.inr ⟨_, rfl, (hC.f.k 0 rfl)⟩) rfl ?_
      refine aw_ifneb (p' := 32) rfl rfl rfl (fun c3 => ?_) (fun c3 => ?_)
      · exact c_poleN hC hI hlim ⟨hc1, hc2⟩ ⟨hp1, hp2⟩ ⟨hh1, hh2⟩ ⟨hu1, hu2⟩ ⟨hv1, hv2⟩ ⟨by assumption, by omega, by omega⟩
      · refine aw_iconst rfl rfl ?_
        refine aw_reti rfl ?_
        have hno : ¬ (mStand A c p h ∧ (-50 ≤ u ∧ u ≤ 50) ∧ (-50 ≤ v ∧ v ≤ 50)) := by
          rintro ⟨q1, q2⟩
          first | omega | exact absurd q1 (by assumption)
        refine ⟨?_, g, ?_, rfl, Kp.rf⟩
        · rw [zit_f hno]
        · unfold m_pole_op; rw [tit_f hno]; exact hC
set_option maxRecDepth 10000 in
set_option maxHeartbeats 1000000 in
theorem c_grantN {d : Nat} {sz : Nat} {κ : Nat × (Nat → Int32) × Option Nat} {A : Nat → Int → Int} {g : Nat → Nat} {σ : az_S} (hC : CR sz κ A g σ) (hI : MI sz A) (hlim : az_n σ ≤ 890000) {a e t u v f l w : Int} (hok : ((((0 ≤ a ∧ a ≤ A 42 9 - 1) ∧ (0 ≤ e ∧ e ≤ A 42 9 - 1) ∧ a ≠ e ∧ (0 ≤ t ∧ t ≤ A 42 12 - 1) ∧ (0 ≤ u ∧ u ≤ 255) ∧ (0 ≤ v ∧ v ≤ 255)) ∧ (0 ≤ u / 16 ∧ u / 16 ≤ 11) ∧ (u / 16 ≤ u % 16 ∧ u % 16 ≤ 11) ∧ (0 ≤ v / 16 ∧ v / 16 ≤ 11) ∧ (0 ≤ v % 16 ∧ v % 16 ≤ 11)) ∧ (0 ≤ f ∧ f ≤ 3599) ∧ (f ≤ l ∧ l ≤ 3599) ∧ (0 ≤ w ∧ w ≤ 2) ∧ A 42 27 ≠ 60)) : aw (d + 7) k_X11_grant (some .int) (fun r τ => r = some (.int (iI (zit ((((0 ≤ a ∧ a ≤ A 42 9 - 1) ∧ (0 ≤ e ∧ e ≤ A 42 9 - 1) ∧ a ≠ e ∧ (0 ≤ t ∧ t ≤ A 42 12 - 1) ∧ (0 ≤ u ∧ u ≤ 255) ∧ (0 ≤ v ∧ v ≤ 255)) ∧ (0 ≤ u / 16 ∧ u / 16 ≤ 11) ∧ (u / 16 ≤ u % 16 ∧ u % 16 ≤ 11) ∧ (0 ≤ v / 16 ∧ v / 16 ≤ 11) ∧ (0 ≤ v % 16 ∧ v % 16 ≤ 11)) ∧ (0 ≤ f ∧ f ≤ 3599) ∧ (f ≤ l ∧ l ≤ 3599) ∧ (0 ≤ w ∧ w ≤ 2) ∧ A 42 27 ≠ 60) (A 42 27 + 1 - 1) (-1)))) ∧ ∃ g', CR sz κ (m_grant_op A a e t u v f l w) g' τ ∧ g' 700 = g 700 ∧ Kp σ τ) 97 [some (.ref 0), some (.int (iI a)), some (.int (iI e)), some (.int (iI t)), some (.int (iI u)), some (.int (iI v)), some (.int (iI f)), some (.int (iI l)), some (.int (iI w)), none] [] σ := by
  have hpe := hI.people
  have hgr := hI.grants
  have hcl := hI.clock
  have hth := hI.things
  have hn := hC.n
  have hnw := Ex_nw (σ := σ) (kd := 1) (m := 12) (by omega)
  have hs4 : az_sh (az_nw σ 1 12) (az_n σ) = (1, 12) := va_up_self _ _ _
  have z5 : ∀ a, a < 103 → Sm σ (az_nw σ 1 12) a := fun a h1 => hnw.sm (Or.inl (by omega)) (by simp)
  have hl := (hC.lv hI).1 a (by omega) (by omega)
  refine aw_new (nf := 12) rfl rfl (by omega) rfl rfl ?_
  refine aw_dup rfl rfl rfl ?_
  refine aw_iload_n rfl rfl rfl ?_
  refine aw_aload_n rfl rfl rfl ?_
  refine aw_getr (b := 5) rfl rfl (by rw [(z5 0 (by decide)).1]; exact hC.f.k 0 rfl) (by rw [(z5 0 (by decide)).2.2]; exact hC.f.r 0 2 5 rfl) rfl ?_
  refine aw_iload_n rfl rfl rfl ?_
  refine aw_fnc (c_get (by rw [(z5 5 (by decide)).1]; exact hC.f.k 5 rfl) (hC.lP.ex hnw (by omega) (by simp) (fun _ _ => by simp)) (by omega : 0 ≤ a) (by omega) (by omega)) rfl rfl rfl (Nat.le_of_ble_eq_true rfl) (Or.inr ⟨_, rfl, by rw [(z5 5 (by decide)).1]; exact hC.f.k 5 rfl⟩) rfl ?_
  refine aw_cast rfl rfl (by rw [hnw.2.1 _ (Or.inl hl.2)]; exact hC.kP (by omega) (by omega)) rfl ?_
  refine aw_iload_n rfl rfl rfl ?_
  refine aw_iload_n rfl rfl rfl ?_
  refine aw_iload rfl rfl rfl ?_
  refine aw_aload_n rfl rfl rfl ?_
  refine aw_gk (v := A 42 3) (15) rfl rfl (by rw [(z5 0 (by decide)).1]; exact hC.f.k 0 rfl) rfl (by rw [(z5 0 (by decide)).z]; exact hC.today) rfl (fun _ _ => ?_)
  refine aw_calc (c_ginit (a := az_n σ) (pr := gP g a) (i := a) (j := e) (t := t) (s := w) (y := A 42 3) (by rw [hs4]) ⟨by omega, by omega⟩ ⟨by omega, by omega⟩ ⟨by omega, by omega⟩ ⟨by omega, by omega⟩ ⟨by omega, by omega⟩) rfl rfl rfl (Nat.le_of_ble_eq_true rfl) (Or.inr ⟨_, rfl, by rw [hs4]⟩) rfl ?_
  rintro _ τ1 ⟨rfl, t1, t2, t3, t4, t5, t6⟩
  refine aw_astore rfl (Nat.le_of_ble_eq_true rfl) rfl rfl ?_
  refine aw_aload rfl rfl rfl ?_
  refine aw_iload rfl rfl rfl ?_
  refine aw_iload rfl rfl rfl ?_
  refine aw_iload rfl rfl rfl ?_
  refine aw_iload rfl rfl rfl ?_
  have hs1 : az_sh τ1 (az_n σ) = (1, 12) := by rw [t4]; exact hs4
  refine aw_calc (c_limit (a := az_n σ) (by rw [hs1]) (by omega) (by omega) (by omega) (by omega) ⟨by omega, by omega⟩ ⟨by omega, by omega⟩) rfl rfl rfl (Nat.le_of_ble_eq_true rfl) (Or.inr ⟨_, rfl, by rw [hs1]⟩) rfl ?_
  rintro _ τ2 ⟨rfl, hD, hU⟩
  have hx : Ex σ τ2 [] := (hnw.tr t3 (fun b hb h => by rw [List.mem_singleton.mp hb] at h; omega)).tr hD.ex (fun b hb h => by rw [List.mem_singleton.mp hb] at h; omega)
  have z6 : ∀ a, a < 103 → Sm σ τ2 a := fun a h1 => hx.sm (Or.inl (by omega)) (by simp)
  have hs2 : az_sh τ2 (az_n σ) = (1, 12) := by rw [hD.2.2.1]; exact hs1
  refine aw_aload_n rfl rfl rfl ?_
  refine aw_getr (b := 7) rfl rfl (by rw [(z6 0 (by decide)).1]; exact hC.f.k 0 rfl) (by rw [(z6 0 (by decide)).2.2]; exact hC.f.r 0 4 7 rfl) rfl ?_
  refine aw_aload rfl rfl rfl ?_
  refine aw_calc (hC.putG (A' := (up (up (up (up (up (up (up (up (up (up (up (up A 63 (A 42 27) a) 64 (A 42 27) e) 65 (A 42 27) t) 66 (A 42 27) (u / 16)) 67 (A 42 27) (u % 16)) 68 (A 42 27) (v / 16)) 69 (A 42 27) (v % 16)) 70 (A 42 27) f) 71 (A 42 27) l) 72 (A 42 27) w) 73 (A 42 27) (A 42 3)) 42 27 (A 42 27 + 1))) hI hx (hD.1.trans t1) hlim (by rw [show az_sl τ2 = az_sl τ1 from hD.2.1, t2]; show az_sl σ + 12 ≤ _; omega) (by rw [hs2]; decide) (by simp [up]) (fun a z q1 q2 => by simp only [up]; (repeat rw [if_neg (by omega)])) (fun q' => ?_)) rfl rfl rfl (Nat.le_of_ble_eq_true rfl) (Or.inr ⟨_, rfl, by rw [(z6 7 (by decide)).1]; exact hC.f.k 7 rfl⟩) rfl ?_
  · have e1 : gG (gNew g (400 + (A 42 27).toNat) 1 (az_n σ) 602 q') (A 42 27) = az_n σ := by unfold gG; rw [gNew_n (by omega)]; omega
    have e2 : gP (gNew g (400 + (A 42 27).toNat) 1 (az_n σ) 602 q') a = gP g a := gNew_o (by omega) (by omega)
    have e3 : (up (up (up (up (up (up (up (up (up (up (up (up A 63 (A 42 27) a) 64 (A 42 27) e) 65 (A 42 27) t) 66 (A 42 27) (u / 16)) 67 (A 42 27) (u % 16)) 68 (A 42 27) (v / 16)) 69 (A 42 27) (v % 16)) 70 (A 42 27) f) 71 (A 42 27) l) 72 (A 42 27) w) 73 (A 42 27) (A 42 3)) 42 27 (A 42 27 + 1)) 63 (A 42 27) = a := by simp [up]
    unfold CG
    rw [e1, e3, e2, hD.2.2.2.1]
    refine ⟨hs2, t5, ?_, ?_, ?_, ?_, ?_, ?_, ?_, ?_, ?_, ?_, ?_⟩ <;> rw [hU, t6] <;> simp [up]
  · rintro _ τ ⟨rfl, g', h1, h2, h3⟩
    refine aw_pop rfl rfl rfl ?_
    refine aw_aload_n rfl rfl rfl ?_
    refine aw_getr (b := 7) rfl rfl (h1.f.k 0 rfl) (h1.f.r 0 4 7 rfl) rfl ?_
    refine aw_fnc (c_size (h1.f.k 7 rfl) h1.lG.1) rfl rfl rfl (Nat.le_of_ble_eq_true rfl) (Or.inr ⟨_, rfl, h1.f.k 7 rfl⟩) rfl ?_
    refine aw_iconst rfl rfl ?_
    refine aw_isub rfl rfl ?_
    refine aw_reti rfl ⟨?_, g', by unfold m_grant_op; rw [tit_t hok]; exact h1, h2, h3⟩
    rw [zit_t hok]
    simp [up]
set_option maxRecDepth 10000 in
set_option maxHeartbeats 2000000 in
theorem c_grant {d : Nat} {sz : Nat} {κ : Nat × (Nat → Int32) × Option Nat} {A : Nat → Int → Int} {g : Nat → Nat} {σ : az_S} (hC : CR sz κ A g σ) (hI : MI sz A) (hlim : az_n σ ≤ 890000) {a : Int} (ha : inI a) {e : Int} (he : inI e) {t : Int} (ht : inI t) {u : Int} (hu : inI u) {v : Int} (hv : inI v) {f : Int} (hf : inI f) {l : Int} (hl : inI l) {w : Int} (hw : inI w) : cal (d + 8) 109 [.ref 0, .int (iI a), .int (iI e), .int (iI t), .int (iI u), .int (iI v), .int (iI f), .int (iI l), .int (iI w)] σ (fun r τ => r = some (.int (iI (zit ((((0 ≤ a ∧ a ≤ A 42 9 - 1) ∧ (0 ≤ e ∧ e ≤ A 42 9 - 1) ∧ a ≠ e ∧ (0 ≤ t ∧ t ≤ A 42 12 - 1) ∧ (0 ≤ u ∧ u ≤ 255) ∧ (0 ≤ v ∧ v ≤ 255)) ∧ (0 ≤ u / 16 ∧ u / 16 ≤ 11) ∧ (u / 16 ≤ u % 16 ∧ u % 16 ≤ 11) ∧ (0 ≤ v / 16 ∧ v / 16 ≤ 11) ∧ (0 ≤ v % 16 ∧ v % 16 ≤ 11)) ∧ (0 ≤ f ∧ f ≤ 3599) ∧ (f ≤ l ∧ l ≤ 3599) ∧ (0 ≤ w ∧ w ≤ 2) ∧ A 42 27 ≠ 60) (A 42 27 + 1 - 1) (-1)))) ∧ ∃ g', CR sz κ (m_grant_op A a e t u v f l w) g' τ ∧ g' 700 = g 700 ∧ Kp σ τ) := by
  obtain ⟨ha1, ha2⟩ := ha
  obtain ⟨he1, he2⟩ := he
  obtain ⟨ht1, ht2⟩ := ht
  obtain ⟨hu1, hu2⟩ := hu
  obtain ⟨hv1, hv2⟩ := hv
  obtain ⟨hf1, hf2⟩ := hf
  obtain ⟨hl1, hl2⟩ := hl
  obtain ⟨hw1, hw2⟩ := hw
  have hgr := hI.grants
  have hpe := hI.people
  have hth := hI.things
  refine cal_of (M := (yX11_grant, cX11_grant, 10, (some .int))) (cd := k_X11_grant) (L := [some (.ref 0), some (.int (iI a)), some (.int (iI e)), some (.int (iI t)), some (.int (iI u)), some (.int (iI v)), some (.int (iI f)), some (.int (iI l)), some (.int (iI w)), none]) rfl (Nat.le_of_ble_eq_true rfl) rfl rfl ?_
  refine aw_aload_n rfl rfl rfl ?_
  refine aw_iload_n rfl rfl rfl ?_
  refine aw_fnc (c_isPerson hC hI ⟨by omega, by omega⟩) rfl rfl rfl (Nat.le_of_ble_eq_true rfl) (Or.inr ⟨_, rfl, (hC.f.k 0 rfl)⟩) rfl ?_
  refine aw_ifeqb (p' := 29) rfl rfl rfl (fun c1 => ?_) (fun c1 => ?_)
  · refine aw_iconst rfl rfl ?_
    refine aw_reti rfl ?_
    refine ⟨?_, g, ?_, rfl, Kp.rf⟩
    · rw [zit_f (by omega)]
    · unfold m_grant_op; rw [tit_f (by omega)]; exact hC
  · refine aw_aload_n rfl rfl rfl ?_
    refine aw_iload_n rfl rfl rfl ?_
    refine aw_fnc (c_isPerson hC hI ⟨by omega, by omega⟩) rfl rfl rfl (Nat.le_of_ble_eq_true rfl) (Or.inr ⟨_, rfl, (hC.f.k 0 rfl)⟩) rfl ?_
    refine aw_ifeqb (p' := 29) rfl rfl rfl (fun c2 => ?_) (fun c2 => ?_)
    · refine aw_iconst rfl rfl ?_
      refine aw_reti rfl ?_
      refine ⟨?_, g, ?_, rfl, Kp.rf⟩
      · rw [zit_f (by omega)]
      · unfold m_grant_op; rw [tit_f (by omega)]; exact hC
    · refine aw_iload_n rfl rfl rfl ?_
      refine aw_iload_n rfl rfl rfl ?_
      refine aw_icmp (p' := 29) rfl ⟨by omega, by omega⟩ ⟨by omega, by omega⟩ rfl rfl (fun c3 => ?_) (fun c3 => ?_)
      · dsimp only [zc] at c3
        refine aw_iconst rfl rfl ?_
        refine aw_reti rfl ?_
        refine ⟨?_, g, ?_, rfl, Kp.rf⟩
        · rw [zit_f (by omega)]
        · unfold m_grant_op; rw [tit_f (by omega)]; exact hC
      · dsimp only [zc] at c3
        refine aw_aload_n rfl rfl rfl ?_
        refine aw_iload_n rfl rfl rfl ?_
        refine aw_fnc (c_isThing hC hI ⟨by omega, by omega⟩) rfl rfl rfl (Nat.le_of_ble_eq_true rfl) (Or.inr ⟨_, rfl, (hC.f.k 0 rfl)⟩) rfl ?_
        refine aw_ifneb (p' := 31) rfl rfl rfl (fun c4 => ?_) (fun c4 => ?_)
        · refine aw_iload rfl rfl rfl ?_
          refine aw_fnc (c_isPair ⟨by omega, by omega⟩) rfl rfl rfl (Nat.le_of_ble_eq_true rfl) (Or.inl rfl) rfl ?_
          refine aw_ifeqb (p' := 60) rfl rfl rfl (fun c5 => ?_) (fun c5 => ?_)
          · refine aw_iconst rfl rfl ?_
            refine aw_reti rfl ?_
            refine ⟨?_, g, ?_, rfl, Kp.rf⟩
            · rw [zit_f (by omega)]
            · unfold m_grant_op; rw [tit_f (by omega)]; exact hC
          · refine aw_iload rfl rfl rfl ?_
            refine aw_bipush rfl rfl rfl ?_
            refine aw_idiv rfl (by omega) (by omega) (by omega) (by omega) rfl ?_
            refine aw_iload rfl rfl rfl ?_
            refine aw_bipush rfl rfl rfl ?_
            refine aw_irem rfl (by omega) (by omega) (by omega) (by omega) rfl ?_
            refine aw_icmp (p' := 60) rfl ⟨by omega, by omega⟩ ⟨by omega, by omega⟩ rfl rfl (fun c6 => ?_) (fun c6 => ?_)
            · dsimp only [zc] at c6
              refine aw_iconst rfl rfl ?_
              refine aw_reti rfl ?_
              refine ⟨?_, g, ?_, rfl, Kp.rf⟩
              · rw [zit_f (by omega)]
              · unfold m_grant_op; rw [tit_f (by omega)]; exact hC
            · dsimp only [zc] at c6
              refine aw_iload rfl rfl rfl ?_
              refine aw_fnc (c_isPair ⟨by omega, by omega⟩) rfl rfl rfl (Nat.le_of_ble_eq_true rfl) (Or.inl rfl) rfl ?_
              refine aw_ifneb (p' := 62) rfl rfl rfl (fun c7 => ?_) (fun c7 => ?_)
              · refine aw_iload rfl rfl rfl ?_
                refine aw_iload rfl rfl rfl ?_
                refine aw_fnc (c_isSpan ⟨by omega, by omega⟩ ⟨by omega, by omega⟩) rfl rfl rfl (Nat.le_of_ble_eq_true rfl) (Or.inl rfl) rfl ?_
                refine aw_ifeqb (p' := 95) rfl rfl rfl (fun c8 => ?_) (fun c8 => ?_)
                · refine aw_iconst rfl rfl ?_
                  refine aw_reti rfl ?_
                  refine ⟨?_, g, ?_, rfl, Kp.rf⟩
                  · rw [zit_f (by omega)]
                  · unfold m_grant_op; rw [tit_f (by omega)]; exact hC
                · refine aw_iload rfl rfl rfl ?_
                  refine aw_if (p' := 95) rfl ⟨by omega, by omega⟩ rfl rfl (fun c9 => ?_) (fun c9 => ?_)
                  · dsimp only [zc] at c9
                    refine aw_iconst rfl rfl ?_
                    refine aw_reti rfl ?_
                    refine ⟨?_, g, ?_, rfl, Kp.rf⟩
                    · rw [zit_f (by omega)]
                    · unfold m_grant_op; rw [tit_f (by omega)]; exact hC
                  · dsimp only [zc] at c9
                    refine aw_iload rfl rfl rfl ?_
                    refine aw_iconst rfl rfl ?_
                    refine aw_icmp (p' := 95) rfl ⟨by omega, by omega⟩ ⟨by omega, by omega⟩ rfl rfl (fun c10 => ?_) (fun c10 => ?_)
                    · dsimp only [zc] at c10
                      refine aw_iconst rfl rfl ?_
                      refine aw_reti rfl ?_
                      refine ⟨?_, g, ?_, rfl, Kp.rf⟩
                      · rw [zit_f (by omega)]
                      · unfold m_grant_op; rw [tit_f (by omega)]; exact hC
                    · dsimp only [zc] at c10
                      refine aw_aload_n rfl rfl rfl ?_
                      refine aw_getr (b := 7) rfl rfl (hC.f.k 0 rfl) (hC.f.r 0 4 7 rfl) rfl ?_
                      refine aw_fnc (c_size (hC.f.k 7 rfl) hC.lG.1) rfl rfl rfl (Nat.le_of_ble_eq_true rfl) (Or.inr ⟨_, rfl, (hC.f.k 7 rfl)⟩) rfl ?_
                      refine aw_bipush rfl rfl rfl ?_
                      refine aw_icmp (p' := 97) rfl ⟨by omega, by omega⟩ ⟨by omega, by omega⟩ rfl rfl (fun c11 => ?_) (fun c11 => ?_)
                      · dsimp only [zc] at c11
                        exact c_grantN hC hI hlim (by omega)
                      · dsimp only [zc] at c11
                        refine aw_iconst rfl rfl ?_
                        refine aw_reti rfl ?_
                        refine ⟨?_, g, ?_, rfl, Kp.rf⟩
                        · rw [zit_f (by omega)]
                        · unfold m_grant_op; rw [tit_f (by omega)]; exact hC
              · refine aw_iconst rfl rfl ?_
                refine aw_reti rfl ?_
                refine ⟨?_, g, ?_, rfl, Kp.rf⟩
                · rw [zit_f (by omega)]
                · unfold m_grant_op; rw [tit_f (by omega)]; exact hC
        · refine aw_iconst rfl rfl ?_
          refine aw_reti rfl ?_
          refine ⟨?_, g, ?_, rfl, Kp.rf⟩
          · rw [zit_f (by omega)]
          · unfold m_grant_op; rw [tit_f (by omega)]; exact hC
theorem mFill_v (B : Nat → Int → Int) (s : Int) : ∀ (n : Nat) (z : Int), mFill B s n 87 z = if 12 * s ≤ z ∧ z < 12 * s + n then -1 else B 87 z := by
  intro n
  induction n with
  | zero => intro z; rw [if_neg (by omega)]; rfl
  | succ n ih =>
    intro z
    show up (mFill B s n) 87 (12 * s + n) (-1) 87 z = _
    unfold up
    by_cases e : z = 12 * s + n
    · rw [if_pos ⟨rfl, e⟩, if_pos (by omega)]
    · rw [if_neg (fun q => e q.2), ih]
      by_cases e2 : 12 * s ≤ z ∧ z < 12 * s + n
      · rw [if_pos e2, if_pos (by omega)]
      · rw [if_neg e2, if_neg (by omega)]
theorem mSt_o {A : Nat → Int → Int} {p u v : Int} {a : Nat} {z : Int} (h1 : ¬ (a = 42 ∧ z = 66)) (h2 : ¬ (84 ≤ a ∧ a ≤ 86 ∧ z = A 42 66)) (h3 : ¬ (a = 87 ∧ 12 * A 42 66 ≤ z ∧ z < 12 * A 42 66 + 12)) : (up (mFill (mStall0 A p u v) (A 42 66) 12) 42 66 (A 42 66 + 1)) a z = A a z := by
  rw [up, if_neg (by omega)]
  by_cases e : a = 87
  · subst e
    rw [mFill_v, if_neg (by omega)]
    simp [mStall0, up]
  · rw [mFill_o _ _ _ e]
    simp only [mStall0, up]
    (repeat rw [if_neg (by omega)])
set_option maxRecDepth 10000 in
set_option maxHeartbeats 1000000 in
theorem c_stallN {d : Nat} {sz : Nat} {κ : Nat × (Nat → Int32) × Option Nat} {A : Nat → Int → Int} {g : Nat → Nat} {σ : az_S} (hC : CR sz κ A g σ) (hI : MI sz A) (hlim : az_n σ ≤ 890000) {p u v : Int} (hok : ((0 ≤ p ∧ p ≤ A 42 9 - 1) ∧ (0 ≤ u ∧ u ≤ 3599) ∧ (u ≤ v ∧ v ≤ 3599) ∧ A 42 66 ≠ 10)) : aw (d + 7) k_X11_stall (some .int) (fun r τ => r = some (.int (iI (zit ((0 ≤ p ∧ p ≤ A 42 9 - 1) ∧ (0 ≤ u ∧ u ≤ 3599) ∧ (u ≤ v ∧ v ≤ 3599) ∧ A 42 66 ≠ 10) (A 42 66 + 1 - 1) (-1)))) ∧ ∃ g', CR sz κ (m_stall_op A p u v) g' τ ∧ g' 700 = g 700 ∧ Kp σ τ) 30 [some (.ref 0), some (.int (iI p)), some (.int (iI u)), some (.int (iI v))] [] σ := by
  have hst := hI.stalls
  have hn := hC.n
  have hnw := Ex_nw (σ := σ) (kd := 8) (m := 3) (by omega)
  have hs4 : az_sh (az_nw σ 8 3) (az_n σ) = (8, 3) := va_up_self _ _ _
  refine aw_aload_n rfl rfl rfl ?_
  refine aw_getr (b := 8) rfl rfl (hC.f.k 0 rfl) (hC.f.r 0 5 8 rfl) rfl ?_
  refine aw_new (nf := 3) rfl rfl (by omega) rfl rfl ?_
  refine aw_dup rfl rfl rfl ?_
  refine aw_iload_n rfl rfl rfl ?_
  refine aw_iload_n rfl rfl rfl ?_
  refine aw_calc (c_sinit (a := az_n σ) (u := u) (v := v) (by rw [hs4]) (by show az_n σ < az_n σ + 1; omega) (by show az_n σ + 1 < 900000; omega) ⟨by omega, by omega⟩ ⟨by omega, by omega⟩) rfl rfl rfl (Nat.le_of_ble_eq_true rfl) (Or.inr ⟨_, rfl, by rw [hs4]⟩) rfl ?_
  rintro _ τ1 ⟨rfl, t1, t2, t3, t4, t5, t6, t7, t8⟩
  have en : az_n (az_nw σ 8 3) = az_n σ + 1 := rfl
  have es : az_sl (az_nw σ 8 3) = az_sl σ + 3 := rfl
  rw [en] at t1 t3 t5 t8
  have hx : Ex σ τ1 [] := hnw.tr t4 (fun b hb h => by rw [List.mem_singleton.mp hb] at h; omega)
  have hsh : az_sh τ1 (az_n σ) = (8, 3) := by rw [t4.2.1 _ (Or.inl (by show az_n σ < az_n σ + 1; omega))]; exact hs4
  refine aw_calc (hC.putS (A' := (up (mFill (mStall0 A p u v) (A 42 66) 12) 42 66 (A 42 66 + 1))) hI hx t1 hlim (by omega) (by rw [hsh]; decide) (by simp [up]) (fun a z h1 h2 h3 => mSt_o h1 h2 h3) (fun q' => ?_)) rfl rfl rfl (Nat.le_of_ble_eq_true rfl) (Or.inr ⟨_, rfl, by rw [(hx.sm (Or.inl (by omega)) (by simp)).1]; exact hC.f.k 8 rfl⟩) rfl ?_
  · have e1 : gS (gNew g (500 + 2 * (A 42 66).toNat) 2 (az_n σ) 603 q') (A 42 66) = az_n σ := by unfold gS; rw [gNew_n (by omega)]; omega
    have e2 : gSp (gNew g (500 + 2 * (A 42 66).toNat) 2 (az_n σ) 603 q') (A 42 66) = az_n σ + 1 := by unfold gSp; rw [gNew_n (by omega)]; omega
    unfold CS
    rw [e1, e2]
    refine ⟨hsh, t3, t5, ?_, ?_, fun j j0 j1 => ?_⟩
    · rw [t6, up_ne (by decide), mFill_o _ _ _ (by decide)]; simp [mStall0, up]
    · rw [t7, up_ne (by decide), mFill_o _ _ _ (by decide)]; simp [mStall0, up]
    · rw [t8 j j0 j1, up_ne (by decide), mFill_v, if_pos (by omega)]
  · rintro _ τ ⟨rfl, g', h1, h2, h3⟩
    refine aw_pop rfl rfl rfl ?_
    refine aw_aload_n rfl rfl rfl ?_
    refine aw_getr (b := 8) rfl rfl (h1.f.k 0 rfl) (h1.f.r 0 5 8 rfl) rfl ?_
    refine aw_fnc (c_size (h1.f.k 8 rfl) h1.lS.1) rfl rfl rfl (Nat.le_of_ble_eq_true rfl) (Or.inr ⟨_, rfl, h1.f.k 8 rfl⟩) rfl ?_
    refine aw_iconst rfl rfl ?_
    refine aw_isub rfl rfl ?_
    refine aw_reti rfl ⟨?_, g', by unfold m_stall_op; rw [tit_t hok]; exact h1, h2, h3⟩
    rw [zit_t hok]
    simp [up]
set_option maxRecDepth 10000 in
set_option maxHeartbeats 2000000 in
theorem c_stall {d : Nat} {sz : Nat} {κ : Nat × (Nat → Int32) × Option Nat} {A : Nat → Int → Int} {g : Nat → Nat} {σ : az_S} (hC : CR sz κ A g σ) (hI : MI sz A) (hlim : az_n σ ≤ 890000) {p : Int} (hp : inI p) {u : Int} (hu : inI u) {v : Int} (hv : inI v) : cal (d + 8) 121 [.ref 0, .int (iI p), .int (iI u), .int (iI v)] σ (fun r τ => r = some (.int (iI (zit ((0 ≤ p ∧ p ≤ A 42 9 - 1) ∧ (0 ≤ u ∧ u ≤ 3599) ∧ (u ≤ v ∧ v ≤ 3599) ∧ A 42 66 ≠ 10) (A 42 66 + 1 - 1) (-1)))) ∧ ∃ g', CR sz κ (m_stall_op A p u v) g' τ ∧ g' 700 = g 700 ∧ Kp σ τ) := by
  obtain ⟨hp1, hp2⟩ := hp
  obtain ⟨hu1, hu2⟩ := hu
  obtain ⟨hv1, hv2⟩ := hv
  have hst := hI.stalls
  have hpe := hI.people
  refine cal_of (M := (yX11_stall, cX11_stall, 4, (some .int))) (cd := k_X11_stall) (L := [some (.ref 0), some (.int (iI p)), some (.int (iI u)), some (.int (iI v))]) rfl (Nat.le_of_ble_eq_true rfl) rfl rfl ?_
  refine aw_aload_n rfl rfl rfl ?_
  refine aw_iload_n rfl rfl rfl ?_
  refine aw_fnc (c_isPerson hC hI ⟨by omega, by omega⟩) rfl rfl rfl (Nat.le_of_ble_eq_true rfl) (Or.inr ⟨_, rfl, (hC.f.k 0 rfl)⟩) rfl ?_
  refine aw_ifeqb (p' := 28) rfl rfl rfl (fun c1 => ?_) (fun c1 => ?_)
  · refine aw_iconst rfl rfl ?_
    refine aw_reti rfl ?_
    refine ⟨?_, g, ?_, rfl, Kp.rf⟩
    · rw [zit_f (by omega)]
    · unfold m_stall_op; rw [tit_f (by omega)]; exact hC
  · refine aw_iload_n rfl rfl rfl ?_
    refine aw_iload_n rfl rfl rfl ?_
    refine aw_fnc (c_isSpan ⟨by omega, by omega⟩ ⟨by omega, by omega⟩) rfl rfl rfl (Nat.le_of_ble_eq_true rfl) (Or.inl rfl) rfl ?_
    refine aw_ifeqb (p' := 28) rfl rfl rfl (fun c2 => ?_) (fun c2 => ?_)
    · refine aw_iconst rfl rfl ?_
      refine aw_reti rfl ?_
      refine ⟨?_, g, ?_, rfl, Kp.rf⟩
      · rw [zit_f (by omega)]
      · unfold m_stall_op; rw [tit_f (by omega)]; exact hC
    · refine aw_aload_n rfl rfl rfl ?_
      refine aw_getr (b := 8) rfl rfl (hC.f.k 0 rfl) (hC.f.r 0 5 8 rfl) rfl ?_
      refine aw_fnc (c_size (hC.f.k 8 rfl) hC.lS.1) rfl rfl rfl (Nat.le_of_ble_eq_true rfl) (Or.inr ⟨_, rfl, (hC.f.k 8 rfl)⟩) rfl ?_
      refine aw_bipush rfl rfl rfl ?_
      refine aw_icmp (p' := 30) rfl ⟨by omega, by omega⟩ ⟨by omega, by omega⟩ rfl rfl (fun c3 => ?_) (fun c3 => ?_)
      · dsimp only [zc] at c3
        exact c_stallN hC hI hlim (by omega)
      · dsimp only [zc] at c3
        refine aw_iconst rfl rfl ?_
        refine aw_reti rfl ?_
        refine ⟨?_, g, ?_, rfl, Kp.rf⟩
        · rw [zit_f (by omega)]
        · unfold m_stall_op; rw [tit_f (by omega)]; exact hC
