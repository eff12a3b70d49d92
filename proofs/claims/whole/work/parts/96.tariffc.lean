/-! THE CLASS'S TARIFF -/
def tA (A : Nat → Int → Int) (f x : Int) : Nat → Int → Int := up (up (up A 42 40 0) 42 48 f) 42 49 x
/-- the reference's places are kept -/
def Kr (σ τ : az_S) : Prop := (∀ a, 42 ≤ a → a < 103 → az_i τ a = az_i σ a ∧ az_l τ a = az_l σ a) ∧ az_n τ ≤ az_n σ + 10 ∧ az_sl τ ≤ az_sl σ + 500
theorem CR.tar {sz : Nat} {κ : Nat × (Nat → Int32) × Option Nat} {A : Nat → Int → Int} {g : Nat → Nat} {σ τ : az_S} (h : CR sz κ A g σ) (hI : MI sz A) {f x : Int} (hd : Mod σ τ [9, 0]) (h9 : zx τ 9 1 = 0) (h16 : zx τ 0 16 = f) (h17 : zx τ 0 17 = x) (h15 : zx τ 0 15 = zx σ 0 15) : CR sz κ (tA A f x) g τ := by
  refine h.chF hI hd rfl (fun a z q => by unfold tA; simp only [up]; (repeat rw [if_neg (by omega)])) ⟨by simp [tA, up], by simp [tA, up], by simp [tA, up], by simp [tA, up]⟩ ?_
  obtain ⟨h1, h2, h3, h4, h5, h6, h7, h8⟩ := h.fix
  exact ⟨(by rw [h15]; simpa [tA, up] using h1), (by rw [hd.z 28 rfl]; simpa [tA, up] using h2), (by rw [hd.z 1 rfl]; simpa [tA, up] using h3), (by rw [hd.z 2 rfl, hd.z 3 rfl]; simpa [tA, up] using h4), (by rw [hd.z 4 rfl]; simpa [tA, up] using h5), ⟨by rw [h16]; simp [tA, up], by rw [h17]; simp [tA, up]⟩, (by refine ⟨by rw [h9]; simp [tA, up], fun j a b => ?_⟩; simp [tA, up] at b; omega), (by rw [hd.z 33 rfl, hd.q 33 rfl, hd.z 34 rfl]; simpa [tA, up] using h8)⟩
theorem b_fx {sz : Nat} {σ : az_S} (h : FX sz σ) (a : Nat) (ha : Nat.ble (a + 1) 103 = true) : (az_sh σ a).1 = fxk a := h.k a ha
theorem MI.ch0 {sz : Nat} {A A' : Nat → Int → Int} (H : MI sz A) (h0 : A' 42 0 = A 42 0) (h1 : A' 42 1 = A 42 1) (h2 : A' 42 2 = A 42 2) (h3 : A' 42 3 = A 42 3) (h6 : A' 42 6 = A 42 6) (h9 : A' 42 9 = A 42 9) (h12 : A' 42 12 = A 42 12) (h27 : A' 42 27 = A 42 27) (h66 : A' 42 66 = A 42 66) (h85 : A' 42 85 = A 42 85) (h40 : 0 ≤ A' 42 40 ∧ A' 42 40 ≤ 400) (hA : ∀ a : Nat, (Nat.ble 43 a && (Nat.ble a 74 || (Nat.ble 84 a && Nat.ble a 87))) = true → A' a = A a) : MI sz A' := by
  obtain ⟨k1, k2, k3, k4, k5, k6, k7, k8, k9, k10, k11, k12, k13, k14, k15, k16, k17, k18⟩ := H
  unfold MI
  simp only [TI, GI, SI, h0, h1, h2, h3, h6, h9, h12, h27, h66, h85, hA 43 (by decide), hA 44 (by decide), hA 45 (by decide), hA 46 (by decide), hA 47 (by decide), hA 48 (by decide), hA 49 (by decide), hA 50 (by decide), hA 51 (by decide), hA 52 (by decide), hA 53 (by decide), hA 54 (by decide), hA 55 (by decide), hA 56 (by decide), hA 57 (by decide), hA 58 (by decide), hA 59 (by decide), hA 60 (by decide), hA 61 (by decide), hA 62 (by decide), hA 63 (by decide), hA 64 (by decide), hA 65 (by decide), hA 66 (by decide), hA 67 (by decide), hA 68 (by decide), hA 69 (by decide), hA 70 (by decide), hA 71 (by decide), hA 72 (by decide), hA 73 (by decide), hA 74 (by decide), hA 84 (by decide), hA 85 (by decide), hA 86 (by decide), hA 87 (by decide)]
  exact ⟨k1, k2, k3, k4, k5, k6, k7, k8, k9, k10, k11, k12, k13, h40, k15, k16, k17, k18⟩
theorem MI.tar {sz : Nat} {A : Nat → Int → Int} (H : MI sz A) {f x : Int} : MI sz (tA A f x) := by
  refine H.ch0 ?_ ?_ ?_ ?_ ?_ ?_ ?_ ?_ ?_ ?_ ?_ ?_
  iterate 10 simp [tA, up]
  · simp [tA, up]
  · intro a ha
    unfold tA
    have : a ≠ 42 := by rintro rfl; exact absurd ha (by decide)
    rw [up_fn this, up_fn this, up_fn this]
def TC (sz : Nat) (κ : Nat × (Nat → Int32) × Option Nat) (A : Nat → Int → Int) (g : Nat → Nat) (σ : az_S) : Option Value → az_S → Prop := fun r τ => ∃ (K V S E : Int → Int) (T : Int), Toks A K V S E T ∧ Kr σ τ ∧ ((∃ R, PW R ∧ r = some (.int (iI (R.length : Int))) ∧ Rch K V S (CT0 0 []) (CT0 T R) ∧ CR sz κ (tA A 0 (-1)) (gs7 g (38 - g 700)) τ ∧ cTar τ (38 - g 700) R) ∨ (∃ f x, r = some (.int (iI (-1))) ∧ f ≠ 0 ∧ (∃ e : Cf, Rch K V S (CT0 0 []) e ∧ e.wr = f ∧ e.wa = x) ∧ inI f ∧ inI x ∧ CR sz κ (tA A f x) g τ ∧ ∀ R, cTar σ (g 700) R → cTar τ (g 700) R))
set_option maxRecDepth 10000 in
set_option maxHeartbeats 4000000 in
theorem c_tariff {sz : Nat} {κ : Nat × (Nat → Int32) × Option Nat} {A : Nat → Int → Int} {g : Nat → Nat} {σ : az_S} (hC : CR sz κ A g σ) (hI : MI sz A) : cal 43 118 [.ref 0] σ (TC sz κ A g σ) := by
  obtain ⟨b, hbe⟩ : ∃ b, 38 - g 700 = b := ⟨_, rfl⟩
  have hb : b = 16 ∨ b = 22 := by have := hC.force.1; omega
  have h14 := hC.force.2.2
  rw [hbe] at h14
  refine cal_of (d := 42) (M := (yX11_tariff, cX11_tariff, 3, (some .int))) (cd := k_X11_tariff) (L := [some (.ref 0), none, none]) rfl (Nat.le_of_ble_eq_true rfl) rfl rfl ?_
  refine aw_aload_n rfl rfl rfl ?_
  refine aw_getr (b := 40) rfl rfl (hC.f.k 0 rfl) (hC.f.r 0 8 40 rfl) rfl ?_
  refine aw_aload_n rfl rfl rfl ?_
  refine aw_getr (b := b) rfl rfl (hC.f.k 0 rfl) h14 rfl ?_
  refine aw_calc (c_parse hb hC hI) rfl rfl rfl (Nat.le_of_ble_eq_true rfl) (Or.inr ⟨_, rfl, (hC.f.k 40 rfl)⟩) rfl ?_
  rintro r τ ⟨K, V, S, E, T, hTk, hM, hC1, hcs⟩
  obtain ⟨z, hz, hr⟩ : ∃ z : Int, (z = 0 ∨ z = 1) ∧ r = some (.int (iI z)) := by
    rcases hcs with q | q
    · exact ⟨1, Or.inr rfl, q.1⟩
    · exact ⟨0, Or.inl rfl, q.1⟩
  subst hr
  change aw _ _ _ _ 11 [some (.ref 0), none, none] [.int (iI z)] _
  refine aw_istore_n rfl (Nat.le_of_ble_eq_true rfl) rfl rfl ?_
  change aw _ _ _ _ 12 [some (.ref 0), some (.int (iI z)), none] _ _
  refine aw_aload_n rfl rfl rfl ?_
  refine aw_getr (b := 9) rfl rfl (hC1.f.k 0 rfl) (hC1.f.r 0 7 9 rfl) rfl ?_
  refine aw_iconst rfl rfl ?_
  refine aw_fs (1) rfl rfl (hC1.f.k 9 rfl) rfl ⟨by omega, by omega⟩ rfl (fun τ1 hD1 hU1 _ => ?_)
  have f1 := hD1.fx hC1.f
  have hfl := zx_lo τ 40 4
  have hfh := zx_hi τ 40 4
  have hxl := zx_lo τ 40 5
  have hxh := zx_hi τ 40 5
  refine aw_aload_n rfl rfl rfl ?_
  refine aw_aload_n rfl rfl rfl ?_
  refine aw_getr (b := 40) rfl rfl (f1.k 0 rfl) (f1.r 0 8 40 rfl) rfl ?_
  refine aw_gk (v := zx τ 40 4) (4) rfl rfl (f1.k 40 rfl) rfl (by rw [hD1.z 40 rfl]) rfl (fun _ _ => ?_)
  refine aw_fs (16) rfl rfl (f1.k 0 rfl) rfl ⟨by omega, by omega⟩ rfl (fun τ2 hD2 hU2 _ => ?_)
  have f2 := hD2.fx f1
  refine aw_aload_n rfl rfl rfl ?_
  refine aw_aload_n rfl rfl rfl ?_
  refine aw_getr (b := 40) rfl rfl (f2.k 0 rfl) (f2.r 0 8 40 rfl) rfl ?_
  refine aw_gk (v := zx τ 40 5) (5) rfl rfl (f2.k 40 rfl) rfl (by rw [hD2.z 40 rfl, hD1.z 40 rfl]) rfl (fun _ _ => ?_)
  refine aw_fs (17) rfl rfl (f2.k 0 rfl) rfl ⟨by omega, by omega⟩ rfl (fun τ3 hD3 hU3 _ => ?_)
  have hD : Mod τ τ3 [9, 0] := ((hD1.su rfl).tr (hD2.su rfl)).tr (hD3.su rfl)
  have hC3 : CR sz κ (tA A (zx τ 40 4) (zx τ 40 5)) g τ3 := by
    refine hC1.tar hI hD ?_ ?_ ?_ ?_
    · rw [hD3.z 9 rfl, hD2.z 9 rfl, hU1, if_pos rfl]
    · rw [hU3, if_neg (by decide), hU2, if_pos rfl]
    · rw [hU3, if_pos rfl]
    · rw [hU3, if_neg (by decide), hU2, if_neg (by decide), hD1.z 0 rfl]
  have hkr : Kr σ τ3 := by
    clear hcs
    have hS : ∀ a, 42 ≤ a → a ∉ [9, 11, 12, 13] ++ [40, b, b + 1, b + 2, b + 3, b + 4] := by
      intro a ha q
      simp at q
      omega
    have hS2 : ∀ a, 42 ≤ a → a ∉ [9, 0] := by
      intro a ha q
      simp at q
      omega
    refine ⟨fun a h1 _ => ⟨?_, ?_⟩, ?_, ?_⟩
    · rw [hD.2.2.2.2.1 a (hS2 a h1), hM.2.2.2.2.1 a (hS a h1)]
    · rw [hD.2.2.2.2.2 a (hS2 a h1), hM.2.2.2.2.2 a (hS a h1)]
    · have e1 : az_n τ3 = az_n τ := hD.1
      have e2 : az_n τ = az_n σ := hM.1
      omega
    · have e1 : az_sl τ3 = az_sl τ := hD.2.1
      have e2 : az_sl τ = az_sl σ := hM.2.1
      omega
  refine aw_iload_n rfl rfl rfl ?_
  refine aw_if (p' := 48) rfl ⟨by omega, by omega⟩ rfl rfl (fun c => ?_) (fun c => ?_)
  · dsimp only [zc] at c
    rcases hcs with ⟨_, R, hR, hT, h4, h5, hcf⟩ | ⟨q, _⟩
    · rw [h4, h5] at hC3
      have h143 := hC3.force.2.2
      rw [hbe] at h143
      refine aw_aload_n rfl rfl rfl ?_
      refine aw_getr (b := g 700) rfl rfl (hC3.f.k 0 rfl) hC3.force.2.1 rfl ?_
      refine aw_astore_n rfl (Nat.le_of_ble_eq_true rfl) rfl rfl ?_
      change aw _ _ _ _ 53 [some (.ref 0), some (.int (iI z)), some (.ref (g 700))] _ _
      refine aw_aload_n rfl rfl rfl ?_
      refine aw_aload_n rfl rfl rfl ?_
      refine aw_getr (b := b) rfl rfl (hC3.f.k 0 rfl) h143 rfl ?_
      refine aw_putr rfl rfl (hC3.f.k 0 rfl) rfl ?_
      refine aw_aload_n rfl rfl rfl ?_
      refine aw_aload_n rfl rfl rfl ?_
      refine aw_putr rfl rfl (hC3.f.k 0 rfl) rfl ?_
      have hrr : Rr τ3 (az_pr (az_pr τ3 0 13 (some b)) 0 14 (some (g 700))) := by
        refine ⟨rfl, rfl, rfl, rfl, rfl, fun k h0 h1 => ?_, fun k h0 h1 => ?_, fun k _ => ?_⟩
        · show az_up (az_up τ3.2.2.2.2.2 0 13 (some b)) 0 14 (some (g 700)) k = _
          rw [az_up_ne h0, az_up_ne h0]
        · show az_up (az_up τ3.2.2.2.2.2 0 13 (some b)) 0 14 (some (g 700)) 0 k = _
          rw [az_up_nk h1, az_up_nk h0]
        · show az_up (az_up τ3.2.2.2.2.2 0 13 (some b)) 0 14 (some (g 700)) 40 k = _
          rw [az_up_ne (by decide), az_up_ne (by decide)]
      have e13 : az_r (az_pr (az_pr τ3 0 13 (some b)) 0 14 (some (g 700))) 0 13 = some b := by
        show az_up (az_up τ3.2.2.2.2.2 0 13 (some b)) 0 14 (some (g 700)) 0 13 = _
        rw [az_up_nk (by decide), az_up_sf]
      have e14 : az_r (az_pr (az_pr τ3 0 13 (some b)) 0 14 (some (g 700))) 0 14 = some (38 - b) := by
        show az_up (az_up τ3.2.2.2.2.2 0 13 (some b)) 0 14 (some (g 700)) 0 14 = _
        rw [az_up_sf]
        congr 1
        omega
      have hIt : MI sz (tA A 0 (-1)) := hI.tar
      have hC5 := hC3.rr hIt hrr hb e13 e14
      refine aw_aload_n rfl rfl rfl ?_
      refine aw_getr (b := b) rfl rfl (hC5.f.k 0 rfl) e13 rfl ?_
      have hz3 : ∀ a, b ≤ a → a ≤ b + 4 → zx τ3 a = zx τ a := by
        intro a h1 h2
        refine hD.nz ?_
        intro q
        simp at q
        omega
      have hT5 : cTar (az_pr (az_pr τ3 0 13 (some b)) 0 14 (some (g 700))) b R := by
        show cTar τ3 b R
        unfold cTar
        rw [hz3 b (by omega) (by omega), hz3 (b + 1) (by omega) (by omega), hz3 (b + 2) (by omega) (by omega), hz3 (b + 3) (by omega) (by omega), hz3 (b + 4) (by omega) (by omega)]
        exact hT
      refine aw_gk (v := (R.length : Int)) (6) rfl rfl (hC5.f.tar hb).1 rfl hT5.2.1 rfl (fun _ _ => ?_)
      refine aw_reti rfl ?_
      rw [← hbe] at hC5 hT5
      refine ⟨K, V, S, E, T, hTk, hkr, Or.inl ⟨R, hR, rfl, hcf, ?_, ?_⟩⟩
      · have e : 38 - g 700 = b := hbe
        rw [e] at hC5 ⊢
        exact hC5
      · have e : 38 - g 700 = b := hbe
        rw [e] at hT5 ⊢
        exact hT5
    · exfalso
      have hz1 : z = 1 := by omega
      rw [hz1] at q
      injection q with q
      injection q with q
      exact absurd q (by decide)
  · dsimp only [zc] at c
    rcases hcs with ⟨q, _⟩ | ⟨_, x, f, h4, hf, h5, e, h6, h7, h8⟩
    · exfalso
      have hz1 : z = 0 := by omega
      rw [hz1] at q
      injection q with q
      injection q with q
      exact absurd q (by decide)
    · refine aw_iconst rfl rfl ?_
      refine aw_reti rfl ?_
      rw [h4, h5] at hC3
      rw [h4] at hfl hfh
      rw [h5] at hxl hxh
      refine ⟨K, V, S, E, T, hTk, hkr, Or.inr ⟨f, S x, rfl, hf, ⟨e, h6, h7, h8⟩, ⟨hfl, hfh⟩, ⟨hxl, hxh⟩, hC3, fun R hR => ?_⟩⟩
      have hz3 : ∀ a, g 700 ≤ a → a ≤ g 700 + 4 → zx τ3 a = zx σ a := by
        intro a h1 h2
        have hg := hC.force.1
        have q1 : zx τ3 a = zx τ a := by
          refine hD.nz ?_
          intro q
          simp at q
          omega
        have q2 : zx τ a = zx (az_pr σ 40 1 (some b)) a := by
          refine hM.nz ?_
          intro q
          simp at q
          omega
        exact q1.trans q2
      unfold cTar
      rw [hz3 _ (by omega) (by omega), hz3 (g 700 + 1) (by omega) (by omega), hz3 (g 700 + 2) (by omega) (by omega), hz3 (g 700 + 3) (by omega) (by omega), hz3 (g 700 + 4) (by omega) (by omega)]
      exact hR
