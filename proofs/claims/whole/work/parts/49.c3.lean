set_option maxRecDepth 10000 in
set_option maxHeartbeats 2000000 in
theorem c_tellr {d : Nat} {σ : az_S} {a b c e : Nat} {n x y z : Int} (sa : (az_sh σ a).1 = 11) (sb : az_sh σ b = (100, 41)) (sc : az_sh σ c = (100, 41)) (se : az_sh σ e = (100, 41)) (rb : az_r σ a 7 = some b) (rc : az_r σ a 8 = some c) (re : az_r σ a 9 = some e) (hn : zx σ a 10 = n) (hn0 : 0 ≤ n) (hn1 : n ≤ 40) (hx : inI x) (hy : inI y) (hz : inI z) (nab : a ≠ b) (nac : a ≠ c) (nae : a ≠ e) (nbc : b ≠ c) (nbe : b ≠ e) (nce : c ≠ e) : cal (d + 1) 86 [.ref a, .int (iI x), .int (iI y), .int (iI z)] σ (fun r τ => r = none ∧ Mod σ τ [a, b, c, e] ∧ (∀ w, zx τ a w = if w = 10 then n + 1 else zx σ a w) ∧ (∀ w, zx τ b w = if w = n then x else zx σ b w) ∧ (∀ w, zx τ c w = if w = n then y else zx σ c w) ∧ (∀ w, zx τ e w = if w = n then z else zx σ e w)) := by
  obtain ⟨hx1, hx2⟩ := hx
  obtain ⟨hy1, hy2⟩ := hy
  obtain ⟨hz1, hz2⟩ := hz
  refine cal_of (M := (yX10_tell, cX10_tell, 4, none)) (cd := k_X10_tell) (L := [some (.ref a), some (.int (iI x)), some (.int (iI y)), some (.int (iI z))]) rfl (Nat.le_of_ble_eq_true rfl) rfl rfl ?_
  refine aw_aload_n rfl rfl rfl ?_
  refine aw_gk (v := n) (10) rfl rfl sa rfl hn rfl (fun _ _ => ?_)
  refine aw_if (p' := 59) rfl ⟨by omega, by omega⟩ rfl rfl (fun c1 => ?_) (fun c1 => ?_)
  · dsimp only [zc] at c1
    omega
  · dsimp only [zc] at c1
    refine aw_aload_n rfl rfl rfl ?_
    refine aw_gk (v := n) (10) rfl rfl sa rfl hn rfl (fun _ _ => ?_)
    refine aw_aload_n rfl rfl rfl ?_
    refine aw_getr (b := b) rfl rfl sa rb rfl ?_
    refine aw_alen (N := 41) rfl sb (by decide) rfl ?_
    refine aw_icmp (p' := 59) rfl ⟨by omega, by omega⟩ ⟨by omega, by omega⟩ rfl rfl (fun c2 => ?_) (fun c2 => ?_)
    · dsimp only [zc] at c2
      omega
    · dsimp only [zc] at c2
      refine aw_aload_n rfl rfl rfl ?_
      refine aw_getr (b := b) rfl rfl sa rb rfl ?_
      refine aw_aload_n rfl rfl rfl ?_
      refine aw_gk (v := n) (10) rfl rfl sa rfl hn rfl (fun _ _ => ?_)
      refine aw_iload_n rfl rfl rfl ?_
      refine aw_ys (N := 41) rfl sb (by omega) (by omega) (by omega) ⟨by omega, by omega⟩ rfl (fun τ4 hD4 hU4 => ?_)
      refine aw_aload_n rfl rfl rfl ?_
      refine aw_getr (b := c) rfl rfl (by rw [(hD4.su (T := [a, b, c, e]) (by simp)).2.2.1]; exact sa) (by rw [(hD4.su (T := [a, b, c, e]) (by simp)).2.2.2.1]; exact rc) rfl ?_
      refine aw_aload_n rfl rfl rfl ?_
      refine aw_gk (v := n) (10) rfl rfl (by rw [(hD4.su (T := [a, b, c, e]) (by simp)).2.2.1]; exact sa) rfl (by rw [hD4.nz (by simp only [List.mem_singleton]; exact nab)]; exact hn) rfl (fun _ _ => ?_)
      refine aw_iload_n rfl rfl rfl ?_
      refine aw_ys (N := 41) rfl (by rw [(hD4.su (T := [a, b, c, e]) (by simp)).2.2.1]; exact sc) (by omega) (by omega) (by omega) ⟨by omega, by omega⟩ rfl (fun τ6 hD6 hU6 => ?_)
      refine aw_aload_n rfl rfl rfl ?_
      refine aw_getr (b := e) rfl rfl (by rw [((hD4.su (T := [a, b, c, e]) (by simp)).tr (hD6.su (T := [a, b, c, e]) (by simp))).2.2.1]; exact sa) (by rw [((hD4.su (T := [a, b, c, e]) (by simp)).tr (hD6.su (T := [a, b, c, e]) (by simp))).2.2.2.1]; exact re) rfl ?_
      refine aw_aload_n rfl rfl rfl ?_
      refine aw_gk (v := n) (10) rfl rfl (by rw [((hD4.su (T := [a, b, c, e]) (by simp)).tr (hD6.su (T := [a, b, c, e]) (by simp))).2.2.1]; exact sa) rfl (by rw [hD6.nz (by simp only [List.mem_singleton]; exact nac), hD4.nz (by simp only [List.mem_singleton]; exact nab)]; exact hn) rfl (fun _ _ => ?_)
      refine aw_iload_n rfl rfl rfl ?_
      refine aw_ys (N := 41) rfl (by rw [((hD4.su (T := [a, b, c, e]) (by simp)).tr (hD6.su (T := [a, b, c, e]) (by simp))).2.2.1]; exact se) (by omega) (by omega) (by omega) ⟨by omega, by omega⟩ rfl (fun τ8 hD8 hU8 => ?_)
      refine aw_aload_n rfl rfl rfl ?_
      refine aw_dup rfl rfl rfl ?_
      refine aw_gk (v := n) (10) rfl rfl (by rw [(((hD4.su (T := [a, b, c, e]) (by simp)).tr (hD6.su (T := [a, b, c, e]) (by simp))).tr (hD8.su (T := [a, b, c, e]) (by simp))).2.2.1]; exact sa) rfl (by rw [hD8.nz (by simp only [List.mem_singleton]; exact nae), hD6.nz (by simp only [List.mem_singleton]; exact nac), hD4.nz (by simp only [List.mem_singleton]; exact nab)]; exact hn) rfl (fun _ _ => ?_)
      refine aw_iconst rfl rfl ?_
      refine aw_iadd rfl rfl ?_
      refine aw_fs (10) rfl rfl (by rw [(((hD4.su (T := [a, b, c, e]) (by simp)).tr (hD6.su (T := [a, b, c, e]) (by simp))).tr (hD8.su (T := [a, b, c, e]) (by simp))).2.2.1]; exact sa) rfl ⟨by omega, by omega⟩ rfl (fun τ9 hD9 hU9 hQ9 => ?_)
      refine aw_retv rfl ?_
      refine ⟨rfl, ((((hD4.su (T := [a, b, c, e]) (by simp)).tr (hD6.su (T := [a, b, c, e]) (by simp))).tr (hD8.su (T := [a, b, c, e]) (by simp))).tr (hD9.su (T := [a, b, c, e]) (by simp))), fun w => ?_, fun w => ?_, fun w => ?_, fun w => ?_⟩
      · rw [hU9, hD8.nz (by simp only [List.mem_singleton]; exact nae), hD6.nz (by simp only [List.mem_singleton]; exact nac), hD4.nz (by simp only [List.mem_singleton]; exact nab)]
      · rw [hD9.nz (by simp only [List.mem_singleton]; exact (Ne.symm nab)), hD8.nz (by simp only [List.mem_singleton]; exact nbe), hD6.nz (by simp only [List.mem_singleton]; exact nbc), hU4]
      · rw [hD9.nz (by simp only [List.mem_singleton]; exact (Ne.symm nac)), hD8.nz (by simp only [List.mem_singleton]; exact nce), hU6, hD4.nz (by simp only [List.mem_singleton]; exact (Ne.symm nbc))]
      · rw [hD9.nz (by simp only [List.mem_singleton]; exact (Ne.symm nae)), hU8, hD6.nz (by simp only [List.mem_singleton]; exact (Ne.symm nce)), hD4.nz (by simp only [List.mem_singleton]; exact (Ne.symm nbe))]
theorem c_tell {d : Nat} {sz : Nat} {κ : Nat × (Nat → Int32) × Option Nat} {A : Nat → Int → Int} {g : Nat → Nat} {σ : az_S} (hC : CR sz κ A g σ) (hI : MI sz A)  {t : Int} (ht0 : 0 ≤ t) (ht1 : t < A 42 12) (he : A 56 t ≤ 40) {x y : Int} (hx : inI x) (hy : inI y) : cal (d + 1) 86 [.ref (gT g t), .int (iI x), .int (iI y), .int (iI (A 42 3))] σ (fun r τ => r = none ∧ CR sz κ (mEnter A t x y) g τ ∧ Mod σ τ [gT g t, gTd g t, gTh g t, gTt g t]) := by
  have hth := hI.things
  have hcl := hI.clock
  have hE := (hI.thing t ht0 ht1).1
  refine (c_tellr (a := gT g t) (b := gTd g t) (c := gTh g t) (e := gTt g t) (hC.kT ht0 ht1) (hC.sTd ht0 ht1) (hC.sTh ht0 ht1) (hC.sTt ht0 ht1) (hC.rTd ht0 ht1) (hC.rTh ht0 ht1) (hC.rTt ht0 ht1) (hC.T10 ht0 ht1) (by omega) he hx hy ⟨by omega, by omega⟩ (fun e => by have := hC.inj (300 + 4 * t.toNat) (301 + 4 * t.toNat) (by unfold live; omega) (by unfold live; omega) e; omega) (fun e => by have := hC.inj (300 + 4 * t.toNat) (302 + 4 * t.toNat) (by unfold live; omega) (by unfold live; omega) e; omega) (fun e => by have := hC.inj (300 + 4 * t.toNat) (303 + 4 * t.toNat) (by unfold live; omega) (by unfold live; omega) e; omega) (fun e => by have := hC.inj (301 + 4 * t.toNat) (302 + 4 * t.toNat) (by unfold live; omega) (by unfold live; omega) e; omega) (fun e => by have := hC.inj (301 + 4 * t.toNat) (303 + 4 * t.toNat) (by unfold live; omega) (by unfold live; omega) e; omega) (fun e => by have := hC.inj (302 + 4 * t.toNat) (303 + 4 * t.toNat) (by unfold live; omega) (by unfold live; omega) e; omega)).imp ?_
  rintro r τ ⟨h1, h2, h3, h4, h5, h6⟩
  exact ⟨h1, hC.tellc hI ht0 ht1 he h2 h3 h4 h5 h6, h2⟩
set_option maxRecDepth 10000 in
set_option maxHeartbeats 2000000 in
theorem c_raise {d : Nat} {sz : Nat} {κ : Nat × (Nat → Int32) × Option Nat} {A : Nat → Int → Int} {g : Nat → Nat} {σ : az_S} (hC : CR sz κ A g σ) (hI : MI sz A) {t : Int} (ht : inI t) {x : Int} (hx : inI x) {h : Int} (hh : inI h) (hE : ∀ t : Int, 0 ≤ t → t < A 42 12 → A 56 t ≤ 40) : cal (d + 4) 103 [.ref 0, .int (iI t), .int (iI x), .int (iI h)] σ (fun r τ => r = some (.int (iI (zit ((0 ≤ t ∧ t ≤ A 42 12 - 1) ∧ (A 52 t ≤ x ∧ x ≤ 3599) ∧ (0 ≤ h ∧ h ≤ 60) ∧ A 60 t < 0 ∧ A 56 t ≠ 40) (A 56 t + 1) (-1)))) ∧ CR sz κ (m_raise_op A t x h) g τ ∧ (τ = σ ∨ (0 ≤ t ∧ t < A 42 12 ∧ Mod σ τ [gT g t, gTd g t, gTh g t, gTt g t]))) := by
  obtain ⟨ht1, ht2⟩ := ht
  obtain ⟨hx1, hx2⟩ := hx
  obtain ⟨hh1, hh2⟩ := hh
  have hth := hI.things
  have hcl := hI.clock
  refine cal_of (M := (yX11_raise, cX11_raise, 5, (some .int))) (cd := k_X11_raise) (L := [some (.ref 0), some (.int (iI t)), some (.int (iI x)), some (.int (iI h)), none]) rfl (Nat.le_of_ble_eq_true rfl) rfl rfl ?_
  refine aw_aload_n rfl rfl rfl ?_
  refine aw_iload_n rfl rfl rfl ?_
  refine aw_fnc (c_isThing hC hI ⟨by omega, by omega⟩) rfl rfl rfl (Nat.le_of_ble_eq_true rfl) (Or.inr ⟨_, rfl, (hC.f.k 0 rfl)⟩) rfl ?_
  refine aw_ifeqb (p' := 22) rfl rfl rfl (fun c1 => ?_) (fun c1 => ?_)
  · refine aw_iconst rfl rfl ?_
    refine aw_reti rfl ?_
    have hTs : 0 ≤ t → t < A 42 12 → 0 ≤ A 52 t := fun a b => (hI.thing t a b).2.2.2.2.2.2.1.1
    have hno : ¬ ((0 ≤ t ∧ t ≤ A 42 12 - 1) ∧ (A 52 t ≤ x ∧ x ≤ 3599) ∧ (0 ≤ h ∧ h ≤ 60) ∧ A 60 t < 0 ∧ A 56 t ≠ 40) := by
      intro q
      have := hTs (by omega) (by omega)
      omega
    refine ⟨?_, ?_, Or.inl rfl⟩
    · rw [zit_f hno]
    · unfold m_raise_op; rw [tit_f hno]; exact hC
  · refine aw_iload_n rfl rfl rfl ?_
    refine aw_fnc (c_isDay ⟨by omega, by omega⟩) rfl rfl rfl (Nat.le_of_ble_eq_true rfl) (Or.inl rfl) rfl ?_
    refine aw_ifeqb (p' := 22) rfl rfl rfl (fun c2 => ?_) (fun c2 => ?_)
    · refine aw_iconst rfl rfl ?_
      refine aw_reti rfl ?_
      have hTs : 0 ≤ t → t < A 42 12 → 0 ≤ A 52 t := fun a b => (hI.thing t a b).2.2.2.2.2.2.1.1
      have hno : ¬ ((0 ≤ t ∧ t ≤ A 42 12 - 1) ∧ (A 52 t ≤ x ∧ x ≤ 3599) ∧ (0 ≤ h ∧ h ≤ 60) ∧ A 60 t < 0 ∧ A 56 t ≠ 40) := by
        intro q
        have := hTs (by omega) (by omega)
        omega
      refine ⟨?_, ?_, Or.inl rfl⟩
      · rw [zit_f hno]
      · unfold m_raise_op; rw [tit_f hno]; exact hC
    · refine aw_iload_n rfl rfl rfl ?_
      refine aw_fnc (c_isHeight ⟨by omega, by omega⟩) rfl rfl rfl (Nat.le_of_ble_eq_true rfl) (Or.inl rfl) rfl ?_
      refine aw_ifneb (p' := 24) rfl rfl rfl (fun c3 => ?_) (fun c3 => ?_)
      · refine aw_aload_n rfl rfl rfl ?_
        refine aw_getr (b := 6) rfl rfl (hC.f.k 0 rfl) (hC.f.r 0 3 6 rfl) rfl ?_
        refine aw_iload_n rfl rfl rfl ?_
        refine aw_fnc (c_get (hC.f.k 6 rfl) hC.lT (by omega) (by omega) (by omega)) rfl rfl rfl (Nat.le_of_ble_eq_true rfl) (Or.inr ⟨_, rfl, (hC.f.k 6 rfl)⟩) rfl ?_
        refine aw_cast rfl rfl (hC.kT (by omega) (by omega)) rfl ?_
        refine aw_astore rfl (Nat.le_of_ble_eq_true rfl) rfl rfl ?_
        change aw _ _ _ _ 37 [some (.ref 0), some (.int (iI _)), some (.int (iI _)), some (.int (iI _)), some (.ref (gT g t))] _ _
        obtain ⟨⟨he1, he2⟩, ⟨he3, he4⟩, hTe, hkg, hTc, hTo, hTs, hTl, hTf, hTm⟩ := hI.thing t (by omega) (by omega)
        have hE1 := hE t (by omega) (by omega)
        refine aw_iload_n rfl rfl rfl ?_
        refine aw_aload rfl rfl rfl ?_
        refine aw_gk (v := (A 52 t)) (3) rfl rfl (hC.kT (by omega) (by omega)) rfl (hC.T3 (by omega) (by omega)) rfl (fun _ _ => ?_)
        refine aw_icmp (p' := 64) rfl ⟨by omega, by omega⟩ ⟨by omega, by omega⟩ rfl rfl (fun c4 => ?_) (fun c4 => ?_)
        · dsimp only [zc] at c4
          refine aw_iconst rfl rfl ?_
          refine aw_reti rfl ?_
          have hTs : 0 ≤ t → t < A 42 12 → 0 ≤ A 52 t := fun a b => (hI.thing t a b).2.2.2.2.2.2.1.1
          have hno : ¬ ((0 ≤ t ∧ t ≤ A 42 12 - 1) ∧ (A 52 t ≤ x ∧ x ≤ 3599) ∧ (0 ≤ h ∧ h ≤ 60) ∧ A 60 t < 0 ∧ A 56 t ≠ 40) := by
            intro q
            have := hTs (by omega) (by omega)
            omega
          refine ⟨?_, ?_, Or.inl rfl⟩
          · rw [zit_f hno]
          · unfold m_raise_op; rw [tit_f hno]; exact hC
        · dsimp only [zc] at c4
          refine aw_aload rfl rfl rfl ?_
          refine aw_fnc (c_hasFallen hC hI (by omega) (by omega)) rfl rfl rfl (Nat.le_of_ble_eq_true rfl) (Or.inr ⟨_, rfl, (hC.kT (by omega) (by omega))⟩) rfl ?_
          refine aw_ifneb (p' := 64) rfl rfl rfl (fun c5 => ?_) (fun c5 => ?_)
          · refine aw_iconst rfl rfl ?_
            refine aw_reti rfl ?_
            have hTs : 0 ≤ t → t < A 42 12 → 0 ≤ A 52 t := fun a b => (hI.thing t a b).2.2.2.2.2.2.1.1
            have hno : ¬ ((0 ≤ t ∧ t ≤ A 42 12 - 1) ∧ (A 52 t ≤ x ∧ x ≤ 3599) ∧ (0 ≤ h ∧ h ≤ 60) ∧ A 60 t < 0 ∧ A 56 t ≠ 40) := by
              intro q
              have := hTs (by omega) (by omega)
              omega
            refine ⟨?_, ?_, Or.inl rfl⟩
            · rw [zit_f hno]
            · unfold m_raise_op; rw [tit_f hno]; exact hC
          · refine aw_aload rfl rfl rfl ?_
            refine aw_gk (v := (A 56 t)) (10) rfl rfl (hC.kT (by omega) (by omega)) rfl (hC.T10 (by omega) (by omega)) rfl (fun _ _ => ?_)
            refine aw_bipush rfl rfl rfl ?_
            refine aw_icmp (p' := 66) rfl ⟨by omega, by omega⟩ ⟨by omega, by omega⟩ rfl rfl (fun c6 => ?_) (fun c6 => ?_)
            · dsimp only [zc] at c6
              refine aw_aload rfl rfl rfl ?_
              refine aw_iload_n rfl rfl rfl ?_
              refine aw_iload_n rfl rfl rfl ?_
              refine aw_aload_n rfl rfl rfl ?_
              refine aw_gk (v := A 42 3) (15) rfl rfl (hC.f.k 0 rfl) rfl hC.today rfl (fun _ _ => ?_)
              refine aw_calc (c_tell hC hI (by omega) (by omega) (by omega) ⟨by omega, by omega⟩ ⟨by omega, by omega⟩) rfl rfl rfl (Nat.le_of_ble_eq_true rfl) (Or.inr ⟨_, rfl, (hC.kT (by omega) (by omega))⟩) rfl ?_
              rintro _ τ7 ⟨rfl, hM7, hD7⟩
              change aw _ _ _ _ 77 [some (.ref 0), some (.int (iI _)), some (.int (iI _)), some (.int (iI _)), some (.ref (gT g t))] [] _
              have e12 : mEnter A t x h 42 12 = A 42 12 := by simp [mEnter, up]
              refine aw_aload rfl rfl rfl ?_
              refine aw_gk (v := (A 56 t + 1)) (10) rfl rfl (hM7.kT (by omega) (by omega)) rfl (by rw [hM7.T10 (by omega) (by omega), mEnter_56, if_pos rfl]) rfl (fun _ _ => ?_)
              refine aw_reti rfl ?_
              refine ⟨?_, ?_, Or.inr ⟨by omega, by omega, hD7⟩⟩
              · rw [zit_t (by omega)]
              · unfold m_raise_op; rw [tit_t (by omega)]; exact hM7
            · dsimp only [zc] at c6
              refine aw_iconst rfl rfl ?_
              refine aw_reti rfl ?_
              have hTs : 0 ≤ t → t < A 42 12 → 0 ≤ A 52 t := fun a b => (hI.thing t a b).2.2.2.2.2.2.1.1
              have hno : ¬ ((0 ≤ t ∧ t ≤ A 42 12 - 1) ∧ (A 52 t ≤ x ∧ x ≤ 3599) ∧ (0 ≤ h ∧ h ≤ 60) ∧ A 60 t < 0 ∧ A 56 t ≠ 40) := by
                intro q
                have := hTs (by omega) (by omega)
                omega
              refine ⟨?_, ?_, Or.inl rfl⟩
              · rw [zit_f hno]
              · unfold m_raise_op; rw [tit_f hno]; exact hC
      · refine aw_iconst rfl rfl ?_
        refine aw_reti rfl ?_
        have hTs : 0 ≤ t → t < A 42 12 → 0 ≤ A 52 t := fun a b => (hI.thing t a b).2.2.2.2.2.2.1.1
        have hno : ¬ ((0 ≤ t ∧ t ≤ A 42 12 - 1) ∧ (A 52 t ≤ x ∧ x ≤ 3599) ∧ (0 ≤ h ∧ h ≤ 60) ∧ A 60 t < 0 ∧ A 56 t ≠ 40) := by
          intro q
          have := hTs (by omega) (by omega)
          omega
        refine ⟨?_, ?_, Or.inl rfl⟩
        · rw [zit_f hno]
        · unfold m_raise_op; rw [tit_f hno]; exact hC
set_option maxRecDepth 10000 in
set_option maxHeartbeats 2000000 in
theorem c_fell {d : Nat} {sz : Nat} {κ : Nat × (Nat → Int32) × Option Nat} {A : Nat → Int → Int} {g : Nat → Nat} {σ : az_S} (hC : CR sz κ A g σ) (hI : MI sz A) {t : Int} (ht : inI t) {x : Int} (hx : inI x) : cal (d + 4) 104 [.ref 0, .int (iI t), .int (iI x)] σ (fun r τ => r = some (.int (iI (bI ((0 ≤ t ∧ t ≤ A 42 12 - 1) ∧ (A 52 t ≤ x ∧ x ≤ A 42 3) ∧ A 60 t < 0)))) ∧ CR sz κ (m_fell_op A t x) g τ ∧ (τ = σ ∨ (0 ≤ t ∧ t < A 42 12 ∧ Mod σ τ [gT g t]))) := by
  obtain ⟨ht1, ht2⟩ := ht
  obtain ⟨hx1, hx2⟩ := hx
  have hth := hI.things
  have hcl := hI.clock
  refine cal_of (M := (yX11_fell, cX11_fell, 4, (some .boolean))) (cd := k_X11_fell) (L := [some (.ref 0), some (.int (iI t)), some (.int (iI x)), none]) rfl (Nat.le_of_ble_eq_true rfl) rfl rfl ?_
  refine aw_aload_n rfl rfl rfl ?_
  refine aw_iload_n rfl rfl rfl ?_
  refine aw_fnc (c_isThing hC hI ⟨by omega, by omega⟩) rfl rfl rfl (Nat.le_of_ble_eq_true rfl) (Or.inr ⟨_, rfl, (hC.f.k 0 rfl)⟩) rfl ?_
  refine aw_ifneb (p' := 10) rfl rfl rfl (fun c1 => ?_) (fun c1 => ?_)
  · refine aw_aload_n rfl rfl rfl ?_
    refine aw_getr (b := 6) rfl rfl (hC.f.k 0 rfl) (hC.f.r 0 3 6 rfl) rfl ?_
    refine aw_iload_n rfl rfl rfl ?_
    refine aw_fnc (c_get (hC.f.k 6 rfl) hC.lT (by omega) (by omega) (by omega)) rfl rfl rfl (Nat.le_of_ble_eq_true rfl) (Or.inr ⟨_, rfl, (hC.f.k 6 rfl)⟩) rfl ?_
    refine aw_cast rfl rfl (hC.kT (by omega) (by omega)) rfl ?_
    refine aw_astore_n rfl (Nat.le_of_ble_eq_true rfl) rfl rfl ?_
    change aw _ _ _ _ 22 [some (.ref 0), some (.int (iI _)), some (.int (iI _)), some (.ref (gT g t))] _ _
    obtain ⟨⟨he1, he2⟩, ⟨he3, he4⟩, hTe, hkg, hTc, hTo, hTs, hTl, hTf, hTm⟩ := hI.thing t (by omega) (by omega)
    refine aw_iload_n rfl rfl rfl ?_
    refine aw_aload_n rfl rfl rfl ?_
    refine aw_gk (v := (A 52 t)) (3) rfl rfl (hC.kT (by omega) (by omega)) rfl (hC.T3 (by omega) (by omega)) rfl (fun _ _ => ?_)
    refine aw_icmp (p' := 45) rfl ⟨by omega, by omega⟩ ⟨by omega, by omega⟩ rfl rfl (fun c2 => ?_) (fun c2 => ?_)
    · dsimp only [zc] at c2
      refine aw_iconst rfl rfl ?_
      refine aw_retn rfl rfl ?_
      refine ⟨?_, ?_, Or.inl rfl⟩
      · rw [bI_f (by omega)]
      · unfold m_fell_op; rw [tit_f (by omega)]; exact hC
    · dsimp only [zc] at c2
      refine aw_iload_n rfl rfl rfl ?_
      refine aw_aload_n rfl rfl rfl ?_
      refine aw_gk (v := A 42 3) (15) rfl rfl (hC.f.k 0 rfl) rfl hC.today rfl (fun _ _ => ?_)
      refine aw_icmp (p' := 45) rfl ⟨by omega, by omega⟩ ⟨by omega, by omega⟩ rfl rfl (fun c3 => ?_) (fun c3 => ?_)
      · dsimp only [zc] at c3
        refine aw_iconst rfl rfl ?_
        refine aw_retn rfl rfl ?_
        refine ⟨?_, ?_, Or.inl rfl⟩
        · rw [bI_f (by omega)]
        · unfold m_fell_op; rw [tit_f (by omega)]; exact hC
      · dsimp only [zc] at c3
        refine aw_aload_n rfl rfl rfl ?_
        refine aw_fnc (c_hasFallen hC hI (by omega) (by omega)) rfl rfl rfl (Nat.le_of_ble_eq_true rfl) (Or.inr ⟨_, rfl, (hC.kT (by omega) (by omega))⟩) rfl ?_
        refine aw_ifeqb (p' := 47) rfl rfl rfl (fun c4 => ?_) (fun c4 => ?_)
        · have hl := ((hC.lv hI).2.1 t (by omega) (by omega)).1
          have hX0 : CX sz κ A g [gT g t] σ σ := ⟨hC, Mod.rf, by simp; omega⟩
          refine aw_aload_n rfl rfl rfl ?_
          refine aw_iload_n rfl rfl rfl ?_
          refine aw_xf (11) hX0 rfl rfl (hC.kT (by omega) (by omega)) rfl (by simp) ⟨by omega, by omega⟩ rfl (fun τ5 hM5 hD5 hU5 => ?_)
          refine aw_aload_n rfl rfl rfl ?_
          refine aw_aload_n rfl rfl rfl ?_
          refine aw_gk (v := A 42 3) (15) rfl rfl (hM5.f.k 0 rfl) rfl hM5.today rfl (fun _ _ => ?_)
          refine aw_xf (12) hM5 rfl rfl (hM5.kT (by omega) (by omega)) rfl (by simp) ⟨by omega, by omega⟩ rfl (fun τ6 hM6 hD6 hU6 => ?_)
          refine aw_iconst rfl rfl ?_
          refine aw_retn rfl rfl ?_
          refine ⟨?_, ?_, Or.inr ⟨by omega, by omega, hM6.2.1⟩⟩
          · rw [bI_t (by omega)]
          · unfold m_fell_op; rw [tit_t (by omega)]; exact hC.fellc hI (by omega) (by omega) hM6.2.1 (fun w => by rw [hU6, hU5])
        · refine aw_iconst rfl rfl ?_
          refine aw_retn rfl rfl ?_
          refine ⟨?_, ?_, Or.inl rfl⟩
          · rw [bI_f (by omega)]
          · unfold m_fell_op; rw [tit_f (by omega)]; exact hC
  · refine aw_iconst rfl rfl ?_
    refine aw_retn rfl rfl ?_
    refine ⟨?_, ?_, Or.inl rfl⟩
    · rw [bI_f (by omega)]
    · unfold m_fell_op; rw [tit_f (by omega)]; exact hC
set_option maxRecDepth 10000 in
set_option maxHeartbeats 2000000 in
theorem c_forget {d : Nat} {sz : Nat} {κ : Nat × (Nat → Int32) × Option Nat} {A : Nat → Int → Int} {g : Nat → Nat} {σ : az_S} (hC : CR sz κ A g σ) (hI : MI sz A) {t : Int} (ht0 : 0 ≤ t) (ht1 : t < A 42 12) : cal (d + 1) 87 [.ref (gT g t)] σ (fun r τ => r = none ∧ CR sz κ (up A 56 t (A 56 t - 1)) g τ ∧ Mod σ τ [gT g t]) := by
  have hth := hI.things
  obtain ⟨⟨he1, he2⟩, ⟨he3, he4⟩, hTe, hkg, hTc, hTo, hTs, hTl, hTf, hTm⟩ := hI.thing t (by omega) (by omega)
  have hl := ((hC.lv hI).2.1 t (by omega) (by omega)).1
  have hX0 : CX sz κ A g [gT g t] σ σ := ⟨hC, Mod.rf, by simp; omega⟩
  refine cal_of (M := (yX10_forgetLast, cX10_forgetLast, 1, none)) (cd := k_X10_forgetLast) (L := [some (.ref (gT g t))]) rfl (Nat.le_of_ble_eq_true rfl) rfl rfl ?_
  refine aw_aload_n rfl rfl rfl ?_
  refine aw_gk (v := (A 56 t)) (10) rfl rfl (hC.kT (by omega) (by omega)) rfl (hC.T10 (by omega) (by omega)) rfl (fun _ _ => ?_)
  refine aw_if (p' := 17) rfl ⟨by omega, by omega⟩ rfl rfl (fun c1 => ?_) (fun c1 => ?_)
  · dsimp only [zc] at c1
    omega
  · dsimp only [zc] at c1
    refine aw_aload_n rfl rfl rfl ?_
    refine aw_dup rfl rfl rfl ?_
    refine aw_gk (v := (A 56 t)) (10) rfl rfl (hC.kT (by omega) (by omega)) rfl (hC.T10 (by omega) (by omega)) rfl (fun _ _ => ?_)
    refine aw_iconst rfl rfl ?_
    refine aw_isub rfl rfl ?_
    refine aw_xf (10) hX0 rfl rfl (hC.kT (by omega) (by omega)) rfl (by simp) ⟨by omega, by omega⟩ rfl (fun τ2 hM2 hD2 hU2 => ?_)
    refine aw_retv rfl ?_
    exact ⟨rfl, hC.lessc hI ht0 ht1 (by omega) hM2.2.1 hU2, hM2.2.1⟩
set_option maxRecDepth 10000 in
set_option maxHeartbeats 2000000 in
theorem c_bill {d : Nat} {sz : Nat} {κ : Nat × (Nat → Int32) × Option Nat} {A : Nat → Int → Int} {g : Nat → Nat} {σ : az_S} (hC : CR sz κ A g σ) (hI : MI sz A) {t : Int} (ht : inI t) {h : Int} (hh : inI h) {x : Int} (hx : inI x) {p : Int} (hp : inI p) (hE : ∀ t : Int, 0 ≤ t → t < A 42 12 → A 56 t ≤ 40) : cal (d + 8) 115 [.ref 0, .int (iI t), .int (iI h), .int (iI x), .int (iI p)] σ (fun r τ => r = some (.long (lI (mBill A t h x p))) ∧ CR sz κ (m_bill_op A t h x p) g τ ∧ (τ = σ ∨ (0 ≤ t ∧ t < A 42 12 ∧ Mod σ τ [15, 29, 30, 31, 32, gT g t, gTd g t, gTh g t, gTt g t]))) := by
  obtain ⟨ht1, ht2⟩ := ht
  obtain ⟨hh1, hh2⟩ := hh
  obtain ⟨hx1, hx2⟩ := hx
  obtain ⟨hp1, hp2⟩ := hp
  have hth := hI.things
  have hpe := hI.people
  have hcl := hI.clock
  refine cal_of (M := (yX11_bill, cX11_bill, 10, (some .long))) (cd := k_X11_bill) (L := [some (.ref 0), some (.int (iI t)), some (.int (iI h)), some (.int (iI x)), some (.int (iI p)), none, none, none, none, none]) rfl (Nat.le_of_ble_eq_true rfl) rfl rfl ?_
  refine aw_aload_n rfl rfl rfl ?_
  refine aw_iload_n rfl rfl rfl ?_
  refine aw_fnc (c_isThing hC hI ⟨by omega, by omega⟩) rfl rfl rfl (Nat.le_of_ble_eq_true rfl) (Or.inr ⟨_, rfl, (hC.f.k 0 rfl)⟩) rfl ?_
  refine aw_ifeqb (p' := 24) rfl rfl rfl (fun c1 => ?_) (fun c1 => ?_)
  · refine aw_lconst 0 rfl rfl rfl ?_
    refine aw_retl rfl ?_
    have hno : ¬ mBillOk A t h x p := by
      rintro ⟨q1, q2, q3, q4, q5⟩
      omega
    refine ⟨?_, ?_, Or.inl rfl⟩
    · unfold mBill; rw [zit_f hno]
    · unfold m_bill_op; rw [tit_f hno]; exact hC
  · refine aw_iload_n rfl rfl rfl ?_
    refine aw_fnc (c_isHeight ⟨by omega, by omega⟩) rfl rfl rfl (Nat.le_of_ble_eq_true rfl) (Or.inl rfl) rfl ?_
    refine aw_ifeqb (p' := 24) rfl rfl rfl (fun c2 => ?_) (fun c2 => ?_)
    · refine aw_lconst 0 rfl rfl rfl ?_
      refine aw_retl rfl ?_
      have hno : ¬ mBillOk A t h x p := by
        rintro ⟨q1, q2, q3, q4, q5⟩
        omega
      refine ⟨?_, ?_, Or.inl rfl⟩
      · unfold mBill; rw [zit_f hno]
      · unfold m_bill_op; rw [tit_f hno]; exact hC
    · refine aw_aload_n rfl rfl rfl ?_
      refine aw_iload rfl rfl rfl ?_
      refine aw_fnc (c_isPerson hC hI ⟨by omega, by omega⟩) rfl rfl rfl (Nat.le_of_ble_eq_true rfl) (Or.inr ⟨_, rfl, (hC.f.k 0 rfl)⟩) rfl ?_
      refine aw_ifneb (p' := 26) rfl rfl rfl (fun c3 => ?_) (fun c3 => ?_)
      · refine aw_aload_n rfl rfl rfl ?_
        refine aw_getr (b := 6) rfl rfl (hC.f.k 0 rfl) (hC.f.r 0 3 6 rfl) rfl ?_
        refine aw_iload_n rfl rfl rfl ?_
        refine aw_fnc (c_get (hC.f.k 6 rfl) hC.lT (by omega) (by omega) (by omega)) rfl rfl rfl (Nat.le_of_ble_eq_true rfl) (Or.inr ⟨_, rfl, (hC.f.k 6 rfl)⟩) rfl ?_
        refine aw_cast rfl rfl (hC.kT (by omega) (by omega)) rfl ?_
        refine aw_astore rfl (Nat.le_of_ble_eq_true rfl) rfl rfl ?_
        change aw _ _ _ _ 39 [some (.ref 0), some (.int (iI _)), some (.int (iI _)), some (.int (iI _)), some (.int (iI _)), some (.ref (gT g t)), none, none, none, none] _ _
        obtain ⟨⟨he1, he2⟩, ⟨he3, he4⟩, hTe, hkg, hTc, hTo, hTs, hTl, hTf, hTm⟩ := hI.thing t (by omega) (by omega)
        have hE1 := hE t (by omega) (by omega)
        refine aw_iload_n rfl rfl rfl ?_
        refine aw_aload rfl rfl rfl ?_
        refine aw_gk (v := (A 52 t)) (3) rfl rfl (hC.kT (by omega) (by omega)) rfl (hC.T3 (by omega) (by omega)) rfl (fun _ _ => ?_)
        refine aw_icmp (p' := 55) rfl ⟨by omega, by omega⟩ ⟨by omega, by omega⟩ rfl rfl (fun c4 => ?_) (fun c4 => ?_)
        · dsimp only [zc] at c4
          refine aw_lconst 0 rfl rfl rfl ?_
          refine aw_retl rfl ?_
          have hno : ¬ mBillOk A t h x p := by
            rintro ⟨q1, q2, q3, q4, q5⟩
            omega
          refine ⟨?_, ?_, Or.inl rfl⟩
          · unfold mBill; rw [zit_f hno]
          · unfold m_bill_op; rw [tit_f hno]; exact hC
        · dsimp only [zc] at c4
          refine aw_iload_n rfl rfl rfl ?_
          refine aw_sipush rfl rfl rfl ?_
          refine aw_icmp (p' := 57) rfl ⟨by omega, by omega⟩ ⟨by omega, by omega⟩ rfl rfl (fun c5 => ?_) (fun c5 => ?_)
          · dsimp only [zc] at c5
            refine aw_aload rfl rfl rfl ?_
            refine aw_iload_n rfl rfl rfl ?_
            refine aw_aload_n rfl rfl rfl ?_
            refine aw_gk (v := A 42 3) (15) rfl rfl (hC.f.k 0 rfl) rfl hC.today rfl (fun _ _ => ?_)
            refine aw_fnc (c_heightOn hC hI (by omega) (by omega) (by omega) (by omega) (by omega) (by omega)) rfl rfl rfl (Nat.le_of_ble_eq_true rfl) (Or.inr ⟨_, rfl, (hC.kT (by omega) (by omega))⟩) rfl ?_
            have hrH6 := mH_range (hI.thing t (by omega) (by omega)) x (A 42 3)
            refine aw_iconst rfl rfl ?_
            refine aw_icmp (p' := 73) rfl ⟨by omega, by omega⟩ ⟨by omega, by omega⟩ rfl rfl (fun c7 => ?_) (fun c7 => ?_)
            · dsimp only [zc] at c7
              refine aw_aload_n rfl rfl rfl ?_
              refine aw_iload rfl rfl rfl ?_
              refine aw_iload_n rfl rfl rfl ?_
              refine aw_calc (c_partsYear hC hI ⟨by omega, by omega⟩ (by omega) (by omega)) rfl rfl rfl (Nat.le_of_ble_eq_true rfl) (Or.inr ⟨_, rfl, (hC.f.k 0 rfl)⟩) rfl ?_
              rintro _ τ8 ⟨rfl, hM8, hD8⟩
              change aw _ _ _ _ 80 [some (.ref 0), some (.int (iI _)), some (.int (iI _)), some (.int (iI _)), some (.int (iI _)), some (.ref (gT g t)), none, none, none, none] [.long (lI _)] _
              refine aw_lstore rfl (Nat.le_of_ble_eq_true rfl) rfl rfl ?_
              change aw _ _ _ _ 82 [some (.ref 0), some (.int (iI _)), some (.int (iI _)), some (.int (iI _)), some (.int (iI _)), some (.ref (gT g t)), some (.long (lI _)), none, none, none] _ _
              refine aw_aload rfl rfl rfl ?_
              refine aw_iload_n rfl rfl rfl ?_
              refine aw_iload_n rfl rfl rfl ?_
              refine aw_aload_n rfl rfl rfl ?_
              refine aw_gk (v := A 42 3) (15) rfl rfl (hM8.f.k 0 rfl) rfl hM8.today rfl (fun _ _ => ?_)
              refine aw_calc (c_tell hM8 hI (by omega) (by omega) (by omega) ⟨by omega, by omega⟩ ⟨by omega, by omega⟩) rfl rfl rfl (Nat.le_of_ble_eq_true rfl) (Or.inr ⟨_, rfl, (hM8.kT (by omega) (by omega))⟩) rfl ?_
              rintro _ τ9 ⟨rfl, hM9, hD9⟩
              change aw _ _ _ _ 93 [some (.ref 0), some (.int (iI _)), some (.int (iI _)), some (.int (iI _)), some (.int (iI _)), some (.ref (gT g t)), some (.long (lI _)), none, none, none] [] _
              have e12 : mEnter A t x h 42 12 = A 42 12 := by simp [mEnter, up]
              have e3 : mEnter A t x h 42 3 = A 42 3 := by simp [mEnter, up]
              have hI2 : MI sz (mEnter A t x h) := MI_enter hI (by omega) (by omega) hE1 (by omega) (by omega) (by omega) (by omega)
              refine aw_aload_n rfl rfl rfl ?_
              refine aw_iload rfl rfl rfl ?_
              refine aw_iload_n rfl rfl rfl ?_
              refine aw_calc (c_partsYear hM9 hI2 ⟨by omega, by omega⟩ (by omega) (by omega)) rfl rfl rfl (Nat.le_of_ble_eq_true rfl) (Or.inr ⟨_, rfl, (hM9.f.k 0 rfl)⟩) rfl ?_
              rintro _ τ10 ⟨rfl, hM10, hD10⟩
              change aw _ _ _ _ 100 [some (.ref 0), some (.int (iI _)), some (.int (iI _)), some (.int (iI _)), some (.int (iI _)), some (.ref (gT g t)), some (.long (lI _)), none, none, none] [.long (lI _)] _
              refine aw_lstore rfl (Nat.le_of_ble_eq_true rfl) rfl rfl ?_
              change aw _ _ _ _ 102 [some (.ref 0), some (.int (iI _)), some (.int (iI _)), some (.int (iI _)), some (.int (iI _)), some (.ref (gT g t)), some (.long (lI _)), none, some (.long (lI _)), none] _ _
              refine aw_aload rfl rfl rfl ?_
              refine aw_calc (c_forget hM10 hI2 (by omega) (by omega)) rfl rfl rfl (Nat.le_of_ble_eq_true rfl) (Or.inr ⟨_, rfl, (hM10.kT (by omega) (by omega))⟩) rfl ?_
              rintro _ τ11 ⟨rfl, hM11, hD11⟩
              change aw _ _ _ _ 107 [some (.ref 0), some (.int (iI _)), some (.int (iI _)), some (.int (iI _)), some (.int (iI _)), some (.ref (gT g t)), some (.long (lI _)), none, some (.long (lI _)), none] [] _
              refine aw_lload rfl rfl rfl ?_
              refine aw_lload rfl rfl rfl ?_
              refine aw_lsub rfl rfl ?_
              refine aw_retl rfl ?_
              have hok : mBillOk A t h x p := ⟨by omega, by omega, by omega, by omega, by omega⟩
              refine ⟨?_, ?_, Or.inr ⟨by omega, by omega, ((((hD8.su (T := [15, 29, 30, 31, 32, gT g t, gTd g t, gTh g t, gTt g t]) (by simp)).tr (hD9.su (T := [15, 29, 30, 31, 32, gT g t, gTd g t, gTh g t, gTt g t]) (by simp))).tr (hD10.su (T := [15, 29, 30, 31, 32, gT g t, gTd g t, gTh g t, gTt g t]) (by simp))).tr (hD11.su (T := [15, 29, 30, 31, 32, gT g t, gTd g t, gTh g t, gTt g t]) (by simp)))⟩⟩
              · unfold mBill; rw [zit_t hok, e3]; congr 3; omega
              · unfold m_bill_op; rw [tit_t hok]; rw [mEnter_56, if_pos rfl, show A 56 t + 1 - 1 = A 56 t by omega] at hM11; exact hM11
            · dsimp only [zc] at c7
              refine aw_lconst 0 rfl rfl rfl ?_
              refine aw_retl rfl ?_
              have hno : ¬ mBillOk A t h x p := by
                rintro ⟨q1, q2, q3, q4, q5⟩
                omega
              refine ⟨?_, ?_, Or.inl rfl⟩
              · unfold mBill; rw [zit_f hno]
              · unfold m_bill_op; rw [tit_f hno]; exact hC
          · dsimp only [zc] at c5
            refine aw_lconst 0 rfl rfl rfl ?_
            refine aw_retl rfl ?_
            have hno : ¬ mBillOk A t h x p := by
              rintro ⟨q1, q2, q3, q4, q5⟩
              omega
            refine ⟨?_, ?_, Or.inl rfl⟩
            · unfold mBill; rw [zit_f hno]
            · unfold m_bill_op; rw [tit_f hno]; exact hC
      · refine aw_lconst 0 rfl rfl rfl ?_
        refine aw_retl rfl ?_
        have hno : ¬ mBillOk A t h x p := by
          rintro ⟨q1, q2, q3, q4, q5⟩
          omega
        refine ⟨?_, ?_, Or.inl rfl⟩
        · unfold mBill; rw [zit_f hno]
        · unfold m_bill_op; rw [tit_f hno]; exact hC
theorem mPoint_is {sz : Nat} {A : Nat → Int → Int} (hI : MI sz A) {e lx ly x h j c : Int} (hc0 : 0 ≤ c) (hc1 : c < A 42 2) : mPoint A e lx ly x h j = c ↔ mPx A e lx x h j = c % A 42 0 ∧ mPy A e ly x h j = c / A 42 0 := by
  have hw := hI.wide
  have hh := hI.high
  have hce := hI.cells
  have r1 := rem_b (a := c) (g := A 42 0) (by omega)
  have r2 : 0 ≤ c / A 42 0 ∧ c / A 42 0 < A 42 1 := ⟨Int.ediv_nonneg hc0 (by omega), Int.ediv_lt_of_lt_mul (by omega) (by rw [Int.mul_comm]; omega)⟩
  have e0 := Int.emod_add_mul_ediv c (A 42 0)
  unfold mPoint
  constructor
  · intro q
    split at q
    · rename_i k
      rw [← q]
      constructor
      · rw [Int.add_comm, Int.add_mul_emod_self_right]
        exact (Int.emod_eq_of_lt k.1.1 (by omega)).symm
      · rw [Int.add_comm, Int.add_mul_ediv_right _ _ (by omega), Int.ediv_eq_zero_of_lt k.1.1 (by omega)]
        omega
    · omega
  · rintro ⟨q1, q2⟩
    rw [if_pos (by omega), q1, q2, Int.mul_comm]
    omega
theorem mPx_a (A : Nat → Int → Int) (e lx x h j : Int) : mPx A e lx x h j = e % A 42 0 + (50 + j * (A 43 (12 * (x % 360 / 30) + h) + lx)) / 100 := by
  unfold mPx
  omega
theorem mPy_a (A : Nat → Int → Int) (e ly x h j : Int) : mPy A e ly x h j = e / A 42 0 + (50 + j * (A 44 (12 * (x % 360 / 30) + h) + ly)) / 100 := by
  unfold mPy
  omega
set_option maxRecDepth 10000 in
set_option maxHeartbeats 2000000 in
theorem c_nearest_l88 {d : Nat} {sz : Nat} {κ : Nat × (Nat → Int32) × Option Nat} {A : Nat → Int → Int} {g : Nat → Nat} {σ : az_S} (hC : CR sz κ A g σ) (hI : MI sz A) {t : Int} (ht0 : 0 ≤ t) (ht1 : t < A 42 12) {h : Int} (hh0 : 0 ≤ h) (hh1 : h ≤ 11) {c : Int} (hc0 : 0 ≤ c) (hc1 : c < A 42 2) {s : Int} (hs0 : -1 ≤ s) (hs1 : s ≤ 60) : ∀ (n : Nat) (j b : Int) (w : Option Value), (61 - j).toNat = n → 1 ≤ j → j ≤ 61 → b = mNearN A t h c s (j - 1).toNat → aw (d + 2) k_X11_nearestHeight (some .int) (fun r τ => r = some (.int (iI (mNearN A t h c s 60))) ∧ τ = σ) 88 [some (.ref 0), some (.ref (gT g t)), some (.int (iI h)), some (.int (iI c)), some (.int (iI s)), some (.int (iI (A 43 (12 * (A 42 3 % 360 / 30) + h) + A 54 t))), some (.int (iI (A 44 (12 * (A 42 3 % 360 / 30) + h) + A 55 t))), some (.int (iI (c % A 42 0 - A 50 t % A 42 0))), some (.int (iI (c / A 42 0 - A 50 t / A 42 0))), some (.int (iI b)), some (.int (iI j)), w] [] σ := by
  intro n
  induction n using Nat.strongRecOn with
  | ind n ih =>
    intro j b w hn hj0 hj1 hs
    have hw := hI.wide
    have hh := hI.high
    have hce := hI.cells
    have hth := hI.things
    have hcl := hI.clock
    obtain ⟨⟨he1, he2⟩, ⟨he3, he4⟩, hTe, hkg, hTc, hTo, hTs, hTl, hTf, hTm⟩ := hI.thing t (by omega) (by omega)
    obtain ⟨hl1, hl2, hl3, hl4⟩ := hTl
    have hsu := hI.sun (12 * (A 42 3 % 360 / 30) + h) (by omega) (by omega)
    have r1 := rem_b (a := A 50 t) (g := A 42 0) (by omega)
    have r2 := div_b (a := A 50 t) (g := A 42 0) (by omega) (by omega)
    have r3 := rem_b (a := c) (g := A 42 0) (by omega)
    have r4 := div_b (a := c) (g := A 42 0) (by omega) (by omega)
    have hq := mNearN_s (A := A) (t := t) (h := h) (c := c) (hs := s) hj0
    have hr := mNearN_r A t h c s (j - 1).toNat
    rw [← hs] at hr hq
    have hpi := mPoint_is hI (e := A 50 t) (lx := A 54 t) (ly := A 55 t) (x := A 42 3) (h := h) (j := j) hc0 hc1
    rw [mPx_a, mPy_a] at hpi
    have hm1 := fun q => mul_b (j := j) (u := (A 43 (12 * (A 42 3 % 360 / 30) + h) + A 54 t)) (J := 60) (U := 1000) (by omega) q (by omega) (by omega)
    have hm2 := fun q => mul_b (j := j) (u := (A 44 (12 * (A 42 3 % 360 / 30) + h) + A 55 t)) (J := 60) (U := 1000) (by omega) q (by omega) (by omega)
    have hzd : ∀ k : Int, zdist k s = if k - s < 0 then -(k - s) else k - s := fun k => by unfold zdist; split <;> split <;> omega
    refine aw_iload rfl rfl rfl ?_
    refine aw_bipush rfl rfl rfl ?_
    refine aw_icmp (p' := 166) rfl ⟨by omega, by omega⟩ ⟨by omega, by omega⟩ rfl rfl (fun c1 => ?_) (fun c1 => ?_)
    · dsimp only [zc] at c1
      refine aw_iload rfl rfl rfl ?_
      refine aw_reti rfl ?_
      refine ⟨?_, rfl⟩
      rw [hs, show (j - 1).toNat = 60 by omega]
    · dsimp only [zc] at c1
      have hm1 := hm1 (by omega)
      have hm2 := hm2 (by omega)
      refine aw_iload rfl rfl rfl ?_
      refine aw_iload rfl rfl rfl ?_
      refine aw_fnc (c_aside (by omega) (by omega) (by omega) (by omega)) rfl rfl rfl (Nat.le_of_ble_eq_true rfl) (Or.inl rfl) rfl ?_
      refine aw_iload rfl rfl rfl ?_
      refine aw_icmp (p' := 123) rfl ⟨by omega, by omega⟩ ⟨by omega, by omega⟩ rfl rfl (fun c2 => ?_) (fun c2 => ?_)
      · dsimp only [zc] at c2
        refine aw_iconst rfl rfl ?_
        refine aw_istore rfl (Nat.le_of_ble_eq_true rfl) rfl rfl ?_
        change aw _ _ _ _ 126 [some (.ref 0), some (.ref (gT g t)), some (.int (iI _)), some (.int (iI _)), some (.int (iI _)), some (.int (iI _)), some (.int (iI _)), some (.int (iI _)), some (.int (iI _)), some (.int (iI _)), some (.int (iI _)), some (.int (iI _))] _ _
        refine aw_iload rfl rfl rfl ?_
        refine aw_if (p' := 160) rfl ⟨by omega, by omega⟩ rfl rfl (fun c3 => ?_) (fun c3 => ?_)
        · dsimp only [zc] at c3
          refine aw_iinc rfl rfl rfl rfl ?_
          change aw _ _ _ _ 163 [some (.ref 0), some (.ref (gT g t)), some (.int (iI _)), some (.int (iI _)), some (.int (iI _)), some (.int (iI _)), some (.int (iI _)), some (.int (iI _)), some (.int (iI _)), some (.int (iI _)), some (.int (iI _)), some (.int (iI _))] _ _
          refine aw_goto (p' := 88) rfl rfl ?_
          refine ih _ (by omega) _ _ _ rfl (by omega) (by omega) ?_
          rw [hq]
          first | (rw [zit_t ⟨hpi.mpr ⟨by omega, by omega⟩, by first | (left; omega) | (right; rw [hzd, hzd]; omega)⟩]; done) | (rw [zit_f (by rintro ⟨q1, q2⟩; have q3 := hpi.mp q1; first | omega | (rw [hzd, hzd] at q2; omega))]; done)
        · dsimp only [zc] at c3
          omega
      · dsimp only [zc] at c2
        refine aw_iload rfl rfl rfl ?_
        refine aw_iload rfl rfl rfl ?_
        refine aw_fnc (c_aside (by omega) (by omega) (by omega) (by omega)) rfl rfl rfl (Nat.le_of_ble_eq_true rfl) (Or.inl rfl) rfl ?_
        refine aw_iload rfl rfl rfl ?_
        refine aw_icmp (p' := 123) rfl ⟨by omega, by omega⟩ ⟨by omega, by omega⟩ rfl rfl (fun c4 => ?_) (fun c4 => ?_)
        · dsimp only [zc] at c4
          refine aw_iconst rfl rfl ?_
          refine aw_istore rfl (Nat.le_of_ble_eq_true rfl) rfl rfl ?_
          change aw _ _ _ _ 126 [some (.ref 0), some (.ref (gT g t)), some (.int (iI _)), some (.int (iI _)), some (.int (iI _)), some (.int (iI _)), some (.int (iI _)), some (.int (iI _)), some (.int (iI _)), some (.int (iI _)), some (.int (iI _)), some (.int (iI _))] _ _
          refine aw_iload rfl rfl rfl ?_
          refine aw_if (p' := 160) rfl ⟨by omega, by omega⟩ rfl rfl (fun c5 => ?_) (fun c5 => ?_)
          · dsimp only [zc] at c5
            refine aw_iinc rfl rfl rfl rfl ?_
            change aw _ _ _ _ 163 [some (.ref 0), some (.ref (gT g t)), some (.int (iI _)), some (.int (iI _)), some (.int (iI _)), some (.int (iI _)), some (.int (iI _)), some (.int (iI _)), some (.int (iI _)), some (.int (iI _)), some (.int (iI _)), some (.int (iI _))] _ _
            refine aw_goto (p' := 88) rfl rfl ?_
            refine ih _ (by omega) _ _ _ rfl (by omega) (by omega) ?_
            rw [hq]
            first | (rw [zit_t ⟨hpi.mpr ⟨by omega, by omega⟩, by first | (left; omega) | (right; rw [hzd, hzd]; omega)⟩]; done) | (rw [zit_f (by rintro ⟨q1, q2⟩; have q3 := hpi.mp q1; first | omega | (rw [hzd, hzd] at q2; omega))]; done)
          · dsimp only [zc] at c5
            omega
        · dsimp only [zc] at c4
          refine aw_iconst rfl rfl ?_
          refine aw_goto (p' := 124) rfl rfl ?_
          refine aw_istore rfl (Nat.le_of_ble_eq_true rfl) rfl rfl ?_
          change aw _ _ _ _ 126 [some (.ref 0), some (.ref (gT g t)), some (.int (iI _)), some (.int (iI _)), some (.int (iI _)), some (.int (iI _)), some (.int (iI _)), some (.int (iI _)), some (.int (iI _)), some (.int (iI _)), some (.int (iI _)), some (.int (iI _))] _ _
          refine aw_iload rfl rfl rfl ?_
          refine aw_if (p' := 160) rfl ⟨by omega, by omega⟩ rfl rfl (fun c6 => ?_) (fun c6 => ?_)
          · dsimp only [zc] at c6
            omega
          · dsimp only [zc] at c6
            refine aw_iload rfl rfl rfl ?_
            refine aw_iconst rfl rfl ?_
            refine aw_icmp (p' := 156) rfl ⟨by omega, by omega⟩ ⟨by omega, by omega⟩ rfl rfl (fun c7 => ?_) (fun c7 => ?_)
            · dsimp only [zc] at c7
              refine aw_iload rfl rfl rfl ?_
              refine aw_istore rfl (Nat.le_of_ble_eq_true rfl) rfl rfl ?_
              change aw _ _ _ _ 160 [some (.ref 0), some (.ref (gT g t)), some (.int (iI _)), some (.int (iI _)), some (.int (iI _)), some (.int (iI _)), some (.int (iI _)), some (.int (iI _)), some (.int (iI _)), some (.int (iI _)), some (.int (iI _)), some (.int (iI _))] _ _
              refine aw_iinc rfl rfl rfl rfl ?_
              change aw _ _ _ _ 163 [some (.ref 0), some (.ref (gT g t)), some (.int (iI _)), some (.int (iI _)), some (.int (iI _)), some (.int (iI _)), some (.int (iI _)), some (.int (iI _)), some (.int (iI _)), some (.int (iI _)), some (.int (iI _)), some (.int (iI _))] _ _
              refine aw_goto (p' := 88) rfl rfl ?_
              refine ih _ (by omega) _ _ _ rfl (by omega) (by omega) ?_
              rw [hq]
              first | (rw [zit_t ⟨hpi.mpr ⟨by omega, by omega⟩, by first | (left; omega) | (right; rw [hzd, hzd]; omega)⟩]; done) | (rw [zit_f (by rintro ⟨q1, q2⟩; have q3 := hpi.mp q1; first | omega | (rw [hzd, hzd] at q2; omega))]; done)
            · dsimp only [zc] at c7
              refine aw_iload rfl rfl rfl ?_
              refine aw_iload rfl rfl rfl ?_
              refine aw_isub rfl rfl ?_
              refine aw_fnc (j_abs (by omega) (by omega)) rfl rfl rfl (Nat.le_of_ble_eq_true rfl) (Or.inl rfl) rfl ?_
              refine aw_iload rfl rfl rfl ?_
              refine aw_iload rfl rfl rfl ?_
              refine aw_isub rfl rfl ?_
              refine aw_fnc (j_abs (by omega) (by omega)) rfl rfl rfl (Nat.le_of_ble_eq_true rfl) (Or.inl rfl) rfl ?_
              refine aw_icmp (p' := 160) rfl ⟨by omega, by omega⟩ ⟨by omega, by omega⟩ rfl rfl (fun c8 => ?_) (fun c8 => ?_)
              · dsimp only [zc] at c8
                refine aw_iinc rfl rfl rfl rfl ?_
                change aw _ _ _ _ 163 [some (.ref 0), some (.ref (gT g t)), some (.int (iI _)), some (.int (iI _)), some (.int (iI _)), some (.int (iI _)), some (.int (iI _)), some (.int (iI _)), some (.int (iI _)), some (.int (iI _)), some (.int (iI _)), some (.int (iI _))] _ _
                refine aw_goto (p' := 88) rfl rfl ?_
                refine ih _ (by omega) _ _ _ rfl (by omega) (by omega) ?_
                rw [hq]
                first | (rw [zit_t ⟨hpi.mpr ⟨by omega, by omega⟩, by first | (left; omega) | (right; rw [hzd, hzd]; omega)⟩]; done) | (rw [zit_f (by rintro ⟨q1, q2⟩; have q3 := hpi.mp q1; first | omega | (rw [hzd, hzd] at q2; omega))]; done)
              · dsimp only [zc] at c8
                refine aw_iload rfl rfl rfl ?_
                refine aw_istore rfl (Nat.le_of_ble_eq_true rfl) rfl rfl ?_
                change aw _ _ _ _ 160 [some (.ref 0), some (.ref (gT g t)), some (.int (iI _)), some (.int (iI _)), some (.int (iI _)), some (.int (iI _)), some (.int (iI _)), some (.int (iI _)), some (.int (iI _)), some (.int (iI _)), some (.int (iI _)), some (.int (iI _))] _ _
                refine aw_iinc rfl rfl rfl rfl ?_
                change aw _ _ _ _ 163 [some (.ref 0), some (.ref (gT g t)), some (.int (iI _)), some (.int (iI _)), some (.int (iI _)), some (.int (iI _)), some (.int (iI _)), some (.int (iI _)), some (.int (iI _)), some (.int (iI _)), some (.int (iI _)), some (.int (iI _))] _ _
                refine aw_goto (p' := 88) rfl rfl ?_
                refine ih _ (by omega) _ _ _ rfl (by omega) (by omega) ?_
                rw [hq]
                first | (rw [zit_t ⟨hpi.mpr ⟨by omega, by omega⟩, by first | (left; omega) | (right; rw [hzd, hzd]; omega)⟩]; done) | (rw [zit_f (by rintro ⟨q1, q2⟩; have q3 := hpi.mp q1; first | omega | (rw [hzd, hzd] at q2; omega))]; done)
set_option maxRecDepth 10000 in
set_option maxHeartbeats 2000000 in
theorem c_nearest {d : Nat} {sz : Nat} {κ : Nat × (Nat → Int32) × Option Nat} {A : Nat → Int → Int} {g : Nat → Nat} {σ : az_S} (hC : CR sz κ A g σ) (hI : MI sz A) {t : Int} (ht0 : 0 ≤ t) (ht1 : t < A 42 12) {h : Int} (hh0 : 0 ≤ h) (hh1 : h ≤ 11) {c : Int} (hc0 : 0 ≤ c) (hc1 : c < A 42 2) {s : Int} (hs0 : -1 ≤ s) (hs1 : s ≤ 60) : fn (d + 3) 145 [.ref 0, .ref (gT g t), .int (iI h), .int (iI c), .int (iI s)] σ (.int (iI (mNearN A t h c s 60))) := by
  have hw := hI.wide
  have hh := hI.high
  have hce := hI.cells
  have hth := hI.things
  have hcl := hI.clock
  obtain ⟨⟨he1, he2⟩, ⟨he3, he4⟩, hTe, hkg, hTc, hTo, hTs, hTl, hTf, hTm⟩ := hI.thing t (by omega) (by omega)
  obtain ⟨hl1, hl2, hl3, hl4⟩ := hTl
  have hsu := hI.sun (12 * (A 42 3 % 360 / 30) + h) (by omega) (by omega)
  have r1 := rem_b (a := A 50 t) (g := A 42 0) (by omega)
  have r2 := div_b (a := A 50 t) (g := A 42 0) (by omega) (by omega)
  have r3 := rem_b (a := c) (g := A 42 0) (by omega)
  have r4 := div_b (a := c) (g := A 42 0) (by omega) (by omega)
  refine fn_of (M := (yX11_nearestHeight, cX11_nearestHeight, 12, (some .int))) (cd := k_X11_nearestHeight) (L := [some (.ref 0), some (.ref (gT g t)), some (.int (iI h)), some (.int (iI c)), some (.int (iI s)), none, none, none, none, none, none, none]) rfl (Nat.le_of_ble_eq_true rfl) rfl rfl ?_
  refine aw_aload_n rfl rfl rfl ?_
  refine aw_getr (b := 1) rfl rfl (hC.f.k 0 rfl) (hC.f.r 0 1 1 rfl) rfl ?_
  refine aw_aload_n rfl rfl rfl ?_
  refine aw_gk (v := A 42 3) (15) rfl rfl (hC.f.k 0 rfl) rfl hC.today rfl (fun _ _ => ?_)
  refine aw_iload_n rfl rfl rfl ?_
  refine aw_fnc (c_sunX hC hI (by omega) (by omega) (by omega) (by omega)) rfl rfl rfl (Nat.le_of_ble_eq_true rfl) (Or.inr ⟨_, rfl, (hC.f.k 1 rfl)⟩) rfl ?_
  refine aw_aload_n rfl rfl rfl ?_
  refine aw_gk (v := (A 54 t)) (5) rfl rfl (hC.kT (by omega) (by omega)) rfl (hC.T5 (by omega) (by omega)) rfl (fun _ _ => ?_)
  refine aw_iadd rfl rfl ?_
  refine aw_istore rfl (Nat.le_of_ble_eq_true rfl) rfl rfl ?_
  change aw _ _ _ _ 19 [some (.ref 0), some (.ref (gT g t)), some (.int (iI _)), some (.int (iI _)), some (.int (iI _)), some (.int (iI _)), none, none, none, none, none, none] _ _
  refine aw_aload_n rfl rfl rfl ?_
  refine aw_getr (b := 1) rfl rfl (hC.f.k 0 rfl) (hC.f.r 0 1 1 rfl) rfl ?_
  refine aw_aload_n rfl rfl rfl ?_
  refine aw_gk (v := A 42 3) (15) rfl rfl (hC.f.k 0 rfl) rfl hC.today rfl (fun _ _ => ?_)
  refine aw_iload_n rfl rfl rfl ?_
  refine aw_fnc (c_sunY hC hI (by omega) (by omega) (by omega) (by omega)) rfl rfl rfl (Nat.le_of_ble_eq_true rfl) (Or.inr ⟨_, rfl, (hC.f.k 1 rfl)⟩) rfl ?_
  refine aw_aload_n rfl rfl rfl ?_
  refine aw_gk (v := (A 55 t)) (6) rfl rfl (hC.kT (by omega) (by omega)) rfl (hC.T6 (by omega) (by omega)) rfl (fun _ _ => ?_)
  refine aw_iadd rfl rfl ?_
  refine aw_istore rfl (Nat.le_of_ble_eq_true rfl) rfl rfl ?_
  change aw _ _ _ _ 38 [some (.ref 0), some (.ref (gT g t)), some (.int (iI _)), some (.int (iI _)), some (.int (iI _)), some (.int (iI _)), some (.int (iI _)), none, none, none, none, none] _ _
  refine aw_aload_n rfl rfl rfl ?_
  refine aw_getr (b := 28) rfl rfl (hC.f.k 0 rfl) (hC.f.r 0 0 28 rfl) rfl ?_
  refine aw_iload_n rfl rfl rfl ?_
  refine aw_fnc (c_col hC hI (by omega) (by omega)) rfl rfl rfl (Nat.le_of_ble_eq_true rfl) (Or.inr ⟨_, rfl, (hC.f.k 28 rfl)⟩) rfl ?_
  refine aw_aload_n rfl rfl rfl ?_
  refine aw_getr (b := 28) rfl rfl (hC.f.k 0 rfl) (hC.f.r 0 0 28 rfl) rfl ?_
  refine aw_aload_n rfl rfl rfl ?_
  refine aw_gk (v := (A 50 t)) (1) rfl rfl (hC.kT (by omega) (by omega)) rfl (hC.T1 (by omega) (by omega)) rfl (fun _ _ => ?_)
  refine aw_fnc (c_col hC hI (by omega) (by omega)) rfl rfl rfl (Nat.le_of_ble_eq_true rfl) (Or.inr ⟨_, rfl, (hC.f.k 28 rfl)⟩) rfl ?_
  refine aw_isub rfl rfl ?_
  refine aw_istore rfl (Nat.le_of_ble_eq_true rfl) rfl rfl ?_
  change aw _ _ _ _ 60 [some (.ref 0), some (.ref (gT g t)), some (.int (iI _)), some (.int (iI _)), some (.int (iI _)), some (.int (iI _)), some (.int (iI _)), some (.int (iI _)), none, none, none, none] _ _
  refine aw_aload_n rfl rfl rfl ?_
  refine aw_getr (b := 28) rfl rfl (hC.f.k 0 rfl) (hC.f.r 0 0 28 rfl) rfl ?_
  refine aw_iload_n rfl rfl rfl ?_
  refine aw_fnc (c_row hC hI (by omega) (by omega)) rfl rfl rfl (Nat.le_of_ble_eq_true rfl) (Or.inr ⟨_, rfl, (hC.f.k 28 rfl)⟩) rfl ?_
  refine aw_aload_n rfl rfl rfl ?_
  refine aw_getr (b := 28) rfl rfl (hC.f.k 0 rfl) (hC.f.r 0 0 28 rfl) rfl ?_
  refine aw_aload_n rfl rfl rfl ?_
  refine aw_gk (v := (A 50 t)) (1) rfl rfl (hC.kT (by omega) (by omega)) rfl (hC.T1 (by omega) (by omega)) rfl (fun _ _ => ?_)
  refine aw_fnc (c_row hC hI (by omega) (by omega)) rfl rfl rfl (Nat.le_of_ble_eq_true rfl) (Or.inr ⟨_, rfl, (hC.f.k 28 rfl)⟩) rfl ?_
  refine aw_isub rfl rfl ?_
  refine aw_istore rfl (Nat.le_of_ble_eq_true rfl) rfl rfl ?_
  change aw _ _ _ _ 82 [some (.ref 0), some (.ref (gT g t)), some (.int (iI _)), some (.int (iI _)), some (.int (iI _)), some (.int (iI _)), some (.int (iI _)), some (.int (iI _)), some (.int (iI _)), none, none, none] _ _
  refine aw_iconst rfl rfl ?_
  refine aw_istore rfl (Nat.le_of_ble_eq_true rfl) rfl rfl ?_
  change aw _ _ _ _ 85 [some (.ref 0), some (.ref (gT g t)), some (.int (iI _)), some (.int (iI _)), some (.int (iI _)), some (.int (iI _)), some (.int (iI _)), some (.int (iI _)), some (.int (iI _)), some (.int (iI _)), none, none] _ _
  refine aw_iconst rfl rfl ?_
  refine aw_istore rfl (Nat.le_of_ble_eq_true rfl) rfl rfl ?_
  change aw _ _ _ _ 88 [some (.ref 0), some (.ref (gT g t)), some (.int (iI _)), some (.int (iI _)), some (.int (iI _)), some (.int (iI _)), some (.int (iI _)), some (.int (iI _)), some (.int (iI _)), some (.int (iI _)), some (.int (iI _)), none] _ _
  exact c_nearest_l88 hC hI ht0 ht1 hh0 hh1 hc0 hc1 hs0 hs1 _ 1 (-1) _ rfl (by omega) (by omega) rfl
set_option maxRecDepth 10000 in
set_option maxHeartbeats 2000000 in
theorem c_mend_l22 {d : Nat} {sz : Nat} {κ : Nat × (Nat → Int32) × Option Nat} {A : Nat → Int → Int} {g : Nat → Nat} {σ : az_S} (hC : CR sz κ A g σ) (hI : MI sz A) {t : Int} (ht0 : 0 ≤ t) (ht1 : t < A 42 12) {h c : Int} (hok : mMeasOk A t h c) (he : A 56 t ≤ 40) (hnn : 0 ≤ mNear A t h c) : ∀ (v : Int) (hv : v = mBase A t),  aw (d + 1) k_X10_mend none (fun r τ => r = none ∧ CR sz κ (mEnter A t (mFrom A t) (mMendH A t (mNear A t h c))) g τ ∧ Mod σ τ [gT g t, gTd g t, gTh g t, gTt g t]) 22 [some (.ref (gT g t)), some (.int (iI (mNear A t h c))), some (.int (iI (A 42 3))), some (.int (iI v)), none] [] σ := by
  intro v hv
  have hth := hI.things
  have hcl := hI.clock
  obtain ⟨⟨he1, he2⟩, ⟨he3, he4⟩, hTe, hkg, hTc, hTo, hTs, hTl, hTf, hTm⟩ := hI.thing t (by omega) (by omega)
  obtain ⟨f1, f2, f3, f4, f5, f6, f7, f8, f9⟩ := mFrom_r hI hok
  obtain ⟨g1, g2, g3, g4⟩ := mMend_r hI hok
  have nr := mNear_r A t h c
  refine aw_aload_n rfl rfl rfl ?_
  refine aw_iload_n rfl rfl rfl ?_
  refine aw_iload_n rfl rfl rfl ?_
  refine aw_fnc (c_entryFor hC hI (by omega) (by omega) ⟨by omega, by omega⟩ ⟨by omega, by omega⟩) rfl rfl rfl (Nat.le_of_ble_eq_true rfl) (Or.inr ⟨_, rfl, (hC.kT (by omega) (by omega))⟩) rfl ?_
  refine aw_istore rfl (Nat.le_of_ble_eq_true rfl) rfl rfl ?_
  change aw _ _ _ _ 30 [some (.ref (gT g t)), some (.int (iI _)), some (.int (iI _)), some (.int (iI _)), some (.int (iI _))] _ _
  refine aw_iload rfl rfl rfl ?_
  refine aw_if (p' := 57) rfl ⟨by omega, by omega⟩ rfl rfl (fun c1 => ?_) (fun c1 => ?_)
  · dsimp only [zc] at c1
    omega
  · dsimp only [zc] at c1
    refine aw_iload rfl rfl rfl ?_
    refine aw_aload_n rfl rfl rfl ?_
    refine aw_getr (b := (gTd g t)) rfl rfl (hC.kT (by omega) (by omega)) (hC.rTd (by omega) (by omega)) rfl ?_
    refine aw_alen (N := 41) rfl (hC.sTd (by omega) (by omega)) (by decide) rfl ?_
    refine aw_icmp (p' := 57) rfl ⟨by omega, by omega⟩ ⟨by omega, by omega⟩ rfl rfl (fun c2 => ?_) (fun c2 => ?_)
    · dsimp only [zc] at c2
      omega
    · dsimp only [zc] at c2
      refine aw_iload_n rfl rfl rfl ?_
      refine aw_aload_n rfl rfl rfl ?_
      refine aw_getr (b := (gTd g t)) rfl rfl (hC.kT (by omega) (by omega)) (hC.rTd (by omega) (by omega)) rfl ?_
      refine aw_iload rfl rfl rfl ?_
      refine aw_ak (v := (A 57 (41 * t + (mB A t (A 42 3) (A 42 3))))) (N := 41) rfl (hC.sTd (by omega) (by omega)) (by omega) (by omega) (by omega) (hC.vTd (by omega) (by omega) (by omega) (by omega)) rfl (fun _ _ => ?_)
      refine aw_fnc (j_max ⟨by omega, by omega⟩ ⟨by omega, by omega⟩) rfl rfl rfl (Nat.le_of_ble_eq_true rfl) (Or.inl rfl) rfl ?_
      rw [show (if v < A 57 (41 * t + mB A t (A 42 3) (A 42 3)) then A 57 (41 * t + mB A t (A 42 3) (A 42 3)) else v) = mFrom A t by rw [hv]; rfl]
      refine aw_istore_n rfl (Nat.le_of_ble_eq_true rfl) rfl rfl ?_
      change aw _ _ _ _ 57 [some (.ref (gT g t)), some (.int (iI _)), some (.int (iI _)), some (.int (iI _)), some (.int (iI _))] _ _
      refine aw_aload_n rfl rfl rfl ?_
      refine aw_iload_n rfl rfl rfl ?_
      refine aw_iconst rfl rfl ?_
      refine aw_iload_n rfl rfl rfl ?_
      refine aw_aload_n rfl rfl rfl ?_
      refine aw_iload_n rfl rfl rfl ?_
      refine aw_iload_n rfl rfl rfl ?_
      refine aw_fnc (c_grown hC hI (by omega) (by omega) (by omega) (by omega) (by omega)) rfl rfl rfl (Nat.le_of_ble_eq_true rfl) (Or.inr ⟨_, rfl, (hC.kT (by omega) (by omega))⟩) rfl ?_
      rw [show (if A 49 t = 1 then (A 42 3 - mFrom A t) / A 53 t else 0) = mGrown A t from rfl]
      refine aw_isub rfl rfl ?_
      refine aw_fnc (j_max ⟨by omega, by omega⟩ ⟨by omega, by omega⟩) rfl rfl rfl (Nat.le_of_ble_eq_true rfl) (Or.inl rfl) rfl ?_
      rw [show (if 0 < mNear A t h c - mGrown A t then mNear A t h c - mGrown A t else 0) = (mMendH A t (mNear A t h c)) by unfold mMendH; split <;> split <;> omega]
      refine aw_iload_n rfl rfl rfl ?_
      refine aw_calc (c_tell hC hI (by omega) (by omega) (by omega) ⟨by omega, by omega⟩ ⟨by omega, by omega⟩) rfl rfl rfl (Nat.le_of_ble_eq_true rfl) (Or.inr ⟨_, rfl, (hC.kT (by omega) (by omega))⟩) rfl ?_
      rintro _ τ3 ⟨rfl, hM3, hD3⟩
      change aw _ _ _ _ 75 [some (.ref (gT g t)), some (.int (iI _)), some (.int (iI _)), some (.int (iI _)), some (.int (iI _))] [] _
      refine aw_retv rfl ?_
      exact ⟨rfl, hM3, hD3⟩
set_option maxRecDepth 10000 in
set_option maxHeartbeats 2000000 in
theorem c_mend {d : Nat} {sz : Nat} {κ : Nat × (Nat → Int32) × Option Nat} {A : Nat → Int → Int} {g : Nat → Nat} {σ : az_S} (hC : CR sz κ A g σ) (hI : MI sz A) {t : Int} (ht0 : 0 ≤ t) (ht1 : t < A 42 12) {h c : Int} (hok : mMeasOk A t h c) (he : A 56 t ≤ 40) (hnn : 0 ≤ mNear A t h c) : cal (d + 2) 93 [.ref (gT g t), .int (iI (mNear A t h c)), .int (iI (A 42 3))] σ (fun r τ => r = none ∧ CR sz κ (mEnter A t (mFrom A t) (mMendH A t (mNear A t h c))) g τ ∧ Mod σ τ [gT g t, gTd g t, gTh g t, gTt g t]) := by
  have hth := hI.things
  have hcl := hI.clock
  obtain ⟨⟨he1, he2⟩, ⟨he3, he4⟩, hTe, hkg, hTc, hTo, hTs, hTl, hTf, hTm⟩ := hI.thing t (by omega) (by omega)
  obtain ⟨f1, f2, f3, f4, f5, f6, f7, f8, f9⟩ := mFrom_r hI hok
  obtain ⟨g1, g2, g3, g4⟩ := mMend_r hI hok
  have nr := mNear_r A t h c
  refine cal_of (M := (yX10_mend, cX10_mend, 5, none)) (cd := k_X10_mend) (L := [some (.ref (gT g t)), some (.int (iI (mNear A t h c))), some (.int (iI (A 42 3))), none, none]) rfl (Nat.le_of_ble_eq_true rfl) rfl rfl ?_
  refine aw_aload_n rfl rfl rfl ?_
  refine aw_gk (v := (A 62 t)) (13) rfl rfl (hC.kT (by omega) (by omega)) rfl (hC.T13 (by omega) (by omega)) rfl (fun _ _ => ?_)
  refine aw_iconst rfl rfl ?_
  refine aw_icmp (p' := 15) rfl ⟨by omega, by omega⟩ ⟨by omega, by omega⟩ rfl rfl (fun c4 => ?_) (fun c4 => ?_)
  · dsimp only [zc] at c4
    refine aw_aload_n rfl rfl rfl ?_
    refine aw_gk (v := (A 62 t)) (13) rfl rfl (hC.kT (by omega) (by omega)) rfl (hC.T13 (by omega) (by omega)) rfl (fun _ _ => ?_)
    refine aw_iconst rfl rfl ?_
    refine aw_iadd rfl rfl ?_
    refine aw_istore_n rfl (Nat.le_of_ble_eq_true rfl) rfl rfl ?_
    change aw _ _ _ _ 22 [some (.ref (gT g t)), some (.int (iI _)), some (.int (iI _)), some (.int (iI _)), none] _ _
    exact c_mend_l22 hC hI ht0 ht1 hok he hnn _ (by unfold mBase; first | rw [if_pos (by omega)] | rw [if_neg (by omega)])
  · dsimp only [zc] at c4
    refine aw_aload_n rfl rfl rfl ?_
    refine aw_gk (v := (A 52 t)) (3) rfl rfl (hC.kT (by omega) (by omega)) rfl (hC.T3 (by omega) (by omega)) rfl (fun _ _ => ?_)
    refine aw_goto (p' := 21) rfl rfl ?_
    refine aw_istore_n rfl (Nat.le_of_ble_eq_true rfl) rfl rfl ?_
    change aw _ _ _ _ 22 [some (.ref (gT g t)), some (.int (iI _)), some (.int (iI _)), some (.int (iI _)), none] _ _
    exact c_mend_l22 hC hI ht0 ht1 hok he hnn _ (by unfold mBase; first | rw [if_pos (by omega)] | rw [if_neg (by omega)])
set_option maxRecDepth 10000 in
set_option maxHeartbeats 2000000 in
theorem c_measure {d : Nat} {sz : Nat} {κ : Nat × (Nat → Int32) × Option Nat} {A : Nat → Int → Int} {g : Nat → Nat} {σ : az_S} (hC : CR sz κ A g σ) (hI : MI sz A) {t : Int} (ht : inI t) {h : Int} (hh : inI h) {c : Int} (hc : inI c) (hE : ∀ t : Int, 0 ≤ t → t < A 42 12 → A 56 t ≤ 40) : cal (d + 5) 106 [.ref 0, .int (iI t), .int (iI h), .int (iI c)] σ (fun r τ => r = some (.int (iI (mMeas A t h c))) ∧ CR sz κ (m_measure_op A t h c) g τ ∧ (τ = σ ∨ (0 ≤ t ∧ t < A 42 12 ∧ Mod σ τ [gT g t, gTd g t, gTh g t, gTt g t]))) := by
  obtain ⟨ht1, ht2⟩ := ht
  obtain ⟨hh1, hh2⟩ := hh
  obtain ⟨hc1, hc2⟩ := hc
  have hth := hI.things
  have hce := hI.cells
  have hcl := hI.clock
  refine cal_of (M := (yX11_measure, cX11_measure, 7, (some .int))) (cd := k_X11_measure) (L := [some (.ref 0), some (.int (iI t)), some (.int (iI h)), some (.int (iI c)), none, none, none]) rfl (Nat.le_of_ble_eq_true rfl) rfl rfl ?_
  refine aw_aload_n rfl rfl rfl ?_
  refine aw_iload_n rfl rfl rfl ?_
  refine aw_fnc (c_isThing hC hI ⟨by omega, by omega⟩) rfl rfl rfl (Nat.le_of_ble_eq_true rfl) (Or.inr ⟨_, rfl, (hC.f.k 0 rfl)⟩) rfl ?_
  refine aw_ifeqb (p' := 26) rfl rfl rfl (fun c1 => ?_) (fun c1 => ?_)
  · refine aw_iconst rfl rfl ?_
    refine aw_reti rfl ?_
    have hno : ¬ mMeasOk2 A t h c := by
      rintro ⟨⟨q1, q2, q3, q4, q5, q6⟩, q7, q8⟩
      first | omega | exact q4 (by assumption)
    refine ⟨?_, ?_, Or.inl rfl⟩
    · unfold mMeas; rw [zit_f hno]
    · unfold m_measure_op; rw [tit_f hno]; exact hC
  · refine aw_iload_n rfl rfl rfl ?_
    refine aw_fnc (c_isHour ⟨by omega, by omega⟩) rfl rfl rfl (Nat.le_of_ble_eq_true rfl) (Or.inl rfl) rfl ?_
    refine aw_ifeqb (p' := 26) rfl rfl rfl (fun c2 => ?_) (fun c2 => ?_)
    · refine aw_iconst rfl rfl ?_
      refine aw_reti rfl ?_
      have hno : ¬ mMeasOk2 A t h c := by
        rintro ⟨⟨q1, q2, q3, q4, q5, q6⟩, q7, q8⟩
        first | omega | exact q4 (by assumption)
      refine ⟨?_, ?_, Or.inl rfl⟩
      · unfold mMeas; rw [zit_f hno]
      · unfold m_measure_op; rw [tit_f hno]; exact hC
    · refine aw_aload_n rfl rfl rfl ?_
      refine aw_getr (b := 28) rfl rfl (hC.f.k 0 rfl) (hC.f.r 0 0 28 rfl) rfl ?_
      refine aw_iload_n rfl rfl rfl ?_
      refine aw_fnc (c_has hC hI ⟨by omega, by omega⟩) rfl rfl rfl (Nat.le_of_ble_eq_true rfl) (Or.inr ⟨_, rfl, (hC.f.k 28 rfl)⟩) rfl ?_
      refine aw_ifneb (p' := 28) rfl rfl rfl (fun c3 => ?_) (fun c3 => ?_)
      · refine aw_aload_n rfl rfl rfl ?_
        refine aw_getr (b := 6) rfl rfl (hC.f.k 0 rfl) (hC.f.r 0 3 6 rfl) rfl ?_
        refine aw_iload_n rfl rfl rfl ?_
        refine aw_fnc (c_get (hC.f.k 6 rfl) hC.lT (by omega) (by omega) (by omega)) rfl rfl rfl (Nat.le_of_ble_eq_true rfl) (Or.inr ⟨_, rfl, (hC.f.k 6 rfl)⟩) rfl ?_
        refine aw_cast rfl rfl (hC.kT (by omega) (by omega)) rfl ?_
        refine aw_astore rfl (Nat.le_of_ble_eq_true rfl) rfl rfl ?_
        change aw _ _ _ _ 41 [some (.ref 0), some (.int (iI _)), some (.int (iI _)), some (.int (iI _)), some (.ref (gT g t)), none, none] _ _
        obtain ⟨⟨he1, he2⟩, ⟨he3, he4⟩, hTe, hkg, hTc, hTo, hTs, hTl, hTf, hTm⟩ := hI.thing t (by omega) (by omega)
        have hE1 := hE t (by omega) (by omega)
        refine aw_aload rfl rfl rfl ?_
        refine aw_aload_n rfl rfl rfl ?_
        refine aw_gk (v := A 42 3) (15) rfl rfl (hC.f.k 0 rfl) rfl hC.today rfl (fun _ _ => ?_)
        refine aw_aload_n rfl rfl rfl ?_
        refine aw_gk (v := A 42 3) (15) rfl rfl (hC.f.k 0 rfl) rfl hC.today rfl (fun _ _ => ?_)
        refine aw_fnc (c_heightOn hC hI (by omega) (by omega) (by omega) (by omega) (by omega) (by omega)) rfl rfl rfl (Nat.le_of_ble_eq_true rfl) (Or.inr ⟨_, rfl, (hC.kT (by omega) (by omega))⟩) rfl ?_
        have hrH4 := mH_range (hI.thing t (by omega) (by omega)) (A 42 3) (A 42 3)
        refine aw_istore rfl (Nat.le_of_ble_eq_true rfl) rfl rfl ?_
        change aw _ _ _ _ 56 [some (.ref 0), some (.int (iI _)), some (.int (iI _)), some (.int (iI _)), some (.ref (gT g t)), some (.int (iI _)), none] _ _
        refine aw_iload rfl rfl rfl ?_
        refine aw_iconst rfl rfl ?_
        refine aw_icmp (p' := 89) rfl ⟨by omega, by omega⟩ ⟨by omega, by omega⟩ rfl rfl (fun c5 => ?_) (fun c5 => ?_)
        · dsimp only [zc] at c5
          refine aw_iconst rfl rfl ?_
          refine aw_reti rfl ?_
          have hno : ¬ mMeasOk2 A t h c := by
            rintro ⟨⟨q1, q2, q3, q4, q5, q6⟩, q7, q8⟩
            first | omega | exact q4 (by assumption)
          refine ⟨?_, ?_, Or.inl rfl⟩
          · unfold mMeas; rw [zit_f hno]
          · unfold m_measure_op; rw [tit_f hno]; exact hC
        · dsimp only [zc] at c5
          refine aw_aload rfl rfl rfl ?_
          refine aw_gk (v := (A 62 t)) (13) rfl rfl (hC.kT (by omega) (by omega)) rfl (hC.T13 (by omega) (by omega)) rfl (fun _ _ => ?_)
          refine aw_aload_n rfl rfl rfl ?_
          refine aw_gk (v := A 42 3) (15) rfl rfl (hC.f.k 0 rfl) rfl hC.today rfl (fun _ _ => ?_)
          refine aw_icmp (p' := 89) rfl ⟨by omega, by omega⟩ ⟨by omega, by omega⟩ rfl rfl (fun c6 => ?_) (fun c6 => ?_)
          · dsimp only [zc] at c6
            refine aw_iconst rfl rfl ?_
            refine aw_reti rfl ?_
            have hno : ¬ mMeasOk2 A t h c := by
              rintro ⟨⟨q1, q2, q3, q4, q5, q6⟩, q7, q8⟩
              first | omega | exact q4 (by assumption)
            refine ⟨?_, ?_, Or.inl rfl⟩
            · unfold mMeas; rw [zit_f hno]
            · unfold m_measure_op; rw [tit_f hno]; exact hC
          · dsimp only [zc] at c6
            refine aw_aload_n rfl rfl rfl ?_
            refine aw_getr (b := 1) rfl rfl (hC.f.k 0 rfl) (hC.f.r 0 1 1 rfl) rfl ?_
            refine aw_aload_n rfl rfl rfl ?_
            refine aw_gk (v := A 42 3) (15) rfl rfl (hC.f.k 0 rfl) rfl hC.today rfl (fun _ _ => ?_)
            refine aw_iload_n rfl rfl rfl ?_
            refine aw_fnc (c_isClouded hC hI (by omega) (by omega) (by omega) (by omega)) rfl rfl rfl (Nat.le_of_ble_eq_true rfl) (Or.inr ⟨_, rfl, (hC.f.k 1 rfl)⟩) rfl ?_
            refine aw_ifeqb (p' := 91) rfl rfl rfl (fun c7 => ?_) (fun c7 => ?_)
            · refine aw_aload_n rfl rfl rfl ?_
              refine aw_aload rfl rfl rfl ?_
              refine aw_iload_n rfl rfl rfl ?_
              refine aw_iload_n rfl rfl rfl ?_
              refine aw_iload rfl rfl rfl ?_
              refine aw_fnc (c_nearest hC hI (by omega) (by omega) (by omega) (by omega) (by omega) (by omega) (by omega) (by omega)) rfl rfl rfl (Nat.le_of_ble_eq_true rfl) (Or.inr ⟨_, rfl, (hC.f.k 0 rfl)⟩) rfl ?_
              refine aw_istore rfl (Nat.le_of_ble_eq_true rfl) rfl rfl ?_
              change aw _ _ _ _ 103 [some (.ref 0), some (.int (iI _)), some (.int (iI _)), some (.int (iI _)), some (.ref (gT g t)), some (.int (iI _)), some (.int (iI _))] _ _
              have hok : mMeasOk A t h c := ⟨by omega, by omega, by omega, by assumption, by omega, by omega⟩
              have nr := mNear_r A t h c
              rw [show mNearN A t h c (mH A t (A 42 3) (A 42 3)) 60 = mNear A t h c from rfl]
              refine aw_iload rfl rfl rfl ?_
              refine aw_iconst rfl rfl ?_
              refine aw_icmp (p' := 126) rfl ⟨by omega, by omega⟩ ⟨by omega, by omega⟩ rfl rfl (fun c8 => ?_) (fun c8 => ?_)
              · dsimp only [zc] at c8
                refine aw_iconst rfl rfl ?_
                refine aw_reti rfl ?_
                have hno : ¬ mMeasOk2 A t h c := by
                  rintro ⟨⟨q1, q2, q3, q4, q5, q6⟩, q7, q8⟩
                  first | omega | exact q4 (by assumption)
                refine ⟨?_, ?_, Or.inl rfl⟩
                · unfold mMeas; rw [zit_f hno]
                · unfold m_measure_op; rw [tit_f hno]; exact hC
              · dsimp only [zc] at c8
                refine aw_iload rfl rfl rfl ?_
                refine aw_iload rfl rfl rfl ?_
                refine aw_icmp (p' := 128) rfl ⟨by omega, by omega⟩ ⟨by omega, by omega⟩ rfl rfl (fun c9 => ?_) (fun c9 => ?_)
                · dsimp only [zc] at c9
                  refine aw_iload rfl rfl rfl ?_
                  refine aw_iload rfl rfl rfl ?_
                  refine aw_icmp (p' := 146) rfl ⟨by omega, by omega⟩ ⟨by omega, by omega⟩ rfl rfl (fun c10 => ?_) (fun c10 => ?_)
                  · dsimp only [zc] at c10
                    have hB : mMeasB A t h c = A := tit_f (by omega)
                    have hB1 : CR sz κ (mMeasB A t h c) g σ := by rw [hB]; exact hC
                    have hIB := MI_measB hI hok hE1
                    have e12 : mMeasB A t h c 42 12 = A 42 12 := by rw [hB]; try simp [mEnter, up]
                    have e3 : mMeasB A t h c 42 3 = A 42 3 := by rw [hB]; try simp [mEnter, up]
                    refine aw_aload rfl rfl rfl ?_
                    refine aw_aload_n rfl rfl rfl ?_
                    refine aw_gk (v := A 42 3) (15) rfl rfl (hB1.f.k 0 rfl) rfl (hB1.today.trans e3) rfl (fun _ _ => ?_)
                    refine aw_fs (13) rfl rfl (hB1.kT (by omega) (by omega)) rfl ⟨by omega, by omega⟩ rfl (fun τ11 hD11 hU11 hQ11 => ?_)
                    have hM11 : CR sz κ (mMeasTab A t h c) g τ11 := hB1.measc hIB (by omega) (by omega) hD11 hU11
                    have hIT : MI sz (mMeasTab A t h c) := by
                      have := MI_meas hIB (t := t) (by omega) (by omega)
                      rw [e3] at this
                      exact this
                    have e12t : mMeasTab A t h c 42 12 = A 42 12 := by unfold mMeasTab; rw [up_ne (by decide)]; exact e12
                    have e3t : mMeasTab A t h c 42 3 = A 42 3 := by unfold mMeasTab; rw [up_ne (by decide)]; exact e3
                    refine aw_aload rfl rfl rfl ?_
                    refine aw_aload_n rfl rfl rfl ?_
                    refine aw_gk (v := A 42 3) (15) rfl rfl (hM11.f.k 0 rfl) rfl (hM11.today.trans e3t) rfl (fun _ _ => ?_)
                    refine aw_aload_n rfl rfl rfl ?_
                    refine aw_gk (v := A 42 3) (15) rfl rfl (hM11.f.k 0 rfl) rfl (hM11.today.trans e3t) rfl (fun _ _ => ?_)
                    refine aw_fnc (c_heightOn hM11 hIT (by omega) (by omega) (by omega) (by omega) (by omega) (by omega)) rfl rfl rfl (Nat.le_of_ble_eq_true rfl) (Or.inr ⟨_, rfl, (hM11.kT (by omega) (by omega))⟩) rfl ?_
                    refine aw_reti rfl ?_
                    have hok2 : mMeasOk2 A t h c := ⟨hok, by omega, by omega⟩
                    refine ⟨?_, ?_, Or.inr ⟨by omega, by omega, (hD11.su (T := [gT g t, gTd g t, gTh g t, gTt g t]) (by simp))⟩⟩
                    · unfold mMeas; rw [zit_t hok2]
                    · unfold m_measure_op; rw [tit_t hok2]; exact hM11
                  · dsimp only [zc] at c10
                    refine aw_aload rfl rfl rfl ?_
                    refine aw_iload rfl rfl rfl ?_
                    refine aw_aload_n rfl rfl rfl ?_
                    refine aw_gk (v := A 42 3) (15) rfl rfl (hC.f.k 0 rfl) rfl hC.today rfl (fun _ _ => ?_)
                    refine aw_calc (c_mend hC hI (by omega) (by omega) hok hE1 (by omega)) rfl rfl rfl (Nat.le_of_ble_eq_true rfl) (Or.inr ⟨_, rfl, (hC.kT (by omega) (by omega))⟩) rfl ?_
                    rintro _ τ12 ⟨rfl, hM12, hD12⟩
                    change aw _ _ _ _ 146 [some (.ref 0), some (.int (iI _)), some (.int (iI _)), some (.int (iI _)), some (.ref (gT g t)), some (.int (iI _)), some (.int (iI _))] [] _
                    have hB : mMeasB A t h c = mEnter A t (mFrom A t) (mMendH A t (mNear A t h c)) := tit_t (by omega)
                    have hB1 : CR sz κ (mMeasB A t h c) g τ12 := by rw [hB]; exact hM12
                    have hIB := MI_measB hI hok hE1
                    have e12 : mMeasB A t h c 42 12 = A 42 12 := by rw [hB]; try simp [mEnter, up]
                    have e3 : mMeasB A t h c 42 3 = A 42 3 := by rw [hB]; try simp [mEnter, up]
                    refine aw_aload rfl rfl rfl ?_
                    refine aw_aload_n rfl rfl rfl ?_
                    refine aw_gk (v := A 42 3) (15) rfl rfl (hB1.f.k 0 rfl) rfl (hB1.today.trans e3) rfl (fun _ _ => ?_)
                    refine aw_fs (13) rfl rfl (hB1.kT (by omega) (by omega)) rfl ⟨by omega, by omega⟩ rfl (fun τ13 hD13 hU13 hQ13 => ?_)
                    have hM13 : CR sz κ (mMeasTab A t h c) g τ13 := hB1.measc hIB (by omega) (by omega) hD13 hU13
                    have hIT : MI sz (mMeasTab A t h c) := by
                      have := MI_meas hIB (t := t) (by omega) (by omega)
                      rw [e3] at this
                      exact this
                    have e12t : mMeasTab A t h c 42 12 = A 42 12 := by unfold mMeasTab; rw [up_ne (by decide)]; exact e12
                    have e3t : mMeasTab A t h c 42 3 = A 42 3 := by unfold mMeasTab; rw [up_ne (by decide)]; exact e3
                    refine aw_aload rfl rfl rfl ?_
                    refine aw_aload_n rfl rfl rfl ?_
                    refine aw_gk (v := A 42 3) (15) rfl rfl (hM13.f.k 0 rfl) rfl (hM13.today.trans e3t) rfl (fun _ _ => ?_)
                    refine aw_aload_n rfl rfl rfl ?_
                    refine aw_gk (v := A 42 3) (15) rfl rfl (hM13.f.k 0 rfl) rfl (hM13.today.trans e3t) rfl (fun _ _ => ?_)
                    refine aw_fnc (c_heightOn hM13 hIT (by omega) (by omega) (by omega) (by omega) (by omega) (by omega)) rfl rfl rfl (Nat.le_of_ble_eq_true rfl) (Or.inr ⟨_, rfl, (hM13.kT (by omega) (by omega))⟩) rfl ?_
                    refine aw_reti rfl ?_
                    have hok2 : mMeasOk2 A t h c := ⟨hok, by omega, by omega⟩
                    refine ⟨?_, ?_, Or.inr ⟨by omega, by omega, ((hD12.su (T := [gT g t, gTd g t, gTh g t, gTt g t]) (by simp)).tr (hD13.su (T := [gT g t, gTd g t, gTh g t, gTt g t]) (by simp)))⟩⟩
                    · unfold mMeas; rw [zit_t hok2]
                    · unfold m_measure_op; rw [tit_t hok2]; exact hM13
                · dsimp only [zc] at c9
                  refine aw_aload rfl rfl rfl ?_
                  refine aw_gk (v := (A 56 t)) (10) rfl rfl (hC.kT (by omega) (by omega)) rfl (hC.T10 (by omega) (by omega)) rfl (fun _ _ => ?_)
                  refine aw_bipush rfl rfl rfl ?_
                  refine aw_icmp (p' := 128) rfl ⟨by omega, by omega⟩ ⟨by omega, by omega⟩ rfl rfl (fun c14 => ?_) (fun c14 => ?_)
                  · dsimp only [zc] at c14
                    refine aw_iload rfl rfl rfl ?_
                    refine aw_iload rfl rfl rfl ?_
                    refine aw_icmp (p' := 146) rfl ⟨by omega, by omega⟩ ⟨by omega, by omega⟩ rfl rfl (fun c15 => ?_) (fun c15 => ?_)
                    · dsimp only [zc] at c15
                      have hB : mMeasB A t h c = A := tit_f (by omega)
                      have hB1 : CR sz κ (mMeasB A t h c) g σ := by rw [hB]; exact hC
                      have hIB := MI_measB hI hok hE1
                      have e12 : mMeasB A t h c 42 12 = A 42 12 := by rw [hB]; try simp [mEnter, up]
                      have e3 : mMeasB A t h c 42 3 = A 42 3 := by rw [hB]; try simp [mEnter, up]
                      refine aw_aload rfl rfl rfl ?_
                      refine aw_aload_n rfl rfl rfl ?_
                      refine aw_gk (v := A 42 3) (15) rfl rfl (hB1.f.k 0 rfl) rfl (hB1.today.trans e3) rfl (fun _ _ => ?_)
                      refine aw_fs (13) rfl rfl (hB1.kT (by omega) (by omega)) rfl ⟨by omega, by omega⟩ rfl (fun τ16 hD16 hU16 hQ16 => ?_)
                      have hM16 : CR sz κ (mMeasTab A t h c) g τ16 := hB1.measc hIB (by omega) (by omega) hD16 hU16
                      have hIT : MI sz (mMeasTab A t h c) := by
                        have := MI_meas hIB (t := t) (by omega) (by omega)
                        rw [e3] at this
                        exact this
                      have e12t : mMeasTab A t h c 42 12 = A 42 12 := by unfold mMeasTab; rw [up_ne (by decide)]; exact e12
                      have e3t : mMeasTab A t h c 42 3 = A 42 3 := by unfold mMeasTab; rw [up_ne (by decide)]; exact e3
                      refine aw_aload rfl rfl rfl ?_
                      refine aw_aload_n rfl rfl rfl ?_
                      refine aw_gk (v := A 42 3) (15) rfl rfl (hM16.f.k 0 rfl) rfl (hM16.today.trans e3t) rfl (fun _ _ => ?_)
                      refine aw_aload_n rfl rfl rfl ?_
                      refine aw_gk (v := A 42 3) (15) rfl rfl (hM16.f.k 0 rfl) rfl (hM16.today.trans e3t) rfl (fun _ _ => ?_)
                      refine aw_fnc (c_heightOn hM16 hIT (by omega) (by omega) (by omega) (by omega) (by omega) (by omega)) rfl rfl rfl (Nat.le_of_ble_eq_true rfl) (Or.inr ⟨_, rfl, (hM16.kT (by omega) (by omega))⟩) rfl ?_
                      refine aw_reti rfl ?_
                      have hok2 : mMeasOk2 A t h c := ⟨hok, by omega, by omega⟩
                      refine ⟨?_, ?_, Or.inr ⟨by omega, by omega, (hD16.su (T := [gT g t, gTd g t, gTh g t, gTt g t]) (by simp))⟩⟩
                      · unfold mMeas; rw [zit_t hok2]
                      · unfold m_measure_op; rw [tit_t hok2]; exact hM16
                    · dsimp only [zc] at c15
                      refine aw_aload rfl rfl rfl ?_
                      refine aw_iload rfl rfl rfl ?_
                      refine aw_aload_n rfl rfl rfl ?_
                      refine aw_gk (v := A 42 3) (15) rfl rfl (hC.f.k 0 rfl) rfl hC.today rfl (fun _ _ => ?_)
                      refine aw_calc (c_mend hC hI (by omega) (by omega) hok hE1 (by omega)) rfl rfl rfl (Nat.le_of_ble_eq_true rfl) (Or.inr ⟨_, rfl, (hC.kT (by omega) (by omega))⟩) rfl ?_
                      rintro _ τ17 ⟨rfl, hM17, hD17⟩
                      change aw _ _ _ _ 146 [some (.ref 0), some (.int (iI _)), some (.int (iI _)), some (.int (iI _)), some (.ref (gT g t)), some (.int (iI _)), some (.int (iI _))] [] _
                      have hB : mMeasB A t h c = mEnter A t (mFrom A t) (mMendH A t (mNear A t h c)) := tit_t (by omega)
                      have hB1 : CR sz κ (mMeasB A t h c) g τ17 := by rw [hB]; exact hM17
                      have hIB := MI_measB hI hok hE1
                      have e12 : mMeasB A t h c 42 12 = A 42 12 := by rw [hB]; try simp [mEnter, up]
                      have e3 : mMeasB A t h c 42 3 = A 42 3 := by rw [hB]; try simp [mEnter, up]
                      refine aw_aload rfl rfl rfl ?_
                      refine aw_aload_n rfl rfl rfl ?_
                      refine aw_gk (v := A 42 3) (15) rfl rfl (hB1.f.k 0 rfl) rfl (hB1.today.trans e3) rfl (fun _ _ => ?_)
                      refine aw_fs (13) rfl rfl (hB1.kT (by omega) (by omega)) rfl ⟨by omega, by omega⟩ rfl (fun τ18 hD18 hU18 hQ18 => ?_)
                      have hM18 : CR sz κ (mMeasTab A t h c) g τ18 := hB1.measc hIB (by omega) (by omega) hD18 hU18
                      have hIT : MI sz (mMeasTab A t h c) := by
                        have := MI_meas hIB (t := t) (by omega) (by omega)
                        rw [e3] at this
                        exact this
                      have e12t : mMeasTab A t h c 42 12 = A 42 12 := by unfold mMeasTab; rw [up_ne (by decide)]; exact e12
                      have e3t : mMeasTab A t h c 42 3 = A 42 3 := by unfold mMeasTab; rw [up_ne (by decide)]; exact e3
                      refine aw_aload rfl rfl rfl ?_
                      refine aw_aload_n rfl rfl rfl ?_
                      refine aw_gk (v := A 42 3) (15) rfl rfl (hM18.f.k 0 rfl) rfl (hM18.today.trans e3t) rfl (fun _ _ => ?_)
                      refine aw_aload_n rfl rfl rfl ?_
                      refine aw_gk (v := A 42 3) (15) rfl rfl (hM18.f.k 0 rfl) rfl (hM18.today.trans e3t) rfl (fun _ _ => ?_)
                      refine aw_fnc (c_heightOn hM18 hIT (by omega) (by omega) (by omega) (by omega) (by omega) (by omega)) rfl rfl rfl (Nat.le_of_ble_eq_true rfl) (Or.inr ⟨_, rfl, (hM18.kT (by omega) (by omega))⟩) rfl ?_
                      refine aw_reti rfl ?_
                      have hok2 : mMeasOk2 A t h c := ⟨hok, by omega, by omega⟩
                      refine ⟨?_, ?_, Or.inr ⟨by omega, by omega, ((hD17.su (T := [gT g t, gTd g t, gTh g t, gTt g t]) (by simp)).tr (hD18.su (T := [gT g t, gTd g t, gTh g t, gTt g t]) (by simp)))⟩⟩
                      · unfold mMeas; rw [zit_t hok2]
                      · unfold m_measure_op; rw [tit_t hok2]; exact hM18
                  · dsimp only [zc] at c14
                    refine aw_iconst rfl rfl ?_
                    refine aw_reti rfl ?_
                    have hno : ¬ mMeasOk2 A t h c := by
                      rintro ⟨⟨q1, q2, q3, q4, q5, q6⟩, q7, q8⟩
                      first | omega | exact q4 (by assumption)
                    refine ⟨?_, ?_, Or.inl rfl⟩
                    · unfold mMeas; rw [zit_f hno]
                    · unfold m_measure_op; rw [tit_f hno]; exact hC
            · refine aw_iconst rfl rfl ?_
              refine aw_reti rfl ?_
              have hno : ¬ mMeasOk2 A t h c := by
                rintro ⟨⟨q1, q2, q3, q4, q5, q6⟩, q7, q8⟩
                first | omega | exact q4 (by assumption)
              refine ⟨?_, ?_, Or.inl rfl⟩
              · unfold mMeas; rw [zit_f hno]
              · unfold m_measure_op; rw [tit_f hno]; exact hC
      · refine aw_iconst rfl rfl ?_
        refine aw_reti rfl ?_
        have hno : ¬ mMeasOk2 A t h c := by
          rintro ⟨⟨q1, q2, q3, q4, q5, q6⟩, q7, q8⟩
          first | omega | exact q4 (by assumption)
        refine ⟨?_, ?_, Or.inl rfl⟩
        · unfold mMeas; rw [zit_f hno]
        · unfold m_measure_op; rw [tit_f hno]; exact hC
