/-! CALLS THAT ONLY ANSWER -/
theorem CR.kF {sz : Nat} {κ : Nat × (Nat → Int32) × Option Nat} {A : Nat → Int → Int} {g : Nat → Nat} {σ : az_S} (h : CR sz κ A g σ) : (az_sh σ (g 700)).1 = 10 := by
  rcases h.force.1 with e | e
  · rw [e]; exact h.f.k 16 rfl
  · rw [e]; exact h.f.k 22 rfl
set_option maxRecDepth 10000 in
set_option maxHeartbeats 2000000 in
theorem c_height {d : Nat} {sz : Nat} {κ : Nat × (Nat → Int32) × Option Nat} {A : Nat → Int → Int} {g : Nat → Nat} {σ : az_S} (hC : CR sz κ A g σ) (hI : MI sz A) {t : Int} (ht : inI t) {x : Int} (hx : inI x) {y : Int} (hy : inI y) : fn (d + 4) 105 [.ref 0, .int (iI t), .int (iI x), .int (iI y)] σ (.int (iI (@ite Int ((0 ≤ t ∧ t ≤ A 42 12 - 1) ∧ (0 ≤ x ∧ x ≤ 3599) ∧ (0 ≤ y ∧ y ≤ 3599)) (Classical.propDecidable _) (mH A t x y) (-1)))) := by
  have hpe := hI.people
  have hth := hI.things
  have hst := hI.stalls
  have hce := hI.cells
  obtain ⟨ht1, ht2⟩ := ht
  obtain ⟨hx1, hx2⟩ := hx
  obtain ⟨hy1, hy2⟩ := hy
  refine fn_of (M := (yX11_height, cX11_height, 4, (some .int))) (cd := k_X11_height) (L := [some (.ref 0), some (.int (iI t)), some (.int (iI x)), some (.int (iI y))]) rfl (Nat.le_of_ble_eq_true rfl) rfl rfl ?_
  refine aw_aload_n rfl rfl rfl ?_
  refine aw_iload_n rfl rfl rfl ?_
  refine aw_fnc (c_isThing hC hI ⟨by omega, by omega⟩) rfl rfl rfl (Nat.le_of_ble_eq_true rfl) (Or.inr ⟨_, rfl, (hC.f.k 0 rfl)⟩) rfl ?_
  refine aw_ifeqb (p' := 22) rfl rfl rfl (fun c1 => ?_) (fun c1 => ?_)
  · refine aw_iconst rfl rfl ?_
    refine aw_reti rfl ?_
    refine ⟨?_, rfl⟩
    first | (rw [if_pos (by omega)]; done) | rw [if_neg (by omega)]
  · refine aw_iload_n rfl rfl rfl ?_
    refine aw_fnc (c_isDay ⟨by omega, by omega⟩) rfl rfl rfl (Nat.le_of_ble_eq_true rfl) (Or.inl rfl) rfl ?_
    refine aw_ifeqb (p' := 22) rfl rfl rfl (fun c2 => ?_) (fun c2 => ?_)
    · refine aw_iconst rfl rfl ?_
      refine aw_reti rfl ?_
      refine ⟨?_, rfl⟩
      first | (rw [if_pos (by omega)]; done) | rw [if_neg (by omega)]
    · refine aw_iload_n rfl rfl rfl ?_
      refine aw_fnc (c_isDay ⟨by omega, by omega⟩) rfl rfl rfl (Nat.le_of_ble_eq_true rfl) (Or.inl rfl) rfl ?_
      refine aw_ifneb (p' := 24) rfl rfl rfl (fun c3 => ?_) (fun c3 => ?_)
      · refine aw_aload_n rfl rfl rfl ?_
        refine aw_getr (b := 6) rfl rfl (hC.f.k 0 rfl) (hC.f.r 0 3 6 rfl) rfl ?_
        refine aw_iload_n rfl rfl rfl ?_
        refine aw_fnc (c_get (hC.f.k 6 rfl) hC.lT (by omega) (by omega) (by omega)) rfl rfl rfl (Nat.le_of_ble_eq_true rfl) (Or.inr ⟨_, rfl, (hC.f.k 6 rfl)⟩) rfl ?_
        refine aw_cast rfl rfl (hC.kT (by omega) (by omega)) rfl ?_
        refine aw_iload_n rfl rfl rfl ?_
        refine aw_iload_n rfl rfl rfl ?_
        refine aw_fnc (c_heightOn hC hI (by omega) (by omega) (by omega) (by omega) (by omega) (by omega)) rfl rfl rfl (Nat.le_of_ble_eq_true rfl) (Or.inr ⟨_, rfl, (hC.kT (by omega) (by omega))⟩) rfl ?_
        have hrH4 := mH_range (hI.thing t (by omega) (by omega)) x y
        refine aw_reti rfl ?_
        refine ⟨?_, rfl⟩
        first | (rw [if_pos (by omega)]; done) | rw [if_neg (by omega)]
      · refine aw_iconst rfl rfl ?_
        refine aw_reti rfl ?_
        refine ⟨?_, rfl⟩
        first | (rw [if_pos (by omega)]; done) | rw [if_neg (by omega)]
set_option maxRecDepth 10000 in
set_option maxHeartbeats 2000000 in
theorem c_thing {d : Nat} {sz : Nat} {κ : Nat × (Nat → Int32) × Option Nat} {A : Nat → Int → Int} {g : Nat → Nat} {σ : az_S} (hC : CR sz κ A g σ) (hI : MI sz A) {t : Int} (ht : inI t) {w : Int} (hw : inI w) : fn (d + 4) 107 [.ref 0, .int (iI t), .int (iI w)] σ (.int (iI (zit (0 ≤ t ∧ t ≤ A 42 12 - 1) (if w = 0 then A 49 t else if w = 1 then A 50 t else if w = 2 then A 51 t else if w = 3 then A 52 t else if w = 4 then A 56 t else if w = 5 then A 60 t else if w = 6 then A 62 t else if w = 7 then A 53 t else -1) (-1)))) := by
  have hpe := hI.people
  have hth := hI.things
  have hst := hI.stalls
  have hce := hI.cells
  obtain ⟨ht1, ht2⟩ := ht
  obtain ⟨hw1, hw2⟩ := hw
  refine fn_of (M := (yX11_thing, cX11_thing, 4, (some .int))) (cd := k_X11_thing) (L := [some (.ref 0), some (.int (iI t)), some (.int (iI w)), none]) rfl (Nat.le_of_ble_eq_true rfl) rfl rfl ?_
  refine aw_aload_n rfl rfl rfl ?_
  refine aw_iload_n rfl rfl rfl ?_
  refine aw_fnc (c_isThing hC hI ⟨by omega, by omega⟩) rfl rfl rfl (Nat.le_of_ble_eq_true rfl) (Or.inr ⟨_, rfl, (hC.f.k 0 rfl)⟩) rfl ?_
  refine aw_ifneb (p' := 10) rfl rfl rfl (fun c1 => ?_) (fun c1 => ?_)
  · refine aw_aload_n rfl rfl rfl ?_
    refine aw_getr (b := 6) rfl rfl (hC.f.k 0 rfl) (hC.f.r 0 3 6 rfl) rfl ?_
    refine aw_iload_n rfl rfl rfl ?_
    refine aw_fnc (c_get (hC.f.k 6 rfl) hC.lT (by omega) (by omega) (by omega)) rfl rfl rfl (Nat.le_of_ble_eq_true rfl) (Or.inr ⟨_, rfl, (hC.f.k 6 rfl)⟩) rfl ?_
    refine aw_cast rfl rfl (hC.kT (by omega) (by omega)) rfl ?_
    refine aw_astore_n rfl (Nat.le_of_ble_eq_true rfl) rfl rfl ?_
    change aw _ _ _ _ 22 [some (.ref 0), some (.int (iI _)), some (.int (iI _)), some (.ref (gT g t))] _ _
    refine aw_iload_n rfl rfl rfl ?_
    refine aw_tsb (p' := 68) 0 rfl rfl ⟨by omega, by omega⟩ (by omega) rfl (fun c2 => ?_) (fun c2 => ?_)
    · refine aw_aload_n rfl rfl rfl ?_
      refine aw_gk (v := (A 49 t)) (0) rfl rfl (hC.kT (by omega) (by omega)) rfl (hC.T0 (by omega) (by omega)) rfl (fun _ _ => ?_)
      refine aw_reti rfl ?_
      refine ⟨?_, rfl⟩
      first | (rw [zit_f (by omega)]; done) | (rw [zit_t (by omega)]; (repeat (first | rw [if_pos (by omega)] | rw [if_neg (by omega)])))
    refine aw_tsb (p' := 73) 1 rfl rfl ⟨by omega, by omega⟩ (by omega) rfl (fun c3 => ?_) (fun c3 => ?_)
    · refine aw_aload_n rfl rfl rfl ?_
      refine aw_gk (v := (A 50 t)) (1) rfl rfl (hC.kT (by omega) (by omega)) rfl (hC.T1 (by omega) (by omega)) rfl (fun _ _ => ?_)
      refine aw_reti rfl ?_
      refine ⟨?_, rfl⟩
      first | (rw [zit_f (by omega)]; done) | (rw [zit_t (by omega)]; (repeat (first | rw [if_pos (by omega)] | rw [if_neg (by omega)])))
    refine aw_tsb (p' := 78) 2 rfl rfl ⟨by omega, by omega⟩ (by omega) rfl (fun c4 => ?_) (fun c4 => ?_)
    · refine aw_aload_n rfl rfl rfl ?_
      refine aw_gk (v := (A 51 t)) (2) rfl rfl (hC.kT (by omega) (by omega)) rfl (hC.T2 (by omega) (by omega)) rfl (fun _ _ => ?_)
      refine aw_reti rfl ?_
      refine ⟨?_, rfl⟩
      first | (rw [zit_f (by omega)]; done) | (rw [zit_t (by omega)]; (repeat (first | rw [if_pos (by omega)] | rw [if_neg (by omega)])))
    refine aw_tsb (p' := 83) 3 rfl rfl ⟨by omega, by omega⟩ (by omega) rfl (fun c5 => ?_) (fun c5 => ?_)
    · refine aw_aload_n rfl rfl rfl ?_
      refine aw_gk (v := (A 52 t)) (3) rfl rfl (hC.kT (by omega) (by omega)) rfl (hC.T3 (by omega) (by omega)) rfl (fun _ _ => ?_)
      refine aw_reti rfl ?_
      refine ⟨?_, rfl⟩
      first | (rw [zit_f (by omega)]; done) | (rw [zit_t (by omega)]; (repeat (first | rw [if_pos (by omega)] | rw [if_neg (by omega)])))
    refine aw_tsb (p' := 88) 4 rfl rfl ⟨by omega, by omega⟩ (by omega) rfl (fun c6 => ?_) (fun c6 => ?_)
    · refine aw_aload_n rfl rfl rfl ?_
      refine aw_gk (v := (A 56 t)) (10) rfl rfl (hC.kT (by omega) (by omega)) rfl (hC.T10 (by omega) (by omega)) rfl (fun _ _ => ?_)
      refine aw_reti rfl ?_
      refine ⟨?_, rfl⟩
      first | (rw [zit_f (by omega)]; done) | (rw [zit_t (by omega)]; (repeat (first | rw [if_pos (by omega)] | rw [if_neg (by omega)])))
    refine aw_tsb (p' := 93) 5 rfl rfl ⟨by omega, by omega⟩ (by omega) rfl (fun c7 => ?_) (fun c7 => ?_)
    · refine aw_aload_n rfl rfl rfl ?_
      refine aw_gk (v := (A 60 t)) (11) rfl rfl (hC.kT (by omega) (by omega)) rfl (hC.T11 (by omega) (by omega)) rfl (fun _ _ => ?_)
      refine aw_reti rfl ?_
      refine ⟨?_, rfl⟩
      first | (rw [zit_f (by omega)]; done) | (rw [zit_t (by omega)]; (repeat (first | rw [if_pos (by omega)] | rw [if_neg (by omega)])))
    refine aw_tsb (p' := 98) 6 rfl rfl ⟨by omega, by omega⟩ (by omega) rfl (fun c8 => ?_) (fun c8 => ?_)
    · refine aw_aload_n rfl rfl rfl ?_
      refine aw_gk (v := (A 62 t)) (13) rfl rfl (hC.kT (by omega) (by omega)) rfl (hC.T13 (by omega) (by omega)) rfl (fun _ _ => ?_)
      refine aw_reti rfl ?_
      refine ⟨?_, rfl⟩
      first | (rw [zit_f (by omega)]; done) | (rw [zit_t (by omega)]; (repeat (first | rw [if_pos (by omega)] | rw [if_neg (by omega)])))
    refine aw_tsb (p' := 103) 7 rfl rfl ⟨by omega, by omega⟩ (by omega) rfl (fun c9 => ?_) (fun c9 => ?_)
    · refine aw_aload_n rfl rfl rfl ?_
      refine aw_gk (v := (A 53 t)) (4) rfl rfl (hC.kT (by omega) (by omega)) rfl (hC.T4 (by omega) (by omega)) rfl (fun _ _ => ?_)
      refine aw_reti rfl ?_
      refine ⟨?_, rfl⟩
      first | (rw [zit_f (by omega)]; done) | (rw [zit_t (by omega)]; (repeat (first | rw [if_pos (by omega)] | rw [if_neg (by omega)])))
    refine aw_tsd (p' := 108) rfl ⟨by omega, by omega⟩ (by omega) rfl ?_
    refine aw_iconst rfl rfl ?_
    refine aw_reti rfl ?_
    refine ⟨?_, rfl⟩
    first | (rw [zit_f (by omega)]; done) | (rw [zit_t (by omega)]; (repeat (first | rw [if_pos (by omega)] | rw [if_neg (by omega)])))
  · refine aw_iconst rfl rfl ?_
    refine aw_reti rfl ?_
    refine ⟨?_, rfl⟩
    first | (rw [zit_f (by omega)]; done) | (rw [zit_t (by omega)]; (repeat (first | rw [if_pos (by omega)] | rw [if_neg (by omega)])))
set_option maxRecDepth 10000 in
set_option maxHeartbeats 2000000 in
theorem c_entry {d : Nat} {sz : Nat} {κ : Nat × (Nat → Int32) × Option Nat} {A : Nat → Int → Int} {g : Nat → Nat} {σ : az_S} (hC : CR sz κ A g σ) (hI : MI sz A) {t : Int} (ht : inI t) {i : Int} (hi : inI i) {w : Int} (hw : inI w) : fn (d + 4) 108 [.ref 0, .int (iI t), .int (iI i), .int (iI w)] σ (.int (iI (zit ((0 ≤ t ∧ t ≤ A 42 12 - 1) ∧ (0 ≤ i ∧ i ≤ A 56 t - 1)) (if w = 0 then A 57 (41 * t + i) else if w = 1 then A 58 (41 * t + i) else if w = 2 then A 59 (41 * t + i) else -1) (-1)))) := by
  have hpe := hI.people
  have hth := hI.things
  have hst := hI.stalls
  have hce := hI.cells
  obtain ⟨ht1, ht2⟩ := ht
  obtain ⟨hi1, hi2⟩ := hi
  obtain ⟨hw1, hw2⟩ := hw
  refine fn_of (M := (yX11_entry, cX11_entry, 4, (some .int))) (cd := k_X11_entry) (L := [some (.ref 0), some (.int (iI t)), some (.int (iI i)), some (.int (iI w))]) rfl (Nat.le_of_ble_eq_true rfl) rfl rfl ?_
  refine aw_aload_n rfl rfl rfl ?_
  refine aw_iload_n rfl rfl rfl ?_
  refine aw_fnc (c_isThing hC hI ⟨by omega, by omega⟩) rfl rfl rfl (Nat.le_of_ble_eq_true rfl) (Or.inr ⟨_, rfl, (hC.f.k 0 rfl)⟩) rfl ?_
  refine aw_ifeqb (p' := 27) rfl rfl rfl (fun c1 => ?_) (fun c1 => ?_)
  · refine aw_iconst rfl rfl ?_
    refine aw_reti rfl ?_
    refine ⟨?_, rfl⟩
    first | (rw [zit_f (by omega)]; done) | (congr 3; exact zit_congr ⟨fun q => ⟨by omega, q⟩, fun q => q.2⟩)
  · refine aw_aload_n rfl rfl rfl ?_
    refine aw_getr (b := 6) rfl rfl (hC.f.k 0 rfl) (hC.f.r 0 3 6 rfl) rfl ?_
    refine aw_iload_n rfl rfl rfl ?_
    refine aw_fnc (c_get (hC.f.k 6 rfl) hC.lT (by omega) (by omega) (by omega)) rfl rfl rfl (Nat.le_of_ble_eq_true rfl) (Or.inr ⟨_, rfl, (hC.f.k 6 rfl)⟩) rfl ?_
    refine aw_cast rfl rfl (hC.kT (by omega) (by omega)) rfl ?_
    refine aw_iload_n rfl rfl rfl ?_
    refine aw_iload_n rfl rfl rfl ?_
    refine aw_fnc (c_entryValue hC hI (by omega) (by omega) ⟨by omega, by omega⟩ ⟨by omega, by omega⟩) rfl rfl rfl (Nat.le_of_ble_eq_true rfl) (Or.inr ⟨_, rfl, (hC.kT (by omega) (by omega))⟩) rfl ?_
    refine aw_goto (p' := 28) rfl rfl ?_
    refine aw_reti rfl ?_
    refine ⟨?_, rfl⟩
    first | (rw [zit_f (by omega)]; done) | (congr 3; exact zit_congr ⟨fun q => ⟨by omega, q⟩, fun q => q.2⟩)
set_option maxRecDepth 10000 in
set_option maxHeartbeats 2000000 in
theorem c_holder {d : Nat} {sz : Nat} {κ : Nat × (Nat → Int32) × Option Nat} {A : Nat → Int → Int} {g : Nat → Nat} {σ : az_S} (hC : CR sz κ A g σ) (hI : MI sz A) {t : Int} (ht : inI t) {x : Int} (hx : inI x) {h : Int} (hh : inI h) {y : Int} (hy : inI y) : cal (d + 5) 110 [.ref 0, .int (iI t), .int (iI x), .int (iI h), .int (iI y)] σ (fun r τ => r = some (.int (iI (zit (((0 ≤ t ∧ t ≤ A 42 12 - 1) ∧ (0 ≤ x ∧ x ≤ 3599) ∧ (0 ≤ h ∧ h ≤ 11) ∧ (0 ≤ y ∧ y ≤ 3599)) ∧ 0 ≤ mH A t x y) (mWho A t x h y) (-1)))) ∧ CR sz κ A g τ ∧ Mod σ τ [15]) := by
  have hpe := hI.people
  have hth := hI.things
  have hst := hI.stalls
  have hce := hI.cells
  obtain ⟨ht1, ht2⟩ := ht
  obtain ⟨hx1, hx2⟩ := hx
  obtain ⟨hh1, hh2⟩ := hh
  obtain ⟨hy1, hy2⟩ := hy
  refine cal_of (M := (yX11_holder, cX11_holder, 5, (some .int))) (cd := k_X11_holder) (L := [some (.ref 0), some (.int (iI t)), some (.int (iI x)), some (.int (iI h)), some (.int (iI y))]) rfl (Nat.le_of_ble_eq_true rfl) rfl rfl ?_
  refine aw_aload_n rfl rfl rfl ?_
  refine aw_iload_n rfl rfl rfl ?_
  refine aw_fnc (c_isThing hC hI ⟨by omega, by omega⟩) rfl rfl rfl (Nat.le_of_ble_eq_true rfl) (Or.inr ⟨_, rfl, (hC.f.k 0 rfl)⟩) rfl ?_
  refine aw_ifeqb (p' := 30) rfl rfl rfl (fun c1 => ?_) (fun c1 => ?_)
  · refine aw_iconst rfl rfl ?_
    refine aw_reti rfl ?_
    first | (refine ⟨?_, hC, Mod.rf⟩; rw [zit_f (by omega)]; done) | (refine ⟨?_, hC, Mod.rf⟩; rw [zit_t (by omega)])
  · refine aw_iload_n rfl rfl rfl ?_
    refine aw_fnc (c_isDay ⟨by omega, by omega⟩) rfl rfl rfl (Nat.le_of_ble_eq_true rfl) (Or.inl rfl) rfl ?_
    refine aw_ifeqb (p' := 30) rfl rfl rfl (fun c2 => ?_) (fun c2 => ?_)
    · refine aw_iconst rfl rfl ?_
      refine aw_reti rfl ?_
      first | (refine ⟨?_, hC, Mod.rf⟩; rw [zit_f (by omega)]; done) | (refine ⟨?_, hC, Mod.rf⟩; rw [zit_t (by omega)])
    · refine aw_iload_n rfl rfl rfl ?_
      refine aw_fnc (c_isHour ⟨by omega, by omega⟩) rfl rfl rfl (Nat.le_of_ble_eq_true rfl) (Or.inl rfl) rfl ?_
      refine aw_ifeqb (p' := 30) rfl rfl rfl (fun c3 => ?_) (fun c3 => ?_)
      · refine aw_iconst rfl rfl ?_
        refine aw_reti rfl ?_
        first | (refine ⟨?_, hC, Mod.rf⟩; rw [zit_f (by omega)]; done) | (refine ⟨?_, hC, Mod.rf⟩; rw [zit_t (by omega)])
      · refine aw_iload rfl rfl rfl ?_
        refine aw_fnc (c_isDay ⟨by omega, by omega⟩) rfl rfl rfl (Nat.le_of_ble_eq_true rfl) (Or.inl rfl) rfl ?_
        refine aw_ifneb (p' := 32) rfl rfl rfl (fun c4 => ?_) (fun c4 => ?_)
        · refine aw_aload_n rfl rfl rfl ?_
          refine aw_getr (b := 6) rfl rfl (hC.f.k 0 rfl) (hC.f.r 0 3 6 rfl) rfl ?_
          refine aw_iload_n rfl rfl rfl ?_
          refine aw_fnc (c_get (hC.f.k 6 rfl) hC.lT (by omega) (by omega) (by omega)) rfl rfl rfl (Nat.le_of_ble_eq_true rfl) (Or.inr ⟨_, rfl, (hC.f.k 6 rfl)⟩) rfl ?_
          refine aw_cast rfl rfl (hC.kT (by omega) (by omega)) rfl ?_
          refine aw_iload_n rfl rfl rfl ?_
          refine aw_iload rfl rfl rfl ?_
          refine aw_fnc (c_heightOn hC hI (by omega) (by omega) (by omega) (by omega) (by omega) (by omega)) rfl rfl rfl (Nat.le_of_ble_eq_true rfl) (Or.inr ⟨_, rfl, (hC.kT (by omega) (by omega))⟩) rfl ?_
          have hrH5 := mH_range (hI.thing t (by omega) (by omega)) x y
          refine aw_iconst rfl rfl ?_
          refine aw_icmp (p' := 55) rfl ⟨by omega, by omega⟩ ⟨by omega, by omega⟩ rfl rfl (fun c6 => ?_) (fun c6 => ?_)
          · dsimp only [zc] at c6
            refine aw_aload_n rfl rfl rfl ?_
            refine aw_iload_n rfl rfl rfl ?_
            refine aw_iload_n rfl rfl rfl ?_
            refine aw_iload rfl rfl rfl ?_
            refine aw_calc (c_findHolders hC hI (by omega) (by omega) (by omega) (by omega) (by omega) (by omega)) rfl rfl rfl (Nat.le_of_ble_eq_true rfl) (Or.inr ⟨_, rfl, (hC.f.k 0 rfl)⟩) rfl ?_
            rintro _ τ7 ⟨rfl, hM7, hD7, hH7⟩
            change aw _ _ _ _ 63 [some (.ref 0), some (.int (iI _)), some (.int (iI _)), some (.int (iI _)), some (.int (iI _))] [] _
            refine aw_iload_n rfl rfl rfl ?_
            refine aw_aload_n rfl rfl rfl ?_
            refine aw_getr (b := 15) rfl rfl (hM7.f.k 0 rfl) (hM7.f.r 0 11 15 rfl) rfl ?_
            refine aw_alen (N := 24) rfl (hM7.f.s 15 rfl) (by decide) rfl ?_
            refine aw_icmp (p' := 81) rfl ⟨by omega, by omega⟩ ⟨by omega, by omega⟩ rfl rfl (fun c8 => ?_) (fun c8 => ?_)
            · dsimp only [zc] at c8
              omega
            · dsimp only [zc] at c8
              refine aw_aload_n rfl rfl rfl ?_
              refine aw_getr (b := 15) rfl rfl (hM7.f.k 0 rfl) (hM7.f.r 0 11 15 rfl) rfl ?_
              refine aw_iload_n rfl rfl rfl ?_
              refine aw_as (N := 24) rfl (hM7.f.s 15 rfl) (by omega) (by omega) (by omega) rfl (fun _ _ => ?_)
              rw [hH7 t (by omega) (by omega)]
              refine aw_goto (p' := 82) rfl rfl ?_
              refine aw_reti rfl ?_
              first | (refine ⟨?_, hC, Mod.rf⟩; rw [zit_f (by omega)]; done) | (refine ⟨?_, hM7, (hD7.su (T := [15]) rfl)⟩; rw [zit_t (by omega)])
          · dsimp only [zc] at c6
            refine aw_iconst rfl rfl ?_
            refine aw_reti rfl ?_
            first | (refine ⟨?_, hC, Mod.rf⟩; rw [zit_f (by omega)]; done) | (refine ⟨?_, hC, Mod.rf⟩; rw [zit_t (by omega)])
        · refine aw_iconst rfl rfl ?_
          refine aw_reti rfl ?_
          first | (refine ⟨?_, hC, Mod.rf⟩; rw [zit_f (by omega)]; done) | (refine ⟨?_, hC, Mod.rf⟩; rw [zit_t (by omega)])
set_option maxRecDepth 10000 in
set_option maxHeartbeats 2000000 in
theorem c_shaded {d : Nat} {sz : Nat} {κ : Nat × (Nat → Int32) × Option Nat} {A : Nat → Int → Int} {g : Nat → Nat} {σ : az_S} (hC : CR sz κ A g σ) (hI : MI sz A) {c : Int} (hc : inI c) {x : Int} (hx : inI x) {h : Int} (hh : inI h) {y : Int} (hy : inI y) : cal (d + 5) 111 [.ref 0, .int (iI c), .int (iI x), .int (iI h), .int (iI y)] σ (fun r τ => r = some (.int (iI (zit ((0 ≤ c ∧ c ≤ A 42 2 - 1) ∧ (0 ≤ x ∧ x ≤ 3599) ∧ (0 ≤ h ∧ h ≤ 11) ∧ (0 ≤ y ∧ y ≤ 3599)) (mSet A x h y c) (-1)))) ∧ CR sz κ A g τ ∧ Mod σ τ [15, 29, 30, 31, 32]) := by
  have hpe := hI.people
  have hth := hI.things
  have hst := hI.stalls
  have hce := hI.cells
  obtain ⟨hc1, hc2⟩ := hc
  obtain ⟨hx1, hx2⟩ := hx
  obtain ⟨hh1, hh2⟩ := hh
  obtain ⟨hy1, hy2⟩ := hy
  refine cal_of (M := (yX11_shaded, cX11_shaded, 5, (some .int))) (cd := k_X11_shaded) (L := [some (.ref 0), some (.int (iI c)), some (.int (iI x)), some (.int (iI h)), some (.int (iI y))]) rfl (Nat.le_of_ble_eq_true rfl) rfl rfl ?_
  refine aw_aload_n rfl rfl rfl ?_
  refine aw_getr (b := 28) rfl rfl (hC.f.k 0 rfl) (hC.f.r 0 0 28 rfl) rfl ?_
  refine aw_iload_n rfl rfl rfl ?_
  refine aw_fnc (c_has hC hI ⟨by omega, by omega⟩) rfl rfl rfl (Nat.le_of_ble_eq_true rfl) (Or.inr ⟨_, rfl, (hC.f.k 28 rfl)⟩) rfl ?_
  refine aw_ifeqb (p' := 33) rfl rfl rfl (fun c1 => ?_) (fun c1 => ?_)
  · refine aw_iconst rfl rfl ?_
    refine aw_reti rfl ?_
    first | (refine ⟨?_, hC, Mod.rf⟩; rw [zit_f (by omega)]; done) | (refine ⟨?_, hC, Mod.rf⟩; rw [zit_t (by omega)])
  · refine aw_iload_n rfl rfl rfl ?_
    refine aw_fnc (c_isDay ⟨by omega, by omega⟩) rfl rfl rfl (Nat.le_of_ble_eq_true rfl) (Or.inl rfl) rfl ?_
    refine aw_ifeqb (p' := 33) rfl rfl rfl (fun c2 => ?_) (fun c2 => ?_)
    · refine aw_iconst rfl rfl ?_
      refine aw_reti rfl ?_
      first | (refine ⟨?_, hC, Mod.rf⟩; rw [zit_f (by omega)]; done) | (refine ⟨?_, hC, Mod.rf⟩; rw [zit_t (by omega)])
    · refine aw_iload_n rfl rfl rfl ?_
      refine aw_fnc (c_isHour ⟨by omega, by omega⟩) rfl rfl rfl (Nat.le_of_ble_eq_true rfl) (Or.inl rfl) rfl ?_
      refine aw_ifeqb (p' := 33) rfl rfl rfl (fun c3 => ?_) (fun c3 => ?_)
      · refine aw_iconst rfl rfl ?_
        refine aw_reti rfl ?_
        first | (refine ⟨?_, hC, Mod.rf⟩; rw [zit_f (by omega)]; done) | (refine ⟨?_, hC, Mod.rf⟩; rw [zit_t (by omega)])
      · refine aw_iload rfl rfl rfl ?_
        refine aw_fnc (c_isDay ⟨by omega, by omega⟩) rfl rfl rfl (Nat.le_of_ble_eq_true rfl) (Or.inl rfl) rfl ?_
        refine aw_ifneb (p' := 35) rfl rfl rfl (fun c4 => ?_) (fun c4 => ?_)
        · refine aw_aload_n rfl rfl rfl ?_
          refine aw_getr (b := 29) rfl rfl (hC.f.k 0 rfl) (hC.f.r 0 6 29 rfl) rfl ?_
          refine aw_iload_n rfl rfl rfl ?_
          refine aw_iload rfl rfl rfl ?_
          refine aw_calc (c_lookAt hC hI (by omega) (by omega) (by omega) (by omega)) rfl rfl rfl (Nat.le_of_ble_eq_true rfl) (Or.inr ⟨_, rfl, (hC.f.k 29 rfl)⟩) rfl ?_
          rintro _ τ5 ⟨rfl, hM5, hD5, hS5⟩
          change aw _ _ _ _ 45 [some (.ref 0), some (.int (iI _)), some (.int (iI _)), some (.int (iI _)), some (.int (iI _))] [] _
          refine aw_aload_n rfl rfl rfl ?_
          refine aw_getr (b := 29) rfl rfl (hM5.f.k 0 rfl) (hM5.f.r 0 6 29 rfl) rfl ?_
          refine aw_iload_n rfl rfl rfl ?_
          refine aw_calc (c_turnTo hM5 hI (by omega) (by omega) (by omega) (by omega) (by omega) (by omega) hS5) rfl rfl rfl (Nat.le_of_ble_eq_true rfl) (Or.inr ⟨_, rfl, (hM5.f.k 29 rfl)⟩) rfl ?_
          rintro _ τ6 ⟨rfl, hM6, hD6, hT6⟩
          change aw _ _ _ _ 53 [some (.ref 0), some (.int (iI _)), some (.int (iI _)), some (.int (iI _)), some (.int (iI _))] [] _
          refine aw_aload_n rfl rfl rfl ?_
          refine aw_getr (b := 29) rfl rfl (hM6.f.k 0 rfl) (hM6.f.r 0 6 29 rfl) rfl ?_
          refine aw_iload_n rfl rfl rfl ?_
          refine aw_fnc (c_shaders hM6 hI (by omega) (by omega) (by omega) (by omega) (by omega) (by omega) hT6 (by omega) (by omega)) rfl rfl rfl (Nat.le_of_ble_eq_true rfl) (Or.inr ⟨_, rfl, (hM6.f.k 29 rfl)⟩) rfl ?_
          have hsb7 := mSet_b hI x h y c
          refine aw_reti rfl ?_
          first | (refine ⟨?_, hC, Mod.rf⟩; rw [zit_f (by omega)]; done) | (refine ⟨?_, hM6, ((hD5.su (T := [15, 29, 30, 31, 32]) rfl).tr (hD6.su (T := [15, 29, 30, 31, 32]) rfl))⟩; rw [zit_t (by omega)])
        · refine aw_iconst rfl rfl ?_
          refine aw_reti rfl ?_
          first | (refine ⟨?_, hC, Mod.rf⟩; rw [zit_f (by omega)]; done) | (refine ⟨?_, hC, Mod.rf⟩; rw [zit_t (by omega)])
set_option maxRecDepth 10000 in
set_option maxHeartbeats 2000000 in
theorem c_shadow {d : Nat} {sz : Nat} {κ : Nat × (Nat → Int32) × Option Nat} {A : Nat → Int → Int} {g : Nat → Nat} {σ : az_S} (hC : CR sz κ A g σ) (hI : MI sz A) {t : Int} (ht : inI t) {x : Int} (hx : inI x) {h : Int} (hh : inI h) {y : Int} (hy : inI y) : cal (d + 5) 113 [.ref 0, .int (iI t), .int (iI x), .int (iI h), .int (iI y)] σ (fun r τ => r = some (.int (iI (zit ((0 ≤ t ∧ t ≤ A 42 12 - 1) ∧ (0 ≤ x ∧ x ≤ 3599) ∧ (0 ≤ h ∧ h ≤ 11) ∧ (0 ≤ y ∧ y ≤ 3599)) (mShadow A t x h y) (-1)))) ∧ CR sz κ A g τ ∧ Mod σ τ [15, 29, 30, 31, 32]) := by
  have hpe := hI.people
  have hth := hI.things
  have hst := hI.stalls
  have hce := hI.cells
  obtain ⟨ht1, ht2⟩ := ht
  obtain ⟨hx1, hx2⟩ := hx
  obtain ⟨hh1, hh2⟩ := hh
  obtain ⟨hy1, hy2⟩ := hy
  refine cal_of (M := (yX11_shadow, cX11_shadow, 5, (some .int))) (cd := k_X11_shadow) (L := [some (.ref 0), some (.int (iI t)), some (.int (iI x)), some (.int (iI h)), some (.int (iI y))]) rfl (Nat.le_of_ble_eq_true rfl) rfl rfl ?_
  refine aw_aload_n rfl rfl rfl ?_
  refine aw_iload_n rfl rfl rfl ?_
  refine aw_fnc (c_isThing hC hI ⟨by omega, by omega⟩) rfl rfl rfl (Nat.le_of_ble_eq_true rfl) (Or.inr ⟨_, rfl, (hC.f.k 0 rfl)⟩) rfl ?_
  refine aw_ifeqb (p' := 30) rfl rfl rfl (fun c1 => ?_) (fun c1 => ?_)
  · refine aw_iconst rfl rfl ?_
    refine aw_reti rfl ?_
    first | (refine ⟨?_, hC, Mod.rf⟩; rw [zit_f (by omega)]; done) | (refine ⟨?_, hC, Mod.rf⟩; rw [zit_t (by omega)])
  · refine aw_iload_n rfl rfl rfl ?_
    refine aw_fnc (c_isDay ⟨by omega, by omega⟩) rfl rfl rfl (Nat.le_of_ble_eq_true rfl) (Or.inl rfl) rfl ?_
    refine aw_ifeqb (p' := 30) rfl rfl rfl (fun c2 => ?_) (fun c2 => ?_)
    · refine aw_iconst rfl rfl ?_
      refine aw_reti rfl ?_
      first | (refine ⟨?_, hC, Mod.rf⟩; rw [zit_f (by omega)]; done) | (refine ⟨?_, hC, Mod.rf⟩; rw [zit_t (by omega)])
    · refine aw_iload_n rfl rfl rfl ?_
      refine aw_fnc (c_isHour ⟨by omega, by omega⟩) rfl rfl rfl (Nat.le_of_ble_eq_true rfl) (Or.inl rfl) rfl ?_
      refine aw_ifeqb (p' := 30) rfl rfl rfl (fun c3 => ?_) (fun c3 => ?_)
      · refine aw_iconst rfl rfl ?_
        refine aw_reti rfl ?_
        first | (refine ⟨?_, hC, Mod.rf⟩; rw [zit_f (by omega)]; done) | (refine ⟨?_, hC, Mod.rf⟩; rw [zit_t (by omega)])
      · refine aw_iload rfl rfl rfl ?_
        refine aw_fnc (c_isDay ⟨by omega, by omega⟩) rfl rfl rfl (Nat.le_of_ble_eq_true rfl) (Or.inl rfl) rfl ?_
        refine aw_ifneb (p' := 32) rfl rfl rfl (fun c4 => ?_) (fun c4 => ?_)
        · refine aw_aload_n rfl rfl rfl ?_
          refine aw_getr (b := 29) rfl rfl (hC.f.k 0 rfl) (hC.f.r 0 6 29 rfl) rfl ?_
          refine aw_iload_n rfl rfl rfl ?_
          refine aw_iload rfl rfl rfl ?_
          refine aw_calc (c_lookAt hC hI (by omega) (by omega) (by omega) (by omega)) rfl rfl rfl (Nat.le_of_ble_eq_true rfl) (Or.inr ⟨_, rfl, (hC.f.k 29 rfl)⟩) rfl ?_
          rintro _ τ5 ⟨rfl, hM5, hD5, hS5⟩
          change aw _ _ _ _ 42 [some (.ref 0), some (.int (iI _)), some (.int (iI _)), some (.int (iI _)), some (.int (iI _))] [] _
          refine aw_aload_n rfl rfl rfl ?_
          refine aw_getr (b := 29) rfl rfl (hM5.f.k 0 rfl) (hM5.f.r 0 6 29 rfl) rfl ?_
          refine aw_iload_n rfl rfl rfl ?_
          refine aw_calc (c_turnTo hM5 hI (by omega) (by omega) (by omega) (by omega) (by omega) (by omega) hS5) rfl rfl rfl (Nat.le_of_ble_eq_true rfl) (Or.inr ⟨_, rfl, (hM5.f.k 29 rfl)⟩) rfl ?_
          rintro _ τ6 ⟨rfl, hM6, hD6, hT6⟩
          change aw _ _ _ _ 50 [some (.ref 0), some (.int (iI _)), some (.int (iI _)), some (.int (iI _)), some (.int (iI _))] [] _
          refine aw_aload_n rfl rfl rfl ?_
          refine aw_getr (b := 29) rfl rfl (hM6.f.k 0 rfl) (hM6.f.r 0 6 29 rfl) rfl ?_
          refine aw_iload_n rfl rfl rfl ?_
          refine aw_fnc (c_cellsBy hM6 hI (by omega) (by omega) (by omega) (by omega) (by omega) (by omega) hT6 (by omega) (by omega)) rfl rfl rfl (Nat.le_of_ble_eq_true rfl) (Or.inr ⟨_, rfl, (hM6.f.k 29 rfl)⟩) rfl ?_
          refine aw_reti rfl ?_
          first | (refine ⟨?_, hC, Mod.rf⟩; rw [zit_f (by omega)]; done) | (refine ⟨?_, hM6, ((hD5.su (T := [15, 29, 30, 31, 32]) rfl).tr (hD6.su (T := [15, 29, 30, 31, 32]) rfl))⟩; rw [zit_t (by omega)])
        · refine aw_iconst rfl rfl ?_
          refine aw_reti rfl ?_
          first | (refine ⟨?_, hC, Mod.rf⟩; rw [zit_f (by omega)]; done) | (refine ⟨?_, hC, Mod.rf⟩; rw [zit_t (by omega)])
set_option maxRecDepth 10000 in
set_option maxHeartbeats 2000000 in
theorem c_parts {d : Nat} {sz : Nat} {κ : Nat × (Nat → Int32) × Option Nat} {A : Nat → Int → Int} {g : Nat → Nat} {σ : az_S} (hC : CR sz κ A g σ) (hI : MI sz A) {p : Int} (hp : inI p) {c : Int} (hc : inI c) {x : Int} (hx : inI x) {h : Int} (hh : inI h) {y : Int} (hy : inI y) : cal (d + 6) 112 [.ref 0, .int (iI p), .int (iI c), .int (iI x), .int (iI h), .int (iI y)] σ (fun r τ => r = some (.int (iI (zit ((0 ≤ p ∧ p ≤ A 42 9 - 1) ∧ (0 ≤ c ∧ c ≤ A 42 2 - 1) ∧ (0 ≤ x ∧ x ≤ 3599) ∧ (0 ≤ h ∧ h ≤ 11) ∧ (0 ≤ y ∧ y ≤ 3599)) (mPart A p c x h y) (-1)))) ∧ CR sz κ A g τ ∧ Mod σ τ [15, 29, 30, 31, 32]) := by
  have hpe := hI.people
  have hth := hI.things
  have hst := hI.stalls
  have hce := hI.cells
  obtain ⟨hp1, hp2⟩ := hp
  obtain ⟨hc1, hc2⟩ := hc
  obtain ⟨hx1, hx2⟩ := hx
  obtain ⟨hh1, hh2⟩ := hh
  obtain ⟨hy1, hy2⟩ := hy
  refine cal_of (M := (yX11_parts, cX11_parts, 6, (some .int))) (cd := k_X11_parts) (L := [some (.ref 0), some (.int (iI p)), some (.int (iI c)), some (.int (iI x)), some (.int (iI h)), some (.int (iI y))]) rfl (Nat.le_of_ble_eq_true rfl) rfl rfl ?_
  refine aw_aload_n rfl rfl rfl ?_
  refine aw_iload_n rfl rfl rfl ?_
  refine aw_fnc (c_isPerson hC hI ⟨by omega, by omega⟩) rfl rfl rfl (Nat.le_of_ble_eq_true rfl) (Or.inr ⟨_, rfl, (hC.f.k 0 rfl)⟩) rfl ?_
  refine aw_ifeqb (p' := 42) rfl rfl rfl (fun c1 => ?_) (fun c1 => ?_)
  · refine aw_iconst rfl rfl ?_
    refine aw_reti rfl ?_
    first | (refine ⟨?_, hC, Mod.rf⟩; rw [zit_f (by omega)]; done) | (refine ⟨?_, hC, Mod.rf⟩; rw [zit_t (by omega)])
  · refine aw_aload_n rfl rfl rfl ?_
    refine aw_getr (b := 28) rfl rfl (hC.f.k 0 rfl) (hC.f.r 0 0 28 rfl) rfl ?_
    refine aw_iload_n rfl rfl rfl ?_
    refine aw_fnc (c_has hC hI ⟨by omega, by omega⟩) rfl rfl rfl (Nat.le_of_ble_eq_true rfl) (Or.inr ⟨_, rfl, (hC.f.k 28 rfl)⟩) rfl ?_
    refine aw_ifeqb (p' := 42) rfl rfl rfl (fun c2 => ?_) (fun c2 => ?_)
    · refine aw_iconst rfl rfl ?_
      refine aw_reti rfl ?_
      first | (refine ⟨?_, hC, Mod.rf⟩; rw [zit_f (by omega)]; done) | (refine ⟨?_, hC, Mod.rf⟩; rw [zit_t (by omega)])
    · refine aw_iload_n rfl rfl rfl ?_
      refine aw_fnc (c_isDay ⟨by omega, by omega⟩) rfl rfl rfl (Nat.le_of_ble_eq_true rfl) (Or.inl rfl) rfl ?_
      refine aw_ifeqb (p' := 42) rfl rfl rfl (fun c3 => ?_) (fun c3 => ?_)
      · refine aw_iconst rfl rfl ?_
        refine aw_reti rfl ?_
        first | (refine ⟨?_, hC, Mod.rf⟩; rw [zit_f (by omega)]; done) | (refine ⟨?_, hC, Mod.rf⟩; rw [zit_t (by omega)])
      · refine aw_iload rfl rfl rfl ?_
        refine aw_fnc (c_isHour ⟨by omega, by omega⟩) rfl rfl rfl (Nat.le_of_ble_eq_true rfl) (Or.inl rfl) rfl ?_
        refine aw_ifeqb (p' := 42) rfl rfl rfl (fun c4 => ?_) (fun c4 => ?_)
        · refine aw_iconst rfl rfl ?_
          refine aw_reti rfl ?_
          first | (refine ⟨?_, hC, Mod.rf⟩; rw [zit_f (by omega)]; done) | (refine ⟨?_, hC, Mod.rf⟩; rw [zit_t (by omega)])
        · refine aw_iload rfl rfl rfl ?_
          refine aw_fnc (c_isDay ⟨by omega, by omega⟩) rfl rfl rfl (Nat.le_of_ble_eq_true rfl) (Or.inl rfl) rfl ?_
          refine aw_ifneb (p' := 44) rfl rfl rfl (fun c5 => ?_) (fun c5 => ?_)
          · refine aw_aload_n rfl rfl rfl ?_
            refine aw_getr (b := 29) rfl rfl (hC.f.k 0 rfl) (hC.f.r 0 6 29 rfl) rfl ?_
            refine aw_iload_n rfl rfl rfl ?_
            refine aw_iload rfl rfl rfl ?_
            refine aw_calc (c_lookAt hC hI (by omega) (by omega) (by omega) (by omega)) rfl rfl rfl (Nat.le_of_ble_eq_true rfl) (Or.inr ⟨_, rfl, (hC.f.k 29 rfl)⟩) rfl ?_
            rintro _ τ6 ⟨rfl, hM6, hD6, hS6⟩
            change aw _ _ _ _ 54 [some (.ref 0), some (.int (iI _)), some (.int (iI _)), some (.int (iI _)), some (.int (iI _)), some (.int (iI _))] [] _
            refine aw_aload_n rfl rfl rfl ?_
            refine aw_getr (b := 29) rfl rfl (hM6.f.k 0 rfl) (hM6.f.r 0 6 29 rfl) rfl ?_
            refine aw_iload rfl rfl rfl ?_
            refine aw_calc (c_turnTo hM6 hI (by omega) (by omega) (by omega) (by omega) (by omega) (by omega) hS6) rfl rfl rfl (Nat.le_of_ble_eq_true rfl) (Or.inr ⟨_, rfl, (hM6.f.k 29 rfl)⟩) rfl ?_
            rintro _ τ7 ⟨rfl, hM7, hD7, hT7⟩
            change aw _ _ _ _ 63 [some (.ref 0), some (.int (iI _)), some (.int (iI _)), some (.int (iI _)), some (.int (iI _)), some (.int (iI _))] [] _
            refine aw_aload_n rfl rfl rfl ?_
            refine aw_getr (b := 29) rfl rfl (hM7.f.k 0 rfl) (hM7.f.r 0 6 29 rfl) rfl ?_
            refine aw_aload_n rfl rfl rfl ?_
            refine aw_iload_n rfl rfl rfl ?_
            refine aw_iload_n rfl rfl rfl ?_
            refine aw_iload rfl rfl rfl ?_
            refine aw_iload rfl rfl rfl ?_
            refine aw_calc (c_heldBy hM7 hI ⟨by omega, by omega⟩ (by omega) (by omega) (by omega) (by omega) (by omega) (by omega)) rfl rfl rfl (Nat.le_of_ble_eq_true rfl) (Or.inr ⟨_, rfl, (hM7.f.k 0 rfl)⟩) rfl ?_
            rintro _ τ8 ⟨rfl, hM8, hD8⟩
            change aw _ _ _ _ 77 [some (.ref 0), some (.int (iI _)), some (.int (iI _)), some (.int (iI _)), some (.int (iI _)), some (.int (iI _))] [.int (iI _), .ref 29] _
            refine aw_iload_n rfl rfl rfl ?_
            refine aw_fnc (c_partsOf hM8 hI (by omega) (by omega) (by omega) (by omega) (by omega) (by omega) (hT7.mod hD8 rfl) (by omega) (by omega)) rfl rfl rfl (Nat.le_of_ble_eq_true rfl) (Or.inr ⟨_, rfl, (hM8.f.k 29 rfl)⟩) rfl ?_
            refine aw_reti rfl ?_
            first | (refine ⟨?_, hC, Mod.rf⟩; rw [zit_f (by omega)]; done) | (refine ⟨?_, hM8, (((hD6.su (T := [15, 29, 30, 31, 32]) rfl).tr (hD7.su (T := [15, 29, 30, 31, 32]) rfl)).tr (hD8.su (T := [15, 29, 30, 31, 32]) rfl))⟩; rw [zit_t (by omega)])
          · refine aw_iconst rfl rfl ?_
            refine aw_reti rfl ?_
            first | (refine ⟨?_, hC, Mod.rf⟩; rw [zit_f (by omega)]; done) | (refine ⟨?_, hC, Mod.rf⟩; rw [zit_t (by omega)])
set_option maxRecDepth 10000 in
set_option maxHeartbeats 2000000 in
theorem c_account_l42 {d : Nat} {sz : Nat} {κ : Nat × (Nat → Int32) × Option Nat} {A : Nat → Int → Int} {g : Nat → Nat} {σ : az_S} (hC : CR sz κ A g σ) (hI : MI sz A) {p : Int} (hp : inI p) {u : Int} (hu : inI u) {v : Int} (hv : inI v) {y : Int} (hy : inI y) : ∀ (n : Nat) (τ : az_S) (x s : Int), (v + 1 - x).toNat = n → ((0 ≤ p ∧ p ≤ A 42 9 - 1) ∧ (0 ≤ u ∧ u ≤ 3599) ∧ (u ≤ v ∧ v ≤ 3599) ∧ v - u ≤ 59 ∧ (0 ≤ y ∧ y ≤ 3599)) → CR sz κ A g τ → Mod σ τ [15, 29, 30, 31, 32] → u ≤ x → x ≤ v + 1 → s = sumN (fun i => mDay A p (u + i) y) (x - u).toNat → aw (d + 6) k_X11_account (some .long) (fun r τ => r = some (.long (lI (zit ((0 ≤ p ∧ p ≤ A 42 9 - 1) ∧ (0 ≤ u ∧ u ≤ 3599) ∧ (u ≤ v ∧ v ≤ 3599) ∧ v - u ≤ 59 ∧ (0 ≤ y ∧ y ≤ 3599)) (mAcc A p u v y) (-1)))) ∧ CR sz κ A g τ ∧ Mod σ τ [15, 29, 30, 31, 32]) 42 [some (.ref 0), some (.int (iI p)), some (.int (iI u)), some (.int (iI v)), some (.int (iI y)), some (.long (lI s)), none, some (.int (iI x))] [] τ := by
  intro n
  induction n using Nat.strongRecOn with
  | ind n ih =>
    intro τ x s hn hok hN hD hx0 hx1 hs
    obtain ⟨hp1, hp2⟩ := hp
    obtain ⟨hu1, hu2⟩ := hu
    obtain ⟨hv1, hv2⟩ := hv
    obtain ⟨hy1, hy2⟩ := hy
    have hpe := hI.people
    refine aw_iload rfl rfl rfl ?_
    refine aw_iload_n rfl rfl rfl ?_
    refine aw_icmp (p' := 68) rfl ⟨by omega, by omega⟩ ⟨by omega, by omega⟩ rfl rfl (fun c1 => ?_) (fun c1 => ?_)
    · dsimp only [zc] at c1
      refine aw_lload rfl rfl rfl ?_
      refine aw_retl rfl ?_
      refine ⟨?_, hN, (hD.su (T := [15, 29, 30, 31, 32]) rfl)⟩
      rw [zit_t hok, hs, show x - u = v - u + 1 by omega]
      rfl
    · dsimp only [zc] at c1
      refine aw_lload rfl rfl rfl ?_
      refine aw_aload_n rfl rfl rfl ?_
      refine aw_iload_n rfl rfl rfl ?_
      refine aw_iload rfl rfl rfl ?_
      refine aw_iload rfl rfl rfl ?_
      refine aw_calc (c_partsOnDay hN hI ⟨by omega, by omega⟩ (by omega) (by omega) (by omega) (by omega)) rfl rfl rfl (Nat.le_of_ble_eq_true rfl) (Or.inr ⟨_, rfl, (hN.f.k 0 rfl)⟩) rfl ?_
      rintro _ τ2 ⟨rfl, hM2, hD2⟩
      change aw _ _ _ _ 59 [some (.ref 0), some (.int (iI _)), some (.int (iI _)), some (.int (iI _)), some (.int (iI _)), some (.long (lI _)), none, some (.int (iI _))] [.long (lI _), .long (lI _)] _
      refine aw_ladd rfl rfl ?_
      refine aw_lstore rfl (Nat.le_of_ble_eq_true rfl) rfl rfl ?_
      change aw _ _ _ _ 62 [some (.ref 0), some (.int (iI _)), some (.int (iI _)), some (.int (iI _)), some (.int (iI _)), some (.long (lI _)), none, some (.int (iI _))] _ _
      refine aw_iinc rfl rfl rfl rfl ?_
      change aw _ _ _ _ 65 [some (.ref 0), some (.int (iI _)), some (.int (iI _)), some (.int (iI _)), some (.int (iI _)), some (.long (lI _)), none, some (.int (iI _))] _ _
      refine aw_goto (p' := 42) rfl rfl ?_
      refine ih _ (by omega) _ _ _ rfl hok hM2 ((hD.su (T := [15, 29, 30, 31, 32]) rfl).tr (hD2.su (T := [15, 29, 30, 31, 32]) rfl)) (by omega) (by omega) ?_
      have hq := sumN_s (f := fun i => mDay A p (u + i) y) (t := x - u) (by omega)
      rw [show x + 1 - u = x - u + 1 by omega, hq, hs, show u + (x - u) = x by omega]
set_option maxRecDepth 10000 in
set_option maxHeartbeats 2000000 in
theorem c_account {d : Nat} {sz : Nat} {κ : Nat × (Nat → Int32) × Option Nat} {A : Nat → Int → Int} {g : Nat → Nat} {σ : az_S} (hC : CR sz κ A g σ) (hI : MI sz A) {p : Int} (hp : inI p) {u : Int} (hu : inI u) {v : Int} (hv : inI v) {y : Int} (hy : inI y) : cal (d + 7) 114 [.ref 0, .int (iI p), .int (iI u), .int (iI v), .int (iI y)] σ (fun r τ => r = some (.long (lI (zit ((0 ≤ p ∧ p ≤ A 42 9 - 1) ∧ (0 ≤ u ∧ u ≤ 3599) ∧ (u ≤ v ∧ v ≤ 3599) ∧ v - u ≤ 59 ∧ (0 ≤ y ∧ y ≤ 3599)) (mAcc A p u v y) (-1)))) ∧ CR sz κ A g τ ∧ Mod σ τ [15, 29, 30, 31, 32]) := by
  obtain ⟨hp1, hp2⟩ := hp
  obtain ⟨hu1, hu2⟩ := hu
  obtain ⟨hv1, hv2⟩ := hv
  obtain ⟨hy1, hy2⟩ := hy
  have hpe := hI.people
  refine cal_of (M := (yX11_account, cX11_account, 8, (some .long))) (cd := k_X11_account) (L := [some (.ref 0), some (.int (iI p)), some (.int (iI u)), some (.int (iI v)), some (.int (iI y)), none, none, none]) rfl (Nat.le_of_ble_eq_true rfl) rfl rfl ?_
  refine aw_aload_n rfl rfl rfl ?_
  refine aw_iload_n rfl rfl rfl ?_
  refine aw_fnc (c_isPerson hC hI ⟨by omega, by omega⟩) rfl rfl rfl (Nat.le_of_ble_eq_true rfl) (Or.inr ⟨_, rfl, (hC.f.k 0 rfl)⟩) rfl ?_
  refine aw_ifeqb (p' := 32) rfl rfl rfl (fun c3 => ?_) (fun c3 => ?_)
  · refine aw_ldc2 (-1) rfl rfl rfl ?_
    refine aw_retl rfl ?_
    refine ⟨?_, hC, Mod.rf⟩
    rw [zit_f (by omega)]
  · refine aw_iload_n rfl rfl rfl ?_
    refine aw_iload_n rfl rfl rfl ?_
    refine aw_fnc (c_isSpan ⟨by omega, by omega⟩ ⟨by omega, by omega⟩) rfl rfl rfl (Nat.le_of_ble_eq_true rfl) (Or.inl rfl) rfl ?_
    refine aw_ifeqb (p' := 32) rfl rfl rfl (fun c4 => ?_) (fun c4 => ?_)
    · refine aw_ldc2 (-1) rfl rfl rfl ?_
      refine aw_retl rfl ?_
      refine ⟨?_, hC, Mod.rf⟩
      rw [zit_f (by omega)]
    · refine aw_iload_n rfl rfl rfl ?_
      refine aw_iload_n rfl rfl rfl ?_
      refine aw_isub rfl rfl ?_
      refine aw_bipush rfl rfl rfl ?_
      refine aw_icmp (p' := 32) rfl ⟨by omega, by omega⟩ ⟨by omega, by omega⟩ rfl rfl (fun c5 => ?_) (fun c5 => ?_)
      · dsimp only [zc] at c5
        refine aw_ldc2 (-1) rfl rfl rfl ?_
        refine aw_retl rfl ?_
        refine ⟨?_, hC, Mod.rf⟩
        rw [zit_f (by omega)]
      · dsimp only [zc] at c5
        refine aw_iload rfl rfl rfl ?_
        refine aw_fnc (c_isDay ⟨by omega, by omega⟩) rfl rfl rfl (Nat.le_of_ble_eq_true rfl) (Or.inl rfl) rfl ?_
        refine aw_ifneb (p' := 36) rfl rfl rfl (fun c6 => ?_) (fun c6 => ?_)
        · refine aw_lconst 0 rfl rfl rfl ?_
          refine aw_lstore rfl (Nat.le_of_ble_eq_true rfl) rfl rfl ?_
          change aw _ _ _ _ 39 [some (.ref 0), some (.int (iI _)), some (.int (iI _)), some (.int (iI _)), some (.int (iI _)), some (.long (lI _)), none, none] _ _
          refine aw_iload_n rfl rfl rfl ?_
          refine aw_istore rfl (Nat.le_of_ble_eq_true rfl) rfl rfl ?_
          change aw _ _ _ _ 42 [some (.ref 0), some (.int (iI _)), some (.int (iI _)), some (.int (iI _)), some (.int (iI _)), some (.long (lI _)), none, some (.int (iI _))] _ _
          exact c_account_l42 hC hI ⟨by omega, by omega⟩ ⟨by omega, by omega⟩ ⟨by omega, by omega⟩ ⟨by omega, by omega⟩ _ _ _ 0 rfl (by omega) hC Mod.rf (by omega) (by omega) (by rw [Int.sub_self]; rfl)
        · refine aw_ldc2 (-1) rfl rfl rfl ?_
          refine aw_retl rfl ?_
          refine ⟨?_, hC, Mod.rf⟩
          rw [zit_f (by omega)]
set_option maxRecDepth 10000 in
set_option maxHeartbeats 2000000 in
theorem c_placeOf {d : Nat} {sz : Nat} {κ : Nat × (Nat → Int32) × Option Nat} {A : Nat → Int → Int} {g : Nat → Nat} {σ : az_S} (hC : CR sz κ A g σ) (hI : MI sz A) {s : Int} (hs : inI s) {h : Int} (hh : inI h) : fn (d + 4) 123 [.ref 0, .int (iI s), .int (iI h)] σ (.int (iI (zit ((0 ≤ s ∧ s ≤ A 42 66 - 1) ∧ (0 ≤ h ∧ h ≤ 11)) (A 87 (12 * s + h)) (-1)))) := by
  have hpe := hI.people
  have hth := hI.things
  have hst := hI.stalls
  have hce := hI.cells
  obtain ⟨hs1, hs2⟩ := hs
  obtain ⟨hh1, hh2⟩ := hh
  refine fn_of (M := (yX11_placeOf, cX11_placeOf, 3, (some .int))) (cd := k_X11_placeOf) (L := [some (.ref 0), some (.int (iI s)), some (.int (iI h))]) rfl (Nat.le_of_ble_eq_true rfl) rfl rfl ?_
  refine aw_aload_n rfl rfl rfl ?_
  refine aw_iload_n rfl rfl rfl ?_
  refine aw_fnc (c_isStall hC hI ⟨by omega, by omega⟩) rfl rfl rfl (Nat.le_of_ble_eq_true rfl) (Or.inr ⟨_, rfl, (hC.f.k 0 rfl)⟩) rfl ?_
  refine aw_ifeqb (p' := 26) rfl rfl rfl (fun c1 => ?_) (fun c1 => ?_)
  · refine aw_iconst rfl rfl ?_
    refine aw_reti rfl ?_
    refine ⟨?_, rfl⟩
    first | (rw [zit_f (by omega)]; done) | (congr 3; exact zit_congr ⟨fun q => ⟨by omega, q⟩, fun q => q.2⟩)
  · refine aw_aload_n rfl rfl rfl ?_
    refine aw_getr (b := 8) rfl rfl (hC.f.k 0 rfl) (hC.f.r 0 5 8 rfl) rfl ?_
    refine aw_iload_n rfl rfl rfl ?_
    refine aw_fnc (c_get (hC.f.k 8 rfl) hC.lS (by omega) (by omega) (by omega)) rfl rfl rfl (Nat.le_of_ble_eq_true rfl) (Or.inr ⟨_, rfl, (hC.f.k 8 rfl)⟩) rfl ?_
    refine aw_cast rfl rfl (hC.kS (by omega) (by omega)) rfl ?_
    refine aw_iload_n rfl rfl rfl ?_
    refine aw_fnc (c_cellIn hC hI (by omega) (by omega) ⟨by omega, by omega⟩) rfl rfl rfl (Nat.le_of_ble_eq_true rfl) (Or.inr ⟨_, rfl, (hC.kS (by omega) (by omega))⟩) rfl ?_
    refine aw_goto (p' := 27) rfl rfl ?_
    refine aw_reti rfl ?_
    refine ⟨?_, rfl⟩
    first | (rw [zit_f (by omega)]; done) | (congr 3; exact zit_congr ⟨fun q => ⟨by omega, q⟩, fun q => q.2⟩)
set_option maxRecDepth 10000 in
set_option maxHeartbeats 2000000 in
theorem c_charges {d : Nat} {sz : Nat} {κ : Nat × (Nat → Int32) × Option Nat} {A : Nat → Int → Int} {g : Nat → Nat} {σ : az_S} (hC : CR sz κ A g σ) (hI : MI sz A) : fn (d + 1) 34 [.ref 33] σ (.long (lI (if 0 < A 42 85 then A 42 86 else -1))) := by
  refine fn_of (M := (yX4_charges, cX4_charges, 1, (some .long))) (cd := k_X4_charges) (L := [some (.ref 33)]) rfl (Nat.le_of_ble_eq_true rfl) rfl rfl ?_
  refine aw_aload_n rfl rfl rfl ?_
  refine aw_glk (8) rfl rfl (hC.f.k 33 rfl) rfl hC.path.2.1 rfl (fun _ _ => ?_)
  refine aw_retl rfl ?_
  exact ⟨rfl, rfl⟩
set_option maxRecDepth 10000 in
set_option maxHeartbeats 2000000 in
theorem c_cellOfPath {d : Nat} {sz : Nat} {κ : Nat × (Nat → Int32) × Option Nat} {A : Nat → Int → Int} {g : Nat → Nat} {σ : az_S} (hC : CR sz κ A g σ) (hI : MI sz A) {i : Int} (hi : inI i) : fn (d + 1) 35 [.ref 33, .int (iI i)] σ (.int (iI (if 0 ≤ i ∧ i ≤ A 42 85 - 1 then A 101 i else -1))) := by
  obtain ⟨hi1, hi2⟩ := hi
  have hwk := hI.walks
  refine fn_of (M := (yX4_cellOfPath, cX4_cellOfPath, 2, (some .int))) (cd := k_X4_cellOfPath) (L := [some (.ref 33), some (.int (iI i))]) rfl (Nat.le_of_ble_eq_true rfl) rfl rfl ?_
  refine aw_iload_n rfl rfl rfl ?_
  refine aw_if (p' := 30) rfl ⟨by omega, by omega⟩ rfl rfl (fun c1 => ?_) (fun c1 => ?_)
  · dsimp only [zc] at c1
    refine aw_iconst rfl rfl ?_
    refine aw_reti rfl ?_
    refine ⟨?_, rfl⟩
    first | (rw [if_pos (by omega)]; done) | rw [if_neg (by omega)]
  · dsimp only [zc] at c1
    refine aw_iload_n rfl rfl rfl ?_
    refine aw_aload_n rfl rfl rfl ?_
    refine aw_gk (v := A 42 85) (7) rfl rfl (hC.f.k 33 rfl) rfl hC.path.1 rfl (fun _ _ => ?_)
    refine aw_icmp (p' := 30) rfl ⟨by omega, by omega⟩ ⟨by omega, by omega⟩ rfl rfl (fun c2 => ?_) (fun c2 => ?_)
    · dsimp only [zc] at c2
      refine aw_iconst rfl rfl ?_
      refine aw_reti rfl ?_
      refine ⟨?_, rfl⟩
      first | (rw [if_pos (by omega)]; done) | rw [if_neg (by omega)]
    · dsimp only [zc] at c2
      refine aw_iload_n rfl rfl rfl ?_
      refine aw_aload_n rfl rfl rfl ?_
      refine aw_getr (b := 34) rfl rfl (hC.f.k 33 rfl) (hC.f.r 33 2 34 rfl) rfl ?_
      refine aw_alen (N := 12) rfl (hC.f.s 34 rfl) (by decide) rfl ?_
      refine aw_icmp (p' := 30) rfl ⟨by omega, by omega⟩ ⟨by omega, by omega⟩ rfl rfl (fun c3 => ?_) (fun c3 => ?_)
      · dsimp only [zc] at c3
        refine aw_iconst rfl rfl ?_
        refine aw_reti rfl ?_
        refine ⟨?_, rfl⟩
        first | (rw [if_pos (by omega)]; done) | rw [if_neg (by omega)]
      · dsimp only [zc] at c3
        refine aw_aload_n rfl rfl rfl ?_
        refine aw_getr (b := 34) rfl rfl (hC.f.k 33 rfl) (hC.f.r 33 2 34 rfl) rfl ?_
        refine aw_iload_n rfl rfl rfl ?_
        refine aw_ak (v := (A 101 i)) (N := 12) rfl (hC.f.s 34 rfl) (by omega) (by omega) (by omega) (hC.path.2.2 _ (by omega) (by omega)) rfl (fun _ _ => ?_)
        refine aw_goto (p' := 31) rfl rfl ?_
        refine aw_reti rfl ?_
        refine ⟨?_, rfl⟩
        first | (rw [if_pos (by omega)]; done) | rw [if_neg (by omega)]
set_option maxRecDepth 10000 in
set_option maxHeartbeats 2000000 in
theorem c_walked {d : Nat} {sz : Nat} {κ : Nat × (Nat → Int32) × Option Nat} {A : Nat → Int → Int} {g : Nat → Nat} {σ : az_S} (hC : CR sz κ A g σ) (hI : MI sz A) {i : Int} (hi : inI i) : fn (d + 2) 126 [.ref 0, .int (iI i)] σ (.long (lI (if i = -1 ∧ 0 < A 42 85 then A 42 86 else if 0 ≤ i ∧ i ≤ A 42 85 - 1 then A 101 i else -1))) := by
  obtain ⟨hi1, hi2⟩ := hi
  have hwk := hI.walks
  have hb : inI (if 0 ≤ i ∧ i ≤ A 42 85 - 1 then A 101 i else -1) := by
    split
    · rw [← hC.path.2.2 i (by omega) (by omega)]
      exact ⟨zx_lo _ _ _, zx_hi _ _ _⟩
    · exact ⟨by decide, by decide⟩
  obtain ⟨hb1, hb2⟩ := hb
  refine fn_of (M := (yX11_walked, cX11_walked, 2, (some .long))) (cd := k_X11_walked) (L := [some (.ref 0), some (.int (iI i))]) rfl (Nat.le_of_ble_eq_true rfl) rfl rfl ?_
  refine aw_iload_n rfl rfl rfl ?_
  refine aw_iconst rfl rfl ?_
  refine aw_icmp (p' := 15) rfl ⟨by omega, by omega⟩ ⟨by omega, by omega⟩ rfl rfl (fun c1 => ?_) (fun c1 => ?_)
  · dsimp only [zc] at c1
    refine aw_aload_n rfl rfl rfl ?_
    refine aw_getr (b := 33) rfl rfl (hC.f.k 0 rfl) (hC.f.r 0 9 33 rfl) rfl ?_
    refine aw_iload_n rfl rfl rfl ?_
    refine aw_fnc (c_cellOfPath hC hI ⟨by omega, by omega⟩) rfl rfl rfl (Nat.le_of_ble_eq_true rfl) (Or.inr ⟨_, rfl, (hC.f.k 33 rfl)⟩) rfl ?_
    refine aw_i2l rfl ⟨hb1, hb2⟩ rfl ?_
    refine aw_retl rfl ?_
    refine ⟨?_, rfl⟩
    first | (rw [if_neg (c := i = -1 ∧ 0 < A 42 85) (by omega)]; done) | (by_cases q : 0 < A 42 85; (rw [if_pos q, if_pos ⟨by omega, q⟩]); (rw [if_neg q, if_neg (fun e => q e.2), if_neg (by omega)]))
  · dsimp only [zc] at c1
    refine aw_aload_n rfl rfl rfl ?_
    refine aw_getr (b := 33) rfl rfl (hC.f.k 0 rfl) (hC.f.r 0 9 33 rfl) rfl ?_
    refine aw_fnc (c_charges hC hI) rfl rfl rfl (Nat.le_of_ble_eq_true rfl) (Or.inr ⟨_, rfl, (hC.f.k 33 rfl)⟩) rfl ?_
    refine aw_goto (p' := 24) rfl rfl ?_
    refine aw_retl rfl ?_
    refine ⟨?_, rfl⟩
    first | (rw [if_neg (c := i = -1 ∧ 0 < A 42 85) (by omega)]; done) | (by_cases q : 0 < A 42 85; (rw [if_pos q, if_pos ⟨by omega, q⟩]); (rw [if_neg q, if_neg (fun e => q e.2), if_neg (by omega)]))
set_option maxRecDepth 10000 in
set_option maxHeartbeats 2000000 in
theorem c_fault {d : Nat} {sz : Nat} {κ : Nat × (Nat → Int32) × Option Nat} {A : Nat → Int → Int} {g : Nat → Nat} {σ : az_S} (hC : CR sz κ A g σ) (hI : MI sz A) {i : Int} (hi : inI i) : fn (d + 1) 119 [.ref 0, .int (iI i)] σ (.int (iI (if i = 0 then A 42 48 else if i = 1 then A 42 49 else -1))) := by
  obtain ⟨hi1, hi2⟩ := hi
  refine fn_of (M := (yX11_fault, cX11_fault, 2, (some .int))) (cd := k_X11_fault) (L := [some (.ref 0), some (.int (iI i))]) rfl (Nat.le_of_ble_eq_true rfl) rfl rfl ?_
  refine aw_iload_n rfl rfl rfl ?_
  refine aw_lsb (p' := 28) (0) rfl rfl rfl ⟨by omega, by omega⟩ rfl (fun c1 => ?_) (fun c1 => ?_)
  · refine aw_aload_n rfl rfl rfl ?_
    refine aw_gk (v := A 42 48) (16) rfl rfl (hC.f.k 0 rfl) rfl hC.fault.1 rfl (fun _ _ => ?_)
    refine aw_reti rfl ?_
    refine ⟨?_, rfl⟩
    (repeat (first | rw [if_pos (by omega)] | rw [if_neg (by omega)]))
  refine aw_lsb (p' := 33) (1) rfl rfl rfl ⟨by omega, by omega⟩ rfl (fun c2 => ?_) (fun c2 => ?_)
  · refine aw_aload_n rfl rfl rfl ?_
    refine aw_gk (v := A 42 49) (17) rfl rfl (hC.f.k 0 rfl) rfl hC.fault.2 rfl (fun _ _ => ?_)
    refine aw_reti rfl ?_
    refine ⟨?_, rfl⟩
    (repeat (first | rw [if_pos (by omega)] | rw [if_neg (by omega)]))
  refine aw_lsd (p' := 38) rfl rfl (by simp only [Op.lookupswitch.offset]; (repeat rw [if_neg (by omega)])) ⟨by omega, by omega⟩ rfl ?_
  refine aw_iconst rfl rfl ?_
  refine aw_reti rfl ?_
  refine ⟨?_, rfl⟩
  (repeat (first | rw [if_pos (by omega)] | rw [if_neg (by omega)]))
set_option maxRecDepth 10000 in
set_option maxHeartbeats 2000000 in
theorem c_standing_l4 {d : Nat} {sz : Nat} {κ : Nat × (Nat → Int32) × Option Nat} {A : Nat → Int → Int} {g : Nat → Nat} {σ : az_S} (hC : CR sz κ A g σ) (hI : MI sz A) : ∀ (n : Nat) (i s : Int), (A 42 12 - i).toNat = n → 0 ≤ i → i ≤ A 42 12 → s = mStandN A i.toNat → aw (d + 3) k_X11_standingNow (some .int) (fun r τ => r = some (.int (iI (mStandN A (A 42 12).toNat))) ∧ τ = σ) 4 [some (.ref 0), some (.int (iI s)), some (.int (iI i))] [] σ := by
  intro n
  induction n using Nat.strongRecOn with
  | ind n ih =>
    intro i s hn hi0 hi1 hs
    have hth := hI.things
    have hcl := hI.clock
    have hq := cntN_s (p := fun t => 0 ≤ mH A t (A 42 3) (A 42 3)) hi0
    have hcb := cntN_b (fun t => 0 ≤ mH A t (A 42 3) (A 42 3)) i.toNat
    refine aw_iload_n rfl rfl rfl ?_
    refine aw_aload_n rfl rfl rfl ?_
    refine aw_getr (b := 6) rfl rfl (hC.f.k 0 rfl) (hC.f.r 0 3 6 rfl) rfl ?_
    refine aw_fnc (c_size (hC.f.k 6 rfl) hC.lT.1) rfl rfl rfl (Nat.le_of_ble_eq_true rfl) (Or.inr ⟨_, rfl, (hC.f.k 6 rfl)⟩) rfl ?_
    refine aw_icmp (p' := 50) rfl ⟨by omega, by omega⟩ ⟨by omega, by omega⟩ rfl rfl (fun c1 => ?_) (fun c1 => ?_)
    · dsimp only [zc] at c1
      refine aw_iload_n rfl rfl rfl ?_
      refine aw_reti rfl ?_
      refine ⟨?_, rfl⟩
      rw [hs, show i = A 42 12 by omega]
    · dsimp only [zc] at c1
      refine aw_aload_n rfl rfl rfl ?_
      refine aw_getr (b := 6) rfl rfl (hC.f.k 0 rfl) (hC.f.r 0 3 6 rfl) rfl ?_
      refine aw_iload_n rfl rfl rfl ?_
      refine aw_fnc (c_get (hC.f.k 6 rfl) hC.lT (by omega) (by omega) (by omega)) rfl rfl rfl (Nat.le_of_ble_eq_true rfl) (Or.inr ⟨_, rfl, (hC.f.k 6 rfl)⟩) rfl ?_
      refine aw_cast rfl rfl (hC.kT (by omega) (by omega)) rfl ?_
      refine aw_aload_n rfl rfl rfl ?_
      refine aw_gk (v := A 42 3) (15) rfl rfl (hC.f.k 0 rfl) rfl hC.today rfl (fun _ _ => ?_)
      refine aw_aload_n rfl rfl rfl ?_
      refine aw_gk (v := A 42 3) (15) rfl rfl (hC.f.k 0 rfl) rfl hC.today rfl (fun _ _ => ?_)
      refine aw_fnc (c_heightOn hC hI (by omega) (by omega) (by omega) (by omega) (by omega) (by omega)) rfl rfl rfl (Nat.le_of_ble_eq_true rfl) (Or.inr ⟨_, rfl, (hC.kT (by omega) (by omega))⟩) rfl ?_
      have hrH2 := mH_range (hI.thing i (by omega) (by omega)) (A 42 3) (A 42 3)
      refine aw_iconst rfl rfl ?_
      refine aw_icmp (p' := 44) rfl ⟨by omega, by omega⟩ ⟨by omega, by omega⟩ rfl rfl (fun c3 => ?_) (fun c3 => ?_)
      · dsimp only [zc] at c3
        refine aw_iinc rfl rfl rfl rfl ?_
        change aw _ _ _ _ 47 [some (.ref 0), some (.int (iI _)), some (.int (iI _))] _ _
        refine aw_goto (p' := 4) rfl rfl ?_
        refine ih _ (by omega) _ _ rfl (by omega) (by omega) ?_
        unfold mStandN at hs ⊢
        rw [hq, hs]
        first | (rw [bI_t (by omega)]; done) | (rw [bI_f (by omega)]; omega)
      · dsimp only [zc] at c3
        refine aw_iinc rfl rfl rfl rfl ?_
        change aw _ _ _ _ 44 [some (.ref 0), some (.int (iI _)), some (.int (iI _))] _ _
        refine aw_iinc rfl rfl rfl rfl ?_
        change aw _ _ _ _ 47 [some (.ref 0), some (.int (iI _)), some (.int (iI _))] _ _
        refine aw_goto (p' := 4) rfl rfl ?_
        refine ih _ (by omega) _ _ rfl (by omega) (by omega) ?_
        unfold mStandN at hs ⊢
        rw [hq, hs]
        first | (rw [bI_t (by omega)]; done) | (rw [bI_f (by omega)]; omega)
set_option maxRecDepth 10000 in
set_option maxHeartbeats 2000000 in
theorem c_standing {d : Nat} {sz : Nat} {κ : Nat × (Nat → Int32) × Option Nat} {A : Nat → Int → Int} {g : Nat → Nat} {σ : az_S} (hC : CR sz κ A g σ) (hI : MI sz A) : fn (d + 4) 144 [.ref 0] σ (.int (iI (mStandN A (A 42 12).toNat))) := by
  have hth := hI.things
  have hcl := hI.clock
  refine fn_of (M := (yX11_standingNow, cX11_standingNow, 3, (some .int))) (cd := k_X11_standingNow) (L := [some (.ref 0), none, none]) rfl (Nat.le_of_ble_eq_true rfl) rfl rfl ?_
  refine aw_iconst rfl rfl ?_
  refine aw_istore_n rfl (Nat.le_of_ble_eq_true rfl) rfl rfl ?_
  change aw _ _ _ _ 2 [some (.ref 0), some (.int (iI _)), none] _ _
  refine aw_iconst rfl rfl ?_
  refine aw_istore_n rfl (Nat.le_of_ble_eq_true rfl) rfl rfl ?_
  change aw _ _ _ _ 4 [some (.ref 0), some (.int (iI _)), some (.int (iI _))] _ _
  exact c_standing_l4 hC hI _ 0 0 rfl (by omega) (by omega) rfl
set_option maxRecDepth 10000 in
set_option maxHeartbeats 2000000 in
theorem c_about {d : Nat} {sz : Nat} {κ : Nat × (Nat → Int32) × Option Nat} {A : Nat → Int → Int} {g : Nat → Nat} {σ : az_S} (hC : CR sz κ A g σ) (hI : MI sz A) {w : Int} (hw : inI w) (htr : zx σ (g 700) 6 = A 42 55) : fn (d + 5) 129 [.ref 0, .int (iI w)] σ (.int (iI (if w = 0 then A 42 3 else if w = 1 then A 42 0 else if w = 2 then A 42 1 else if w = 3 then A 42 9 else if w = 4 then A 42 12 else if w = 5 then A 42 27 else if w = 6 then A 42 6 else if w = 7 then A 42 66 else if w = 8 then A 42 55 else if w = 9 then A 42 40 else if w = 10 then mStandN A (A 42 12).toNat else -1))) := by
  obtain ⟨hw1, hw2⟩ := hw
  refine fn_of (M := (yX11_about, cX11_about, 2, (some .int))) (cd := k_X11_about) (L := [some (.ref 0), some (.int (iI w))]) rfl (Nat.le_of_ble_eq_true rfl) rfl rfl ?_
  refine aw_iload_n rfl rfl rfl ?_
  refine aw_tsb (p' := 60) 0 rfl rfl ⟨by omega, by omega⟩ (by omega) rfl (fun c1 => ?_) (fun c1 => ?_)
  · refine aw_aload_n rfl rfl rfl ?_
    refine aw_gk (v := A 42 3) (15) rfl rfl (hC.f.k 0 rfl) rfl hC.today rfl (fun _ _ => ?_)
    refine aw_reti rfl ?_
    refine ⟨?_, rfl⟩
    (repeat (first | rw [if_pos (by omega)] | rw [if_neg (by omega)]))
  refine aw_tsb (p' := 65) 1 rfl rfl ⟨by omega, by omega⟩ (by omega) rfl (fun c2 => ?_) (fun c2 => ?_)
  · refine aw_aload_n rfl rfl rfl ?_
    refine aw_getr (b := 28) rfl rfl (hC.f.k 0 rfl) (hC.f.r 0 0 28 rfl) rfl ?_
    refine aw_gk (v := A 42 0) (0) rfl rfl (hC.f.k 28 rfl) rfl hC.ground.1 rfl (fun _ _ => ?_)
    refine aw_reti rfl ?_
    refine ⟨?_, rfl⟩
    (repeat (first | rw [if_pos (by omega)] | rw [if_neg (by omega)]))
  refine aw_tsb (p' := 73) 2 rfl rfl ⟨by omega, by omega⟩ (by omega) rfl (fun c3 => ?_) (fun c3 => ?_)
  · refine aw_aload_n rfl rfl rfl ?_
    refine aw_getr (b := 28) rfl rfl (hC.f.k 0 rfl) (hC.f.r 0 0 28 rfl) rfl ?_
    refine aw_gk (v := A 42 1) (1) rfl rfl (hC.f.k 28 rfl) rfl hC.ground.2.1 rfl (fun _ _ => ?_)
    refine aw_reti rfl ?_
    refine ⟨?_, rfl⟩
    (repeat (first | rw [if_pos (by omega)] | rw [if_neg (by omega)]))
  refine aw_tsb (p' := 81) 3 rfl rfl ⟨by omega, by omega⟩ (by omega) rfl (fun c4 => ?_) (fun c4 => ?_)
  · refine aw_aload_n rfl rfl rfl ?_
    refine aw_getr (b := 5) rfl rfl (hC.f.k 0 rfl) (hC.f.r 0 2 5 rfl) rfl ?_
    refine aw_fnc (c_size (hC.f.k 5 rfl) hC.lP.1) rfl rfl rfl (Nat.le_of_ble_eq_true rfl) (Or.inr ⟨_, rfl, (hC.f.k 5 rfl)⟩) rfl ?_
    refine aw_reti rfl ?_
    refine ⟨?_, rfl⟩
    (repeat (first | rw [if_pos (by omega)] | rw [if_neg (by omega)]))
  refine aw_tsb (p' := 89) 4 rfl rfl ⟨by omega, by omega⟩ (by omega) rfl (fun c5 => ?_) (fun c5 => ?_)
  · refine aw_aload_n rfl rfl rfl ?_
    refine aw_getr (b := 6) rfl rfl (hC.f.k 0 rfl) (hC.f.r 0 3 6 rfl) rfl ?_
    refine aw_fnc (c_size (hC.f.k 6 rfl) hC.lT.1) rfl rfl rfl (Nat.le_of_ble_eq_true rfl) (Or.inr ⟨_, rfl, (hC.f.k 6 rfl)⟩) rfl ?_
    refine aw_reti rfl ?_
    refine ⟨?_, rfl⟩
    (repeat (first | rw [if_pos (by omega)] | rw [if_neg (by omega)]))
  refine aw_tsb (p' := 97) 5 rfl rfl ⟨by omega, by omega⟩ (by omega) rfl (fun c6 => ?_) (fun c6 => ?_)
  · refine aw_aload_n rfl rfl rfl ?_
    refine aw_getr (b := 7) rfl rfl (hC.f.k 0 rfl) (hC.f.r 0 4 7 rfl) rfl ?_
    refine aw_fnc (c_size (hC.f.k 7 rfl) hC.lG.1) rfl rfl rfl (Nat.le_of_ble_eq_true rfl) (Or.inr ⟨_, rfl, (hC.f.k 7 rfl)⟩) rfl ?_
    refine aw_reti rfl ?_
    refine ⟨?_, rfl⟩
    (repeat (first | rw [if_pos (by omega)] | rw [if_neg (by omega)]))
  refine aw_tsb (p' := 105) 6 rfl rfl ⟨by omega, by omega⟩ (by omega) rfl (fun c7 => ?_) (fun c7 => ?_)
  · refine aw_aload_n rfl rfl rfl ?_
    refine aw_getr (b := 1) rfl rfl (hC.f.k 0 rfl) (hC.f.r 0 1 1 rfl) rfl ?_
    refine aw_gk (v := A 42 6) (3) rfl rfl (hC.f.k 1 rfl) rfl hC.clouds rfl (fun _ _ => ?_)
    refine aw_reti rfl ?_
    refine ⟨?_, rfl⟩
    (repeat (first | rw [if_pos (by omega)] | rw [if_neg (by omega)]))
  refine aw_tsb (p' := 113) 7 rfl rfl ⟨by omega, by omega⟩ (by omega) rfl (fun c8 => ?_) (fun c8 => ?_)
  · refine aw_aload_n rfl rfl rfl ?_
    refine aw_getr (b := 8) rfl rfl (hC.f.k 0 rfl) (hC.f.r 0 5 8 rfl) rfl ?_
    refine aw_fnc (c_size (hC.f.k 8 rfl) hC.lS.1) rfl rfl rfl (Nat.le_of_ble_eq_true rfl) (Or.inr ⟨_, rfl, (hC.f.k 8 rfl)⟩) rfl ?_
    refine aw_reti rfl ?_
    refine ⟨?_, rfl⟩
    (repeat (first | rw [if_pos (by omega)] | rw [if_neg (by omega)]))
  refine aw_tsb (p' := 121) 8 rfl rfl ⟨by omega, by omega⟩ (by omega) rfl (fun c9 => ?_) (fun c9 => ?_)
  · refine aw_aload_n rfl rfl rfl ?_
    refine aw_getr (b := (g 700)) rfl rfl (hC.f.k 0 rfl) hC.force.2.1 rfl ?_
    refine aw_gk (v := A 42 55) (6) rfl rfl hC.kF rfl htr rfl (fun _ _ => ?_)
    refine aw_reti rfl ?_
    refine ⟨?_, rfl⟩
    (repeat (first | rw [if_pos (by omega)] | rw [if_neg (by omega)]))
  refine aw_tsb (p' := 129) 9 rfl rfl ⟨by omega, by omega⟩ (by omega) rfl (fun c10 => ?_) (fun c10 => ?_)
  · refine aw_aload_n rfl rfl rfl ?_
    refine aw_getr (b := 9) rfl rfl (hC.f.k 0 rfl) (hC.f.r 0 7 9 rfl) rfl ?_
    refine aw_gk (v := A 42 40) (1) rfl rfl (hC.f.k 9 rfl) rfl hC.tape.1 rfl (fun _ _ => ?_)
    refine aw_reti rfl ?_
    refine ⟨?_, rfl⟩
    (repeat (first | rw [if_pos (by omega)] | rw [if_neg (by omega)]))
  refine aw_tsb (p' := 137) 10 rfl rfl ⟨by omega, by omega⟩ (by omega) rfl (fun c11 => ?_) (fun c11 => ?_)
  · refine aw_aload_n rfl rfl rfl ?_
    refine aw_fnc (c_standing hC hI) rfl rfl rfl (Nat.le_of_ble_eq_true rfl) (Or.inr ⟨_, rfl, (hC.f.k 0 rfl)⟩) rfl ?_
    refine aw_reti rfl ?_
    refine ⟨?_, rfl⟩
    (repeat (first | rw [if_pos (by omega)] | rw [if_neg (by omega)]))
  refine aw_tsd (p' := 142) rfl ⟨by omega, by omega⟩ (by omega) rfl ?_
  refine aw_iconst rfl rfl ?_
  refine aw_reti rfl ?_
  refine ⟨?_, rfl⟩
  (repeat (first | rw [if_pos (by omega)] | rw [if_neg (by omega)]))
