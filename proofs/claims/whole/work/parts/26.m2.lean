/-! THE REFERENCE'S STATE: what holds of it between calls -/
def bestE (ed et : Nat → Int) (d k : Int) : Nat → Int
  | 0 => -1
  | n + 1 => if et n ≤ k ∧ ed n ≤ d ∧ (bestE ed et d k n < 0 ∨ ed (bestE ed et d k n).toNat ≤ ed n) then (n : Int) else bestE ed et d k n
theorem bestE_lo (ed et : Nat → Int) (d k : Int) (n : Nat) : -1 ≤ bestE ed et d k n ∧ bestE ed et d k n < n := by
  induction n with
  | zero => unfold bestE; omega
  | succ n ih =>
    unfold bestE
    split <;> omega
abbrev meD (σ : az_S) (t i : Nat) : Int := zi σ 57 (41 * t + i)
abbrev meH (σ : az_S) (t i : Nat) : Int := zi σ 58 (41 * t + i)
abbrev meT (σ : az_S) (t i : Nat) : Int := zi σ 59 (41 * t + i)
def absB (t : Nat) (b : Int) : Int := if b < 0 then -1 else 41 * t + b
abbrev mBestE (σ : az_S) (t : Nat) (d k : Int) (n : Nat) : Int := bestE (meD σ t) (meT σ t) d k n
theorem mBest_step {σ : az_S} {t j : Nat} {d k bb i : Int} (hi : i = 41 * t + j) (hbb : bb = absB t (mBestE σ t d k j)) :
    ((zi σ 59 i.toNat ≤ k ∧ zi σ 57 i.toNat ≤ d ∧ (bb < 0 ∨ zi σ 57 bb.toNat ≤ zi σ 57 i.toNat)) → i = absB t (mBestE σ t d k (j + 1))) ∧ (¬ (zi σ 59 i.toNat ≤ k ∧ zi σ 57 i.toNat ≤ d ∧ (bb < 0 ∨ zi σ 57 bb.toNat ≤ zi σ 57 i.toNat)) → bb = absB t (mBestE σ t d k (j + 1))) := by
  have e : i.toNat = 41 * t + j := by omega
  have hr := bestE_lo (meD σ t) (meT σ t) d k j
  have e2 : (bb < 0 ∨ zi σ 57 bb.toNat ≤ zi σ 57 (41 * t + j)) ↔ (mBestE σ t d k j < 0 ∨ meD σ t (mBestE σ t d k j).toNat ≤ meD σ t j) := by
    by_cases h : mBestE σ t d k j < 0
    · have : bb < 0 := by rw [hbb]; unfold absB; rw [if_pos h]; decide
      simp [h, this]
    · have h1 : bb = 41 * t + mBestE σ t d k j := by rw [hbb]; unfold absB; rw [if_neg h]
      have h2 : bb.toNat = 41 * t + (mBestE σ t d k j).toNat := by omega
      have h3 : ¬ bb < 0 := by omega
      simp only [h, h3, false_or, h2]
  rw [e, e2]
  refine ⟨fun h => ?_, fun h => ?_⟩
  · show i = absB t (bestE (meD σ t) (meT σ t) d k (j + 1))
    unfold bestE
    rw [if_pos h]
    unfold absB
    rw [if_neg (by omega)]
    exact hi
  · show bb = absB t (bestE (meD σ t) (meT σ t) d k (j + 1))
    unfold bestE
    rw [if_neg h]
    exact hbb
set_option maxRecDepth 10000 in
set_option maxHeartbeats 1000000 in
theorem m_entryFor_l9 {d : Nat} {sz : Nat} {σ : az_S} (hF : FX sz σ) {t : Int} (ht0 : 0 ≤ t) (ht : t < 24) {x y : Int} (hx : inI x) (hy : inI y) (hn0 : 0 ≤ zi σ 56 t.toNat) (hn1 : zi σ 56 t.toNat ≤ 41) : ∀ (n : Nat) (i bb : Int) (j : Nat), (zi σ 56 t.toNat - j).toNat = n → i = 41 * t.toNat + j → (j : Int) ≤ zi σ 56 t.toNat → bb = absB t.toNat (mBestE σ t.toNat x y j) → aw (d) k_X12_entryFor (some .int) (fun r τ => r = some (.int (iI (absB t.toNat (mBestE σ t.toNat x y (zi σ 56 t.toNat).toNat)))) ∧ τ = σ) 9 [some (.ref 42), some (.int (iI t)), some (.int (iI x)), some (.int (iI y)), some (.int (iI bb)), some (.int (iI i))] [] σ := by
  intro n
  induction n using Nat.strongRecOn with
  | ind n ih =>
    intro i bb j hn hi hj hbb
    obtain ⟨hx1, hx2⟩ := hx
    obtain ⟨hy1, hy2⟩ := hy
    have hstep := mBest_step (d := x) (k := y) hi hbb
    have hr : -1 ≤ mBestE σ t.toNat x y j ∧ mBestE σ t.toNat x y j < j := bestE_lo _ _ x y j
    have hbr : -1 ≤ bb ∧ bb < 41 * t.toNat + j := by
      rw [hbb]; clear hstep; unfold absB; split <;> omega
    obtain ⟨hb1, hb2⟩ := hbr
    refine aw_iload rfl rfl rfl ?_
    refine aw_bipush rfl rfl rfl ?_
    refine aw_iload_n rfl rfl rfl ?_
    refine aw_imul rfl rfl ?_
    refine aw_aload_n rfl rfl rfl ?_
    refine aw_getr (b := 56) rfl rfl (hF.k 42 rfl) (hF.r 42 20 56 rfl) rfl ?_
    refine aw_iload_n rfl rfl rfl ?_
    refine aw_az (N := 24) rfl (hF.s 56 rfl) (by omega) (by omega) (by omega) rfl (fun _ _ => ?_)
    refine aw_iadd rfl rfl ?_
    refine aw_icmp (p' := 84) rfl ⟨by omega, by omega⟩ ⟨by omega, by omega⟩ rfl rfl (fun c1 => ?_) (fun c1 => ?_)
    · dsimp only [zc] at c1
      refine aw_iload rfl rfl rfl ?_
      refine aw_reti rfl ?_
      refine ⟨?_, rfl⟩
      rw [hbb, show j = (zi σ 56 t.toNat).toNat by omega]
    · dsimp only [zc] at c1
      refine aw_aload_n rfl rfl rfl ?_
      refine aw_getr (b := 59) rfl rfl (hF.k 42 rfl) (hF.r 42 23 59 rfl) rfl ?_
      refine aw_iload rfl rfl rfl ?_
      refine aw_az (N := 984) rfl (hF.s 59 rfl) (by omega) (by omega) (by omega) rfl (fun _ _ => ?_)
      refine aw_iload_n rfl rfl rfl ?_
      refine aw_icmp (p' := 74) rfl ⟨by omega, by omega⟩ ⟨by omega, by omega⟩ rfl rfl (fun c2 => ?_) (fun c2 => ?_)
      · dsimp only [zc] at c2
        refine aw_iload rfl rfl rfl ?_
        refine aw_istore rfl (Nat.le_of_ble_eq_true rfl) rfl rfl ?_
        change aw _ _ _ _ 78 [some (.ref 42), some (.int (iI _)), some (.int (iI _)), some (.int (iI _)), some (.int (iI _)), some (.int (iI _))] _ _
        refine aw_iinc rfl rfl rfl rfl ?_
        change aw _ _ _ _ 81 [some (.ref 42), some (.int (iI _)), some (.int (iI _)), some (.int (iI _)), some (.int (iI _)), some (.int (iI _))] _ _
        refine aw_goto (p' := 9) rfl rfl ?_
        exact ih _ (by omega) _ _ (j + 1) rfl (by omega) (by omega) (by clear ih; first | exact hstep.1 ⟨by omega, by omega, by omega⟩ | exact hstep.2 (by omega))
      · dsimp only [zc] at c2
        refine aw_aload_n rfl rfl rfl ?_
        refine aw_getr (b := 57) rfl rfl (hF.k 42 rfl) (hF.r 42 21 57 rfl) rfl ?_
        refine aw_iload rfl rfl rfl ?_
        refine aw_az (N := 984) rfl (hF.s 57 rfl) (by omega) (by omega) (by omega) rfl (fun _ _ => ?_)
        refine aw_iload_n rfl rfl rfl ?_
        refine aw_icmp (p' := 74) rfl ⟨by omega, by omega⟩ ⟨by omega, by omega⟩ rfl rfl (fun c3 => ?_) (fun c3 => ?_)
        · dsimp only [zc] at c3
          refine aw_iload rfl rfl rfl ?_
          refine aw_istore rfl (Nat.le_of_ble_eq_true rfl) rfl rfl ?_
          change aw _ _ _ _ 78 [some (.ref 42), some (.int (iI _)), some (.int (iI _)), some (.int (iI _)), some (.int (iI _)), some (.int (iI _))] _ _
          refine aw_iinc rfl rfl rfl rfl ?_
          change aw _ _ _ _ 81 [some (.ref 42), some (.int (iI _)), some (.int (iI _)), some (.int (iI _)), some (.int (iI _)), some (.int (iI _))] _ _
          refine aw_goto (p' := 9) rfl rfl ?_
          exact ih _ (by omega) _ _ (j + 1) rfl (by omega) (by omega) (by clear ih; first | exact hstep.1 ⟨by omega, by omega, by omega⟩ | exact hstep.2 (by omega))
        · dsimp only [zc] at c3
          refine aw_iload rfl rfl rfl ?_
          refine aw_if (p' := 69) rfl ⟨by omega, by omega⟩ rfl rfl (fun c4 => ?_) (fun c4 => ?_)
          · dsimp only [zc] at c4
            refine aw_iload rfl rfl rfl ?_
            refine aw_goto (p' := 76) rfl rfl ?_
            refine aw_istore rfl (Nat.le_of_ble_eq_true rfl) rfl rfl ?_
            change aw _ _ _ _ 78 [some (.ref 42), some (.int (iI _)), some (.int (iI _)), some (.int (iI _)), some (.int (iI _)), some (.int (iI _))] _ _
            refine aw_iinc rfl rfl rfl rfl ?_
            change aw _ _ _ _ 81 [some (.ref 42), some (.int (iI _)), some (.int (iI _)), some (.int (iI _)), some (.int (iI _)), some (.int (iI _))] _ _
            refine aw_goto (p' := 9) rfl rfl ?_
            exact ih _ (by omega) _ _ (j + 1) rfl (by omega) (by omega) (by clear ih; first | exact hstep.1 ⟨by omega, by omega, by omega⟩ | exact hstep.2 (by omega))
          · dsimp only [zc] at c4
            refine aw_aload_n rfl rfl rfl ?_
            refine aw_getr (b := 57) rfl rfl (hF.k 42 rfl) (hF.r 42 21 57 rfl) rfl ?_
            refine aw_iload rfl rfl rfl ?_
            refine aw_az (N := 984) rfl (hF.s 57 rfl) (by omega) (by omega) (by omega) rfl (fun _ _ => ?_)
            refine aw_aload_n rfl rfl rfl ?_
            refine aw_getr (b := 57) rfl rfl (hF.k 42 rfl) (hF.r 42 21 57 rfl) rfl ?_
            refine aw_iload rfl rfl rfl ?_
            refine aw_az (N := 984) rfl (hF.s 57 rfl) (by omega) (by omega) (by omega) rfl (fun _ _ => ?_)
            refine aw_icmp (p' := 74) rfl ⟨by omega, by omega⟩ ⟨by omega, by omega⟩ rfl rfl (fun c5 => ?_) (fun c5 => ?_)
            · dsimp only [zc] at c5
              refine aw_iload rfl rfl rfl ?_
              refine aw_istore rfl (Nat.le_of_ble_eq_true rfl) rfl rfl ?_
              change aw _ _ _ _ 78 [some (.ref 42), some (.int (iI _)), some (.int (iI _)), some (.int (iI _)), some (.int (iI _)), some (.int (iI _))] _ _
              refine aw_iinc rfl rfl rfl rfl ?_
              change aw _ _ _ _ 81 [some (.ref 42), some (.int (iI _)), some (.int (iI _)), some (.int (iI _)), some (.int (iI _)), some (.int (iI _))] _ _
              refine aw_goto (p' := 9) rfl rfl ?_
              exact ih _ (by omega) _ _ (j + 1) rfl (by omega) (by omega) (by clear ih; first | exact hstep.1 ⟨by omega, by omega, by omega⟩ | exact hstep.2 (by omega))
            · dsimp only [zc] at c5
              refine aw_iload rfl rfl rfl ?_
              refine aw_goto (p' := 76) rfl rfl ?_
              refine aw_istore rfl (Nat.le_of_ble_eq_true rfl) rfl rfl ?_
              change aw _ _ _ _ 78 [some (.ref 42), some (.int (iI _)), some (.int (iI _)), some (.int (iI _)), some (.int (iI _)), some (.int (iI _))] _ _
              refine aw_iinc rfl rfl rfl rfl ?_
              change aw _ _ _ _ 81 [some (.ref 42), some (.int (iI _)), some (.int (iI _)), some (.int (iI _)), some (.int (iI _)), some (.int (iI _))] _ _
              refine aw_goto (p' := 9) rfl rfl ?_
              exact ih _ (by omega) _ _ (j + 1) rfl (by omega) (by omega) (by clear ih; first | exact hstep.1 ⟨by omega, by omega, by omega⟩ | exact hstep.2 (by omega))
set_option maxRecDepth 10000 in
set_option maxHeartbeats 1000000 in
theorem m_entryFor {d : Nat} {sz : Nat} {σ : az_S} (hF : FX sz σ) {t : Int} (ht0 : 0 ≤ t) (ht : t < 24) {x y : Int} (hx : inI x) (hy : inI y) (hn0 : 0 ≤ zi σ 56 t.toNat) (hn1 : zi σ 56 t.toNat ≤ 41) : fn (d + 1) 180 [.ref 42, .int (iI t), .int (iI x), .int (iI y)] σ (.int (iI (absB t.toNat (mBestE σ t.toNat x y (zi σ 56 t.toNat).toNat)))) := by
  obtain ⟨hx1, hx2⟩ := hx
  obtain ⟨hy1, hy2⟩ := hy
  refine fn_of (M := (yX12_entryFor, cX12_entryFor, 6, (some .int))) (cd := k_X12_entryFor) (L := [some (.ref 42), some (.int (iI t)), some (.int (iI x)), some (.int (iI y)), none, none]) rfl (Nat.le_of_ble_eq_true rfl) rfl rfl ?_
  refine aw_iconst rfl rfl ?_
  refine aw_istore rfl (Nat.le_of_ble_eq_true rfl) rfl rfl ?_
  change aw _ _ _ _ 3 [some (.ref 42), some (.int (iI _)), some (.int (iI _)), some (.int (iI _)), some (.int (iI _)), none] _ _
  refine aw_bipush rfl rfl rfl ?_
  refine aw_iload_n rfl rfl rfl ?_
  refine aw_imul rfl rfl ?_
  refine aw_istore rfl (Nat.le_of_ble_eq_true rfl) rfl rfl ?_
  change aw _ _ _ _ 9 [some (.ref 42), some (.int (iI _)), some (.int (iI _)), some (.int (iI _)), some (.int (iI _)), some (.int (iI _))] _ _
  exact m_entryFor_l9 hF ht0 ht ⟨hx1, hx2⟩ ⟨hy1, hy2⟩ hn0 hn1 _ _ _ 0 rfl (by omega) (by omega) rfl
