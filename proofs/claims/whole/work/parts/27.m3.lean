theorem bestE_pos {ed et : Nat → Int} {d k : Int} (h1 : ed 0 ≤ d) (h2 : et 0 ≤ k) : ∀ n, 1 ≤ n → 0 ≤ bestE ed et d k n := by
  intro n
  induction n with
  | zero => intro h; omega
  | succ n ih =>
    intro _
    unfold bestE
    split
    · omega
    · rename_i hc
      by_cases h0 : n = 0
      · subst h0
        exact absurd ⟨h2, h1, Or.inl (by unfold bestE; decide)⟩ hc
      · exact ih (by omega)
theorem bestE_ok {ed et : Nat → Int} {d k : Int} : ∀ n, 0 ≤ bestE ed et d k n → ed (bestE ed et d k n).toNat ≤ d ∧ et (bestE ed et d k n).toNat ≤ k := by
  intro n
  induction n with
  | zero => intro h; unfold bestE at h; omega
  | succ n ih =>
    unfold bestE
    split
    · rename_i hc
      intro _
      rw [Int.toNat_natCast]
      exact ⟨hc.2.1, hc.1⟩
    · exact ih
/-- what holds of a thing of the reference -/
def TI (σ : az_S) (t : Nat) : Prop := (1 ≤ zi σ 56 t ∧ zi σ 56 t ≤ 41) ∧ (meD σ t 0 = zi σ 52 t ∧ meT σ t 0 = zi σ 52 t) ∧ (∀ i : Nat, (i : Int) < zi σ 56 t → (0 ≤ meD σ t i ∧ meD σ t i ≤ 3599) ∧ (0 ≤ meH σ t i ∧ meH σ t i ≤ 60) ∧ (0 ≤ meT σ t i ∧ meT σ t i ≤ zi σ 42 3)) ∧ ((zi σ 49 t = 1 ∧ 1 ≤ zi σ 53 t ∧ zi σ 53 t ≤ 999) ∨ ((zi σ 49 t = 0 ∨ zi σ 49 t = 2) ∧ zi σ 53 t = 0)) ∧ (0 ≤ zi σ 50 t ∧ zi σ 50 t < zi σ 42 2) ∧ (0 ≤ zi σ 51 t ∧ zi σ 51 t < zi σ 42 9) ∧ (0 ≤ zi σ 52 t ∧ zi σ 52 t ≤ zi σ 42 3) ∧ (-50 ≤ zi σ 54 t ∧ zi σ 54 t ≤ 50 ∧ -50 ≤ zi σ 55 t ∧ zi σ 55 t ≤ 50) ∧ (zi σ 60 t = -1 ∨ (zi σ 52 t ≤ zi σ 60 t ∧ zi σ 60 t ≤ zi σ 42 3 ∧ 0 ≤ zi σ 61 t ∧ zi σ 61 t ≤ zi σ 42 3)) ∧ (zi σ 62 t = -1 ∨ (zi σ 52 t ≤ zi σ 62 t ∧ zi σ 62 t ≤ zi σ 42 3))
def mGone (σ : az_S) (t : Nat) (d k : Int) : Prop := d < zi σ 52 t ∨ k < zi σ 52 t ∨ (0 ≤ zi σ 60 t ∧ zi σ 60 t ≤ d ∧ zi σ 61 t ≤ k)
abbrev mB (σ : az_S) (t : Nat) (d k : Int) : Int := mBestE σ t d k (zi σ 56 t).toNat
/-- the height of a thing before the bound of 60 -/
def mRaw (σ : az_S) (t : Nat) (d k : Int) : Int := meH σ t (mB σ t d k).toNat + (if zi σ 49 t = 1 then (d - meD σ t (mB σ t d k).toNat) / zi σ 53 t else 0)
noncomputable def mH (σ : az_S) (t : Nat) (d k : Int) : Int := @ite Int (mGone σ t d k) (Classical.propDecidable _) (-1) (if 60 < mRaw σ t d k then 60 else mRaw σ t d k)
theorem mH_gone {σ : az_S} {t : Nat} {d k : Int} (h : mGone σ t d k) : mH σ t d k = -1 := if_pos h
theorem mH_up {σ : az_S} {t : Nat} {d k : Int} (h : ¬ mGone σ t d k) : mH σ t d k = (if 60 < mRaw σ t d k then 60 else mRaw σ t d k) := if_neg h
theorem mB_facts {σ : az_S} {t : Nat} (hT : TI σ t) {d k : Int} (h : ¬ mGone σ t d k) : 0 ≤ mB σ t d k ∧ mB σ t d k < zi σ 56 t ∧ meD σ t (mB σ t d k).toNat ≤ d ∧ 0 ≤ meD σ t (mB σ t d k).toNat ∧ 0 ≤ meH σ t (mB σ t d k).toNat ∧ meH σ t (mB σ t d k).toNat ≤ 60 := by
  obtain ⟨⟨h1, h2⟩, ⟨h3, h4⟩, h5, -⟩ := hT
  unfold mGone at h
  have hp : 0 ≤ mB σ t d k := bestE_pos (by omega) (by omega) _ (by omega)
  have hl := bestE_lo (meD σ t) (meT σ t) d k (zi σ 56 t).toNat
  have hk := bestE_ok (ed := meD σ t) (et := meT σ t) (d := d) (k := k) _ hp
  have hl2 : mB σ t d k < zi σ 56 t := by have := hl.2; show bestE _ _ _ _ _ < _; omega
  obtain ⟨⟨a1, a2⟩, ⟨a3, a4⟩, -⟩ := h5 (mB σ t d k).toNat (by omega)
  exact ⟨hp, hl2, hk.1, a1, a3, a4⟩
theorem mH_range {σ : az_S} {t : Nat} (hT : TI σ t) (d k : Int) : -1 ≤ mH σ t d k ∧ mH σ t d k ≤ 60 ∧ (mH σ t d k = -1 ↔ mGone σ t d k) := by
  by_cases h : mGone σ t d k
  · rw [mH_gone h]; exact ⟨by decide, by decide, by simp [h]⟩
  · obtain ⟨b1, b2, b3, b4, b5, b6⟩ := mB_facts hT h
    rw [mH_up h]
    have hr : 0 ≤ mRaw σ t d k := by
      unfold mRaw
      split
      · have : 0 ≤ (d - meD σ t (mB σ t d k).toNat) / zi σ 53 t := by
          obtain ⟨-, -, -, h8 | h8, -⟩ := hT
          · exact Int.ediv_nonneg (by omega) (by omega)
          · omega
        omega
      · omega
    have : (if 60 < mRaw σ t d k then (60 : Int) else mRaw σ t d k) ≤ 60 ∧ 0 ≤ (if 60 < mRaw σ t d k then (60 : Int) else mRaw σ t d k) := by split <;> omega
    exact ⟨by omega, this.1, ⟨fun q => by omega, fun q => absurd q h⟩⟩
theorem absB_pos {t : Nat} {b : Int} (h : 0 ≤ b) : absB t b = 41 * t + b := by unfold absB; rw [if_neg (by omega)]
set_option maxRecDepth 10000 in
set_option maxHeartbeats 1000000 in
theorem m_heightOf {d : Nat} {sz : Nat} {σ : az_S} (hF : FX sz σ) {t : Int} (ht0 : 0 ≤ t) (ht : t < 24) (hT : TI σ t.toNat) {x y : Int} (hx0 : 0 ≤ x) (hx1 : x ≤ 3599) (hy0 : 0 ≤ y) (hy1 : y ≤ 3599) : fn (d + 2) 181 [.ref 42, .int (iI t), .int (iI x), .int (iI y)] σ (.int (iI (mH σ t.toNat x y))) := by
  have hTT := hT
  have hbf := mB_facts (d := x) (k := y) hT
  obtain ⟨⟨he1, he2⟩, -, -, hkg, -⟩ := hTT
  refine fn_of (M := (yX12_heightOf, cX12_heightOf, 6, (some .int))) (cd := k_X12_heightOf) (L := [some (.ref 42), some (.int (iI t)), some (.int (iI x)), some (.int (iI y)), none, none]) rfl (Nat.le_of_ble_eq_true rfl) rfl rfl ?_
  refine aw_aload_n rfl rfl rfl ?_
  refine aw_getr (b := 52) rfl rfl (hF.k 42 rfl) (hF.r 42 16 52 rfl) rfl ?_
  refine aw_iload_n rfl rfl rfl ?_
  refine aw_az (N := 24) rfl (hF.s 52 rfl) (by omega) (by omega) (by omega) rfl (fun _ _ => ?_)
  refine aw_iload_n rfl rfl rfl ?_
  refine aw_icmp (p' := 49) rfl ⟨by omega, by omega⟩ ⟨by omega, by omega⟩ rfl rfl (fun c1 => ?_) (fun c1 => ?_)
  · dsimp only [zc] at c1
    refine aw_iconst rfl rfl ?_
    refine aw_reti rfl ?_
    refine ⟨?_, rfl⟩
    rw [mH_gone (by unfold mGone; omega)]
  · dsimp only [zc] at c1
    refine aw_aload_n rfl rfl rfl ?_
    refine aw_getr (b := 52) rfl rfl (hF.k 42 rfl) (hF.r 42 16 52 rfl) rfl ?_
    refine aw_iload_n rfl rfl rfl ?_
    refine aw_az (N := 24) rfl (hF.s 52 rfl) (by omega) (by omega) (by omega) rfl (fun _ _ => ?_)
    refine aw_iload_n rfl rfl rfl ?_
    refine aw_icmp (p' := 49) rfl ⟨by omega, by omega⟩ ⟨by omega, by omega⟩ rfl rfl (fun c2 => ?_) (fun c2 => ?_)
    · dsimp only [zc] at c2
      refine aw_iconst rfl rfl ?_
      refine aw_reti rfl ?_
      refine ⟨?_, rfl⟩
      rw [mH_gone (by unfold mGone; omega)]
    · dsimp only [zc] at c2
      refine aw_aload_n rfl rfl rfl ?_
      refine aw_getr (b := 60) rfl rfl (hF.k 42 rfl) (hF.r 42 24 60 rfl) rfl ?_
      refine aw_iload_n rfl rfl rfl ?_
      refine aw_az (N := 24) rfl (hF.s 60 rfl) (by omega) (by omega) (by omega) rfl (fun _ _ => ?_)
      refine aw_if (p' := 51) rfl ⟨by omega, by omega⟩ rfl rfl (fun c3 => ?_) (fun c3 => ?_)
      · dsimp only [zc] at c3
        refine aw_aload_n rfl rfl rfl ?_
        refine aw_iload_n rfl rfl rfl ?_
        refine aw_iload_n rfl rfl rfl ?_
        refine aw_iload_n rfl rfl rfl ?_
        refine aw_fnc (m_entryFor hF ht0 ht ⟨by omega, by omega⟩ ⟨by omega, by omega⟩ (by omega) (by omega)) rfl rfl rfl (Nat.le_of_ble_eq_true rfl) (Or.inr ⟨_, rfl, (hF.k 42 rfl)⟩) rfl ?_
        have hng : ¬ mGone σ t.toNat x y := by unfold mGone; omega
        obtain ⟨b1, b2, b3, b4, b5, b6⟩ := hbf hng
        rw [absB_pos b1]
        have e1 : (41 * (t.toNat : Int) + mB σ t.toNat x y).toNat = 41 * t.toNat + (mB σ t.toNat x y).toNat := by omega
        refine aw_istore rfl (Nat.le_of_ble_eq_true rfl) rfl rfl ?_
        change aw _ _ _ _ 60 [some (.ref 42), some (.int (iI _)), some (.int (iI _)), some (.int (iI _)), some (.int (iI _)), none] _ _
        refine aw_aload_n rfl rfl rfl ?_
        refine aw_getr (b := 58) rfl rfl (hF.k 42 rfl) (hF.r 42 22 58 rfl) rfl ?_
        refine aw_iload rfl rfl rfl ?_
        refine aw_az (N := 984) rfl (hF.s 58 rfl) (by omega) (by omega) (by omega) rfl (fun _ _ => ?_)
        rw [e1] at *
        refine aw_aload_n rfl rfl rfl ?_
        refine aw_getr (b := 49) rfl rfl (hF.k 42 rfl) (hF.r 42 13 49 rfl) rfl ?_
        refine aw_iload_n rfl rfl rfl ?_
        refine aw_az (N := 24) rfl (hF.s 49 rfl) (by omega) (by omega) (by omega) rfl (fun _ _ => ?_)
        refine aw_iconst rfl rfl ?_
        refine aw_icmp (p' := 96) rfl ⟨by omega, by omega⟩ ⟨by omega, by omega⟩ rfl rfl (fun c4 => ?_) (fun c4 => ?_)
        · dsimp only [zc] at c4
          refine aw_iconst rfl rfl ?_
          refine aw_iadd rfl rfl ?_
          refine aw_istore rfl (Nat.le_of_ble_eq_true rfl) rfl rfl ?_
          change aw _ _ _ _ 100 [some (.ref 42), some (.int (iI _)), some (.int (iI _)), some (.int (iI _)), some (.int (iI _)), some (.int (iI _))] _ _
          refine aw_iload rfl rfl rfl ?_
          refine aw_bipush rfl rfl rfl ?_
          refine aw_icmp (p' := 112) rfl ⟨by omega, by omega⟩ ⟨by omega, by omega⟩ rfl rfl (fun c5 => ?_) (fun c5 => ?_)
          · dsimp only [zc] at c5
            refine aw_iload rfl rfl rfl ?_
            refine aw_reti rfl ?_
            refine ⟨?_, rfl⟩
            rw [mH_up hng]
            unfold mRaw
            grind
          · dsimp only [zc] at c5
            refine aw_bipush rfl rfl rfl ?_
            refine aw_goto (p' := 114) rfl rfl ?_
            refine aw_reti rfl ?_
            refine ⟨?_, rfl⟩
            rw [mH_up hng]
            unfold mRaw
            grind
        · dsimp only [zc] at c4
          refine aw_iload_n rfl rfl rfl ?_
          refine aw_aload_n rfl rfl rfl ?_
          refine aw_getr (b := 57) rfl rfl (hF.k 42 rfl) (hF.r 42 21 57 rfl) rfl ?_
          refine aw_iload rfl rfl rfl ?_
          refine aw_az (N := 984) rfl (hF.s 57 rfl) (by omega) (by omega) (by omega) rfl (fun _ _ => ?_)
          rw [e1] at *
          refine aw_isub rfl rfl ?_
          refine aw_aload_n rfl rfl rfl ?_
          refine aw_getr (b := 53) rfl rfl (hF.k 42 rfl) (hF.r 42 17 53 rfl) rfl ?_
          refine aw_iload_n rfl rfl rfl ?_
          refine aw_az (N := 24) rfl (hF.s 53 rfl) (by omega) (by omega) (by omega) rfl (fun _ _ => ?_)
          refine aw_idiv rfl (by omega) (by omega) (by omega) (by omega) rfl ?_
          refine aw_goto (p' := 97) rfl rfl ?_
          refine aw_iadd rfl rfl ?_
          refine aw_istore rfl (Nat.le_of_ble_eq_true rfl) rfl rfl ?_
          change aw _ _ _ _ 100 [some (.ref 42), some (.int (iI _)), some (.int (iI _)), some (.int (iI _)), some (.int (iI _)), some (.int (iI _))] _ _
          refine aw_iload rfl rfl rfl ?_
          refine aw_bipush rfl rfl rfl ?_
          refine aw_icmp (p' := 112) rfl ⟨by omega, by omega⟩ ⟨by omega, by omega⟩ rfl rfl (fun c6 => ?_) (fun c6 => ?_)
          · dsimp only [zc] at c6
            refine aw_iload rfl rfl rfl ?_
            refine aw_reti rfl ?_
            refine ⟨?_, rfl⟩
            rw [mH_up hng]
            unfold mRaw
            grind
          · dsimp only [zc] at c6
            refine aw_bipush rfl rfl rfl ?_
            refine aw_goto (p' := 114) rfl rfl ?_
            refine aw_reti rfl ?_
            refine ⟨?_, rfl⟩
            rw [mH_up hng]
            unfold mRaw
            grind
      · dsimp only [zc] at c3
        refine aw_aload_n rfl rfl rfl ?_
        refine aw_getr (b := 60) rfl rfl (hF.k 42 rfl) (hF.r 42 24 60 rfl) rfl ?_
        refine aw_iload_n rfl rfl rfl ?_
        refine aw_az (N := 24) rfl (hF.s 60 rfl) (by omega) (by omega) (by omega) rfl (fun _ _ => ?_)
        refine aw_iload_n rfl rfl rfl ?_
        refine aw_icmp (p' := 51) rfl ⟨by omega, by omega⟩ ⟨by omega, by omega⟩ rfl rfl (fun c7 => ?_) (fun c7 => ?_)
        · dsimp only [zc] at c7
          refine aw_aload_n rfl rfl rfl ?_
          refine aw_iload_n rfl rfl rfl ?_
          refine aw_iload_n rfl rfl rfl ?_
          refine aw_iload_n rfl rfl rfl ?_
          refine aw_fnc (m_entryFor hF ht0 ht ⟨by omega, by omega⟩ ⟨by omega, by omega⟩ (by omega) (by omega)) rfl rfl rfl (Nat.le_of_ble_eq_true rfl) (Or.inr ⟨_, rfl, (hF.k 42 rfl)⟩) rfl ?_
          have hng : ¬ mGone σ t.toNat x y := by unfold mGone; omega
          obtain ⟨b1, b2, b3, b4, b5, b6⟩ := hbf hng
          rw [absB_pos b1]
          have e1 : (41 * (t.toNat : Int) + mB σ t.toNat x y).toNat = 41 * t.toNat + (mB σ t.toNat x y).toNat := by omega
          refine aw_istore rfl (Nat.le_of_ble_eq_true rfl) rfl rfl ?_
          change aw _ _ _ _ 60 [some (.ref 42), some (.int (iI _)), some (.int (iI _)), some (.int (iI _)), some (.int (iI _)), none] _ _
          refine aw_aload_n rfl rfl rfl ?_
          refine aw_getr (b := 58) rfl rfl (hF.k 42 rfl) (hF.r 42 22 58 rfl) rfl ?_
          refine aw_iload rfl rfl rfl ?_
          refine aw_az (N := 984) rfl (hF.s 58 rfl) (by omega) (by omega) (by omega) rfl (fun _ _ => ?_)
          rw [e1] at *
          refine aw_aload_n rfl rfl rfl ?_
          refine aw_getr (b := 49) rfl rfl (hF.k 42 rfl) (hF.r 42 13 49 rfl) rfl ?_
          refine aw_iload_n rfl rfl rfl ?_
          refine aw_az (N := 24) rfl (hF.s 49 rfl) (by omega) (by omega) (by omega) rfl (fun _ _ => ?_)
          refine aw_iconst rfl rfl ?_
          refine aw_icmp (p' := 96) rfl ⟨by omega, by omega⟩ ⟨by omega, by omega⟩ rfl rfl (fun c8 => ?_) (fun c8 => ?_)
          · dsimp only [zc] at c8
            refine aw_iconst rfl rfl ?_
            refine aw_iadd rfl rfl ?_
            refine aw_istore rfl (Nat.le_of_ble_eq_true rfl) rfl rfl ?_
            change aw _ _ _ _ 100 [some (.ref 42), some (.int (iI _)), some (.int (iI _)), some (.int (iI _)), some (.int (iI _)), some (.int (iI _))] _ _
            refine aw_iload rfl rfl rfl ?_
            refine aw_bipush rfl rfl rfl ?_
            refine aw_icmp (p' := 112) rfl ⟨by omega, by omega⟩ ⟨by omega, by omega⟩ rfl rfl (fun c9 => ?_) (fun c9 => ?_)
            · dsimp only [zc] at c9
              refine aw_iload rfl rfl rfl ?_
              refine aw_reti rfl ?_
              refine ⟨?_, rfl⟩
              rw [mH_up hng]
              unfold mRaw
              grind
            · dsimp only [zc] at c9
              refine aw_bipush rfl rfl rfl ?_
              refine aw_goto (p' := 114) rfl rfl ?_
              refine aw_reti rfl ?_
              refine ⟨?_, rfl⟩
              rw [mH_up hng]
              unfold mRaw
              grind
          · dsimp only [zc] at c8
            refine aw_iload_n rfl rfl rfl ?_
            refine aw_aload_n rfl rfl rfl ?_
            refine aw_getr (b := 57) rfl rfl (hF.k 42 rfl) (hF.r 42 21 57 rfl) rfl ?_
            refine aw_iload rfl rfl rfl ?_
            refine aw_az (N := 984) rfl (hF.s 57 rfl) (by omega) (by omega) (by omega) rfl (fun _ _ => ?_)
            rw [e1] at *
            refine aw_isub rfl rfl ?_
            refine aw_aload_n rfl rfl rfl ?_
            refine aw_getr (b := 53) rfl rfl (hF.k 42 rfl) (hF.r 42 17 53 rfl) rfl ?_
            refine aw_iload_n rfl rfl rfl ?_
            refine aw_az (N := 24) rfl (hF.s 53 rfl) (by omega) (by omega) (by omega) rfl (fun _ _ => ?_)
            refine aw_idiv rfl (by omega) (by omega) (by omega) (by omega) rfl ?_
            refine aw_goto (p' := 97) rfl rfl ?_
            refine aw_iadd rfl rfl ?_
            refine aw_istore rfl (Nat.le_of_ble_eq_true rfl) rfl rfl ?_
            change aw _ _ _ _ 100 [some (.ref 42), some (.int (iI _)), some (.int (iI _)), some (.int (iI _)), some (.int (iI _)), some (.int (iI _))] _ _
            refine aw_iload rfl rfl rfl ?_
            refine aw_bipush rfl rfl rfl ?_
            refine aw_icmp (p' := 112) rfl ⟨by omega, by omega⟩ ⟨by omega, by omega⟩ rfl rfl (fun c10 => ?_) (fun c10 => ?_)
            · dsimp only [zc] at c10
              refine aw_iload rfl rfl rfl ?_
              refine aw_reti rfl ?_
              refine ⟨?_, rfl⟩
              rw [mH_up hng]
              unfold mRaw
              grind
            · dsimp only [zc] at c10
              refine aw_bipush rfl rfl rfl ?_
              refine aw_goto (p' := 114) rfl rfl ?_
              refine aw_reti rfl ?_
              refine ⟨?_, rfl⟩
              rw [mH_up hng]
              unfold mRaw
              grind
        · dsimp only [zc] at c7
          refine aw_aload_n rfl rfl rfl ?_
          refine aw_getr (b := 61) rfl rfl (hF.k 42 rfl) (hF.r 42 25 61 rfl) rfl ?_
          refine aw_iload_n rfl rfl rfl ?_
          refine aw_az (N := 24) rfl (hF.s 61 rfl) (by omega) (by omega) (by omega) rfl (fun _ _ => ?_)
          refine aw_iload_n rfl rfl rfl ?_
          refine aw_icmp (p' := 51) rfl ⟨by omega, by omega⟩ ⟨by omega, by omega⟩ rfl rfl (fun c11 => ?_) (fun c11 => ?_)
          · dsimp only [zc] at c11
            refine aw_aload_n rfl rfl rfl ?_
            refine aw_iload_n rfl rfl rfl ?_
            refine aw_iload_n rfl rfl rfl ?_
            refine aw_iload_n rfl rfl rfl ?_
            refine aw_fnc (m_entryFor hF ht0 ht ⟨by omega, by omega⟩ ⟨by omega, by omega⟩ (by omega) (by omega)) rfl rfl rfl (Nat.le_of_ble_eq_true rfl) (Or.inr ⟨_, rfl, (hF.k 42 rfl)⟩) rfl ?_
            have hng : ¬ mGone σ t.toNat x y := by unfold mGone; omega
            obtain ⟨b1, b2, b3, b4, b5, b6⟩ := hbf hng
            rw [absB_pos b1]
            have e1 : (41 * (t.toNat : Int) + mB σ t.toNat x y).toNat = 41 * t.toNat + (mB σ t.toNat x y).toNat := by omega
            refine aw_istore rfl (Nat.le_of_ble_eq_true rfl) rfl rfl ?_
            change aw _ _ _ _ 60 [some (.ref 42), some (.int (iI _)), some (.int (iI _)), some (.int (iI _)), some (.int (iI _)), none] _ _
            refine aw_aload_n rfl rfl rfl ?_
            refine aw_getr (b := 58) rfl rfl (hF.k 42 rfl) (hF.r 42 22 58 rfl) rfl ?_
            refine aw_iload rfl rfl rfl ?_
            refine aw_az (N := 984) rfl (hF.s 58 rfl) (by omega) (by omega) (by omega) rfl (fun _ _ => ?_)
            rw [e1] at *
            refine aw_aload_n rfl rfl rfl ?_
            refine aw_getr (b := 49) rfl rfl (hF.k 42 rfl) (hF.r 42 13 49 rfl) rfl ?_
            refine aw_iload_n rfl rfl rfl ?_
            refine aw_az (N := 24) rfl (hF.s 49 rfl) (by omega) (by omega) (by omega) rfl (fun _ _ => ?_)
            refine aw_iconst rfl rfl ?_
            refine aw_icmp (p' := 96) rfl ⟨by omega, by omega⟩ ⟨by omega, by omega⟩ rfl rfl (fun c12 => ?_) (fun c12 => ?_)
            · dsimp only [zc] at c12
              refine aw_iconst rfl rfl ?_
              refine aw_iadd rfl rfl ?_
              refine aw_istore rfl (Nat.le_of_ble_eq_true rfl) rfl rfl ?_
              change aw _ _ _ _ 100 [some (.ref 42), some (.int (iI _)), some (.int (iI _)), some (.int (iI _)), some (.int (iI _)), some (.int (iI _))] _ _
              refine aw_iload rfl rfl rfl ?_
              refine aw_bipush rfl rfl rfl ?_
              refine aw_icmp (p' := 112) rfl ⟨by omega, by omega⟩ ⟨by omega, by omega⟩ rfl rfl (fun c13 => ?_) (fun c13 => ?_)
              · dsimp only [zc] at c13
                refine aw_iload rfl rfl rfl ?_
                refine aw_reti rfl ?_
                refine ⟨?_, rfl⟩
                rw [mH_up hng]
                unfold mRaw
                grind
              · dsimp only [zc] at c13
                refine aw_bipush rfl rfl rfl ?_
                refine aw_goto (p' := 114) rfl rfl ?_
                refine aw_reti rfl ?_
                refine ⟨?_, rfl⟩
                rw [mH_up hng]
                unfold mRaw
                grind
            · dsimp only [zc] at c12
              refine aw_iload_n rfl rfl rfl ?_
              refine aw_aload_n rfl rfl rfl ?_
              refine aw_getr (b := 57) rfl rfl (hF.k 42 rfl) (hF.r 42 21 57 rfl) rfl ?_
              refine aw_iload rfl rfl rfl ?_
              refine aw_az (N := 984) rfl (hF.s 57 rfl) (by omega) (by omega) (by omega) rfl (fun _ _ => ?_)
              rw [e1] at *
              refine aw_isub rfl rfl ?_
              refine aw_aload_n rfl rfl rfl ?_
              refine aw_getr (b := 53) rfl rfl (hF.k 42 rfl) (hF.r 42 17 53 rfl) rfl ?_
              refine aw_iload_n rfl rfl rfl ?_
              refine aw_az (N := 24) rfl (hF.s 53 rfl) (by omega) (by omega) (by omega) rfl (fun _ _ => ?_)
              refine aw_idiv rfl (by omega) (by omega) (by omega) (by omega) rfl ?_
              refine aw_goto (p' := 97) rfl rfl ?_
              refine aw_iadd rfl rfl ?_
              refine aw_istore rfl (Nat.le_of_ble_eq_true rfl) rfl rfl ?_
              change aw _ _ _ _ 100 [some (.ref 42), some (.int (iI _)), some (.int (iI _)), some (.int (iI _)), some (.int (iI _)), some (.int (iI _))] _ _
              refine aw_iload rfl rfl rfl ?_
              refine aw_bipush rfl rfl rfl ?_
              refine aw_icmp (p' := 112) rfl ⟨by omega, by omega⟩ ⟨by omega, by omega⟩ rfl rfl (fun c14 => ?_) (fun c14 => ?_)
              · dsimp only [zc] at c14
                refine aw_iload rfl rfl rfl ?_
                refine aw_reti rfl ?_
                refine ⟨?_, rfl⟩
                rw [mH_up hng]
                unfold mRaw
                grind
              · dsimp only [zc] at c14
                refine aw_bipush rfl rfl rfl ?_
                refine aw_goto (p' := 114) rfl rfl ?_
                refine aw_reti rfl ?_
                refine ⟨?_, rfl⟩
                rw [mH_up hng]
                unfold mRaw
                grind
          · dsimp only [zc] at c11
            refine aw_iconst rfl rfl ?_
            refine aw_reti rfl ?_
            refine ⟨?_, rfl⟩
            rw [mH_gone (by unfold mGone; omega)]
