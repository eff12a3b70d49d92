def zi (σ : az_S) (a k : Nat) : Int := (az_i σ a k).toInt
theorem zi_eq (σ : az_S) (a k : Nat) : az_i σ a k = iI (zi σ a k) := (Int32.ofInt_toInt _).symm
theorem zi_lo (σ : az_S) (a k : Nat) : -2147483648 ≤ zi σ a k := by have := Int32.le_toInt (az_i σ a k); unfold zi; omega
theorem zi_hi (σ : az_S) (a k : Nat) : zi σ a k < 2147483648 := by have := Int32.toInt_lt (az_i σ a k); unfold zi; omega
theorem lI_toInt {z : Int} (h1 : -9223372036854775808 ≤ z) (h2 : z < 9223372036854775808) : (lI z).toInt = z := Int64.toInt_ofInt_of_le (by omega) (by omega)
theorem lI_of_iI {z : Int} (h : inI z) : (iI z).toInt64 = lI z := by
  have h1 := iI_toInt h
  rw [← Int64.toInt_inj, Int32.toInt_toInt64, h1, lI_toInt (by have := h.1; omega) (by have := h.2; omega)]
section AwRules2
variable {d : Nat} {cd : List az_I} {rt : Option FieldType} {P : Option Value → az_S → Prop} {pc p' : Nat} {L : az_V} {st : List Value} {σ : az_S}
theorem aw_gz {i ci k a : Nat} (hf : az_fetch cd pc = some (3, .getfield i, [ci, k])) (hk : az_ft ci k = 0) (hs : (az_sh σ a).1 = ci) (hp : pc + 3 = p') (h : -2147483648 ≤ zi σ a k → zi σ a k < 2147483648 → aw d cd rt P p' L (.int (iI (zi σ a k)) :: st) σ) : aw d cd rt P pc L (.ref a :: st) σ := aw_geti hf hk hs (zi_eq σ a k) hp (h (zi_lo σ a k) (zi_hi σ a k))
theorem aw_az {a N : Nat} {z : Int} (hf : az_fetch cd pc = some (1, .iaload, [])) (hs : az_sh σ a = (100, N)) (hN : N ≤ 10000) (h0 : 0 ≤ z) (hj : z < N) (hp : pc + 1 = p') (h : -2147483648 ≤ zi σ a z.toNat → zi σ a z.toNat < 2147483648 → aw d cd rt P p' L (.int (iI (zi σ a z.toNat)) :: st) σ) : aw d cd rt P pc L (.int (iI z) :: .ref a :: st) σ := aw_iaload (j := z.toNat) hf hs hN (by omega) (by omega) (zi_eq σ a _) hp (h (zi_lo σ a _) (zi_hi σ a _))
theorem aw_i2l {z : Int} (hf : az_fetch cd pc = some (1, .i2l, [])) (hz : inI z) (hp : pc + 1 = p') (h : aw d cd rt P p' L (.long (lI z) :: st) σ) : aw d cd rt P pc L (.int (iI z) :: st) σ := by subst hp; rw [← lI_of_iI hz] at h; exact aw_nx hf (Nat.le_of_ble_eq_true rfl) ⟨_, st, rfl, rfl⟩ h
theorem aw_lcmp {a b : Int} (hf : az_fetch cd pc = some (1, .lcmp, [])) (h1 : -9223372036854775808 ≤ a) (h2 : a < 9223372036854775808) (h3 : -9223372036854775808 ≤ b) (h4 : b < 9223372036854775808) (hp : pc + 1 = p') (h : aw d cd rt P p' L (.int (iI (if b < a then 1 else if a = b then 0 else -1)) :: st) σ) : aw d cd rt P pc L (.long (lI b) :: .long (lI a) :: st) σ := by
  subst hp
  refine aw_nx hf (Nat.le_of_ble_eq_true rfl) ⟨_, _, st, rfl, rfl⟩ ?_
  show aw d cd rt P (pc + 1) L (.int (lg_cmp (lI a) (lI b)) :: st) σ
  have e : lg_cmp (lI a) (lI b) = iI (if b < a then 1 else if a = b then 0 else -1) := by
    unfold lg_cmp
    have e1 : (lI a > lI b) ↔ b < a := by rw [gt_iff_lt, Int64.lt_iff_toInt_lt, lI_toInt h1 h2, lI_toInt h3 h4]
    have e2 : (lI a = lI b) ↔ a = b := by rw [← Int64.toInt_inj, lI_toInt h1 h2, lI_toInt h3 h4]
    simp only [e1, e2]
    split
    · rfl
    · split <;> rfl
  rw [e]
  exact h
end AwRules2
set_option maxRecDepth 10000 in
theorem m_in {d : Nat} {σ : az_S} {v lo hi : Int} (h1 : inI v) (h2 : inI lo) (h3 : inI hi) : fn (d + 1) 159 [.long (lI v), .long (lI lo), .long (lI hi)] σ (.int (iI (bI (lo ≤ v ∧ v ≤ hi)))) := by
  obtain ⟨h1a, h1b⟩ := h1
  obtain ⟨h2a, h2b⟩ := h2
  obtain ⟨h3a, h3b⟩ := h3
  refine fn_of (M := (yX12_in, cX12_in, 6, some .boolean)) (cd := k_X12_in) (L := [some (.long (lI v)), none, some (.long (lI lo)), none, some (.long (lI hi)), none]) rfl (Nat.le_of_ble_eq_true rfl) rfl rfl ?_
  refine aw_lload_n rfl rfl rfl ?_
  refine aw_lload_n rfl rfl rfl ?_
  refine aw_lcmp rfl (by omega) (by omega) (by omega) (by omega) rfl ?_
  refine aw_if rfl ⟨by split <;> (try split) <;> omega, by split <;> (try split) <;> omega⟩ rfl rfl (fun c => ?_) (fun c => ?_)
  · refine aw_iconst rfl rfl ?_
    refine aw_retn rfl rfl ⟨?_, rfl⟩
    have hc : ¬ (lo ≤ v ∧ v ≤ hi) := by
      simp only [zc] at c
      split at c <;> (try split at c) <;> omega
    rw [bI_f hc]
  · refine aw_lload_n rfl rfl rfl ?_
    refine aw_lload rfl rfl rfl ?_
    refine aw_lcmp rfl (by omega) (by omega) (by omega) (by omega) rfl ?_
    refine aw_if rfl ⟨by split <;> (try split) <;> omega, by split <;> (try split) <;> omega⟩ rfl rfl (fun c2 => ?_) (fun c2 => ?_)
    · refine aw_iconst rfl rfl ?_
      refine aw_retn rfl rfl ⟨?_, rfl⟩
      have hc : ¬ (lo ≤ v ∧ v ≤ hi) := by
        simp only [zc] at c c2
        split at c2 <;> (try split at c2) <;> omega
      rw [bI_f hc]
    · refine aw_iconst rfl rfl ?_
      refine aw_goto rfl rfl ?_
      refine aw_retn rfl rfl ⟨?_, rfl⟩
      have hc : lo ≤ v ∧ v ≤ hi := by
        simp only [zc] at c c2
        split at c2 <;> (try split at c2) <;> (try omega) <;> split at c <;> (try split at c) <;> omega
      rw [bI_t hc]
