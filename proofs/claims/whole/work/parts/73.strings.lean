/-! STRINGS -/
def ST (σ : az_S) (i : Nat) : Prop := az_sh σ (1000010 + i) = (113, 0) ∧ az_sh σ (1000030 + i) = (112, (wX.getD i []).length) ∧ az_r σ (1000010 + i) 0 = some (1000030 + i) ∧ az_i σ (1000010 + i) 1 = iI 0 ∧ az_i σ 1000007 4 = iI 1 ∧ ∀ j : Nat, j < (wX.getD i []).length → zx σ (1000030 + i) j = (wX.getD i []).getD j 0
theorem wX_r : ∀ i, i < 15 → az_tl.getD i 0 = (wX.getD i []).length ∧ ∀ j, j < (wX.getD i []).length → ((az_tx.getD i []).getD j 0).toInt = (wX.getD i []).getD j 0 := by decide
theorem wX_b : ∀ i, i < 15 → (wX.getD i []).length ≤ 6 ∧ 2 ≤ (wX.getD i []).length ∧ ∀ j, j < (wX.getD i []).length → 97 ≤ (wX.getD i []).getD j 0 ∧ (wX.getD i []).getD j 0 ≤ 122 := by decide
theorem CR.str {sz : Nat} {κ : Nat × (Nat → Int32) × Option Nat} {A : Nat → Int → Int} {g : Nat → Nat} {σ : az_S} (h : CR sz κ A g σ) {i : Nat} (hi : i < 15) : ST σ i := by
  obtain ⟨a1, a2, a3⟩ := h.k (1000010 + i) (by omega)
  obtain ⟨b1, b2, b3⟩ := h.k (1000030 + i) (by omega)
  obtain ⟨c1, c2, c3⟩ := h.k 1000007 (by omega)
  have hw := wX_r i hi
  refine ⟨?_, ?_, ?_, ?_, ?_, fun j hj => ?_⟩
  · rw [a1]; unfold az_sh0
    rw [if_neg (by omega), if_neg (by omega), if_neg (by omega), if_neg (by omega), if_neg (by omega), if_neg (by omega), if_pos (by omega)]
  · rw [b1]; unfold az_sh0
    rw [if_neg (by omega), if_neg (by omega), if_neg (by omega), if_neg (by omega), if_neg (by omega), if_neg (by omega), if_neg (by omega), if_pos (by omega), show 1000030 + i - 1000030 = i by omega, hw.1]
  · rw [a3]; unfold az_r0
    rw [if_neg (by omega), if_pos (by omega), if_pos rfl, show 1000010 + i + 20 = 1000030 + i by omega]
  · rw [a2]; unfold az_i0
    rw [if_neg (by omega), if_neg (by omega), if_neg (by omega), if_neg (by omega), if_neg (by omega)]
    rfl
  · rw [c2]; rfl
  · have e : az_i σ (1000030 + i) j = (az_tx.getD i []).getD j 0 := by
      rw [b2]; unfold az_i0
      rw [if_neg (by omega), if_neg (by omega), if_neg (by omega), if_neg (by omega), if_pos (by omega), show 1000030 + i - 1000030 = i by omega]
    rw [← hw.2 j hj, ← e]
    rw [zx_zi (by omega)]
    rfl
section AwRulesStr
variable {d : Nat} {cd : List az_I} {rt : Option FieldType} {P : Option Value → az_S → Prop} {pc p' : Nat} {L : az_V} {st : List Value} {σ : az_S}
theorem aw_gsto {i k : Nat} (hf : az_fetch cd pc = some (3, .getstatic i, [k, 2])) (hp : pc + 3 = p') (h : aw d cd rt P p' L (va_rf (az_r σ 1000007 k) :: st) σ) : aw d cd rt P pc L st σ := by
  subst hp
  exact aw_nx hf (Nat.le_of_ble_eq_true rfl) ⟨k, 2, rfl, rfl⟩ h
theorem i2c_n : ∀ n : Nat, n < 128 → ((iI (n : Int)).toUInt32 % 65536).toInt32 = iI (n : Int) := by decide
theorem aw_i2c {a : Int} (hf : az_fetch cd pc = some (1, .i2c, [])) (h0 : 0 ≤ a) (h1 : a < 128) (hp : pc + 1 = p') (h : aw d cd rt P p' L (.int (iI a) :: st) σ) : aw d cd rt P pc L (.int (iI a) :: st) σ := by
  subst hp
  have e := i2c_n a.toNat (by omega)
  rw [show ((a.toNat : Nat) : Int) = a by omega] at e
  refine aw_nx hf (Nat.le_of_ble_eq_true rfl) ⟨_, st, rfl, rfl⟩ ?_
  rw [e]
  exact h
theorem chr_m : ∀ n : Nat, n < 128 → narrow .char (.int (iI (n : Int))) = .int (iI (n : Int)) := by
  intro n hn
  show Value.int _ = _
  congr 1
  exact i2c_n n hn
theorem chr_n {a : Int} (h0 : 0 ≤ a) (h1 : a < 128) : narrow .char (.int (iI a)) = .int (iI a) := by
  have e := chr_m a.toNat (by omega)
  rw [show ((a.toNat : Nat) : Int) = a by omega] at e
  exact e
end AwRulesStr
set_option maxRecDepth 10000 in
theorem j_coder {d : Nat} {σ : az_S} {i : Nat} (hS : ST σ i) : fn (d + 1) 261 [.ref (1000010 + i)] σ (.int (iI 0)) := by
  refine fn_of (M := (yJ0_coder_7d493, cJ0_coder_7d493, 1, (some .byte))) (cd := k_J0_coder_7d493) (L := [some (.ref (1000010 + i))]) rfl (Nat.le_of_ble_eq_true rfl) rfl rfl ?_
  refine aw_gsti (v := 1) rfl hS.2.2.2.2.1 rfl ?_
  refine aw_if (p' := 13) rfl ⟨by omega, by omega⟩ rfl rfl (fun c => ?_) (fun c => ?_)
  · dsimp only [zc] at c; omega
  · refine aw_aload_n rfl rfl rfl ?_
    refine aw_geti (v := iI 0) rfl rfl (by rw [hS.1]) hS.2.2.2.1 rfl ?_
    refine aw_goto rfl rfl ?_
    exact aw_retn rfl rfl ⟨rfl, rfl⟩
set_option maxRecDepth 10000 in
theorem j_latin {d : Nat} {σ : az_S} {i : Nat} (hS : ST σ i) : fn (d + 1) 262 [.ref (1000010 + i)] σ (.int (iI 1)) := by
  refine fn_of (M := (yJ0_isLatin1_aae02, cJ0_isLatin1_aae02, 1, (some .boolean))) (cd := k_J0_isLatin1_aae02) (L := [some (.ref (1000010 + i))]) rfl (Nat.le_of_ble_eq_true rfl) rfl rfl ?_
  refine aw_gsti (v := 1) rfl hS.2.2.2.2.1 rfl ?_
  refine aw_if (p' := 17) rfl ⟨by omega, by omega⟩ rfl rfl (fun c => ?_) (fun c => ?_)
  · dsimp only [zc] at c; omega
  · refine aw_aload_n rfl rfl rfl ?_
    refine aw_geti (v := iI 0) rfl rfl (by rw [hS.1]) hS.2.2.2.1 rfl ?_
    refine aw_if (p' := 17) rfl ⟨by omega, by omega⟩ rfl rfl (fun c2 => ?_) (fun c2 => ?_)
    · dsimp only [zc] at c2; omega
    · refine aw_iconst rfl rfl ?_
      refine aw_goto rfl rfl ?_
      exact aw_retn rfl rfl ⟨rfl, rfl⟩
set_option maxRecDepth 10000 in
theorem j_slen {d : Nat} {σ : az_S} {i : Nat} (hi : i < 15) (hS : ST σ i) : fn (d + 2) 259 [.ref (1000010 + i)] σ (.int (iI ((wX.getD i []).length : Int))) := by
  have hb := wX_b i hi
  refine fn_of (M := (yJ0_length_8abf5, cJ0_length_8abf5, 1, (some .int))) (cd := k_J0_length_8abf5) (L := [some (.ref (1000010 + i))]) rfl (Nat.le_of_ble_eq_true rfl) rfl rfl ?_
  refine aw_aload_n rfl rfl rfl ?_
  refine aw_getr (b := 1000030 + i) rfl rfl (by rw [hS.1]) hS.2.2.1 rfl ?_
  refine aw_alen (N := (wX.getD i []).length) rfl hS.2.1 (by decide) rfl ?_
  refine aw_aload_n rfl rfl rfl ?_
  refine aw_fnc (j_coder hS) rfl rfl rfl (Nat.le_of_ble_eq_true rfl) (Or.inr ⟨_, rfl, by rw [hS.1]⟩) rfl ?_
  refine aw_ishr rfl (by omega) (by omega) (by omega) (by omega) rfl ?_
  refine aw_reti rfl ⟨?_, rfl⟩
  rw [show (0 : Int).toNat = 0 from rfl, Int.pow_zero, Int.ediv_one]
set_option maxRecDepth 10000 in
theorem j_chk {d : Nat} {σ : az_S} {i n : Int} (h0 : 0 ≤ i) (h1 : i < n) (hn : n ≤ 100000) : cal (d + 2) 263 [.int (iI i), .int (iI n)] σ (fun r τ => r = none ∧ τ = σ) := by
  refine cal_of (M := (yJ0_checkIndex_df160, cJ0_checkIndex_df160, 2, none)) (cd := k_J0_checkIndex_df160) (L := [some (.int (iI i)), some (.int (iI n))]) rfl (Nat.le_of_ble_eq_true rfl) rfl rfl ?_
  refine aw_iload_n rfl rfl rfl ?_
  refine aw_iload_n rfl rfl rfl ?_
  refine aw_gsto rfl rfl ?_
  refine aw_fnc (j_check h0 h1 hn) rfl rfl rfl (Nat.le_of_ble_eq_true rfl) (Or.inl rfl) rfl ?_
  refine aw_pop rfl rfl rfl ?_
  exact aw_retv rfl ⟨rfl, rfl⟩
set_option maxRecDepth 10000 in
theorem j_lchar {d : Nat} {σ : az_S} {i : Nat} (hi : i < 15) (hS : ST σ i) {j : Nat} (hj : j < (wX.getD i []).length) : fn (d + 3) 264 [.ref (1000030 + i), .int (iI (j : Int))] σ (.int (iI ((wX.getD i []).getD j 0))) := by
  have hb := wX_b i hi
  have hc := hb.2.2 j hj
  refine fn_of (M := (yJ1_charAt_3b067, cJ1_charAt_3b067, 2, (some .char))) (cd := k_J1_charAt_3b067) (L := [some (.ref (1000030 + i)), some (.int (iI (j : Int)))]) rfl (Nat.le_of_ble_eq_true rfl) rfl rfl ?_
  refine aw_iload_n rfl rfl rfl ?_
  refine aw_aload_n rfl rfl rfl ?_
  refine aw_alen (N := (wX.getD i []).length) rfl hS.2.1 (by decide) rfl ?_
  refine aw_calc (j_chk (i := (j : Int)) (n := ((wX.getD i []).length : Int)) (by omega) (by omega) (by omega)) rfl rfl rfl (Nat.le_of_ble_eq_true rfl) (Or.inl rfl) rfl ?_
  rintro _ _ ⟨rfl, rfl⟩
  refine aw_aload_n rfl rfl rfl ?_
  refine aw_iload_n rfl rfl rfl ?_
  refine aw_bk (v := (wX.getD i []).getD j 0) (N := (wX.getD i []).length) rfl hS.2.1 (by decide) (by omega) (by omega) (by omega) (hS.2.2.2.2.2 j hj) rfl (fun _ _ => ?_)
  refine aw_sipush rfl rfl rfl ?_
  refine aw_iand255 rfl rfl ?_
  rw [show (wX.getD i []).getD j 0 % 256 = (wX.getD i []).getD j 0 by omega]
  refine aw_i2c rfl (by omega) (by omega) rfl ?_
  exact aw_retn rfl (chr_n (by omega) (by omega)) ⟨rfl, rfl⟩
set_option maxRecDepth 10000 in
theorem j_char {d : Nat} {σ : az_S} {i : Nat} (hi : i < 15) (hS : ST σ i) {j : Nat} (hj : j < (wX.getD i []).length) : fn (d + 4) 260 [.ref (1000010 + i), .int (iI (j : Int))] σ (.int (iI ((wX.getD i []).getD j 0))) := by
  have hb := wX_b i hi
  have hc := hb.2.2 j hj
  refine fn_of (M := (yJ0_charAt_5068e, cJ0_charAt_5068e, 2, (some .char))) (cd := k_J0_charAt_5068e) (L := [some (.ref (1000010 + i)), some (.int (iI (j : Int)))]) rfl (Nat.le_of_ble_eq_true rfl) rfl rfl ?_
  refine aw_aload_n rfl rfl rfl ?_
  refine aw_fnc (j_latin hS) rfl rfl rfl (Nat.le_of_ble_eq_true rfl) (Or.inr ⟨_, rfl, by rw [hS.1]⟩) rfl ?_
  refine aw_if (p' := 16) rfl ⟨by omega, by omega⟩ rfl rfl (fun c => ?_) (fun c => ?_)
  · dsimp only [zc] at c; omega
  · refine aw_aload_n rfl rfl rfl ?_
    refine aw_getr (b := 1000030 + i) rfl rfl (by rw [hS.1]) hS.2.2.1 rfl ?_
    refine aw_iload_n rfl rfl rfl ?_
    refine aw_fnc (j_lchar hi hS hj) rfl rfl rfl (Nat.le_of_ble_eq_true rfl) (Or.inl rfl) rfl ?_
    exact aw_retn rfl (chr_n (by omega) (by omega)) ⟨rfl, rfl⟩
