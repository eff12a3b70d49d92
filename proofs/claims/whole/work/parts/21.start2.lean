def az_fl0 : List Cond := flatC (Jvm.Cond.and given_1 narrow_1)
def az_tm (i : Nat) : Term := .string "ShadeRegister$Tape" (az_ti.getD i 0)
def az_tv (i : Nat) : Term := .field (az_tm i) "java/lang/String" "value" "[B"
def az_fp : List Nat := [30, 38, 48, 57, 70, 82, 95, 110, 126, 142, 159, 175, 193, 212, 232]
theorem az_f1 : ∀ i, i < 15 → az_fl0[az_fp.getD i 0]? = some (.exactly (az_tm i) "java/lang/String") := by decide +kernel
theorem az_f2 : ∀ i, i < 15 → az_fl0[az_fp.getD i 0 + 1]? = some (.eq (.field (az_tm i) "java/lang/String" "coder" "B") (.int 0)) := by decide +kernel
theorem az_f3 : ∀ i, i < 15 → az_fl0[az_fp.getD i 0 + 2]? = some (.arrayOf (az_tv i) .byte) := by decide +kernel
theorem az_f4 : ∀ i, i < 15 → az_fl0[az_fp.getD i 0 + 3]? = some (.eq (.length (az_tv i)) (.int (Int32.ofNat (az_tl.getD i 0)))) := by decide +kernel
theorem az_f5 : ∀ i, i < 15 → ∀ j, j < az_tl.getD i 0 → az_fl0[az_fp.getD i 0 + 4 + j]? = some (.eq (.elem (az_tv i) (.int (Int32.ofNat j))) (.int ((az_tx.getD i []).getD j 0))) := by decide +kernel
abbrev az_tE : Term := .static "java/util/ArrayList" "DEFAULTCAPACITY_EMPTY_ELEMENTDATA" "[Ljava/lang/Object;"
abbrev az_tX : Term := .static "ShadeRegister$Route" "STEPS_X" "[I"
abbrev az_tY : Term := .static "ShadeRegister$Route" "STEPS_Y" "[I"
theorem az_g1 : az_fl0[5]? = some (.arrayOf az_tE (.object "java/lang/Object")) := by decide +kernel
theorem az_g2 : az_fl0[7]? = some (.eq (.length az_tE) (.int 0)) := by decide +kernel
theorem az_g3 : az_fl0[8]? = some (.eq (.static "java/lang/String" "COMPACT_STRINGS" "Z") (.int 1)) := by decide +kernel
theorem az_g4 : az_fl0[9]? = some (.isRef (.static "jdk/internal/util/Preconditions" "SIOOBE_FORMATTER" "Ljava/util/function/BiFunction;")) := by decide +kernel
theorem az_g5 : az_fl0[14]? = some (.arrayOf az_tX .int) := by decide +kernel
theorem az_g6 : az_fl0[15]? = some (.eq (.length az_tX) (.int 5)) := by decide +kernel
theorem az_g7 : ∀ j, j < 5 → az_fl0[16 + j]? = some (.eq (.elem az_tX (.int (Int32.ofNat j))) (.int (az_sx j))) := by decide +kernel
theorem az_g8 : az_fl0[22]? = some (.arrayOf az_tY .int) := by decide +kernel
theorem az_g9 : az_fl0[23]? = some (.eq (.length az_tY) (.int 5)) := by decide +kernel
theorem az_g10 : ∀ j, j < 5 → az_fl0[24 + j]? = some (.eq (.elem az_tY (.int (Int32.ofNat j))) (.int (az_sy j))) := by decide +kernel
theorem az_g11 : az_fl0[29]? = some (.isRef (.mirror "[Ljava/lang/Object;")) := by decide +kernel
theorem az_tl_lt : ∀ i, i < 15 → az_tl.getD i 0 < 2 ^ 31 := by decide
theorem az_ss_at : ∀ q ∈ az_ss, ∃ i, i < 15 ∧ q.1 = "ShadeRegister$Tape" ∧ q.2.1 = az_ti.getD i 0 ∧ q.2.2.2 = 1000010 + i := by
  intro q hq
  have h : az_ss.all (fun q => (List.range 15).any (fun i => decide (q.1 = "ShadeRegister$Tape") && (decide (q.2.1 = az_ti.getD i 0) && decide (q.2.2.2 = 1000010 + i)))) = true := by decide +kernel
  have h1 := List.all_eq_true.mp h q hq
  obtain ⟨i, hi, h2⟩ := List.any_eq_true.mp h1
  simp only [Bool.and_eq_true, decide_eq_true_eq] at h2
  exact ⟨i, List.mem_range.mp hi, h2⟩
theorem az_ls0 : Cond.laysStatic "java/util/ArrayList" "DEFAULTCAPACITY_EMPTY_ELEMENTDATA" "[Ljava/lang/Object;" ∈ lw_tbl := az_isT_in (w := 1072) (by decide +kernel)
theorem az_li0 : Cond.initialized "java/util/ArrayList" ∈ az_G := az_is_in (w := 1006) (by decide +kernel)
theorem az_ls1 : Cond.laysStatic "ShadeRegister$Route" "STEPS_X" "[I" ∈ lw_tbl := az_isT_in (w := 5200) (by decide +kernel)
theorem az_li1 : Cond.initialized "ShadeRegister$Route" ∈ az_G := az_is_in (w := 1011) (by decide +kernel)
theorem az_ls2 : Cond.laysStatic "ShadeRegister$Route" "STEPS_Y" "[I" ∈ lw_tbl := az_isT_in (w := 5202) (by decide +kernel)
theorem az_li2 : Cond.initialized "ShadeRegister$Route" ∈ az_G := az_is_in (w := 1011) (by decide +kernel)
theorem az_ls3 : Cond.laysStatic "jdk/internal/util/Preconditions" "SIOOBE_FORMATTER" "Ljava/util/function/BiFunction;" ∈ lw_tbl := az_isT_in (w := 4169) (by decide +kernel)
theorem az_li3 : Cond.initialized "jdk/internal/util/Preconditions" ∈ az_G := az_is_in (w := 1019) (by decide +kernel)
theorem az_ls4 : Cond.laysStatic "java/lang/String" "COMPACT_STRINGS" "Z" ∈ lw_tbl := az_isT_in (w := 4153) (by decide +kernel)
theorem az_li4 : Cond.initialized "java/lang/String" ∈ az_G := az_is_in (w := 1023) (by decide +kernel)
def az_srl : List Nat := [4139, 4190, 4191, 4192, 4193, 4194, 4195, 4196, 4201, 4202, 4203, 4204, 4205, 4206, 4207]
theorem az_sref : ∀ q ∈ az_ss, Cond.stringRef q.1 q.2.1 q.2.2.1 ∈ lw_tbl := by
  intro q hq
  have h : (az_ss.zip az_srl).all (fun x => az_isT x.2 (.stringRef x.1.1 x.1.2.1 x.1.2.2.1)) = true := by decide +kernel
  obtain ⟨i, hi⟩ := List.getElem?_of_mem hq
  have hl : i < az_srl.length := (List.getElem?_eq_some_iff.mp hi).1
  have hz : (q, az_srl[i]) ∈ az_ss.zip az_srl := by
    refine List.mem_of_getElem? (i := i) ?_
    rw [List.getElem?_zip_eq_some]
    exact ⟨hi, List.getElem?_eq_getElem hl⟩
  exact az_isT_in (List.all_eq_true.mp h _ hz)
/-- what the Statement gives of the start, as the constants of the abstract store -/
theorem az_begin {s : State} {b L : Nat} {xs : Nat → Int32} (hts : ∀ w ∈ lw_tbl, w.before #[Value.ref b] s = true) (hX : va_X b L xs s s.heap) (hbl : b < s.heap.size) (hgv : (Jvm.Cond.and given_1 narrow_1).before #[Value.ref b] s = true) :
    ∃ (D : va_G) (cA : Nat → ClassId) (cs : Nat → Nat) (o : Option Nat), cs 1000000 = b ∧ az_Kx D cA cs s ∧ az_C s.heap.size cs (az_s0 L xs o) s := by
  have hfl : ∀ {k : Nat} {c : Cond}, az_fl0[k]? = some c → c.before #[Value.ref b] s = true := fun h => flat_of_before _ hgv _ (List.mem_of_getElem? h)
  have htG : ∀ w ∈ az_G, w.before #[Value.ref b] s = true := fun w hw => hts w (List.mem_filter.mp hw).1
  have hA : ∀ a : Nat, a < s.heap.size → ¬ (fun q => s.heap.size ≤ q) a := fun a ha => Nat.not_le.mpr ha
  obtain ⟨D, cA, hK⟩ := az_known htG az_cinst hts
  -- the strings
  have hstr : ∀ i : Nat, ∃ x : Nat × Nat, i < 15 → (az_tm i).eval #[Value.ref b] s none [] s = some (.ref x.1) ∧ va_O "java/lang/String" x.1 (fun q => s.heap.size ≤ q) s s.heap ∧ va_OF "java/lang/String" "coder" "B" (.int 0) x.1 (fun q => s.heap.size ≤ q) s s.heap ∧ va_OF "java/lang/String" "value" "[B" (.ref x.2) x.1 (fun q => s.heap.size ≤ q) s s.heap ∧ va_T .byte x.2 (az_tl.getD i 0) (fun j => .int ((az_tx.getD i []).getD j 0)) (fun q => s.heap.size ≤ q) s s.heap := by
    intro i
    by_cases hi : i < 15
    · have hex := hfl (az_f1 i hi)
      obtain ⟨a, c, cA', kA, q1, -⟩ := Cond.exactly_spec (args := #[Value.ref b]) (first := s) (o := none) (s := s) (idx := []) (t := az_tm i) (cls := "java/lang/String") hex
      obtain ⟨t, ht, hT⟩ := va_Tof (f := fun j => .int ((az_tx.getD i []).getD j 0)) (A := fun q => s.heap.size ≤ q) (az_tl_lt i hi) (hfl (az_f3 i hi)) (va_eqt (hfl (az_f4 i hi))) (fun j hj => va_eqt (hfl (az_f5 i hi j hj))) hA
      exact ⟨(a, t), fun _ => ⟨q1, va_Oof hex q1 hA, vk_OFof q1 (va_eqt (hfl (az_f2 i hi))) hA, vk_OFof q1 ht hA, hT⟩⟩
    · exact ⟨(0, 0), fun h => absurd h hi⟩
  obtain ⟨ad, had⟩ := Classical.axiomOfChoice hstr
  obtain ⟨tE, hE1, hE2⟩ := va_Tof (N := 0) (f := fun _ => .null) (A := fun q => s.heap.size ≤ q) (by decide) (hfl az_g1) (va_eqt (hfl az_g2)) (fun j hj => absurd hj (Nat.not_lt_zero j)) hA
  obtain ⟨tX, hX1, hX2⟩ := va_Tof (N := 5) (f := fun j => .int (az_sx j)) (A := fun q => s.heap.size ≤ q) (by decide) (hfl az_g5) (va_eqt (hfl az_g6)) (fun j hj => va_eqt (hfl (az_g7 j hj))) hA
  obtain ⟨tY, hY1, hY2⟩ := va_Tof (N := 5) (f := fun j => .int (az_sy j)) (A := fun q => s.heap.size ≤ q) (by decide) (hfl az_g8) (va_eqt (hfl az_g9)) (fun j hj => va_eqt (hfl (az_g10 j hj))) hA
  obtain ⟨mi, hmi⟩ := va_Mi.of (hfl az_g11)
  have zE := va_Zof (A := fun q => s.heap.size ≤ q) (hts _ az_ls0) (htG _ az_li0) hE1 hA
  have zX := va_Zof (A := fun q => s.heap.size ≤ q) (hts _ az_ls1) (htG _ az_li1) hX1 hA
  have zY := va_Zof (A := fun q => s.heap.size ≤ q) (hts _ az_ls2) (htG _ az_li1) hY1 hA
  have zQ := va_Zqof (A := fun q => s.heap.size ≤ q) (hts _ az_ls3) (htG _ az_li3) (hfl az_g4) hA
  have zS := va_Zof (A := fun q => s.heap.size ≤ q) (hts _ az_ls4) (htG _ az_li4) (va_eqi (hfl az_g3)) hA
  obtain ⟨tq, o, ho, hQ⟩ : ∃ (tq : Nat) (o : Option Nat), (o = none ∨ o = some 1000050) ∧ va_Z "jdk/internal/util/Preconditions" "SIOOBE_FORMATTER" "Ljava/util/function/BiFunction;" (va_rf (o.map (fun _ => tq))) (fun q => s.heap.size ≤ q) s s.heap := by
    rcases zQ with h | ⟨t, h⟩
    · exact ⟨0, none, Or.inl rfl, h⟩
    · exact ⟨t, some 1000050, Or.inr rfl, h⟩
  refine ⟨D, cA, fun a => if a = 1000000 then b else if a = 1000001 then tE else if a = 1000002 then tX else if a = 1000003 then tY else if a = 1000005 then mi else if a = 1000050 then tq else if a < 1000025 then (ad (a - 1000010)).1 else (ad (a - 1000030)).2, o, by simp, ⟨hK, ?_, ?_, ?_, ?_, ?_⟩, ?_⟩
  · intro w hw hN
    refine va_Nw.of ?_ (hts w hw)
    cases w <;> first | rfl | (simp [az_isN] at hN)
  · exact va_AO.of (hts _ (az_isT_in (w := 2183) (by decide +kernel)))
  · simpa using hmi
  · exact va_Dc.of (hts _ (az_isT_in (w := 9010) (by decide +kernel)))
  · intro q hq
    obtain ⟨i, hi, h1, h2, h3⟩ := az_ss_at q hq
    have hr := az_sref q hq
    refine vk_R.of (hts _ hr) ?_
    rw [h1, h2, h3]
    have e : (if (1000010 + i) = 1000000 then b else if (1000010 + i) = 1000001 then tE else if (1000010 + i) = 1000002 then tX else if (1000010 + i) = 1000003 then tY else if (1000010 + i) = 1000005 then mi else if (1000010 + i) = 1000050 then tq else if (1000010 + i) < 1000025 then (ad ((1000010 + i) - 1000010)).1 else (ad ((1000010 + i) - 1000030)).2) = (ad i).1 := by
      rw [if_neg (by omega), if_neg (by omega), if_neg (by omega), if_neg (by omega), if_neg (by omega), if_neg (by omega), if_pos (by omega), show 1000010 + i - 1000010 = i by omega]
    exact (had i hi).1.trans (congrArg (fun x => some (Value.ref x)) e.symm)
  · have hsh : ∀ a, (az_sh (az_s0 L xs o) a) = az_sh0 L a := fun _ => rfl
    refine ⟨fun a h => ?_, fun a h => ?_, fun a h => ?_, fun a h => ?_, rfl, fun k q hq => ?_⟩
    · have h' : (az_sh0 L a).1 = 110 := h
      rw [hsh]
      have ha : a = 1000000 ∨ a = 1000002 ∨ a = 1000003 := by
        revert h'
        unfold az_sh0
        repeat' split
        all_goals (intro h'; first | omega | (simp at h'; done))
      rcases ha with rfl | rfl | rfl
      · obtain ⟨scr, x1, x2, x3, x4, x5⟩ := hX
        exact ⟨scr, x1, x2, x3, by rw [x4]; exact Nat.le_refl _, by rw [x4]; rfl, x5, hA b hbl⟩
      · exact hX2
      · exact hY2
    · have h' : (az_sh0 L a).1 = 111 := h
      rw [hsh]
      have ha : a = 1000001 := by
        revert h'
        unfold az_sh0
        repeat' split
        all_goals (intro h'; first | omega | (simp at h'; done))
      subst ha
      exact hE2
    · have h' : (az_sh0 L a).1 = 112 := h
      rw [hsh]
      have ha : 1000030 ≤ a ∧ a < 1000045 := by
        revert h'
        unfold az_sh0
        repeat' split
        all_goals (intro h'; first | omega | (simp at h'; done))
      obtain ⟨i, hi, rfl⟩ : ∃ i, i < 15 ∧ a = 1000030 + i := ⟨a - 1000030, by omega, by omega⟩
      have e1 : az_sh0 L (1000030 + i) = (112, az_tl.getD i 0) := by
        unfold az_sh0
        rw [if_neg (by omega), if_neg (by omega), if_neg (by omega), if_neg (by omega), if_neg (by omega), if_neg (by omega), if_neg (by omega), if_pos (by omega), show 1000030 + i - 1000030 = i by omega]
      have e2 : ∀ j, az_i (az_s0 L xs o) (1000030 + i) j = (az_tx.getD i []).getD j 0 := by
        intro j
        show az_i0 xs (1000030 + i) j = _
        unfold az_i0
        rw [if_neg (by omega), if_neg (by omega), if_neg (by omega), if_neg (by omega), if_pos (by omega), show 1000030 + i - 1000030 = i by omega]
      rw [e1]
      simp only [e2]
      have e : (if (1000030 + i) = 1000000 then b else if (1000030 + i) = 1000001 then tE else if (1000030 + i) = 1000002 then tX else if (1000030 + i) = 1000003 then tY else if (1000030 + i) = 1000005 then mi else if (1000030 + i) = 1000050 then tq else if (1000030 + i) < 1000025 then (ad ((1000030 + i) - 1000010)).1 else (ad ((1000030 + i) - 1000030)).2) = (ad i).2 := by
        rw [if_neg (by omega), if_neg (by omega), if_neg (by omega), if_neg (by omega), if_neg (by omega), if_neg (by omega), if_neg (by omega), show 1000030 + i - 1000030 = i by omega]
      have h9 := (had i hi).2.2.2.2
      rw [← e] at h9
      exact h9
    · have h' : (az_sh0 L a).1 = 113 := h
      have ha : 1000010 ≤ a ∧ a < 1000025 := by
        revert h'
        unfold az_sh0
        repeat' split
        all_goals (intro h'; first | omega | (simp at h'; done))
      obtain ⟨i, hi, rfl⟩ : ∃ i, i < 15 ∧ a = 1000010 + i := ⟨a - 1000010, by omega, by omega⟩
      have e1 : az_r (az_s0 L xs o) (1000010 + i) 0 = some (1000030 + i) := by
        show az_r0 o (1000010 + i) 0 = _
        unfold az_r0
        rw [if_neg (by omega), if_pos (by omega), if_pos rfl, show 1000010 + i + 20 = 1000030 + i by omega]
      have e2 : az_i (az_s0 L xs o) (1000010 + i) 1 = 0 := by
        show az_i0 xs (1000010 + i) 1 = _
        unfold az_i0
        rw [if_neg (by omega), if_neg (by omega), if_neg (by omega), if_neg (by omega), if_neg (by omega)]
      rw [e1, e2]
      have e3 : ∀ (f : Nat → Nat), az_tr (az_ad s.heap.size f) (va_rf (some (1000030 + i))) = .ref (f (1000030 + i)) := by
        intro f
        show Value.ref (az_ad s.heap.size f (1000030 + i)) = _
        rw [az_ad_ge (by omega)]
      rw [e3]
      have e : (if (1000010 + i) = 1000000 then b else if (1000010 + i) = 1000001 then tE else if (1000010 + i) = 1000002 then tX else if (1000010 + i) = 1000003 then tY else if (1000010 + i) = 1000005 then mi else if (1000010 + i) = 1000050 then tq else if (1000010 + i) < 1000025 then (ad ((1000010 + i) - 1000010)).1 else (ad ((1000010 + i) - 1000030)).2) = (ad i).1 := by
        rw [if_neg (by omega), if_neg (by omega), if_neg (by omega), if_neg (by omega), if_neg (by omega), if_neg (by omega), if_pos (by omega), show 1000010 + i - 1000010 = i by omega]
      have e' : (if (1000030 + i) = 1000000 then b else if (1000030 + i) = 1000001 then tE else if (1000030 + i) = 1000002 then tX else if (1000030 + i) = 1000003 then tY else if (1000030 + i) = 1000005 then mi else if (1000030 + i) = 1000050 then tq else if (1000030 + i) < 1000025 then (ad ((1000030 + i) - 1000010)).1 else (ad ((1000030 + i) - 1000030)).2) = (ad i).2 := by
        rw [if_neg (by omega), if_neg (by omega), if_neg (by omega), if_neg (by omega), if_neg (by omega), if_neg (by omega), if_neg (by omega), show 1000030 + i - 1000030 = i by omega]
      simp only [e, e']
      exact ⟨(had i hi).2.2.2.1, (had i hi).2.2.1, (had i hi).2.1⟩
    · match k, hq with
      | 0, hq => cases hq; exact zE
      | 1, hq => cases hq; exact zX
      | 2, hq => cases hq; exact zY
      | 3, hq =>
        cases hq
        show va_Z _ _ _ (az_tr _ (va_rf o)) _ s s.heap
        rcases ho with rfl | rfl
        · exact hQ
        · exact hQ
      | 4, hq => cases hq; exact zS
      | k + 5, hq => simp [az_st] at hq
