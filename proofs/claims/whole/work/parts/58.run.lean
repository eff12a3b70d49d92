/-! THE CLASS'S TARIFF -/
def trO (o : Int) : Int := if o = 400 then 2 else if o = 401 then 3 else if o = 402 then 27 else if o = 403 then 9 else if o = 404 then 10 else if o = 405 then 8 else if o = 406 then 7 else if o = 407 then 6 else if o = 43 then 17 else if o = 45 then 18 else if o = 42 then 19 else if o = 47 then 20 else if o = 60 then 11 else if o = 300 then 12 else if o = 62 then 13 else if o = 301 then 14 else if o = 61 then 15 else 16
def cCode (f s : Int → Int) : Int → List (Int × Int) → Prop
  | _, [] => True
  | k, q :: r => f k = trO q.1 ∧ s k = q.2 ∧ cCode f s (k + 1) r
def cRul (f s a e : Int → Int) : Int → Int → tRules → Prop
  | _, _, [] => True
  | i, k, p :: r => a i = k + p.1.length ∧ e i = k + p.1.length + p.2.length ∧ cCode f s k p.1 ∧ cCode f s (k + p.1.length) p.2 ∧ cRul f s a e (i + 1) (k + p.1.length + p.2.length) r
def cTar (σ : az_S) (b : Nat) (R : tRules) : Prop := zx σ b 5 = tLen R ∧ zx σ b 6 = R.length ∧ cRul (zx σ (b + 1)) (zx σ (b + 2)) (zx σ (b + 3)) (zx σ (b + 4)) 0 0 R
theorem FX.tar {sz : Nat} {σ : az_S} (h : FX sz σ) {b : Nat} (hb : b = 16 ∨ b = 22) : (az_sh σ b).1 = 10 ∧ (az_sh σ (b + 1) = (100, 400) ∧ az_sh σ (b + 2) = (100, 400) ∧ az_sh σ (b + 3) = (100, 20) ∧ az_sh σ (b + 4) = (100, 20) ∧ az_sh σ (b + 5) = (103, 64)) ∧ (az_r σ b 0 = some (b + 1) ∧ az_r σ b 1 = some (b + 2) ∧ az_r σ b 2 = some (b + 3) ∧ az_r σ b 3 = some (b + 4) ∧ az_r σ b 4 = some (b + 5)) := by
  rcases hb with rfl | rfl
  · exact ⟨h.k 16 rfl, ⟨h.s 17 rfl, h.s 18 rfl, h.s 19 rfl, h.s 20 rfl, h.s 21 rfl⟩, h.r 16 0 17 rfl, h.r 16 1 18 rfl, h.r 16 2 19 rfl, h.r 16 3 20 rfl, h.r 16 4 21 rfl⟩
  · exact ⟨h.k 22 rfl, ⟨h.s 23 rfl, h.s 24 rfl, h.s 25 rfl, h.s 26 rfl, h.s 27 rfl⟩, h.r 22 0 23 rfl, h.r 22 1 24 rfl, h.r 22 2 25 rfl, h.r 22 3 26 rfl, h.r 22 4 27 rfl⟩
theorem trO_n {o : Int} (h : opN o ∨ opC o ∨ opB o) : (o = 43 ∧ trO o = 17) ∨ (o = 45 ∧ trO o = 18) ∨ (o = 42 ∧ trO o = 19) ∨ (o = 47 ∧ trO o = 20) ∨ (o = 403 ∧ trO o = 9) ∨ (o = 404 ∧ trO o = 10) ∨ (o = 60 ∧ trO o = 11) ∨ (o = 300 ∧ trO o = 12) ∨ (o = 62 ∧ trO o = 13) ∨ (o = 301 ∧ trO o = 14) ∨ (o = 61 ∧ trO o = 15) ∨ (o = 35 ∧ trO o = 16) ∨ (o = 406 ∧ trO o = 7) ∨ (o = 407 ∧ trO o = 6) := by
  unfold opN opC opB at h
  rcases h with (rfl | rfl | rfl | rfl | rfl | rfl) | (rfl | rfl | rfl | rfl | rfl | rfl) | (rfl | rfl) <;> simp [trO]
theorem tyP_tr {q : Int × Int} {t t' : List Bool} (h : tyP q t t') : (q.1 = 400 ∧ trO q.1 = 2) ∨ (q.1 = 401 ∧ trO q.1 = 3) ∨ (q.1 = 402 ∧ trO q.1 = 27) ∨ (q.1 = 405 ∧ trO q.1 = 8) ∨ ((opN q.1 ∨ opC q.1 ∨ opB q.1) ∧ (q.1 ≠ 400 ∧ q.1 ≠ 401 ∧ q.1 ≠ 402 ∧ q.1 ≠ 405) ∧ ((6 ≤ trO q.1 ∧ trO q.1 ≤ 7) ∨ (9 ≤ trO q.1 ∧ trO q.1 ≤ 20))) := by
  rcases h with ⟨h0, -⟩ | ⟨h0, -⟩ | ⟨h0, -⟩ | ⟨h0, -⟩ | ⟨h0, -⟩ | ⟨h0, -⟩ | ⟨h0, -⟩
  · left; exact ⟨h0, by rw [h0]; rfl⟩
  · right; left; exact ⟨h0, by rw [h0]; rfl⟩
  · right; right; left; exact ⟨h0, by rw [h0]; rfl⟩
  · right; right; right; left; exact ⟨h0, by rw [h0]; rfl⟩
  · right; right; right; right
    have := trO_n (Or.inr (Or.inr h0))
    exact ⟨Or.inr (Or.inr h0), by unfold opB at h0; omega, by omega⟩
  · right; right; right; right
    have := trO_n (Or.inr (Or.inl h0))
    exact ⟨Or.inr (Or.inl h0), by unfold opC at h0; omega, by omega⟩
  · right; right; right; right
    have := trO_n (Or.inl h0)
    exact ⟨Or.inl h0, by unfold opN at h0; omega, by omega⟩
theorem vW_43 (a b : Int) : vW 43 a b = (bd (a + b)) := by
  unfold vW
  (repeat (first | rw [if_pos rfl] | rw [if_neg (by decide)]))
theorem vW_45 (a b : Int) : vW 45 a b = (bd (a - b)) := by
  unfold vW
  (repeat (first | rw [if_pos rfl] | rw [if_neg (by decide)]))
theorem vW_42 (a b : Int) : vW 42 a b = (bd (a * b)) := by
  unfold vW
  (repeat (first | rw [if_pos rfl] | rw [if_neg (by decide)]))
theorem vW_47 (a b : Int) : vW 47 a b = (if b = 0 then 0 else a.tdiv b) := by
  unfold vW
  (repeat (first | rw [if_pos rfl] | rw [if_neg (by decide)]))
theorem vW_403 (a b : Int) : vW 403 a b = (if a < b then a else b) := by
  unfold vW
  (repeat (first | rw [if_pos rfl] | rw [if_neg (by decide)]))
theorem vW_404 (a b : Int) : vW 404 a b = (if b < a then a else b) := by
  unfold vW
  (repeat (first | rw [if_pos rfl] | rw [if_neg (by decide)]))
theorem vW_60 (a b : Int) : vW 60 a b = (if a < b then 1 else 0) := by
  unfold vW
  (repeat (first | rw [if_pos rfl] | rw [if_neg (by decide)]))
theorem vW_62 (a b : Int) : vW 62 a b = (if b < a then 1 else 0) := by
  unfold vW
  (repeat (first | rw [if_pos rfl] | rw [if_neg (by decide)]))
theorem vW_61 (a b : Int) : vW 61 a b = (if a = b then 1 else 0) := by
  unfold vW
  (repeat (first | rw [if_pos rfl] | rw [if_neg (by decide)]))
theorem vW_35 (a b : Int) : vW 35 a b = (if a = b then 0 else 1) := by
  unfold vW
  (repeat (first | rw [if_pos rfl] | rw [if_neg (by decide)]))
theorem vW_300 (a b : Int) : vW 300 a b = (if a ≤ b then 1 else 0) := by
  unfold vW
  (repeat (first | rw [if_pos rfl] | rw [if_neg (by decide)]))
theorem vW_301 (a b : Int) : vW 301 a b = (if b ≤ a then 1 else 0) := by
  unfold vW
  (repeat (first | rw [if_pos rfl] | rw [if_neg (by decide)]))
theorem vW_406 (a b : Int) : vW 406 a b = (a * b) := by
  unfold vW
  (repeat (first | rw [if_pos rfl] | rw [if_neg (by decide)]))
theorem vW_407 (a b : Int) : vW 407 a b = (if 0 < a + b then 1 else 0) := by
  unfold vW
  (repeat (first | rw [if_pos rfl] | rw [if_neg (by decide)]))
section AwLong2
variable {d : Nat} {cd : List az_I} {rt : Option FieldType} {P : Option Value → az_S → Prop} {pc p' : Nat} {L : az_V} {st : List Value} {σ : az_S}
theorem aw_land01 {a b : Int} (hf : az_fetch cd pc = some (1, .land, [])) (ha : a = 0 ∨ a = 1) (hb : b = 0 ∨ b = 1) (hp : pc + 1 = p') (h : aw d cd rt P p' L (.long (lI (a * b)) :: st) σ) : aw d cd rt P pc L (.long (lI b) :: .long (lI a) :: st) σ := by
  subst hp
  refine aw_nx hf (Nat.le_of_ble_eq_true rfl) ⟨_, _, st, rfl, rfl⟩ ?_
  rcases ha with rfl | rfl <;> rcases hb with rfl | rfl <;> exact h
theorem aw_lor01 {a b : Int} (hf : az_fetch cd pc = some (1, .lor, [])) (ha : a = 0 ∨ a = 1) (hb : b = 0 ∨ b = 1) (hp : pc + 1 = p') (h : aw d cd rt P p' L (.long (lI (if 0 < a + b then 1 else 0)) :: st) σ) : aw d cd rt P pc L (.long (lI b) :: .long (lI a) :: st) σ := by
  subst hp
  refine aw_nx hf (Nat.le_of_ble_eq_true rfl) ⟨_, _, st, rfl, rfl⟩ ?_
  rcases ha with rfl | rfl <;> rcases hb with rfl | rfl <;> exact h
theorem aw_lsm {a N : Nat} {z x : Int} (hf : az_fetch cd pc = some (1, .lastore, [])) (hs : az_sh σ a = (103, N)) (hN : N ≤ 10000) (h0 : 0 ≤ z) (hj : z < N) (hx1 : -9223372036854775808 ≤ x) (hx2 : x < 9223372036854775808) (hp : pc + 1 = p') (h : ∀ τ, Mod σ τ [a] → (∀ w, zq τ a w = if w = z then x else zq σ a w) → aw d cd rt P p' L st τ) : aw d cd rt P pc L (.long (lI x) :: .int (iI z) :: .ref a :: st) σ := by
  have hd : Mod σ (az_pl σ a z.toNat (lI x)) [a] := Mod_pl (by simp)
  refine aw_lastore hf hs hN h0 hj hp (h _ hd (fun w => ?_))
  rw [zq_pl h0 hx1 hx2]
  simp
end AwLong2
set_option maxRecDepth 10000 in
set_option maxHeartbeats 2000000 in
theorem c_bounded {d : Nat} {σ : az_S} {v : Int} (h1 : -9223372036854775808 ≤ v) (h2 : v < 9223372036854775808) : fn (d + 1) 84 [.long (lI v)] σ (.long (lI (bd v))) := by
  refine fn_of (M := (yX9_bounded, cX9_bounded, 2, (some .long))) (cd := k_X9_bounded) (L := [some (.long (lI v)), none]) rfl (Nat.le_of_ble_eq_true rfl) rfl rfl ?_
  refine aw_lload_n rfl rfl rfl ?_
  refine aw_ldc2 (1000000000) rfl rfl rfl ?_
  refine aw_lcif (p' := 12) rfl rfl (by omega) (by omega) (by omega) (by omega) rfl rfl (fun c1 => ?_) (fun c1 => ?_)
  · dsimp only [zc] at c1
    refine aw_lload_n rfl rfl rfl ?_
    refine aw_ldc2 (-1000000000) rfl rfl rfl ?_
    refine aw_lcif (p' := 26) rfl rfl (by omega) (by omega) (by omega) (by omega) rfl rfl (fun c2 => ?_) (fun c2 => ?_)
    · dsimp only [zc] at c2
      refine aw_lload_n rfl rfl rfl ?_
      refine aw_retl rfl ?_
      refine ⟨?_, rfl⟩
      unfold bd
      (repeat (first | rw [if_pos (by omega)] | rw [if_neg (by omega)]))
    · dsimp only [zc] at c2
      refine aw_ldc2 (-1000000000) rfl rfl rfl ?_
      refine aw_goto (p' := 27) rfl rfl ?_
      refine aw_retl rfl ?_
      refine ⟨?_, rfl⟩
      unfold bd
      (repeat (first | rw [if_pos (by omega)] | rw [if_neg (by omega)]))
  · dsimp only [zc] at c1
    refine aw_ldc2 (1000000000) rfl rfl rfl ?_
    refine aw_retl rfl ?_
    refine ⟨?_, rfl⟩
    unfold bd
    (repeat (first | rw [if_pos (by omega)] | rw [if_neg (by omega)]))
set_option maxRecDepth 10000 in
set_option maxHeartbeats 2000000 in
theorem c_join {d : Nat} {σ : az_S} {o a b : Int} (ho : opN o ∨ opC o ∨ opB o) (ha : -1000000000 ≤ a ∧ a ≤ 1000000000) (hb : -1000000000 ≤ b ∧ b ≤ 1000000000) (h01 : opB o → (a = 0 ∨ a = 1) ∧ (b = 0 ∨ b = 1)) : fn (d + 2) 83 [.int (iI (trO o)), .long (lI a), .long (lI b)] σ (.long (lI (vW o a b))) := by
  have hd := trO_n ho
  have hm := mulb2 ha.1 ha.2 hb.1 hb.2
  refine fn_of (M := (yX9_join, cX9_join, 5, (some .long))) (cd := k_X9_join) (L := [some (.int (iI (trO o))), some (.long (lI a)), none, some (.long (lI b)), none]) rfl (Nat.le_of_ble_eq_true rfl) rfl rfl ?_
  refine aw_iload_n rfl rfl rfl ?_
  refine aw_tsb (p' := 199) 0 rfl rfl ⟨by omega, by omega⟩ (by omega) rfl (fun c1 => ?_) (fun c1 => ?_)
  · have q01 := h01 (Or.inr (by omega))
    refine aw_lload_n rfl rfl rfl ?_
    refine aw_lload_n rfl rfl rfl ?_
    refine aw_lor01 rfl q01.1 q01.2 rfl ?_
    refine aw_retl rfl ?_
    refine ⟨?_, rfl⟩
    first | (exfalso; omega) | (rw [show o = 43 by omega, vW_43]; done) | (rw [show o = 45 by omega, vW_45]; done) | (rw [show o = 42 by omega, vW_42]; done) | (rw [show o = 406 by omega, vW_406]; done) | (rw [show o = 407 by omega, vW_407]; done) | (rw [show o = 47 by omega, vW_47, if_pos (by omega)]; done) | (rw [show o = 47 by omega, vW_47, if_neg (by omega)]; done) | (rw [show o = 60 by omega, vW_60, if_pos (by omega)]; done) | (rw [show o = 60 by omega, vW_60, if_neg (by omega)]; done) | (rw [show o = 62 by omega, vW_62, if_pos (by omega)]; done) | (rw [show o = 62 by omega, vW_62, if_neg (by omega)]; done) | (rw [show o = 61 by omega, vW_61, if_pos (by omega)]; done) | (rw [show o = 61 by omega, vW_61, if_neg (by omega)]; done) | (rw [show o = 35 by omega, vW_35, if_pos (by omega)]; done) | (rw [show o = 35 by omega, vW_35, if_neg (by omega)]; done) | (rw [show o = 300 by omega, vW_300, if_pos (by omega)]; done) | (rw [show o = 300 by omega, vW_300, if_neg (by omega)]; done) | (rw [show o = 301 by omega, vW_301, if_pos (by omega)]; done) | (rw [show o = 301 by omega, vW_301, if_neg (by omega)]; done)
  refine aw_tsb (p' := 195) 1 rfl rfl ⟨by omega, by omega⟩ (by omega) rfl (fun c2 => ?_) (fun c2 => ?_)
  · have q01 := h01 (Or.inl (by omega))
    refine aw_lload_n rfl rfl rfl ?_
    refine aw_lload_n rfl rfl rfl ?_
    refine aw_land01 rfl q01.1 q01.2 rfl ?_
    refine aw_retl rfl ?_
    refine ⟨?_, rfl⟩
    first | (exfalso; omega) | (rw [show o = 43 by omega, vW_43]; done) | (rw [show o = 45 by omega, vW_45]; done) | (rw [show o = 42 by omega, vW_42]; done) | (rw [show o = 406 by omega, vW_406]; done) | (rw [show o = 407 by omega, vW_407]; done) | (rw [show o = 47 by omega, vW_47, if_pos (by omega)]; done) | (rw [show o = 47 by omega, vW_47, if_neg (by omega)]; done) | (rw [show o = 60 by omega, vW_60, if_pos (by omega)]; done) | (rw [show o = 60 by omega, vW_60, if_neg (by omega)]; done) | (rw [show o = 62 by omega, vW_62, if_pos (by omega)]; done) | (rw [show o = 62 by omega, vW_62, if_neg (by omega)]; done) | (rw [show o = 61 by omega, vW_61, if_pos (by omega)]; done) | (rw [show o = 61 by omega, vW_61, if_neg (by omega)]; done) | (rw [show o = 35 by omega, vW_35, if_pos (by omega)]; done) | (rw [show o = 35 by omega, vW_35, if_neg (by omega)]; done) | (rw [show o = 300 by omega, vW_300, if_pos (by omega)]; done) | (rw [show o = 300 by omega, vW_300, if_neg (by omega)]; done) | (rw [show o = 301 by omega, vW_301, if_pos (by omega)]; done) | (rw [show o = 301 by omega, vW_301, if_neg (by omega)]; done)
  refine aw_tsb (p' := 111) 3 rfl rfl ⟨by omega, by omega⟩ (by omega) rfl (fun c3 => ?_) (fun c3 => ?_)
  · refine aw_lload_n rfl rfl rfl ?_
    refine aw_lload_n rfl rfl rfl ?_
    refine aw_fnc (j_lmin (by omega) (by omega) (by omega) (by omega)) rfl rfl rfl (Nat.le_of_ble_eq_true rfl) (Or.inl rfl) rfl ?_
    refine aw_retl rfl ?_
    refine ⟨?_, rfl⟩
    rw [show o = 403 by omega, vW_403]
    by_cases q : a < b
    · rw [if_neg (c := b < a) (by omega), if_pos q]
    · by_cases q2 : b < a
      · rw [if_pos q2, if_neg q]
      · rw [if_neg q2, if_neg q, show a = b by omega]
  refine aw_tsb (p' := 117) 4 rfl rfl ⟨by omega, by omega⟩ (by omega) rfl (fun c4 => ?_) (fun c4 => ?_)
  · refine aw_lload_n rfl rfl rfl ?_
    refine aw_lload_n rfl rfl rfl ?_
    refine aw_fnc (j_lmax (by omega) (by omega) (by omega) (by omega)) rfl rfl rfl (Nat.le_of_ble_eq_true rfl) (Or.inl rfl) rfl ?_
    refine aw_retl rfl ?_
    refine ⟨?_, rfl⟩
    rw [show o = 404 by omega, vW_404]
    by_cases q : a < b
    · rw [if_pos q, if_neg (by omega)]
    · by_cases q2 : b < a
      · rw [if_neg q, if_pos q2]
      · rw [if_neg q, if_neg q2, show a = b by omega]
  refine aw_tsb (p' := 123) 5 rfl rfl ⟨by omega, by omega⟩ (by omega) rfl (fun c5 => ?_) (fun c5 => ?_)
  · refine aw_lload_n rfl rfl rfl ?_
    refine aw_lload_n rfl rfl rfl ?_
    refine aw_lcif (p' := 133) rfl rfl (by omega) (by omega) (by omega) (by omega) rfl rfl (fun c6 => ?_) (fun c6 => ?_)
    · dsimp only [zc] at c6
      refine aw_lconst 0 rfl rfl rfl ?_
      refine aw_retl rfl ?_
      refine ⟨?_, rfl⟩
      first | (exfalso; omega) | (rw [show o = 43 by omega, vW_43]; done) | (rw [show o = 45 by omega, vW_45]; done) | (rw [show o = 42 by omega, vW_42]; done) | (rw [show o = 406 by omega, vW_406]; done) | (rw [show o = 407 by omega, vW_407]; done) | (rw [show o = 47 by omega, vW_47, if_pos (by omega)]; done) | (rw [show o = 47 by omega, vW_47, if_neg (by omega)]; done) | (rw [show o = 60 by omega, vW_60, if_pos (by omega)]; done) | (rw [show o = 60 by omega, vW_60, if_neg (by omega)]; done) | (rw [show o = 62 by omega, vW_62, if_pos (by omega)]; done) | (rw [show o = 62 by omega, vW_62, if_neg (by omega)]; done) | (rw [show o = 61 by omega, vW_61, if_pos (by omega)]; done) | (rw [show o = 61 by omega, vW_61, if_neg (by omega)]; done) | (rw [show o = 35 by omega, vW_35, if_pos (by omega)]; done) | (rw [show o = 35 by omega, vW_35, if_neg (by omega)]; done) | (rw [show o = 300 by omega, vW_300, if_pos (by omega)]; done) | (rw [show o = 300 by omega, vW_300, if_neg (by omega)]; done) | (rw [show o = 301 by omega, vW_301, if_pos (by omega)]; done) | (rw [show o = 301 by omega, vW_301, if_neg (by omega)]; done)
    · dsimp only [zc] at c6
      refine aw_lconst 1 rfl rfl rfl ?_
      refine aw_goto (p' := 134) rfl rfl ?_
      refine aw_retl rfl ?_
      refine ⟨?_, rfl⟩
      first | (exfalso; omega) | (rw [show o = 43 by omega, vW_43]; done) | (rw [show o = 45 by omega, vW_45]; done) | (rw [show o = 42 by omega, vW_42]; done) | (rw [show o = 406 by omega, vW_406]; done) | (rw [show o = 407 by omega, vW_407]; done) | (rw [show o = 47 by omega, vW_47, if_pos (by omega)]; done) | (rw [show o = 47 by omega, vW_47, if_neg (by omega)]; done) | (rw [show o = 60 by omega, vW_60, if_pos (by omega)]; done) | (rw [show o = 60 by omega, vW_60, if_neg (by omega)]; done) | (rw [show o = 62 by omega, vW_62, if_pos (by omega)]; done) | (rw [show o = 62 by omega, vW_62, if_neg (by omega)]; done) | (rw [show o = 61 by omega, vW_61, if_pos (by omega)]; done) | (rw [show o = 61 by omega, vW_61, if_neg (by omega)]; done) | (rw [show o = 35 by omega, vW_35, if_pos (by omega)]; done) | (rw [show o = 35 by omega, vW_35, if_neg (by omega)]; done) | (rw [show o = 300 by omega, vW_300, if_pos (by omega)]; done) | (rw [show o = 300 by omega, vW_300, if_neg (by omega)]; done) | (rw [show o = 301 by omega, vW_301, if_pos (by omega)]; done) | (rw [show o = 301 by omega, vW_301, if_neg (by omega)]; done)
  refine aw_tsb (p' := 135) 6 rfl rfl ⟨by omega, by omega⟩ (by omega) rfl (fun c7 => ?_) (fun c7 => ?_)
  · refine aw_lload_n rfl rfl rfl ?_
    refine aw_lload_n rfl rfl rfl ?_
    refine aw_lcif (p' := 145) rfl rfl (by omega) (by omega) (by omega) (by omega) rfl rfl (fun c8 => ?_) (fun c8 => ?_)
    · dsimp only [zc] at c8
      refine aw_lconst 0 rfl rfl rfl ?_
      refine aw_retl rfl ?_
      refine ⟨?_, rfl⟩
      first | (exfalso; omega) | (rw [show o = 43 by omega, vW_43]; done) | (rw [show o = 45 by omega, vW_45]; done) | (rw [show o = 42 by omega, vW_42]; done) | (rw [show o = 406 by omega, vW_406]; done) | (rw [show o = 407 by omega, vW_407]; done) | (rw [show o = 47 by omega, vW_47, if_pos (by omega)]; done) | (rw [show o = 47 by omega, vW_47, if_neg (by omega)]; done) | (rw [show o = 60 by omega, vW_60, if_pos (by omega)]; done) | (rw [show o = 60 by omega, vW_60, if_neg (by omega)]; done) | (rw [show o = 62 by omega, vW_62, if_pos (by omega)]; done) | (rw [show o = 62 by omega, vW_62, if_neg (by omega)]; done) | (rw [show o = 61 by omega, vW_61, if_pos (by omega)]; done) | (rw [show o = 61 by omega, vW_61, if_neg (by omega)]; done) | (rw [show o = 35 by omega, vW_35, if_pos (by omega)]; done) | (rw [show o = 35 by omega, vW_35, if_neg (by omega)]; done) | (rw [show o = 300 by omega, vW_300, if_pos (by omega)]; done) | (rw [show o = 300 by omega, vW_300, if_neg (by omega)]; done) | (rw [show o = 301 by omega, vW_301, if_pos (by omega)]; done) | (rw [show o = 301 by omega, vW_301, if_neg (by omega)]; done)
    · dsimp only [zc] at c8
      refine aw_lconst 1 rfl rfl rfl ?_
      refine aw_goto (p' := 146) rfl rfl ?_
      refine aw_retl rfl ?_
      refine ⟨?_, rfl⟩
      first | (exfalso; omega) | (rw [show o = 43 by omega, vW_43]; done) | (rw [show o = 45 by omega, vW_45]; done) | (rw [show o = 42 by omega, vW_42]; done) | (rw [show o = 406 by omega, vW_406]; done) | (rw [show o = 407 by omega, vW_407]; done) | (rw [show o = 47 by omega, vW_47, if_pos (by omega)]; done) | (rw [show o = 47 by omega, vW_47, if_neg (by omega)]; done) | (rw [show o = 60 by omega, vW_60, if_pos (by omega)]; done) | (rw [show o = 60 by omega, vW_60, if_neg (by omega)]; done) | (rw [show o = 62 by omega, vW_62, if_pos (by omega)]; done) | (rw [show o = 62 by omega, vW_62, if_neg (by omega)]; done) | (rw [show o = 61 by omega, vW_61, if_pos (by omega)]; done) | (rw [show o = 61 by omega, vW_61, if_neg (by omega)]; done) | (rw [show o = 35 by omega, vW_35, if_pos (by omega)]; done) | (rw [show o = 35 by omega, vW_35, if_neg (by omega)]; done) | (rw [show o = 300 by omega, vW_300, if_pos (by omega)]; done) | (rw [show o = 300 by omega, vW_300, if_neg (by omega)]; done) | (rw [show o = 301 by omega, vW_301, if_pos (by omega)]; done) | (rw [show o = 301 by omega, vW_301, if_neg (by omega)]; done)
  refine aw_tsb (p' := 147) 7 rfl rfl ⟨by omega, by omega⟩ (by omega) rfl (fun c9 => ?_) (fun c9 => ?_)
  · refine aw_lload_n rfl rfl rfl ?_
    refine aw_lload_n rfl rfl rfl ?_
    refine aw_lcif (p' := 157) rfl rfl (by omega) (by omega) (by omega) (by omega) rfl rfl (fun c10 => ?_) (fun c10 => ?_)
    · dsimp only [zc] at c10
      refine aw_lconst 0 rfl rfl rfl ?_
      refine aw_retl rfl ?_
      refine ⟨?_, rfl⟩
      first | (exfalso; omega) | (rw [show o = 43 by omega, vW_43]; done) | (rw [show o = 45 by omega, vW_45]; done) | (rw [show o = 42 by omega, vW_42]; done) | (rw [show o = 406 by omega, vW_406]; done) | (rw [show o = 407 by omega, vW_407]; done) | (rw [show o = 47 by omega, vW_47, if_pos (by omega)]; done) | (rw [show o = 47 by omega, vW_47, if_neg (by omega)]; done) | (rw [show o = 60 by omega, vW_60, if_pos (by omega)]; done) | (rw [show o = 60 by omega, vW_60, if_neg (by omega)]; done) | (rw [show o = 62 by omega, vW_62, if_pos (by omega)]; done) | (rw [show o = 62 by omega, vW_62, if_neg (by omega)]; done) | (rw [show o = 61 by omega, vW_61, if_pos (by omega)]; done) | (rw [show o = 61 by omega, vW_61, if_neg (by omega)]; done) | (rw [show o = 35 by omega, vW_35, if_pos (by omega)]; done) | (rw [show o = 35 by omega, vW_35, if_neg (by omega)]; done) | (rw [show o = 300 by omega, vW_300, if_pos (by omega)]; done) | (rw [show o = 300 by omega, vW_300, if_neg (by omega)]; done) | (rw [show o = 301 by omega, vW_301, if_pos (by omega)]; done) | (rw [show o = 301 by omega, vW_301, if_neg (by omega)]; done)
    · dsimp only [zc] at c10
      refine aw_lconst 1 rfl rfl rfl ?_
      refine aw_goto (p' := 158) rfl rfl ?_
      refine aw_retl rfl ?_
      refine ⟨?_, rfl⟩
      first | (exfalso; omega) | (rw [show o = 43 by omega, vW_43]; done) | (rw [show o = 45 by omega, vW_45]; done) | (rw [show o = 42 by omega, vW_42]; done) | (rw [show o = 406 by omega, vW_406]; done) | (rw [show o = 407 by omega, vW_407]; done) | (rw [show o = 47 by omega, vW_47, if_pos (by omega)]; done) | (rw [show o = 47 by omega, vW_47, if_neg (by omega)]; done) | (rw [show o = 60 by omega, vW_60, if_pos (by omega)]; done) | (rw [show o = 60 by omega, vW_60, if_neg (by omega)]; done) | (rw [show o = 62 by omega, vW_62, if_pos (by omega)]; done) | (rw [show o = 62 by omega, vW_62, if_neg (by omega)]; done) | (rw [show o = 61 by omega, vW_61, if_pos (by omega)]; done) | (rw [show o = 61 by omega, vW_61, if_neg (by omega)]; done) | (rw [show o = 35 by omega, vW_35, if_pos (by omega)]; done) | (rw [show o = 35 by omega, vW_35, if_neg (by omega)]; done) | (rw [show o = 300 by omega, vW_300, if_pos (by omega)]; done) | (rw [show o = 300 by omega, vW_300, if_neg (by omega)]; done) | (rw [show o = 301 by omega, vW_301, if_pos (by omega)]; done) | (rw [show o = 301 by omega, vW_301, if_neg (by omega)]; done)
  refine aw_tsb (p' := 159) 8 rfl rfl ⟨by omega, by omega⟩ (by omega) rfl (fun c11 => ?_) (fun c11 => ?_)
  · refine aw_lload_n rfl rfl rfl ?_
    refine aw_lload_n rfl rfl rfl ?_
    refine aw_lcif (p' := 169) rfl rfl (by omega) (by omega) (by omega) (by omega) rfl rfl (fun c12 => ?_) (fun c12 => ?_)
    · dsimp only [zc] at c12
      refine aw_lconst 0 rfl rfl rfl ?_
      refine aw_retl rfl ?_
      refine ⟨?_, rfl⟩
      first | (exfalso; omega) | (rw [show o = 43 by omega, vW_43]; done) | (rw [show o = 45 by omega, vW_45]; done) | (rw [show o = 42 by omega, vW_42]; done) | (rw [show o = 406 by omega, vW_406]; done) | (rw [show o = 407 by omega, vW_407]; done) | (rw [show o = 47 by omega, vW_47, if_pos (by omega)]; done) | (rw [show o = 47 by omega, vW_47, if_neg (by omega)]; done) | (rw [show o = 60 by omega, vW_60, if_pos (by omega)]; done) | (rw [show o = 60 by omega, vW_60, if_neg (by omega)]; done) | (rw [show o = 62 by omega, vW_62, if_pos (by omega)]; done) | (rw [show o = 62 by omega, vW_62, if_neg (by omega)]; done) | (rw [show o = 61 by omega, vW_61, if_pos (by omega)]; done) | (rw [show o = 61 by omega, vW_61, if_neg (by omega)]; done) | (rw [show o = 35 by omega, vW_35, if_pos (by omega)]; done) | (rw [show o = 35 by omega, vW_35, if_neg (by omega)]; done) | (rw [show o = 300 by omega, vW_300, if_pos (by omega)]; done) | (rw [show o = 300 by omega, vW_300, if_neg (by omega)]; done) | (rw [show o = 301 by omega, vW_301, if_pos (by omega)]; done) | (rw [show o = 301 by omega, vW_301, if_neg (by omega)]; done)
    · dsimp only [zc] at c12
      refine aw_lconst 1 rfl rfl rfl ?_
      refine aw_goto (p' := 170) rfl rfl ?_
      refine aw_retl rfl ?_
      refine ⟨?_, rfl⟩
      first | (exfalso; omega) | (rw [show o = 43 by omega, vW_43]; done) | (rw [show o = 45 by omega, vW_45]; done) | (rw [show o = 42 by omega, vW_42]; done) | (rw [show o = 406 by omega, vW_406]; done) | (rw [show o = 407 by omega, vW_407]; done) | (rw [show o = 47 by omega, vW_47, if_pos (by omega)]; done) | (rw [show o = 47 by omega, vW_47, if_neg (by omega)]; done) | (rw [show o = 60 by omega, vW_60, if_pos (by omega)]; done) | (rw [show o = 60 by omega, vW_60, if_neg (by omega)]; done) | (rw [show o = 62 by omega, vW_62, if_pos (by omega)]; done) | (rw [show o = 62 by omega, vW_62, if_neg (by omega)]; done) | (rw [show o = 61 by omega, vW_61, if_pos (by omega)]; done) | (rw [show o = 61 by omega, vW_61, if_neg (by omega)]; done) | (rw [show o = 35 by omega, vW_35, if_pos (by omega)]; done) | (rw [show o = 35 by omega, vW_35, if_neg (by omega)]; done) | (rw [show o = 300 by omega, vW_300, if_pos (by omega)]; done) | (rw [show o = 300 by omega, vW_300, if_neg (by omega)]; done) | (rw [show o = 301 by omega, vW_301, if_pos (by omega)]; done) | (rw [show o = 301 by omega, vW_301, if_neg (by omega)]; done)
  refine aw_tsb (p' := 171) 9 rfl rfl ⟨by omega, by omega⟩ (by omega) rfl (fun c13 => ?_) (fun c13 => ?_)
  · refine aw_lload_n rfl rfl rfl ?_
    refine aw_lload_n rfl rfl rfl ?_
    refine aw_lcif (p' := 181) rfl rfl (by omega) (by omega) (by omega) (by omega) rfl rfl (fun c14 => ?_) (fun c14 => ?_)
    · dsimp only [zc] at c14
      refine aw_lconst 0 rfl rfl rfl ?_
      refine aw_retl rfl ?_
      refine ⟨?_, rfl⟩
      first | (exfalso; omega) | (rw [show o = 43 by omega, vW_43]; done) | (rw [show o = 45 by omega, vW_45]; done) | (rw [show o = 42 by omega, vW_42]; done) | (rw [show o = 406 by omega, vW_406]; done) | (rw [show o = 407 by omega, vW_407]; done) | (rw [show o = 47 by omega, vW_47, if_pos (by omega)]; done) | (rw [show o = 47 by omega, vW_47, if_neg (by omega)]; done) | (rw [show o = 60 by omega, vW_60, if_pos (by omega)]; done) | (rw [show o = 60 by omega, vW_60, if_neg (by omega)]; done) | (rw [show o = 62 by omega, vW_62, if_pos (by omega)]; done) | (rw [show o = 62 by omega, vW_62, if_neg (by omega)]; done) | (rw [show o = 61 by omega, vW_61, if_pos (by omega)]; done) | (rw [show o = 61 by omega, vW_61, if_neg (by omega)]; done) | (rw [show o = 35 by omega, vW_35, if_pos (by omega)]; done) | (rw [show o = 35 by omega, vW_35, if_neg (by omega)]; done) | (rw [show o = 300 by omega, vW_300, if_pos (by omega)]; done) | (rw [show o = 300 by omega, vW_300, if_neg (by omega)]; done) | (rw [show o = 301 by omega, vW_301, if_pos (by omega)]; done) | (rw [show o = 301 by omega, vW_301, if_neg (by omega)]; done)
    · dsimp only [zc] at c14
      refine aw_lconst 1 rfl rfl rfl ?_
      refine aw_goto (p' := 182) rfl rfl ?_
      refine aw_retl rfl ?_
      refine ⟨?_, rfl⟩
      first | (exfalso; omega) | (rw [show o = 43 by omega, vW_43]; done) | (rw [show o = 45 by omega, vW_45]; done) | (rw [show o = 42 by omega, vW_42]; done) | (rw [show o = 406 by omega, vW_406]; done) | (rw [show o = 407 by omega, vW_407]; done) | (rw [show o = 47 by omega, vW_47, if_pos (by omega)]; done) | (rw [show o = 47 by omega, vW_47, if_neg (by omega)]; done) | (rw [show o = 60 by omega, vW_60, if_pos (by omega)]; done) | (rw [show o = 60 by omega, vW_60, if_neg (by omega)]; done) | (rw [show o = 62 by omega, vW_62, if_pos (by omega)]; done) | (rw [show o = 62 by omega, vW_62, if_neg (by omega)]; done) | (rw [show o = 61 by omega, vW_61, if_pos (by omega)]; done) | (rw [show o = 61 by omega, vW_61, if_neg (by omega)]; done) | (rw [show o = 35 by omega, vW_35, if_pos (by omega)]; done) | (rw [show o = 35 by omega, vW_35, if_neg (by omega)]; done) | (rw [show o = 300 by omega, vW_300, if_pos (by omega)]; done) | (rw [show o = 300 by omega, vW_300, if_neg (by omega)]; done) | (rw [show o = 301 by omega, vW_301, if_pos (by omega)]; done) | (rw [show o = 301 by omega, vW_301, if_neg (by omega)]; done)
  refine aw_tsb (p' := 183) 10 rfl rfl ⟨by omega, by omega⟩ (by omega) rfl (fun c15 => ?_) (fun c15 => ?_)
  · refine aw_lload_n rfl rfl rfl ?_
    refine aw_lload_n rfl rfl rfl ?_
    refine aw_lcif (p' := 193) rfl rfl (by omega) (by omega) (by omega) (by omega) rfl rfl (fun c16 => ?_) (fun c16 => ?_)
    · dsimp only [zc] at c16
      refine aw_lconst 0 rfl rfl rfl ?_
      refine aw_retl rfl ?_
      refine ⟨?_, rfl⟩
      first | (exfalso; omega) | (rw [show o = 43 by omega, vW_43]; done) | (rw [show o = 45 by omega, vW_45]; done) | (rw [show o = 42 by omega, vW_42]; done) | (rw [show o = 406 by omega, vW_406]; done) | (rw [show o = 407 by omega, vW_407]; done) | (rw [show o = 47 by omega, vW_47, if_pos (by omega)]; done) | (rw [show o = 47 by omega, vW_47, if_neg (by omega)]; done) | (rw [show o = 60 by omega, vW_60, if_pos (by omega)]; done) | (rw [show o = 60 by omega, vW_60, if_neg (by omega)]; done) | (rw [show o = 62 by omega, vW_62, if_pos (by omega)]; done) | (rw [show o = 62 by omega, vW_62, if_neg (by omega)]; done) | (rw [show o = 61 by omega, vW_61, if_pos (by omega)]; done) | (rw [show o = 61 by omega, vW_61, if_neg (by omega)]; done) | (rw [show o = 35 by omega, vW_35, if_pos (by omega)]; done) | (rw [show o = 35 by omega, vW_35, if_neg (by omega)]; done) | (rw [show o = 300 by omega, vW_300, if_pos (by omega)]; done) | (rw [show o = 300 by omega, vW_300, if_neg (by omega)]; done) | (rw [show o = 301 by omega, vW_301, if_pos (by omega)]; done) | (rw [show o = 301 by omega, vW_301, if_neg (by omega)]; done)
    · dsimp only [zc] at c16
      refine aw_lconst 1 rfl rfl rfl ?_
      refine aw_goto (p' := 194) rfl rfl ?_
      refine aw_retl rfl ?_
      refine ⟨?_, rfl⟩
      first | (exfalso; omega) | (rw [show o = 43 by omega, vW_43]; done) | (rw [show o = 45 by omega, vW_45]; done) | (rw [show o = 42 by omega, vW_42]; done) | (rw [show o = 406 by omega, vW_406]; done) | (rw [show o = 407 by omega, vW_407]; done) | (rw [show o = 47 by omega, vW_47, if_pos (by omega)]; done) | (rw [show o = 47 by omega, vW_47, if_neg (by omega)]; done) | (rw [show o = 60 by omega, vW_60, if_pos (by omega)]; done) | (rw [show o = 60 by omega, vW_60, if_neg (by omega)]; done) | (rw [show o = 62 by omega, vW_62, if_pos (by omega)]; done) | (rw [show o = 62 by omega, vW_62, if_neg (by omega)]; done) | (rw [show o = 61 by omega, vW_61, if_pos (by omega)]; done) | (rw [show o = 61 by omega, vW_61, if_neg (by omega)]; done) | (rw [show o = 35 by omega, vW_35, if_pos (by omega)]; done) | (rw [show o = 35 by omega, vW_35, if_neg (by omega)]; done) | (rw [show o = 300 by omega, vW_300, if_pos (by omega)]; done) | (rw [show o = 300 by omega, vW_300, if_neg (by omega)]; done) | (rw [show o = 301 by omega, vW_301, if_pos (by omega)]; done) | (rw [show o = 301 by omega, vW_301, if_neg (by omega)]; done)
  refine aw_tsb (p' := 76) 11 rfl rfl ⟨by omega, by omega⟩ (by omega) rfl (fun c17 => ?_) (fun c17 => ?_)
  · refine aw_lload_n rfl rfl rfl ?_
    refine aw_lload_n rfl rfl rfl ?_
    refine aw_ladd rfl rfl ?_
    refine aw_fnc (c_bounded (by omega) (by omega)) rfl rfl rfl (Nat.le_of_ble_eq_true rfl) (Or.inl rfl) rfl ?_
    refine aw_retl rfl ?_
    refine ⟨?_, rfl⟩
    first | (exfalso; omega) | (rw [show o = 43 by omega, vW_43]; done) | (rw [show o = 45 by omega, vW_45]; done) | (rw [show o = 42 by omega, vW_42]; done) | (rw [show o = 406 by omega, vW_406]; done) | (rw [show o = 407 by omega, vW_407]; done) | (rw [show o = 47 by omega, vW_47, if_pos (by omega)]; done) | (rw [show o = 47 by omega, vW_47, if_neg (by omega)]; done) | (rw [show o = 60 by omega, vW_60, if_pos (by omega)]; done) | (rw [show o = 60 by omega, vW_60, if_neg (by omega)]; done) | (rw [show o = 62 by omega, vW_62, if_pos (by omega)]; done) | (rw [show o = 62 by omega, vW_62, if_neg (by omega)]; done) | (rw [show o = 61 by omega, vW_61, if_pos (by omega)]; done) | (rw [show o = 61 by omega, vW_61, if_neg (by omega)]; done) | (rw [show o = 35 by omega, vW_35, if_pos (by omega)]; done) | (rw [show o = 35 by omega, vW_35, if_neg (by omega)]; done) | (rw [show o = 300 by omega, vW_300, if_pos (by omega)]; done) | (rw [show o = 300 by omega, vW_300, if_neg (by omega)]; done) | (rw [show o = 301 by omega, vW_301, if_pos (by omega)]; done) | (rw [show o = 301 by omega, vW_301, if_neg (by omega)]; done)
  refine aw_tsb (p' := 83) 12 rfl rfl ⟨by omega, by omega⟩ (by omega) rfl (fun c18 => ?_) (fun c18 => ?_)
  · refine aw_lload_n rfl rfl rfl ?_
    refine aw_lload_n rfl rfl rfl ?_
    refine aw_lsub rfl rfl ?_
    refine aw_fnc (c_bounded (by omega) (by omega)) rfl rfl rfl (Nat.le_of_ble_eq_true rfl) (Or.inl rfl) rfl ?_
    refine aw_retl rfl ?_
    refine ⟨?_, rfl⟩
    first | (exfalso; omega) | (rw [show o = 43 by omega, vW_43]; done) | (rw [show o = 45 by omega, vW_45]; done) | (rw [show o = 42 by omega, vW_42]; done) | (rw [show o = 406 by omega, vW_406]; done) | (rw [show o = 407 by omega, vW_407]; done) | (rw [show o = 47 by omega, vW_47, if_pos (by omega)]; done) | (rw [show o = 47 by omega, vW_47, if_neg (by omega)]; done) | (rw [show o = 60 by omega, vW_60, if_pos (by omega)]; done) | (rw [show o = 60 by omega, vW_60, if_neg (by omega)]; done) | (rw [show o = 62 by omega, vW_62, if_pos (by omega)]; done) | (rw [show o = 62 by omega, vW_62, if_neg (by omega)]; done) | (rw [show o = 61 by omega, vW_61, if_pos (by omega)]; done) | (rw [show o = 61 by omega, vW_61, if_neg (by omega)]; done) | (rw [show o = 35 by omega, vW_35, if_pos (by omega)]; done) | (rw [show o = 35 by omega, vW_35, if_neg (by omega)]; done) | (rw [show o = 300 by omega, vW_300, if_pos (by omega)]; done) | (rw [show o = 300 by omega, vW_300, if_neg (by omega)]; done) | (rw [show o = 301 by omega, vW_301, if_pos (by omega)]; done) | (rw [show o = 301 by omega, vW_301, if_neg (by omega)]; done)
  refine aw_tsb (p' := 90) 13 rfl rfl ⟨by omega, by omega⟩ (by omega) rfl (fun c19 => ?_) (fun c19 => ?_)
  · refine aw_lload_n rfl rfl rfl ?_
    refine aw_lload_n rfl rfl rfl ?_
    refine aw_lmul rfl rfl ?_
    refine aw_fnc (c_bounded (by omega) (by omega)) rfl rfl rfl (Nat.le_of_ble_eq_true rfl) (Or.inl rfl) rfl ?_
    refine aw_retl rfl ?_
    refine ⟨?_, rfl⟩
    first | (exfalso; omega) | (rw [show o = 43 by omega, vW_43]; done) | (rw [show o = 45 by omega, vW_45]; done) | (rw [show o = 42 by omega, vW_42]; done) | (rw [show o = 406 by omega, vW_406]; done) | (rw [show o = 407 by omega, vW_407]; done) | (rw [show o = 47 by omega, vW_47, if_pos (by omega)]; done) | (rw [show o = 47 by omega, vW_47, if_neg (by omega)]; done) | (rw [show o = 60 by omega, vW_60, if_pos (by omega)]; done) | (rw [show o = 60 by omega, vW_60, if_neg (by omega)]; done) | (rw [show o = 62 by omega, vW_62, if_pos (by omega)]; done) | (rw [show o = 62 by omega, vW_62, if_neg (by omega)]; done) | (rw [show o = 61 by omega, vW_61, if_pos (by omega)]; done) | (rw [show o = 61 by omega, vW_61, if_neg (by omega)]; done) | (rw [show o = 35 by omega, vW_35, if_pos (by omega)]; done) | (rw [show o = 35 by omega, vW_35, if_neg (by omega)]; done) | (rw [show o = 300 by omega, vW_300, if_pos (by omega)]; done) | (rw [show o = 300 by omega, vW_300, if_neg (by omega)]; done) | (rw [show o = 301 by omega, vW_301, if_pos (by omega)]; done) | (rw [show o = 301 by omega, vW_301, if_neg (by omega)]; done)
  refine aw_tsb (p' := 97) 14 rfl rfl ⟨by omega, by omega⟩ (by omega) rfl (fun c20 => ?_) (fun c20 => ?_)
  · refine aw_lload_n rfl rfl rfl ?_
    refine aw_lconst 0 rfl rfl rfl ?_
    refine aw_lcif (p' := 107) rfl rfl (by omega) (by omega) (by omega) (by omega) rfl rfl (fun c21 => ?_) (fun c21 => ?_)
    · dsimp only [zc] at c21
      refine aw_lload_n rfl rfl rfl ?_
      refine aw_lload_n rfl rfl rfl ?_
      refine aw_ldiv rfl (by omega) (by omega) (by omega) (by omega) (by omega) rfl ?_
      refine aw_retl rfl ?_
      refine ⟨?_, rfl⟩
      first | (exfalso; omega) | (rw [show o = 43 by omega, vW_43]; done) | (rw [show o = 45 by omega, vW_45]; done) | (rw [show o = 42 by omega, vW_42]; done) | (rw [show o = 406 by omega, vW_406]; done) | (rw [show o = 407 by omega, vW_407]; done) | (rw [show o = 47 by omega, vW_47, if_pos (by omega)]; done) | (rw [show o = 47 by omega, vW_47, if_neg (by omega)]; done) | (rw [show o = 60 by omega, vW_60, if_pos (by omega)]; done) | (rw [show o = 60 by omega, vW_60, if_neg (by omega)]; done) | (rw [show o = 62 by omega, vW_62, if_pos (by omega)]; done) | (rw [show o = 62 by omega, vW_62, if_neg (by omega)]; done) | (rw [show o = 61 by omega, vW_61, if_pos (by omega)]; done) | (rw [show o = 61 by omega, vW_61, if_neg (by omega)]; done) | (rw [show o = 35 by omega, vW_35, if_pos (by omega)]; done) | (rw [show o = 35 by omega, vW_35, if_neg (by omega)]; done) | (rw [show o = 300 by omega, vW_300, if_pos (by omega)]; done) | (rw [show o = 300 by omega, vW_300, if_neg (by omega)]; done) | (rw [show o = 301 by omega, vW_301, if_pos (by omega)]; done) | (rw [show o = 301 by omega, vW_301, if_neg (by omega)]; done)
    · dsimp only [zc] at c21
      refine aw_lconst 0 rfl rfl rfl ?_
      refine aw_goto (p' := 110) rfl rfl ?_
      refine aw_retl rfl ?_
      refine ⟨?_, rfl⟩
      first | (exfalso; omega) | (rw [show o = 43 by omega, vW_43]; done) | (rw [show o = 45 by omega, vW_45]; done) | (rw [show o = 42 by omega, vW_42]; done) | (rw [show o = 406 by omega, vW_406]; done) | (rw [show o = 407 by omega, vW_407]; done) | (rw [show o = 47 by omega, vW_47, if_pos (by omega)]; done) | (rw [show o = 47 by omega, vW_47, if_neg (by omega)]; done) | (rw [show o = 60 by omega, vW_60, if_pos (by omega)]; done) | (rw [show o = 60 by omega, vW_60, if_neg (by omega)]; done) | (rw [show o = 62 by omega, vW_62, if_pos (by omega)]; done) | (rw [show o = 62 by omega, vW_62, if_neg (by omega)]; done) | (rw [show o = 61 by omega, vW_61, if_pos (by omega)]; done) | (rw [show o = 61 by omega, vW_61, if_neg (by omega)]; done) | (rw [show o = 35 by omega, vW_35, if_pos (by omega)]; done) | (rw [show o = 35 by omega, vW_35, if_neg (by omega)]; done) | (rw [show o = 300 by omega, vW_300, if_pos (by omega)]; done) | (rw [show o = 300 by omega, vW_300, if_neg (by omega)]; done) | (rw [show o = 301 by omega, vW_301, if_pos (by omega)]; done) | (rw [show o = 301 by omega, vW_301, if_neg (by omega)]; done)
  refine aw_tsd (p' := 203) rfl ⟨by omega, by omega⟩ (by omega) rfl ?_
  refine aw_lconst 0 rfl rfl rfl ?_
  refine aw_retl rfl ?_
  refine ⟨?_, rfl⟩
  first | (exfalso; omega) | (rw [show o = 43 by omega, vW_43]; done) | (rw [show o = 45 by omega, vW_45]; done) | (rw [show o = 42 by omega, vW_42]; done) | (rw [show o = 406 by omega, vW_406]; done) | (rw [show o = 407 by omega, vW_407]; done) | (rw [show o = 47 by omega, vW_47, if_pos (by omega)]; done) | (rw [show o = 47 by omega, vW_47, if_neg (by omega)]; done) | (rw [show o = 60 by omega, vW_60, if_pos (by omega)]; done) | (rw [show o = 60 by omega, vW_60, if_neg (by omega)]; done) | (rw [show o = 62 by omega, vW_62, if_pos (by omega)]; done) | (rw [show o = 62 by omega, vW_62, if_neg (by omega)]; done) | (rw [show o = 61 by omega, vW_61, if_pos (by omega)]; done) | (rw [show o = 61 by omega, vW_61, if_neg (by omega)]; done) | (rw [show o = 35 by omega, vW_35, if_pos (by omega)]; done) | (rw [show o = 35 by omega, vW_35, if_neg (by omega)]; done) | (rw [show o = 300 by omega, vW_300, if_pos (by omega)]; done) | (rw [show o = 300 by omega, vW_300, if_neg (by omega)]; done) | (rw [show o = 301 by omega, vW_301, if_pos (by omega)]; done) | (rw [show o = 301 by omega, vW_301, if_neg (by omega)]; done)
set_option maxRecDepth 10000 in
set_option maxHeartbeats 2000000 in
theorem c_nameOf {d : Nat} {sz : Nat} {σ : az_S} (hf : FX sz σ) {i v : Int} (hi0 : 0 ≤ i) (hi1 : i ≤ 7) (hv : zx σ 14 i = v) : fn (d + 1) 82 [.ref 14, .int (iI i)] σ (.long (lI v)) := by
  refine fn_of (M := (yX9_valueOf, cX9_valueOf, 2, (some .long))) (cd := k_X9_valueOf) (L := [some (.ref 14), some (.int (iI i))]) rfl (Nat.le_of_ble_eq_true rfl) rfl rfl ?_
  refine aw_aload_n rfl rfl rfl ?_
  refine aw_ifnn rfl rfl ?_
  refine aw_iload_n rfl rfl rfl ?_
  refine aw_if (p' := 21) rfl ⟨by omega, by omega⟩ rfl rfl (fun c1 => ?_) (fun c1 => ?_)
  · dsimp only [zc] at c1
    omega
  · dsimp only [zc] at c1
    refine aw_iload_n rfl rfl rfl ?_
    refine aw_aload_n rfl rfl rfl ?_
    refine aw_alen (N := 8) rfl (hf.s 14 rfl) (by decide) rfl ?_
    refine aw_icmp (p' := 21) rfl ⟨by omega, by omega⟩ ⟨by omega, by omega⟩ rfl rfl (fun c2 => ?_) (fun c2 => ?_)
    · dsimp only [zc] at c2
      omega
    · dsimp only [zc] at c2
      refine aw_aload_n rfl rfl rfl ?_
      refine aw_iload_n rfl rfl rfl ?_
      refine aw_as (N := 8) rfl (hf.s 14 rfl) (by omega) (by omega) (by omega) rfl (fun _ _ => ?_)
      rw [hv]
      have hv1 := zx_lo σ 14 i
      have hv2 := zx_hi σ 14 i
      rw [hv] at hv1 hv2
      refine aw_i2l rfl ⟨by omega, by omega⟩ rfl ?_
      refine aw_goto (p' := 22) rfl rfl ?_
      refine aw_retl rfl ?_
      exact ⟨rfl, rfl⟩
set_option maxRecDepth 10000 in
set_option maxHeartbeats 2000000 in
theorem c_run_l10 {d : Nat} {sz : Nat} {σ : az_S} (hf : FX sz σ) {b : Nat} (hb : b = 16 ∨ b = 22) {nm : Int → Int} (hnk : nmOk nm) (hnm : ∀ i : Int, 0 ≤ i → i ≤ 7 → zx σ 14 i = nm i) {c : List (Int × Int)} {bo : Bool} (hc : tyR c [] [bo]) {k m : Int} (hk : 0 ≤ k) (hm : k + c.length = m) {n0 : Int} (hn0 : zx σ b 5 = n0) (hmn : m ≤ n0) (hn1 : n0 ≤ 400) (hcc : cCode (zx σ (b + 1)) (zx σ (b + 2)) k c) : ∀ (n : Nat) (τ : az_S) (i tp : Int) (w : Option Value) (r : List (Int × Int)) (t : List Bool) (s : List Int), (m - i).toNat = n → Mod σ τ [b + 5] → 0 ≤ i → i + r.length = m → cCode (zx σ (b + 1)) (zx σ (b + 2)) i r → tyR r t [bo] → t.length ≤ 64 → okV t s → Pl (zq τ (b + 5)) s → tp = s.length → vR nm r s = vR nm c [] → aw (d + 2) k_X9_run (some .long) (fun r τ => r = some (.long (lI ((vR nm c []).headD 0))) ∧ Mod σ τ [b + 5]) 10 [some (.ref b), some (.int (iI k)), some (.int (iI m)), some (.ref 14), some (.int (iI tp)), some (.int (iI i)), w] [] τ := by
  intro n
  induction n using Nat.strongRecOn with
  | ind n ih =>
    intro τ i tp w r t s hn hD hi0 hkr hmc hty htl hov hpl0 hhl hvr
    obtain ⟨hb1, ⟨hb2, hb3, hb4, hb5, hb6⟩, hr0, hr1, hr2, hr3, hr4⟩ := hf.tar hb
    have htl3 := okV_len hov
    refine aw_iload rfl rfl rfl ?_
    refine aw_iload_n rfl rfl rfl ?_
    refine aw_icmp (p' := 204) rfl ⟨by omega, by omega⟩ ⟨by omega, by omega⟩ rfl rfl (fun c1 => ?_) (fun c1 => ?_)
    · dsimp only [zc] at c1
      have hr0 : r = [] := by cases r with | nil => rfl | cons a b => simp at hkr; omega
      subst hr0
      have ht1 : t = [bo] := hty
      rw [ht1] at hov
      obtain ⟨v, s2, hs2, hv1, hv2⟩ := okV_c hov
      have hs3 : s2 = [] := by cases s2 with | nil => rfl | cons a b => exact hv2.elim
      subst hs3
      subst hs2
      obtain ⟨hpv, -⟩ := hpl0
      simp only [List.length_cons, List.length_nil] at hhl hpv
      refine aw_iload rfl rfl rfl ?_
      refine aw_if (p' := 218) rfl ⟨by omega, by omega⟩ rfl rfl (fun c2 => ?_) (fun c2 => ?_)
      · dsimp only [zc] at c2
        exfalso
        omega
      · dsimp only [zc] at c2
        refine aw_aload_n rfl rfl rfl ?_
        refine aw_getr (b := (b + 5)) rfl rfl (by rw [(hD.su (T := [b + 5]) (by simp)).2.2.1]; exact hb1) (by rw [(hD.su (T := [b + 5]) (by simp)).2.2.2.1]; exact hr4) rfl ?_
        refine aw_iconst rfl rfl ?_
        refine aw_lz (N := 64) rfl (by rw [(hD.su (T := [b + 5]) (by simp)).2.2.1]; exact hb6) (by omega) (by omega) (by omega) rfl (fun _ _ => ?_)
        rw [show (0 : Int) = ((0 : Nat) : Int) by rfl, hpv]
        refine aw_goto (p' := 219) rfl rfl ?_
        refine aw_retl rfl ?_
        refine ⟨?_, (hD.su (T := [b + 5]) (by simp))⟩
        rw [← hvr]
        rfl
    · dsimp only [zc] at c1
      refine aw_iload rfl rfl rfl ?_
      refine aw_aload_n rfl rfl rfl ?_
      refine aw_gk (v := n0) (5) rfl rfl (by rw [(hD.su (T := [b + 5]) (by simp)).2.2.1]; exact hb1) rfl (by rw [hD.nz (by simp)]; exact hn0) rfl (fun _ _ => ?_)
      refine aw_icmp (p' := 204) rfl ⟨by omega, by omega⟩ ⟨by omega, by omega⟩ rfl rfl (fun c3 => ?_) (fun c3 => ?_)
      · dsimp only [zc] at c3
        omega
      · dsimp only [zc] at c3
        have hrn : r ≠ [] := by rintro rfl; simp at hkr; omega
        obtain ⟨q, r', rfl⟩ := List.exists_cons_of_ne_nil hrn
        simp only [List.length_cons] at hkr
        obtain ⟨t1, hp, hg⟩ := hty
        have htr := tyP_tr hp
        have htl2 := okV_len hov
        obtain ⟨hm1, hm2, hm3⟩ := hmc
        refine aw_aload_n rfl rfl rfl ?_
        refine aw_getr (b := (b + 1)) rfl rfl (by rw [(hD.su (T := [b + 5]) (by simp)).2.2.1]; exact hb1) (by rw [(hD.su (T := [b + 5]) (by simp)).2.2.2.1]; exact hr0) rfl ?_
        refine aw_iload rfl rfl rfl ?_
        refine aw_as (N := 400) rfl (by rw [(hD.su (T := [b + 5]) (by simp)).2.2.1]; exact hb2) (by omega) (by omega) (by omega) rfl (fun _ _ => ?_)
        rw [hD.nz (by simp), hm1]
        refine aw_istore rfl (Nat.le_of_ble_eq_true rfl) rfl rfl ?_
        change aw _ _ _ _ 34 [some (.ref b), some (.int (iI _)), some (.int (iI _)), some (.ref 14), some (.int (iI _)), some (.int (iI _)), some (.int (iI _))] _ _
        refine aw_iload rfl rfl rfl ?_
        refine aw_iconst rfl rfl ?_
        refine aw_icmp (p' := 46) rfl ⟨by omega, by omega⟩ ⟨by omega, by omega⟩ rfl rfl (fun c4 => ?_) (fun c4 => ?_)
        · dsimp only [zc] at c4
          have hp2 : t.length < 64 ∧ ((q.1 = 400 ∧ 0 ≤ q.2 ∧ q.2 ≤ 100000) ∨ (q.1 = 401 ∧ 0 ≤ q.2 ∧ q.2 ≤ 7)) := by rcases hp with ⟨h0, h1, h2, -⟩ | ⟨h0, h1, h2, -⟩ | ⟨h0, -⟩ | ⟨h0, -⟩ | ⟨h0, -⟩ | ⟨h0, -⟩ | ⟨h0, -⟩ <;> (try unfold opB at h0) <;> (try unfold opC at h0) <;> (try unfold opN at h0) <;> omega
          refine aw_iload rfl rfl rfl ?_
          refine aw_aload_n rfl rfl rfl ?_
          refine aw_getr (b := (b + 5)) rfl rfl (by rw [(hD.su (T := [b + 5]) (by simp)).2.2.1]; exact hb1) (by rw [(hD.su (T := [b + 5]) (by simp)).2.2.2.1]; exact hr4) rfl ?_
          refine aw_alen (N := 64) rfl (by rw [(hD.su (T := [b + 5]) (by simp)).2.2.1]; exact hb6) (by decide) rfl ?_
          refine aw_icmp (p' := 198) rfl ⟨by omega, by omega⟩ ⟨by omega, by omega⟩ rfl rfl (fun c5 => ?_) (fun c5 => ?_)
          · dsimp only [zc] at c5
            omega
          · dsimp only [zc] at c5
            refine aw_aload_n rfl rfl rfl ?_
            refine aw_getr (b := (b + 5)) rfl rfl (by rw [(hD.su (T := [b + 5]) (by simp)).2.2.1]; exact hb1) (by rw [(hD.su (T := [b + 5]) (by simp)).2.2.2.1]; exact hr4) rfl ?_
            refine aw_iload rfl rfl rfl ?_
            refine aw_iload rfl rfl rfl ?_
            refine aw_iconst rfl rfl ?_
            refine aw_icmp (p' := 79) rfl ⟨by omega, by omega⟩ ⟨by omega, by omega⟩ rfl rfl (fun c6 => ?_) (fun c6 => ?_)
            · dsimp only [zc] at c6
              have hpl := hpl0
              have hvs : vS nm q s = nm q.2 :: s := by unfold vS; rw [if_neg (by omega), if_pos (by omega)]
              have hnq := hnm q.2 (by omega) (by omega)
              have hnb := hnk q.2 (by omega) (by omega)
              refine aw_aload_n rfl rfl rfl ?_
              refine aw_aload_n rfl rfl rfl ?_
              refine aw_getr (b := (b + 2)) rfl rfl (by rw [(hD.su (T := [b + 5]) (by simp)).2.2.1]; exact hb1) (by rw [(hD.su (T := [b + 5]) (by simp)).2.2.2.1]; exact hr1) rfl ?_
              refine aw_iload rfl rfl rfl ?_
              refine aw_as (N := 400) rfl (by rw [(hD.su (T := [b + 5]) (by simp)).2.2.1]; exact hb3) (by omega) (by omega) (by omega) rfl (fun _ _ => ?_)
              rw [hD.nz (by simp), hm2]
              refine aw_fnc (c_nameOf (v := nm q.2) (hD.fx hf) (by omega) (by omega) (by rw [hD.nz (by simp only [List.mem_singleton]; omega)]; exact hnq)) rfl rfl rfl (Nat.le_of_ble_eq_true rfl) (Or.inl rfl) rfl ?_
              refine aw_lsm (N := 64) rfl (by rw [(hD.su (T := [b + 5]) (by simp)).2.2.1]; exact hb6) (by omega) (by omega) (by omega) (by omega) (by omega) rfl (fun τ8 hD8 hU8 => ?_)
              refine aw_iinc rfl rfl rfl rfl ?_
              change aw _ _ _ _ 94 [some (.ref b), some (.int (iI _)), some (.int (iI _)), some (.ref 14), some (.int (iI _)), some (.int (iI _)), some (.int (iI _))] _ _
              refine aw_goto (p' := 198) rfl rfl ?_
              refine aw_iinc rfl rfl rfl rfl ?_
              change aw _ _ _ _ 201 [some (.ref b), some (.int (iI _)), some (.int (iI _)), some (.ref 14), some (.int (iI _)), some (.int (iI _)), some (.int (iI _))] _ _
              refine aw_goto (p' := 10) rfl rfl ?_
              refine ih _ (by omega) _ _ _ _ r' t1 (vS nm q s) rfl ((hD.su (T := [b + 5]) (by simp)).tr (hD8.su (T := [b + 5]) (by simp))) (by omega) (by omega) hm3 hg (tyP_len hp htl) (okV_step hnk hp hov) ?_ ?_ hvr
              · rw [hvs]
                exact ⟨by rw [hU8, if_pos (by omega)], hpl.up (fun w a b => by rw [hU8, if_neg (by omega)])⟩
              · rw [hvs]; simp only [List.length_cons]; try omega
            · dsimp only [zc] at c6
              have hpl := hpl0
              have hvs : vS nm q s = q.2 :: s := by unfold vS; rw [if_pos (by omega)]
              refine aw_aload_n rfl rfl rfl ?_
              refine aw_getr (b := (b + 2)) rfl rfl (by rw [(hD.su (T := [b + 5]) (by simp)).2.2.1]; exact hb1) (by rw [(hD.su (T := [b + 5]) (by simp)).2.2.2.1]; exact hr1) rfl ?_
              refine aw_iload rfl rfl rfl ?_
              refine aw_as (N := 400) rfl (by rw [(hD.su (T := [b + 5]) (by simp)).2.2.1]; exact hb3) (by omega) (by omega) (by omega) rfl (fun _ _ => ?_)
              rw [hD.nz (by simp), hm2]
              refine aw_i2l rfl ⟨by omega, by omega⟩ rfl ?_
              refine aw_goto (p' := 90) rfl rfl ?_
              refine aw_lsm (N := 64) rfl (by rw [(hD.su (T := [b + 5]) (by simp)).2.2.1]; exact hb6) (by omega) (by omega) (by omega) (by omega) (by omega) rfl (fun τ10 hD10 hU10 => ?_)
              refine aw_iinc rfl rfl rfl rfl ?_
              change aw _ _ _ _ 94 [some (.ref b), some (.int (iI _)), some (.int (iI _)), some (.ref 14), some (.int (iI _)), some (.int (iI _)), some (.int (iI _))] _ _
              refine aw_goto (p' := 198) rfl rfl ?_
              refine aw_iinc rfl rfl rfl rfl ?_
              change aw _ _ _ _ 201 [some (.ref b), some (.int (iI _)), some (.int (iI _)), some (.ref 14), some (.int (iI _)), some (.int (iI _)), some (.int (iI _))] _ _
              refine aw_goto (p' := 10) rfl rfl ?_
              refine ih _ (by omega) _ _ _ _ r' t1 (vS nm q s) rfl ((hD.su (T := [b + 5]) (by simp)).tr (hD10.su (T := [b + 5]) (by simp))) (by omega) (by omega) hm3 hg (tyP_len hp htl) (okV_step hnk hp hov) ?_ ?_ hvr
              · rw [hvs]
                exact ⟨by rw [hU10, if_pos (by omega)], hpl.up (fun w a b => by rw [hU10, if_neg (by omega)])⟩
              · rw [hvs]; simp only [List.length_cons]; try omega
        · dsimp only [zc] at c4
          refine aw_iload rfl rfl rfl ?_
          refine aw_iconst rfl rfl ?_
          refine aw_icmp (p' := 97) rfl ⟨by omega, by omega⟩ ⟨by omega, by omega⟩ rfl rfl (fun c11 => ?_) (fun c11 => ?_)
          · dsimp only [zc] at c11
            refine aw_iload rfl rfl rfl ?_
            refine aw_bipush rfl rfl rfl ?_
            refine aw_icmp (p' := 111) rfl ⟨by omega, by omega⟩ ⟨by omega, by omega⟩ rfl rfl (fun c12 => ?_) (fun c12 => ?_)
            · dsimp only [zc] at c12
              refine aw_iload rfl rfl rfl ?_
              refine aw_if (p' := 198) rfl ⟨by omega, by omega⟩ rfl rfl (fun c13 => ?_) (fun c13 => ?_)
              · dsimp only [zc] at c13
                exfalso
                have hov3 : t.length ≠ 0 := by
                  rcases hp with ⟨h0, -⟩ | ⟨h0, -⟩ | ⟨h0, u, rfl, -⟩ | ⟨h0, u, rfl, -⟩ | ⟨h0, u, rfl, -⟩ | ⟨h0, u, rfl, -⟩ | ⟨h0, u, rfl, -⟩ <;> (try simp) <;> omega
                omega
              · dsimp only [zc] at c13
                refine aw_aload_n rfl rfl rfl ?_
                refine aw_getr (b := (b + 5)) rfl rfl (by rw [(hD.su (T := [b + 5]) (by simp)).2.2.1]; exact hb1) (by rw [(hD.su (T := [b + 5]) (by simp)).2.2.2.1]; exact hr4) rfl ?_
                refine aw_iload rfl rfl rfl ?_
                refine aw_iconst rfl rfl ?_
                refine aw_isub rfl rfl ?_
                refine aw_iload rfl rfl rfl ?_
                refine aw_bipush rfl rfl rfl ?_
                refine aw_icmp (p' := 145) rfl ⟨by omega, by omega⟩ ⟨by omega, by omega⟩ rfl rfl (fun c14 => ?_) (fun c14 => ?_)
                · dsimp only [zc] at c14
                  have hp2 : ∃ u, t = false :: u := by rcases hp with ⟨h0, -⟩ | ⟨h0, -⟩ | ⟨h0, u, h1, -⟩ | ⟨h0, -⟩ | ⟨h0, -⟩ | ⟨h0, -⟩ | ⟨h0, -⟩ <;> (try exact ⟨u, h1⟩) <;> (try unfold opB at h0) <;> (try unfold opC at h0) <;> (try unfold opN at h0) <;> omega
                  obtain ⟨u, hu⟩ := hp2
                  rw [hu] at hov
                  obtain ⟨v, s2, hs2, hv1, hv2⟩ := okV_c hov
                  rw [← hu] at hov
                  subst hs2
                  obtain ⟨hpv, hpl⟩ := hpl0
                  simp only [List.length_cons] at hhl htl2
                  have hvs : vS nm q (v :: s2) = (-v) :: s2 := by unfold vS; rw [if_neg (by omega), if_neg (by omega), if_pos (by omega)]
                  refine aw_aload_n rfl rfl rfl ?_
                  refine aw_getr (b := (b + 5)) rfl rfl (by rw [(hD.su (T := [b + 5]) (by simp)).2.2.1]; exact hb1) (by rw [(hD.su (T := [b + 5]) (by simp)).2.2.2.1]; exact hr4) rfl ?_
                  refine aw_iload rfl rfl rfl ?_
                  refine aw_iconst rfl rfl ?_
                  refine aw_isub rfl rfl ?_
                  refine aw_lz (N := 64) rfl (by rw [(hD.su (T := [b + 5]) (by simp)).2.2.1]; exact hb6) (by omega) (by omega) (by omega) rfl (fun _ _ => ?_)
                  rw [show tp - 1 = ((s2.length : Nat) : Int) by omega, hpv]
                  refine aw_lneg rfl rfl ?_
                  refine aw_lsm (N := 64) rfl (by rw [(hD.su (T := [b + 5]) (by simp)).2.2.1]; exact hb6) (by omega) (by omega) (by omega) (by omega) (by omega) rfl (fun τ16 hD16 hU16 => ?_)
                  refine aw_goto (p' := 198) rfl rfl ?_
                  refine aw_iinc rfl rfl rfl rfl ?_
                  change aw _ _ _ _ 201 [some (.ref b), some (.int (iI _)), some (.int (iI _)), some (.ref 14), some (.int (iI _)), some (.int (iI _)), some (.int (iI _))] _ _
                  refine aw_goto (p' := 10) rfl rfl ?_
                  refine ih _ (by omega) _ _ _ _ r' t1 (vS nm q (v :: s2)) rfl ((hD.su (T := [b + 5]) (by simp)).tr (hD16.su (T := [b + 5]) (by simp))) (by omega) (by omega) hm3 hg (tyP_len hp htl) (okV_step hnk hp hov) ?_ ?_ hvr
                  · rw [hvs]
                    exact ⟨by rw [hU16, if_pos (by omega)], hpl.up (fun w a b => by rw [hU16, if_neg (by omega)])⟩
                  · rw [hvs]; simp only [List.length_cons]; try omega
                · dsimp only [zc] at c14
                  have hp2 : ∃ u, t = true :: u := by rcases hp with ⟨h0, -⟩ | ⟨h0, -⟩ | ⟨h0, -⟩ | ⟨h0, u, h1, -⟩ | ⟨h0, -⟩ | ⟨h0, -⟩ | ⟨h0, -⟩ <;> (try exact ⟨u, h1⟩) <;> (try unfold opB at h0) <;> (try unfold opC at h0) <;> (try unfold opN at h0) <;> omega
                  obtain ⟨u, hu⟩ := hp2
                  rw [hu] at hov
                  obtain ⟨v, s2, hs2, hv1, hv2⟩ := okV_c hov
                  rw [← hu] at hov
                  subst hs2
                  obtain ⟨hpv, hpl⟩ := hpl0
                  simp only [List.length_cons] at hhl htl2
                  have hvs : vS nm q (v :: s2) = (1 - v) :: s2 := by unfold vS; rw [if_neg (by omega), if_neg (by omega), if_neg (by omega), if_pos (by omega)]
                  refine aw_lconst 1 rfl rfl rfl ?_
                  refine aw_aload_n rfl rfl rfl ?_
                  refine aw_getr (b := (b + 5)) rfl rfl (by rw [(hD.su (T := [b + 5]) (by simp)).2.2.1]; exact hb1) (by rw [(hD.su (T := [b + 5]) (by simp)).2.2.2.1]; exact hr4) rfl ?_
                  refine aw_iload rfl rfl rfl ?_
                  refine aw_iconst rfl rfl ?_
                  refine aw_isub rfl rfl ?_
                  refine aw_lz (N := 64) rfl (by rw [(hD.su (T := [b + 5]) (by simp)).2.2.1]; exact hb6) (by omega) (by omega) (by omega) rfl (fun _ _ => ?_)
                  rw [show tp - 1 = ((s2.length : Nat) : Int) by omega, hpv]
                  refine aw_lsub rfl rfl ?_
                  refine aw_goto (p' := 155) rfl rfl ?_
                  refine aw_lsm (N := 64) rfl (by rw [(hD.su (T := [b + 5]) (by simp)).2.2.1]; exact hb6) (by omega) (by omega) (by omega) (by omega) (by omega) rfl (fun τ18 hD18 hU18 => ?_)
                  refine aw_goto (p' := 198) rfl rfl ?_
                  refine aw_iinc rfl rfl rfl rfl ?_
                  change aw _ _ _ _ 201 [some (.ref b), some (.int (iI _)), some (.int (iI _)), some (.ref 14), some (.int (iI _)), some (.int (iI _)), some (.int (iI _))] _ _
                  refine aw_goto (p' := 10) rfl rfl ?_
                  refine ih _ (by omega) _ _ _ _ r' t1 (vS nm q (v :: s2)) rfl ((hD.su (T := [b + 5]) (by simp)).tr (hD18.su (T := [b + 5]) (by simp))) (by omega) (by omega) hm3 hg (tyP_len hp htl) (okV_step hnk hp hov) ?_ ?_ hvr
                  · rw [hvs]
                    exact ⟨by rw [hU18, if_pos (by omega)], hpl.up (fun w a b => by rw [hU18, if_neg (by omega)])⟩
                  · rw [hvs]; simp only [List.length_cons]; try omega
            · dsimp only [zc] at c12
              refine aw_iload rfl rfl rfl ?_
              refine aw_bipush rfl rfl rfl ?_
              refine aw_icmp (p' := 159) rfl ⟨by omega, by omega⟩ ⟨by omega, by omega⟩ rfl rfl (fun c19 => ?_) (fun c19 => ?_)
              · dsimp only [zc] at c19
                have hbo := (htr.resolve_left (by omega)).resolve_left (by omega) |>.resolve_left (by omega) |>.resolve_left (by omega)
                have hp2 : ∃ b1 b2 u, t = b1 :: b2 :: u ∧ (opB q.1 → b1 = true ∧ b2 = true) := by
                  rcases hp with ⟨h0, -⟩ | ⟨h0, -⟩ | ⟨h0, -⟩ | ⟨h0, -⟩ | ⟨h0, u, h1, -⟩ | ⟨h0, u, h1, -⟩ | ⟨h0, u, h1, -⟩
                  · omega
                  · omega
                  · omega
                  · omega
                  · exact ⟨_, _, u, h1, fun _ => ⟨rfl, rfl⟩⟩
                  · exact ⟨_, _, u, h1, fun e => by unfold opB at e; unfold opC at h0; omega⟩
                  · exact ⟨_, _, u, h1, fun e => by unfold opB at e; unfold opN at h0; omega⟩
                obtain ⟨b1, b2, u, hu, hub⟩ := hp2
                rw [hu] at hov
                obtain ⟨v, s1, hs1, hv1, hv2⟩ := okV_c hov
                obtain ⟨v2, s2, hs2, hv3, hv4⟩ := okV_c hv2
                rw [← hu] at hov
                subst hs1
                subst hs2
                obtain ⟨hpv, hpv2, hpl⟩ := hpl0
                simp only [List.length_cons] at hhl htl2 hpv
                have hvs : vS nm q (v :: v2 :: s2) = vW q.1 v2 v :: s2 := vS_bin (by omega) (by omega) (by omega) (by omega)
                have hvb := okV_step hnk hp hov
                rw [hvs] at hvb
                have hvb2 := okV_h hvb
                have ho := hbo.1
                have h01 : opB q.1 → (v2 = 0 ∨ v2 = 1) ∧ (v = 0 ∨ v = 1) := fun e => ⟨hv3.2 (hub e).2, hv1.2 (hub e).1⟩
                refine aw_iload rfl rfl rfl ?_
                refine aw_iconst rfl rfl ?_
                refine aw_icmp (p' := 198) rfl ⟨by omega, by omega⟩ ⟨by omega, by omega⟩ rfl rfl (fun c20 => ?_) (fun c20 => ?_)
                · dsimp only [zc] at c20
                  exfalso
                  omega
                · dsimp only [zc] at c20
                  skip
                  refine aw_iinc rfl rfl rfl rfl ?_
                  change aw _ _ _ _ 168 [some (.ref b), some (.int (iI _)), some (.int (iI _)), some (.ref 14), some (.int (iI _)), some (.int (iI _)), some (.int (iI _))] _ _
                  refine aw_aload_n rfl rfl rfl ?_
                  refine aw_getr (b := (b + 5)) rfl rfl (by rw [(hD.su (T := [b + 5]) (by simp)).2.2.1]; exact hb1) (by rw [(hD.su (T := [b + 5]) (by simp)).2.2.2.1]; exact hr4) rfl ?_
                  refine aw_iload rfl rfl rfl ?_
                  refine aw_iconst rfl rfl ?_
                  refine aw_isub rfl rfl ?_
                  refine aw_iload rfl rfl rfl ?_
                  refine aw_aload_n rfl rfl rfl ?_
                  refine aw_getr (b := (b + 5)) rfl rfl (by rw [(hD.su (T := [b + 5]) (by simp)).2.2.1]; exact hb1) (by rw [(hD.su (T := [b + 5]) (by simp)).2.2.2.1]; exact hr4) rfl ?_
                  refine aw_iload rfl rfl rfl ?_
                  refine aw_iconst rfl rfl ?_
                  refine aw_isub rfl rfl ?_
                  refine aw_lz (N := 64) rfl (by rw [(hD.su (T := [b + 5]) (by simp)).2.2.1]; exact hb6) (by omega) (by omega) (by omega) rfl (fun _ _ => ?_)
                  rw [show tp + (-1) - 1 = ((s2.length : Nat) : Int) by omega, hpv2]
                  refine aw_aload_n rfl rfl rfl ?_
                  refine aw_getr (b := (b + 5)) rfl rfl (by rw [(hD.su (T := [b + 5]) (by simp)).2.2.1]; exact hb1) (by rw [(hD.su (T := [b + 5]) (by simp)).2.2.2.1]; exact hr4) rfl ?_
                  refine aw_iload rfl rfl rfl ?_
                  refine aw_lz (N := 64) rfl (by rw [(hD.su (T := [b + 5]) (by simp)).2.2.1]; exact hb6) (by omega) (by omega) (by omega) rfl (fun _ _ => ?_)
                  rw [show tp + (-1) = ((s2.length + 1 : Nat) : Int) by omega, hpv]
                  refine aw_fnc (c_join ho (by omega) (by omega) h01) rfl rfl rfl (Nat.le_of_ble_eq_true rfl) (Or.inl rfl) rfl ?_
                  refine aw_lsm (N := 64) rfl (by rw [(hD.su (T := [b + 5]) (by simp)).2.2.1]; exact hb6) (by omega) (by omega) (by omega) (by omega) (by omega) rfl (fun τ22 hD22 hU22 => ?_)
                  refine aw_iinc rfl rfl rfl rfl ?_
                  change aw _ _ _ _ 201 [some (.ref b), some (.int (iI _)), some (.int (iI _)), some (.ref 14), some (.int (iI _)), some (.int (iI _)), some (.int (iI _))] _ _
                  refine aw_goto (p' := 10) rfl rfl ?_
                  refine ih _ (by omega) _ _ _ _ r' t1 (vS nm q (v :: v2 :: s2)) rfl ((hD.su (T := [b + 5]) (by simp)).tr (hD22.su (T := [b + 5]) (by simp))) (by omega) (by omega) hm3 hg (tyP_len hp htl) (okV_step hnk hp hov) ?_ ?_ hvr
                  · rw [hvs]
                    exact ⟨by rw [hU22, if_pos (by omega)], hpl.up (fun w a b => by rw [hU22, if_neg (by omega)])⟩
                  · rw [hvs]; simp only [List.length_cons]; try omega
              · dsimp only [zc] at c19
                refine aw_iload rfl rfl rfl ?_
                refine aw_if (p' := 198) rfl ⟨by omega, by omega⟩ rfl rfl (fun c23 => ?_) (fun c23 => ?_)
                · dsimp only [zc] at c23
                  exfalso
                  have hov3 : t.length ≠ 0 := by
                    rcases hp with ⟨h0, -⟩ | ⟨h0, -⟩ | ⟨h0, u, rfl, -⟩ | ⟨h0, u, rfl, -⟩ | ⟨h0, u, rfl, -⟩ | ⟨h0, u, rfl, -⟩ | ⟨h0, u, rfl, -⟩ <;> (try simp) <;> omega
                  omega
                · dsimp only [zc] at c23
                  refine aw_aload_n rfl rfl rfl ?_
                  refine aw_getr (b := (b + 5)) rfl rfl (by rw [(hD.su (T := [b + 5]) (by simp)).2.2.1]; exact hb1) (by rw [(hD.su (T := [b + 5]) (by simp)).2.2.2.1]; exact hr4) rfl ?_
                  refine aw_iload rfl rfl rfl ?_
                  refine aw_iconst rfl rfl ?_
                  refine aw_isub rfl rfl ?_
                  refine aw_iload rfl rfl rfl ?_
                  refine aw_bipush rfl rfl rfl ?_
                  refine aw_icmp (p' := 145) rfl ⟨by omega, by omega⟩ ⟨by omega, by omega⟩ rfl rfl (fun c24 => ?_) (fun c24 => ?_)
                  · dsimp only [zc] at c24
                    have hp2 : ∃ u, t = false :: u := by rcases hp with ⟨h0, -⟩ | ⟨h0, -⟩ | ⟨h0, u, h1, -⟩ | ⟨h0, -⟩ | ⟨h0, -⟩ | ⟨h0, -⟩ | ⟨h0, -⟩ <;> (try exact ⟨u, h1⟩) <;> (try unfold opB at h0) <;> (try unfold opC at h0) <;> (try unfold opN at h0) <;> omega
                    obtain ⟨u, hu⟩ := hp2
                    rw [hu] at hov
                    obtain ⟨v, s2, hs2, hv1, hv2⟩ := okV_c hov
                    rw [← hu] at hov
                    subst hs2
                    obtain ⟨hpv, hpl⟩ := hpl0
                    simp only [List.length_cons] at hhl htl2
                    have hvs : vS nm q (v :: s2) = (-v) :: s2 := by unfold vS; rw [if_neg (by omega), if_neg (by omega), if_pos (by omega)]
                    refine aw_aload_n rfl rfl rfl ?_
                    refine aw_getr (b := (b + 5)) rfl rfl (by rw [(hD.su (T := [b + 5]) (by simp)).2.2.1]; exact hb1) (by rw [(hD.su (T := [b + 5]) (by simp)).2.2.2.1]; exact hr4) rfl ?_
                    refine aw_iload rfl rfl rfl ?_
                    refine aw_iconst rfl rfl ?_
                    refine aw_isub rfl rfl ?_
                    refine aw_lz (N := 64) rfl (by rw [(hD.su (T := [b + 5]) (by simp)).2.2.1]; exact hb6) (by omega) (by omega) (by omega) rfl (fun _ _ => ?_)
                    rw [show tp - 1 = ((s2.length : Nat) : Int) by omega, hpv]
                    refine aw_lneg rfl rfl ?_
                    refine aw_lsm (N := 64) rfl (by rw [(hD.su (T := [b + 5]) (by simp)).2.2.1]; exact hb6) (by omega) (by omega) (by omega) (by omega) (by omega) rfl (fun τ26 hD26 hU26 => ?_)
                    refine aw_goto (p' := 198) rfl rfl ?_
                    refine aw_iinc rfl rfl rfl rfl ?_
                    change aw _ _ _ _ 201 [some (.ref b), some (.int (iI _)), some (.int (iI _)), some (.ref 14), some (.int (iI _)), some (.int (iI _)), some (.int (iI _))] _ _
                    refine aw_goto (p' := 10) rfl rfl ?_
                    refine ih _ (by omega) _ _ _ _ r' t1 (vS nm q (v :: s2)) rfl ((hD.su (T := [b + 5]) (by simp)).tr (hD26.su (T := [b + 5]) (by simp))) (by omega) (by omega) hm3 hg (tyP_len hp htl) (okV_step hnk hp hov) ?_ ?_ hvr
                    · rw [hvs]
                      exact ⟨by rw [hU26, if_pos (by omega)], hpl.up (fun w a b => by rw [hU26, if_neg (by omega)])⟩
                    · rw [hvs]; simp only [List.length_cons]; try omega
                  · dsimp only [zc] at c24
                    have hp2 : ∃ u, t = true :: u := by rcases hp with ⟨h0, -⟩ | ⟨h0, -⟩ | ⟨h0, -⟩ | ⟨h0, u, h1, -⟩ | ⟨h0, -⟩ | ⟨h0, -⟩ | ⟨h0, -⟩ <;> (try exact ⟨u, h1⟩) <;> (try unfold opB at h0) <;> (try unfold opC at h0) <;> (try unfold opN at h0) <;> omega
                    obtain ⟨u, hu⟩ := hp2
                    rw [hu] at hov
                    obtain ⟨v, s2, hs2, hv1, hv2⟩ := okV_c hov
                    rw [← hu] at hov
                    subst hs2
                    obtain ⟨hpv, hpl⟩ := hpl0
                    simp only [List.length_cons] at hhl htl2
                    have hvs : vS nm q (v :: s2) = (1 - v) :: s2 := by unfold vS; rw [if_neg (by omega), if_neg (by omega), if_neg (by omega), if_pos (by omega)]
                    refine aw_lconst 1 rfl rfl rfl ?_
                    refine aw_aload_n rfl rfl rfl ?_
                    refine aw_getr (b := (b + 5)) rfl rfl (by rw [(hD.su (T := [b + 5]) (by simp)).2.2.1]; exact hb1) (by rw [(hD.su (T := [b + 5]) (by simp)).2.2.2.1]; exact hr4) rfl ?_
                    refine aw_iload rfl rfl rfl ?_
                    refine aw_iconst rfl rfl ?_
                    refine aw_isub rfl rfl ?_
                    refine aw_lz (N := 64) rfl (by rw [(hD.su (T := [b + 5]) (by simp)).2.2.1]; exact hb6) (by omega) (by omega) (by omega) rfl (fun _ _ => ?_)
                    rw [show tp - 1 = ((s2.length : Nat) : Int) by omega, hpv]
                    refine aw_lsub rfl rfl ?_
                    refine aw_goto (p' := 155) rfl rfl ?_
                    refine aw_lsm (N := 64) rfl (by rw [(hD.su (T := [b + 5]) (by simp)).2.2.1]; exact hb6) (by omega) (by omega) (by omega) (by omega) (by omega) rfl (fun τ28 hD28 hU28 => ?_)
                    refine aw_goto (p' := 198) rfl rfl ?_
                    refine aw_iinc rfl rfl rfl rfl ?_
                    change aw _ _ _ _ 201 [some (.ref b), some (.int (iI _)), some (.int (iI _)), some (.ref 14), some (.int (iI _)), some (.int (iI _)), some (.int (iI _))] _ _
                    refine aw_goto (p' := 10) rfl rfl ?_
                    refine ih _ (by omega) _ _ _ _ r' t1 (vS nm q (v :: s2)) rfl ((hD.su (T := [b + 5]) (by simp)).tr (hD28.su (T := [b + 5]) (by simp))) (by omega) (by omega) hm3 hg (tyP_len hp htl) (okV_step hnk hp hov) ?_ ?_ hvr
                    · rw [hvs]
                      exact ⟨by rw [hU28, if_pos (by omega)], hpl.up (fun w a b => by rw [hU28, if_neg (by omega)])⟩
                    · rw [hvs]; simp only [List.length_cons]; try omega
          · dsimp only [zc] at c11
            have hp2 : t.length < 64 ∧ ((q.1 = 400 ∧ 0 ≤ q.2 ∧ q.2 ≤ 100000) ∨ (q.1 = 401 ∧ 0 ≤ q.2 ∧ q.2 ≤ 7)) := by rcases hp with ⟨h0, h1, h2, -⟩ | ⟨h0, h1, h2, -⟩ | ⟨h0, -⟩ | ⟨h0, -⟩ | ⟨h0, -⟩ | ⟨h0, -⟩ | ⟨h0, -⟩ <;> (try unfold opB at h0) <;> (try unfold opC at h0) <;> (try unfold opN at h0) <;> omega
            refine aw_iload rfl rfl rfl ?_
            refine aw_aload_n rfl rfl rfl ?_
            refine aw_getr (b := (b + 5)) rfl rfl (by rw [(hD.su (T := [b + 5]) (by simp)).2.2.1]; exact hb1) (by rw [(hD.su (T := [b + 5]) (by simp)).2.2.2.1]; exact hr4) rfl ?_
            refine aw_alen (N := 64) rfl (by rw [(hD.su (T := [b + 5]) (by simp)).2.2.1]; exact hb6) (by decide) rfl ?_
            refine aw_icmp (p' := 198) rfl ⟨by omega, by omega⟩ ⟨by omega, by omega⟩ rfl rfl (fun c29 => ?_) (fun c29 => ?_)
            · dsimp only [zc] at c29
              omega
            · dsimp only [zc] at c29
              refine aw_aload_n rfl rfl rfl ?_
              refine aw_getr (b := (b + 5)) rfl rfl (by rw [(hD.su (T := [b + 5]) (by simp)).2.2.1]; exact hb1) (by rw [(hD.su (T := [b + 5]) (by simp)).2.2.2.1]; exact hr4) rfl ?_
              refine aw_iload rfl rfl rfl ?_
              refine aw_iload rfl rfl rfl ?_
              refine aw_iconst rfl rfl ?_
              refine aw_icmp (p' := 79) rfl ⟨by omega, by omega⟩ ⟨by omega, by omega⟩ rfl rfl (fun c30 => ?_) (fun c30 => ?_)
              · dsimp only [zc] at c30
                have hpl := hpl0
                have hvs : vS nm q s = nm q.2 :: s := by unfold vS; rw [if_neg (by omega), if_pos (by omega)]
                have hnq := hnm q.2 (by omega) (by omega)
                have hnb := hnk q.2 (by omega) (by omega)
                refine aw_aload_n rfl rfl rfl ?_
                refine aw_aload_n rfl rfl rfl ?_
                refine aw_getr (b := (b + 2)) rfl rfl (by rw [(hD.su (T := [b + 5]) (by simp)).2.2.1]; exact hb1) (by rw [(hD.su (T := [b + 5]) (by simp)).2.2.2.1]; exact hr1) rfl ?_
                refine aw_iload rfl rfl rfl ?_
                refine aw_as (N := 400) rfl (by rw [(hD.su (T := [b + 5]) (by simp)).2.2.1]; exact hb3) (by omega) (by omega) (by omega) rfl (fun _ _ => ?_)
                rw [hD.nz (by simp), hm2]
                refine aw_fnc (c_nameOf (v := nm q.2) (hD.fx hf) (by omega) (by omega) (by rw [hD.nz (by simp only [List.mem_singleton]; omega)]; exact hnq)) rfl rfl rfl (Nat.le_of_ble_eq_true rfl) (Or.inl rfl) rfl ?_
                refine aw_lsm (N := 64) rfl (by rw [(hD.su (T := [b + 5]) (by simp)).2.2.1]; exact hb6) (by omega) (by omega) (by omega) (by omega) (by omega) rfl (fun τ32 hD32 hU32 => ?_)
                refine aw_iinc rfl rfl rfl rfl ?_
                change aw _ _ _ _ 94 [some (.ref b), some (.int (iI _)), some (.int (iI _)), some (.ref 14), some (.int (iI _)), some (.int (iI _)), some (.int (iI _))] _ _
                refine aw_goto (p' := 198) rfl rfl ?_
                refine aw_iinc rfl rfl rfl rfl ?_
                change aw _ _ _ _ 201 [some (.ref b), some (.int (iI _)), some (.int (iI _)), some (.ref 14), some (.int (iI _)), some (.int (iI _)), some (.int (iI _))] _ _
                refine aw_goto (p' := 10) rfl rfl ?_
                refine ih _ (by omega) _ _ _ _ r' t1 (vS nm q s) rfl ((hD.su (T := [b + 5]) (by simp)).tr (hD32.su (T := [b + 5]) (by simp))) (by omega) (by omega) hm3 hg (tyP_len hp htl) (okV_step hnk hp hov) ?_ ?_ hvr
                · rw [hvs]
                  exact ⟨by rw [hU32, if_pos (by omega)], hpl.up (fun w a b => by rw [hU32, if_neg (by omega)])⟩
                · rw [hvs]; simp only [List.length_cons]; try omega
              · dsimp only [zc] at c30
                have hpl := hpl0
                have hvs : vS nm q s = q.2 :: s := by unfold vS; rw [if_pos (by omega)]
                refine aw_aload_n rfl rfl rfl ?_
                refine aw_getr (b := (b + 2)) rfl rfl (by rw [(hD.su (T := [b + 5]) (by simp)).2.2.1]; exact hb1) (by rw [(hD.su (T := [b + 5]) (by simp)).2.2.2.1]; exact hr1) rfl ?_
                refine aw_iload rfl rfl rfl ?_
                refine aw_as (N := 400) rfl (by rw [(hD.su (T := [b + 5]) (by simp)).2.2.1]; exact hb3) (by omega) (by omega) (by omega) rfl (fun _ _ => ?_)
                rw [hD.nz (by simp), hm2]
                refine aw_i2l rfl ⟨by omega, by omega⟩ rfl ?_
                refine aw_goto (p' := 90) rfl rfl ?_
                refine aw_lsm (N := 64) rfl (by rw [(hD.su (T := [b + 5]) (by simp)).2.2.1]; exact hb6) (by omega) (by omega) (by omega) (by omega) (by omega) rfl (fun τ34 hD34 hU34 => ?_)
                refine aw_iinc rfl rfl rfl rfl ?_
                change aw _ _ _ _ 94 [some (.ref b), some (.int (iI _)), some (.int (iI _)), some (.ref 14), some (.int (iI _)), some (.int (iI _)), some (.int (iI _))] _ _
                refine aw_goto (p' := 198) rfl rfl ?_
                refine aw_iinc rfl rfl rfl rfl ?_
                change aw _ _ _ _ 201 [some (.ref b), some (.int (iI _)), some (.int (iI _)), some (.ref 14), some (.int (iI _)), some (.int (iI _)), some (.int (iI _))] _ _
                refine aw_goto (p' := 10) rfl rfl ?_
                refine ih _ (by omega) _ _ _ _ r' t1 (vS nm q s) rfl ((hD.su (T := [b + 5]) (by simp)).tr (hD34.su (T := [b + 5]) (by simp))) (by omega) (by omega) hm3 hg (tyP_len hp htl) (okV_step hnk hp hov) ?_ ?_ hvr
                · rw [hvs]
                  exact ⟨by rw [hU34, if_pos (by omega)], hpl.up (fun w a b => by rw [hU34, if_neg (by omega)])⟩
                · rw [hvs]; simp only [List.length_cons]; try omega
set_option maxRecDepth 10000 in
set_option maxHeartbeats 2000000 in
theorem c_run {d : Nat} {sz : Nat} {σ : az_S} (hf : FX sz σ) {b : Nat} (hb : b = 16 ∨ b = 22) {nm : Int → Int} (hnk : nmOk nm) (hnm : ∀ i : Int, 0 ≤ i → i ≤ 7 → zx σ 14 i = nm i) {c : List (Int × Int)} {bo : Bool} (hc : tyR c [] [bo]) {k m : Int} (hk : 0 ≤ k) (hm : k + c.length = m) {n0 : Int} (hn0 : zx σ b 5 = n0) (hmn : m ≤ n0) (hn1 : n0 ≤ 400) (hcc : cCode (zx σ (b + 1)) (zx σ (b + 2)) k c) : cal (d + 3) 81 [.ref b, .int (iI k), .int (iI m), .ref 14] σ (fun r τ => r = some (.long (lI ((vR nm c []).headD 0))) ∧ Mod σ τ [b + 5]) := by
  obtain ⟨hb1, ⟨hb2, hb3, hb4, hb5, hb6⟩, hr0, hr1, hr2, hr3, hr4⟩ := hf.tar hb
  refine cal_of (M := (yX9_run, cX9_run, 7, (some .long))) (cd := k_X9_run) (L := [some (.ref b), some (.int (iI k)), some (.int (iI m)), some (.ref 14), none, none, none]) rfl (Nat.le_of_ble_eq_true rfl) rfl rfl ?_
  refine aw_iconst rfl rfl ?_
  refine aw_istore rfl (Nat.le_of_ble_eq_true rfl) rfl rfl ?_
  change aw _ _ _ _ 3 [some (.ref b), some (.int (iI _)), some (.int (iI _)), some (.ref 14), some (.int (iI _)), none, none] _ _
  refine aw_iconst rfl rfl ?_
  refine aw_iload_n rfl rfl rfl ?_
  refine aw_fnc (j_max ⟨by omega, by omega⟩ ⟨by omega, by omega⟩) rfl rfl rfl (Nat.le_of_ble_eq_true rfl) (Or.inl rfl) rfl ?_
  refine aw_istore rfl (Nat.le_of_ble_eq_true rfl) rfl rfl ?_
  change aw _ _ _ _ 10 [some (.ref b), some (.int (iI _)), some (.int (iI _)), some (.ref 14), some (.int (iI _)), some (.int (iI _)), none] _ _
  exact c_run_l10 hf hb hnk hnm hc hk hm hn0 hmn hn1 hcc _ _ _ 0 _ c [] [] rfl Mod.rf (by omega) (by omega) (by rw [show (if 0 < k then k else 0) = k by split <;> omega]; exact hcc) hc (by simp) trivial trivial rfl rfl
