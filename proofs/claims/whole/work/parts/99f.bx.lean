/-! THE CONSTRUCTORS -/
def KC (κ : Nat × (Nat → Int32) × Option Nat) (σ : az_S) : Prop := ∀ a : Nat, 1000000 ≤ a → az_sh σ a = az_sh0 κ.1 a ∧ az_i σ a = az_i0 κ.2.1 a ∧ az_r σ a = az_r0 κ.2.2 a
/-- n places are made; rl the references written, I the ints, Q the longs -/
def BX (sz : Nat) (κ : Nat × (Nat → Int32) × Option Nat) (n : Nat) (rl : List (Nat × Nat × Nat)) (I Q : Nat → Int → Int) (σ : az_S) : Prop := (16 ≤ sz ∧ sz ≤ 192) ∧ az_n σ = n ∧ az_sl σ ≤ 2400 * n ∧ (∀ a, a < n → az_sh σ a = (fxk a, fxn sz a)) ∧ KC κ σ ∧ (∀ q, q ∈ rl → q.1 < n ∧ az_r σ q.1 q.2.1 = some q.2.2) ∧ (∀ a, a < n → zx σ a = I a) ∧ (∀ a, a < n → zq σ a = Q a) ∧ (∀ a, n ≤ a → I a = (fun _ => 0) ∧ Q a = (fun _ => 0))
theorem BX.k {sz : Nat} {κ : Nat × (Nat → Int32) × Option Nat} {n : Nat} {rl : List (Nat × Nat × Nat)} {I Q : Nat → Int → Int} {σ : az_S} (h : BX sz κ n rl I Q σ) {a : Nat} (ha : a < n) : (az_sh σ a).1 = fxk a := by rw [h.2.2.2.1 a ha]
theorem BX.s {sz : Nat} {κ : Nat × (Nat → Int32) × Option Nat} {n : Nat} {rl : List (Nat × Nat × Nat)} {I Q : Nat → Int → Int} {σ : az_S} (h : BX sz κ n rl I Q σ) {a : Nat} (ha : a < n) : az_sh σ a = (fxk a, fxn sz a) := h.2.2.2.1 a ha
theorem BX.r {sz : Nat} {κ : Nat × (Nat → Int32) × Option Nat} {n : Nat} {rl : List (Nat × Nat × Nat)} {I Q : Nat → Int → Int} {σ : az_S} (h : BX sz κ n rl I Q σ) (a k b : Nat) (hq : (a, k, b) ∈ rl) : az_r σ a k = some b := (h.2.2.2.2.2.1 _ hq).2
theorem BX.i {sz : Nat} {κ : Nat × (Nat → Int32) × Option Nat} {n : Nat} {rl : List (Nat × Nat × Nat)} {I Q : Nat → Int → Int} {σ : az_S} (h : BX sz κ n rl I Q σ) {a : Nat} (ha : a < n) : zx σ a = I a := h.2.2.2.2.2.2.1 a ha
theorem BX.st0 {sz : Nat} {κ : Nat × (Nat → Int32) × Option Nat} {n : Nat} {rl : List (Nat × Nat × Nat)} {I Q : Nat → Int → Int} {σ : az_S} (h : BX sz κ n rl I Q σ) : az_r σ 1000007 0 = some 1000001 := by rw [(h.2.2.2.2.1 1000007 (by decide)).2.2]; rfl
theorem BX.nw {sz : Nat} {κ : Nat × (Nat → Int32) × Option Nat} {n : Nat} {rl : List (Nat × Nat × Nat)} {I Q : Nat → Int → Int} {σ : az_S} (h : BX sz κ n rl I Q σ) {ci nf : Nat} (hn : n < 1000) (hs : (ci, nf) = (fxk n, fxn sz n)) (h24 : nf ≤ 2400) : BX sz κ (n + 1) rl I Q (az_nw σ ci nf) := by
  obtain ⟨h1, h2, h3, h4, h5, h6, h7, h8, h9⟩ := h
  have h2' : σ.1 = n := h2
  refine ⟨h1, ?_, ?_, fun a ha => ?_, fun a ha => ?_, fun q hq => ?_, fun a ha => ?_, fun a ha => ?_, fun a ha => h9 a (by omega)⟩
  · show σ.1 + 1 = n + 1
    omega
  · have h3' : σ.2.1 ≤ 2400 * n := h3
    show σ.2.1 + nf ≤ 2400 * (n + 1)
    omega
  · show va_up σ.2.2.1 σ.1 (ci, nf) a = _
    by_cases e : a = n
    · rw [e, h2', va_up_self]; exact hs
    · rw [va_up_ne _ _ (by omega)]; exact h4 a (by omega)
  · show va_up σ.2.2.1 σ.1 (ci, nf) a = _ ∧ va_up σ.2.2.2.1 σ.1 (fun _ => 0) a = _ ∧ va_up σ.2.2.2.2.2 σ.1 (fun _ => none) a = _
    rw [va_up_ne _ _ (by omega), va_up_ne _ _ (by omega), va_up_ne _ _ (by omega)]; exact h5 a ha
  · have q6 := h6 q hq
    refine ⟨by omega, ?_⟩
    show va_up σ.2.2.2.2.2 σ.1 (fun _ => none) q.1 q.2.1 = _
    rw [va_up_ne _ _ (by omega)]; exact q6.2
  · by_cases e : a = n
    · rw [(h9 a (by omega)).1]
      funext w
      rw [e, ← h2]
      exact zx_nw w
    · rw [← h7 a (by omega)]
      funext w
      unfold zx zi
      show (if w < 0 then 0 else (va_up σ.2.2.2.1 σ.1 (fun _ => 0) a w.toNat).toInt) = _
      rw [va_up_ne _ _ (by omega)]
  · by_cases e : a = n
    · rw [(h9 a (by omega)).2]
      funext w
      unfold zq
      show (if w < 0 then 0 else (va_up σ.2.2.2.2.1 σ.1 (fun _ => 0) a w.toNat).toInt) = 0
      rw [e, h2', va_up_self]
      split <;> rfl
    · rw [← h8 a (by omega)]
      funext w
      unfold zq
      show (if w < 0 then 0 else (va_up σ.2.2.2.2.1 σ.1 (fun _ => 0) a w.toNat).toInt) = _
      rw [va_up_ne _ _ (by omega)]
theorem BX.pr {sz : Nat} {κ : Nat × (Nat → Int32) × Option Nat} {n : Nat} {rl : List (Nat × Nat × Nat)} {I Q : Nat → Int → Int} {σ : az_S} (h : BX sz κ n rl I Q σ) {a k b : Nat} (ha : a < n) (hn : n < 1000) (hf : rl.all (fun q => !(Nat.beq q.1 a && Nat.beq q.2.1 k)) = true) : BX sz κ n ((a, k, b) :: rl) I Q (az_pr σ a k (some b)) := by
  obtain ⟨h1, h2, h3, h4, h5, h6, h7, h8, h9⟩ := h
  refine ⟨h1, h2, h3, h4, fun c hc => ?_, fun q hq => ?_, h7, h8, h9⟩
  · show _ ∧ _ ∧ az_up σ.2.2.2.2.2 a k (some b) c = _
    rw [az_up_ne (by omega)]; exact h5 c hc
  · show q.1 < n ∧ az_up σ.2.2.2.2.2 a k (some b) q.1 q.2.1 = some q.2.2
    rcases List.mem_cons.mp hq with rfl | hm
    · exact ⟨ha, az_up_sf⟩
    · have q6 := h6 q hm
      have q7 := List.all_eq_true.mp hf q hm
      refine ⟨q6.1, ?_⟩
      by_cases e : q.1 = a
      · have e2 : q.2.1 ≠ k := by
          intro z
          rw [e, z] at q7
          simp at q7
        rw [e, az_up_nk e2, ← e]
        exact q6.2
      · rw [az_up_ne e]; exact q6.2
theorem BX.md {sz : Nat} {κ : Nat × (Nat → Int32) × Option Nat} {n : Nat} {rl : List (Nat × Nat × Nat)} {I Q I' : Nat → Int → Int} {σ τ : az_S} (h : BX sz κ n rl I Q σ) {a : Nat} (ha : a < n) (hn : n < 1000) (hd : Mod σ τ [a]) (hq : zq τ a = zq σ a) (hi : zx τ a = I' a) (he : ∀ b, b ≠ a → I' b = I b) : BX sz κ n rl I' Q τ := by
  obtain ⟨h1, h2, h3, h4, h5, h6, h7, h8, h9⟩ := h
  refine ⟨h1, hd.1.trans h2, ?_, fun b hb => by rw [hd.2.2.1]; exact h4 b hb, fun b hb => ?_, fun q hq => by rw [hd.2.2.2.1]; exact h6 q hq, fun b hb => ?_, fun b hb => ?_, fun b hb => by rw [he b (by omega)]; exact h9 b hb⟩
  · have e : az_sl τ = az_sl σ := hd.2.1
    omega
  · have := h5 b hb
    rw [hd.2.2.1, hd.2.2.2.1, hd.2.2.2.2.1 b (by simp; omega)]
    exact this
  · by_cases e : b = a
    · rw [e]; exact hi
    · rw [he b e, ← h7 b hb]
      exact hd.nz (by simp; exact e)
  · by_cases e : b = a
    · rw [e, hq]; exact h8 a ha
    · rw [← h8 b hb]
      exact hd.q b (by simp; exact e)
section AwBx
variable {d : Nat} {cd : List az_I} {rt : Option FieldType} {P : Option Value → az_S → Prop} {pc p' : Nat} {L : az_V} {st : List Value} {σ : az_S} {sz : Nat} {κ : Nat × (Nat → Int32) × Option Nat} {n : Nat} {rl : List (Nat × Nat × Nat)} {I Q : Nat → Int → Int}
theorem aw_bnew {i ci : Nat} (hB : BX sz κ n rl I Q σ) (hn : n < 1000) (hf : az_fetch cd pc = some (3, .new i, [ci])) (hc : Nat.ble (ci + 1) 14 = true) (hs : (ci, az_nf ci) = (fxk n, fxn sz n)) (h24 : az_nf ci ≤ 2400) (hp : pc + 3 = p') (h : ∀ τ, BX sz κ (n + 1) rl I Q τ → aw d cd rt P p' L (.ref n :: st) τ) : aw d cd rt P pc L st σ := by
  have e : az_n σ = n := hB.2.1
  refine aw_new hf hc (by omega) rfl hp ?_
  rw [e]
  exact h _ (hB.nw hn hs h24)
theorem aw_bnarr {t : ArrayType} {N kd : Nat} (hB : BX sz κ n rl I Q σ) (hn : n < 1000) (hf : az_fetch cd pc = some (2, .newarray t, [])) (hN : N ≤ 2400) (ht : az_ty t = kd) (hk : Nat.ble 100 kd = true) (hs : (kd, N) = (fxk n, fxn sz n)) (hp : pc + 2 = p') (h : ∀ τ, BX sz κ (n + 1) rl I Q τ → aw d cd rt P p' L (.ref n :: st) τ) : aw d cd rt P pc L (.int (iI (N : Int)) :: st) σ := by
  have e : az_n σ = n := hB.2.1
  refine aw_newarr hf (by omega) ht hk (by omega) hp ?_
  rw [e]
  exact h _ (hB.nw hn hs hN)
theorem aw_bputr {i ci k a b : Nat} (hB : BX sz κ n rl I Q σ) (hf : az_fetch cd pc = some (3, .putfield i, [ci, k])) (hk : az_ft ci k = 2) (hs : fxk a = ci) (ha : a < n ∧ n < 1000) (hfr : rl.all (fun q => !(Nat.beq q.1 a && Nat.beq q.2.1 k)) = true) (hp : pc + 3 = p') (h : ∀ τ, BX sz κ n ((a, k, b) :: rl) I Q τ → aw d cd rt P p' L st τ) : aw d cd rt P pc L (.ref b :: .ref a :: st) σ := by
  refine aw_putr hf hk ((hB.k ha.1).trans hs) hp ?_
  exact h _ (hB.pr ha.1 ha.2 hfr)
theorem aw_bputi {i ci k a : Nat} {x : Int} (j : Int) (hB : BX sz κ n rl I Q σ) (hf : az_fetch cd pc = some (3, .putfield i, [ci, k])) (hk : az_ft ci k = 0) (hs : fxk a = ci) (ha : a < n ∧ n < 1000) (hj : j = (k : Int)) (hx : inI x) (hp : pc + 3 = p') (h : ∀ τ, BX sz κ n rl (up I a j x) Q τ → aw d cd rt P p' L st τ) : aw d cd rt P pc L (.int (iI x) :: .ref a :: st) σ := by
  refine aw_fs j hf hk ((hB.k ha.1).trans hs) hj hx hp (fun τ hD hU hQ => h τ (hB.md ha.1 ha.2 hD hQ ?_ (fun b hb => up_fn hb)))
  funext w
  rw [hU, hB.i ha.1]
  unfold up
  by_cases e : w = j
  · rw [if_pos e, if_pos ⟨rfl, e⟩]
  · rw [if_neg e, if_neg (fun q => e q.2)]
theorem aw_bputl {i ci k a : Nat} {x : Int} (j : Int) (hB : BX sz κ n rl I Q σ) (hf : az_fetch cd pc = some (3, .putfield i, [ci, k])) (hk : az_ft ci k = 1) (hs : fxk a = ci) (ha : a < n ∧ n < 1000) (hj : j = (k : Int)) (hx1 : -9223372036854775808 ≤ x) (hx2 : x < 9223372036854775808) (hp : pc + 3 = p') (h : ∀ τ, BX sz κ n rl I (up Q a j x) τ → aw d cd rt P p' L st τ) : aw d cd rt P pc L (.long (lI x) :: .ref a :: st) σ := by
  refine aw_putl hf hk ((hB.k ha.1).trans hs) hp ?_
  have e : j.toNat = k := by omega
  rw [← e]
  obtain ⟨h1, h2, h3, h4, h5, h6, h7, h8, h9⟩ := hB
  refine h _ ⟨h1, h2, h3, h4, h5, h6, h7, fun b hb => ?_, fun b hb => ⟨(h9 b hb).1, by rw [up_fn (by omega)]; exact (h9 b hb).2⟩⟩
  funext w
  rw [zq_pl (by omega) hx1 hx2, h8 b hb]
  rfl
theorem aw_bst {a N : Nat} {z x : Int} (hB : BX sz κ n rl I Q σ) (hf : az_fetch cd pc = some (1, .iastore, [])) (hs : (fxk a, fxn sz a) = (100, N)) (ha : a < n ∧ n < 1000) (hN : N ≤ 10000) (h0 : 0 ≤ z) (hj : z < N) (hx : inI x) (hp : pc + 1 = p') (h : ∀ τ, BX sz κ n rl (up I a z x) Q τ → aw d cd rt P p' L st τ) : aw d cd rt P pc L (.int (iI x) :: .int (iI z) :: .ref a :: st) σ := by
  refine aw_sz hf ((hB.s ha.1).trans hs) hN h0 hj hp ?_
  have hd : Mod σ (az_pi σ a z.toNat (iI x)) [a] := Mod_pi (by simp)
  refine h _ (hB.md ha.1 ha.2 hd rfl ?_ (fun b hb => up_fn hb))
  funext w
  rw [zx_pi h0 hx, hB.i ha.1]
  rfl
end AwBx
def sunX (z : Int) : Int := 20 * (2 * (z % 12) - 11)
def sunY (z : Int) : Int := 20 + 5 * (if z / 12 - 6 < 0 then -(z / 12 - 6) else z / 12 - 6)
/-- the sun's table, up to place j -/
def sI (I : Nat → Int → Int) (a b : Nat) (j : Int) : Nat → Int → Int := fun c z => if c = a ∧ 0 ≤ z ∧ z < j then sunX z else if c = b ∧ 0 ≤ z ∧ z < j then sunY z else I c z
theorem sI_0 (I : Nat → Int → Int) (a b : Nat) : sI I a b 0 = I := by
  funext c z
  unfold sI
  rw [if_neg (by omega), if_neg (by omega)]
theorem sI_s {I : Nat → Int → Int} {a b : Nat} {j : Int} (hab : a ≠ b) (hj : 0 ≤ j) : up (up (sI I a b j) a j (sunX j)) b j (sunY j) = sI I a b (j + 1) := by
  funext c z
  unfold up sI
  by_cases h78 : c = b ∧ z = j
  · rw [if_pos h78, if_neg (by omega), if_pos (by omega), h78.2]
  · rw [if_neg h78]
    by_cases h77 : c = a ∧ z = j
    · rw [if_pos h77, if_pos (by omega), h77.2]
    · rw [if_neg h77]
      by_cases q : c = a ∧ 0 ≤ z ∧ z < j
      · rw [if_pos q, if_pos (by omega)]
      · rw [if_neg q]
        by_cases q2 : c = b ∧ 0 ≤ z ∧ z < j
        · rw [if_pos q2, if_neg (by omega), if_pos (by omega)]
        · rw [if_neg q2, if_neg (by omega), if_neg (by omega)]
theorem sun_v {m h : Int} (hm : 0 ≤ m) (h0 : 0 ≤ h) (h1 : h < 12) : sunX (12 * m + h) = 20 * (2 * h - 11) ∧ sunY (12 * m + h) = 20 + 5 * (if m - 6 < 0 then -(m - 6) else m - 6) := by
  have e1 : (12 * m + h) % 12 = h := by omega
  have e2 : (12 * m + h) / 12 = m := by omega
  unfold sunX sunY
  rw [e1, e2]
  exact ⟨rfl, rfl⟩
set_option maxRecDepth 10000 in
set_option maxHeartbeats 4000000 in
theorem sky_l {d : Nat} {sz : Nat} {κ : Nat × (Nat → Int32) × Option Nat} {I Q : Nat → Int → Int} {P : Option Value → az_S → Prop} (hP : ∀ τ, BX sz κ 5 [(1, 2, 4), (1, 1, 3), (1, 0, 2)] (sI I 2 3 144) (Q) τ → P none τ) : ∀ (n : Nat) (m h : Int) (σ : az_S), ((12 - m) * 13 + (12 - h)).toNat = n → 0 ≤ m → m ≤ 11 → 0 ≤ h → h ≤ 12 → BX sz κ 5 [(1, 2, 4), (1, 1, 3), (1, 0, 2)] (sI I 2 3 (12 * m + h)) (Q) σ → aw (d + 1) k_X6_init none P 40 [some (.ref 1), some (.int (iI m)), some (.int (iI h))] [] σ := by
  intro n
  induction n using Nat.strongRecOn with
  | ind n ih =>
  intro m h σ hn hm0 hm1 hh0 hh1 hB
  refine aw_iload_n rfl rfl rfl ?_
  refine aw_bipush rfl rfl rfl ?_
  refine aw_icmp (p' := 95) rfl ⟨by omega, by omega⟩ ⟨by omega, by omega⟩ rfl rfl (fun c1 => ?_) (fun c1 => ?_)
  · dsimp only [zc] at c1
    have e : h = 12 := by omega
    subst e
    refine aw_iinc rfl rfl rfl rfl ?_
    change aw _ _ _ _ 98 [some (.ref 1), some (.int (iI (m + 1))), some (.int (iI 12))] [] _
    refine aw_goto (p' := 32) rfl rfl ?_
    refine aw_iload_n rfl rfl rfl ?_
    refine aw_bipush rfl rfl rfl ?_
    refine aw_icmp (p' := 101) rfl ⟨by omega, by omega⟩ ⟨by omega, by omega⟩ rfl rfl (fun c2 => ?_) (fun c2 => ?_)
    · dsimp only [zc] at c2
      have e2 : 12 * m + 12 = 144 := by omega
      rw [e2] at hB
      exact aw_retv rfl (hP σ hB)
    · dsimp only [zc] at c2
      refine aw_iconst rfl rfl ?_
      refine aw_istore_n rfl (Nat.le_of_ble_eq_true rfl) rfl rfl ?_
      change aw _ _ _ _ 40 [some (.ref 1), some (.int (iI (m + 1))), some (.int (iI 0))] [] _
      refine ih _ (by omega) (m + 1) 0 σ rfl (by omega) (by omega) (by omega) (by omega) ?_
      rw [show 12 * (m + 1) + 0 = 12 * m + 12 by omega]
      exact hB
  · dsimp only [zc] at c1
    have sv := sun_v hm0 hh0 (show h < 12 by omega)
    refine aw_aload_n rfl rfl rfl ?_
    refine aw_getr (b := 2) rfl rfl (hB.k (a := 1) (by decide)) (hB.r 1 0 2 (by decide)) rfl ?_
    refine aw_iload_n rfl rfl rfl ?_
    refine aw_bipush rfl rfl rfl ?_
    refine aw_imul rfl rfl ?_
    refine aw_iload_n rfl rfl rfl ?_
    refine aw_iadd rfl rfl ?_
    refine aw_bipush rfl rfl rfl ?_
    refine aw_iconst rfl rfl ?_
    refine aw_iload_n rfl rfl rfl ?_
    refine aw_imul rfl rfl ?_
    refine aw_bipush rfl rfl rfl ?_
    refine aw_isub rfl rfl ?_
    refine aw_imul rfl rfl ?_
    rw [← sv.1, show m * 12 + h = 12 * m + h by omega]
    have b1 : inI (sunX (12 * m + h)) := by rw [sv.1]; exact ⟨by omega, by omega⟩
    refine aw_bst (N := 144) hB rfl rfl (by decide) (by decide) (by omega) (by omega) b1 rfl (fun τ1 hB1 => ?_)
    refine aw_aload_n rfl rfl rfl ?_
    refine aw_getr (b := 3) rfl rfl (hB1.k (a := 1) (by decide)) (hB1.r 1 1 3 (by decide)) rfl ?_
    refine aw_iload_n rfl rfl rfl ?_
    refine aw_bipush rfl rfl rfl ?_
    refine aw_imul rfl rfl ?_
    refine aw_iload_n rfl rfl rfl ?_
    refine aw_iadd rfl rfl ?_
    refine aw_bipush rfl rfl rfl ?_
    refine aw_iconst rfl rfl ?_
    refine aw_iload_n rfl rfl rfl ?_
    refine aw_bipush rfl rfl rfl ?_
    refine aw_isub rfl rfl ?_
    refine aw_fnc (j_abs (by omega) (by omega)) rfl rfl rfl (Nat.le_of_ble_eq_true rfl) (Or.inl rfl) rfl ?_
    refine aw_imul rfl rfl ?_
    refine aw_iadd rfl rfl ?_
    rw [← sv.2, show m * 12 + h = 12 * m + h by omega]
    have b2 : inI (sunY (12 * m + h)) := by rw [sv.2]; split <;> exact ⟨by omega, by omega⟩
    refine aw_bst (N := 144) hB1 rfl rfl (by decide) (by decide) (by omega) (by omega) b2 rfl (fun τ2 hB2 => ?_)
    rw [sI_s (by decide) (by omega)] at hB2
    refine aw_iinc rfl rfl rfl rfl ?_
    change aw _ _ _ _ 92 [some (.ref 1), some (.int (iI m)), some (.int (iI (h + 1)))] [] _
    refine aw_goto (p' := 40) rfl rfl ?_
    refine ih _ (by omega) m (h + 1) τ2 rfl hm0 hm1 (by omega) (by omega) ?_
    rw [show 12 * m + (h + 1) = 12 * m + h + 1 by omega]
    exact hB2
set_option maxRecDepth 10000 in
set_option maxHeartbeats 4000000 in
theorem bx_sky {d : Nat} {sz : Nat} {κ : Nat × (Nat → Int32) × Option Nat} {I Q : Nat → Int → Int} {σ : az_S} (hB : BX sz κ 2 [] (I) (Q) σ) : cal (d + 2) 46 [.ref 1] σ (fun r τ => r = none ∧ BX sz κ 5 [(1, 2, 4), (1, 1, 3), (1, 0, 2)] (sI I 2 3 144) (Q) τ) := by
  refine cal_of (M := (yX6_init, cX6_init, 3, none)) (cd := k_X6_init) (L := [some (.ref 1), none, none]) rfl (Nat.le_of_ble_eq_true rfl) rfl rfl ?_
  refine aw_aload_n rfl rfl rfl ?_
  refine aw_obj rfl (Nat.le_of_ble_eq_true rfl) rfl ?_
  refine aw_aload_n rfl rfl rfl ?_
  refine aw_sipush rfl rfl rfl ?_
  refine aw_bnarr (N := 144) hB (by decide) rfl (by decide) rfl rfl rfl rfl (fun τ1 hB1 => ?_)
  refine aw_bputr hB1 rfl rfl rfl (by decide) rfl rfl (fun τ2 hB2 => ?_)
  refine aw_aload_n rfl rfl rfl ?_
  refine aw_sipush rfl rfl rfl ?_
  refine aw_bnarr (N := 144) hB2 (by decide) rfl (by decide) rfl rfl rfl rfl (fun τ3 hB3 => ?_)
  refine aw_bputr hB3 rfl rfl rfl (by decide) rfl rfl (fun τ4 hB4 => ?_)
  refine aw_aload_n rfl rfl rfl ?_
  refine aw_bipush rfl rfl rfl ?_
  refine aw_bnarr (N := 60) hB4 (by decide) rfl (by decide) rfl rfl rfl rfl (fun τ5 hB5 => ?_)
  refine aw_bputr hB5 rfl rfl rfl (by decide) rfl rfl (fun τ6 hB6 => ?_)
  refine aw_iconst rfl rfl ?_
  refine aw_istore_n rfl (Nat.le_of_ble_eq_true rfl) rfl rfl ?_
  change aw _ _ _ _ 32 [some (.ref 1), some (.int (iI 0)), none] [] _
  refine aw_iload_n rfl rfl rfl ?_
  refine aw_bipush rfl rfl rfl ?_
  refine aw_icmp (p' := 101) rfl ⟨by omega, by omega⟩ ⟨by omega, by omega⟩ rfl rfl (fun c1 => ?_) (fun _ => ?_)
  · dsimp only [zc] at c1
    omega
  · refine aw_iconst rfl rfl ?_
    refine aw_istore_n rfl (Nat.le_of_ble_eq_true rfl) rfl rfl ?_
    change aw _ _ _ _ 40 [some (.ref 1), some (.int (iI 0)), some (.int (iI 0))] [] _
    refine sky_l (I := I) (fun τ h => ⟨rfl, h⟩) _ 0 0 _ rfl (by omega) (by omega) (by omega) (by omega) ?_
    rw [show (12 * 0 + 0 : Int) = 0 from rfl, sI_0]
    exact hB6
set_option maxRecDepth 10000 in
set_option maxHeartbeats 4000000 in
theorem b_265 {d : Nat} {σ : az_S} {a : Nat} : cal (d + 1) 265 [.ref a] σ (fun r τ => r = none ∧ τ = σ) := by
  refine cal_of (M := (yJxa1e45_init_da8c8, cJxa1e45_init_da8c8, 1, none)) (cd := k_Jxa1e45_init_da8c8) (L := [some (.ref a)]) rfl (Nat.le_of_ble_eq_true rfl) rfl rfl ?_
  refine aw_aload_n rfl rfl rfl ?_
  refine aw_obj rfl (Nat.le_of_ble_eq_true rfl) rfl ?_
  exact aw_retv rfl ⟨rfl, rfl⟩
set_option maxRecDepth 10000 in
set_option maxHeartbeats 4000000 in
theorem b_266_5 {d : Nat} {sz : Nat} {κ : Nat × (Nat → Int32) × Option Nat} {I Q : Nat → Int → Int} {σ : az_S} (hB : BX sz κ 6 [(0, 1, 1), (1, 2, 4), (1, 1, 3), (1, 0, 2)] (I) (Q) σ) : cal (d + 2) 266 [.ref 5] σ (fun r τ => r = none ∧ BX sz κ 6 [(0, 1, 1), (1, 2, 4), (1, 1, 3), (1, 0, 2)] (up I 5 0 0) (Q) τ) := by
  refine cal_of (M := (yJxc12de_init_da8c8, cJxc12de_init_da8c8, 1, none)) (cd := k_Jxc12de_init_da8c8) (L := [some (.ref 5)]) rfl (Nat.le_of_ble_eq_true rfl) rfl rfl ?_
  refine aw_aload_n rfl rfl rfl ?_
  refine aw_calc b_265 rfl rfl rfl (Nat.le_of_ble_eq_true rfl) (Or.inr ⟨_, rfl, (hB.k (a := 5) (by decide))⟩) rfl ?_
  rintro _ _ ⟨rfl, rfl⟩
  change aw _ _ _ _ 4 [some (.ref 5)] [] _
  refine aw_aload_n rfl rfl rfl ?_
  refine aw_iconst rfl rfl ?_
  refine aw_bputi (0) hB rfl rfl rfl (by decide) rfl ⟨by omega, by omega⟩ rfl (fun τ1 hB1 => ?_)
  exact aw_retv rfl ⟨rfl, hB1⟩
set_option maxRecDepth 10000 in
set_option maxHeartbeats 4000000 in
theorem b_267_5 {d : Nat} {sz : Nat} {κ : Nat × (Nat → Int32) × Option Nat} {I Q : Nat → Int → Int} {σ : az_S} (hB : BX sz κ 6 [(0, 1, 1), (1, 2, 4), (1, 1, 3), (1, 0, 2)] (I) (Q) σ) : cal (d + 3) 267 [.ref 5] σ (fun r τ => r = none ∧ BX sz κ 6 [(5, 1, 1000001), (0, 1, 1), (1, 2, 4), (1, 1, 3), (1, 0, 2)] (up I 5 0 0) (Q) τ) := by
  refine cal_of (M := (yJx4a65c_init_da8c8, cJx4a65c_init_da8c8, 1, none)) (cd := k_Jx4a65c_init_da8c8) (L := [some (.ref 5)]) rfl (Nat.le_of_ble_eq_true rfl) rfl rfl ?_
  refine aw_aload_n rfl rfl rfl ?_
  refine aw_calc (b_266_5 hB) rfl rfl rfl (Nat.le_of_ble_eq_true rfl) (Or.inr ⟨_, rfl, (hB.k (a := 5) (by decide))⟩) rfl ?_
  rintro _ τ1 ⟨rfl, hB1⟩
  change aw _ _ _ _ 4 [some (.ref 5)] [] _
  refine aw_aload_n rfl rfl rfl ?_
  refine aw_gstr (b := 1000001) rfl hB1.st0 rfl ?_
  refine aw_bputr hB1 rfl rfl rfl (by decide) rfl rfl (fun τ2 hB2 => ?_)
  exact aw_retv rfl ⟨rfl, hB2⟩
set_option maxRecDepth 10000 in
set_option maxHeartbeats 4000000 in
theorem b_266_6 {d : Nat} {sz : Nat} {κ : Nat × (Nat → Int32) × Option Nat} {I Q : Nat → Int → Int} {σ : az_S} (hB : BX sz κ 7 [(0, 2, 5), (5, 1, 1000001), (0, 1, 1), (1, 2, 4), (1, 1, 3), (1, 0, 2)] (I) (Q) σ) : cal (d + 2) 266 [.ref 6] σ (fun r τ => r = none ∧ BX sz κ 7 [(0, 2, 5), (5, 1, 1000001), (0, 1, 1), (1, 2, 4), (1, 1, 3), (1, 0, 2)] (up I 6 0 0) (Q) τ) := by
  refine cal_of (M := (yJxc12de_init_da8c8, cJxc12de_init_da8c8, 1, none)) (cd := k_Jxc12de_init_da8c8) (L := [some (.ref 6)]) rfl (Nat.le_of_ble_eq_true rfl) rfl rfl ?_
  refine aw_aload_n rfl rfl rfl ?_
  refine aw_calc b_265 rfl rfl rfl (Nat.le_of_ble_eq_true rfl) (Or.inr ⟨_, rfl, (hB.k (a := 6) (by decide))⟩) rfl ?_
  rintro _ _ ⟨rfl, rfl⟩
  change aw _ _ _ _ 4 [some (.ref 6)] [] _
  refine aw_aload_n rfl rfl rfl ?_
  refine aw_iconst rfl rfl ?_
  refine aw_bputi (0) hB rfl rfl rfl (by decide) rfl ⟨by omega, by omega⟩ rfl (fun τ1 hB1 => ?_)
  exact aw_retv rfl ⟨rfl, hB1⟩
set_option maxRecDepth 10000 in
set_option maxHeartbeats 4000000 in
theorem b_267_6 {d : Nat} {sz : Nat} {κ : Nat × (Nat → Int32) × Option Nat} {I Q : Nat → Int → Int} {σ : az_S} (hB : BX sz κ 7 [(0, 2, 5), (5, 1, 1000001), (0, 1, 1), (1, 2, 4), (1, 1, 3), (1, 0, 2)] (I) (Q) σ) : cal (d + 3) 267 [.ref 6] σ (fun r τ => r = none ∧ BX sz κ 7 [(6, 1, 1000001), (0, 2, 5), (5, 1, 1000001), (0, 1, 1), (1, 2, 4), (1, 1, 3), (1, 0, 2)] (up I 6 0 0) (Q) τ) := by
  refine cal_of (M := (yJx4a65c_init_da8c8, cJx4a65c_init_da8c8, 1, none)) (cd := k_Jx4a65c_init_da8c8) (L := [some (.ref 6)]) rfl (Nat.le_of_ble_eq_true rfl) rfl rfl ?_
  refine aw_aload_n rfl rfl rfl ?_
  refine aw_calc (b_266_6 hB) rfl rfl rfl (Nat.le_of_ble_eq_true rfl) (Or.inr ⟨_, rfl, (hB.k (a := 6) (by decide))⟩) rfl ?_
  rintro _ τ1 ⟨rfl, hB1⟩
  change aw _ _ _ _ 4 [some (.ref 6)] [] _
  refine aw_aload_n rfl rfl rfl ?_
  refine aw_gstr (b := 1000001) rfl hB1.st0 rfl ?_
  refine aw_bputr hB1 rfl rfl rfl (by decide) rfl rfl (fun τ2 hB2 => ?_)
  exact aw_retv rfl ⟨rfl, hB2⟩
set_option maxRecDepth 10000 in
set_option maxHeartbeats 4000000 in
theorem b_266_7 {d : Nat} {sz : Nat} {κ : Nat × (Nat → Int32) × Option Nat} {I Q : Nat → Int → Int} {σ : az_S} (hB : BX sz κ 8 [(0, 3, 6), (6, 1, 1000001), (0, 2, 5), (5, 1, 1000001), (0, 1, 1), (1, 2, 4), (1, 1, 3), (1, 0, 2)] (I) (Q) σ) : cal (d + 2) 266 [.ref 7] σ (fun r τ => r = none ∧ BX sz κ 8 [(0, 3, 6), (6, 1, 1000001), (0, 2, 5), (5, 1, 1000001), (0, 1, 1), (1, 2, 4), (1, 1, 3), (1, 0, 2)] (up I 7 0 0) (Q) τ) := by
  refine cal_of (M := (yJxc12de_init_da8c8, cJxc12de_init_da8c8, 1, none)) (cd := k_Jxc12de_init_da8c8) (L := [some (.ref 7)]) rfl (Nat.le_of_ble_eq_true rfl) rfl rfl ?_
  refine aw_aload_n rfl rfl rfl ?_
  refine aw_calc b_265 rfl rfl rfl (Nat.le_of_ble_eq_true rfl) (Or.inr ⟨_, rfl, (hB.k (a := 7) (by decide))⟩) rfl ?_
  rintro _ _ ⟨rfl, rfl⟩
  change aw _ _ _ _ 4 [some (.ref 7)] [] _
  refine aw_aload_n rfl rfl rfl ?_
  refine aw_iconst rfl rfl ?_
  refine aw_bputi (0) hB rfl rfl rfl (by decide) rfl ⟨by omega, by omega⟩ rfl (fun τ1 hB1 => ?_)
  exact aw_retv rfl ⟨rfl, hB1⟩
set_option maxRecDepth 10000 in
set_option maxHeartbeats 4000000 in
theorem b_267_7 {d : Nat} {sz : Nat} {κ : Nat × (Nat → Int32) × Option Nat} {I Q : Nat → Int → Int} {σ : az_S} (hB : BX sz κ 8 [(0, 3, 6), (6, 1, 1000001), (0, 2, 5), (5, 1, 1000001), (0, 1, 1), (1, 2, 4), (1, 1, 3), (1, 0, 2)] (I) (Q) σ) : cal (d + 3) 267 [.ref 7] σ (fun r τ => r = none ∧ BX sz κ 8 [(7, 1, 1000001), (0, 3, 6), (6, 1, 1000001), (0, 2, 5), (5, 1, 1000001), (0, 1, 1), (1, 2, 4), (1, 1, 3), (1, 0, 2)] (up I 7 0 0) (Q) τ) := by
  refine cal_of (M := (yJx4a65c_init_da8c8, cJx4a65c_init_da8c8, 1, none)) (cd := k_Jx4a65c_init_da8c8) (L := [some (.ref 7)]) rfl (Nat.le_of_ble_eq_true rfl) rfl rfl ?_
  refine aw_aload_n rfl rfl rfl ?_
  refine aw_calc (b_266_7 hB) rfl rfl rfl (Nat.le_of_ble_eq_true rfl) (Or.inr ⟨_, rfl, (hB.k (a := 7) (by decide))⟩) rfl ?_
  rintro _ τ1 ⟨rfl, hB1⟩
  change aw _ _ _ _ 4 [some (.ref 7)] [] _
  refine aw_aload_n rfl rfl rfl ?_
  refine aw_gstr (b := 1000001) rfl hB1.st0 rfl ?_
  refine aw_bputr hB1 rfl rfl rfl (by decide) rfl rfl (fun τ2 hB2 => ?_)
  exact aw_retv rfl ⟨rfl, hB2⟩
set_option maxRecDepth 10000 in
set_option maxHeartbeats 4000000 in
theorem b_266_8 {d : Nat} {sz : Nat} {κ : Nat × (Nat → Int32) × Option Nat} {I Q : Nat → Int → Int} {σ : az_S} (hB : BX sz κ 9 [(0, 4, 7), (7, 1, 1000001), (0, 3, 6), (6, 1, 1000001), (0, 2, 5), (5, 1, 1000001), (0, 1, 1), (1, 2, 4), (1, 1, 3), (1, 0, 2)] (I) (Q) σ) : cal (d + 2) 266 [.ref 8] σ (fun r τ => r = none ∧ BX sz κ 9 [(0, 4, 7), (7, 1, 1000001), (0, 3, 6), (6, 1, 1000001), (0, 2, 5), (5, 1, 1000001), (0, 1, 1), (1, 2, 4), (1, 1, 3), (1, 0, 2)] (up I 8 0 0) (Q) τ) := by
  refine cal_of (M := (yJxc12de_init_da8c8, cJxc12de_init_da8c8, 1, none)) (cd := k_Jxc12de_init_da8c8) (L := [some (.ref 8)]) rfl (Nat.le_of_ble_eq_true rfl) rfl rfl ?_
  refine aw_aload_n rfl rfl rfl ?_
  refine aw_calc b_265 rfl rfl rfl (Nat.le_of_ble_eq_true rfl) (Or.inr ⟨_, rfl, (hB.k (a := 8) (by decide))⟩) rfl ?_
  rintro _ _ ⟨rfl, rfl⟩
  change aw _ _ _ _ 4 [some (.ref 8)] [] _
  refine aw_aload_n rfl rfl rfl ?_
  refine aw_iconst rfl rfl ?_
  refine aw_bputi (0) hB rfl rfl rfl (by decide) rfl ⟨by omega, by omega⟩ rfl (fun τ1 hB1 => ?_)
  exact aw_retv rfl ⟨rfl, hB1⟩
set_option maxRecDepth 10000 in
set_option maxHeartbeats 4000000 in
theorem b_267_8 {d : Nat} {sz : Nat} {κ : Nat × (Nat → Int32) × Option Nat} {I Q : Nat → Int → Int} {σ : az_S} (hB : BX sz κ 9 [(0, 4, 7), (7, 1, 1000001), (0, 3, 6), (6, 1, 1000001), (0, 2, 5), (5, 1, 1000001), (0, 1, 1), (1, 2, 4), (1, 1, 3), (1, 0, 2)] (I) (Q) σ) : cal (d + 3) 267 [.ref 8] σ (fun r τ => r = none ∧ BX sz κ 9 [(8, 1, 1000001), (0, 4, 7), (7, 1, 1000001), (0, 3, 6), (6, 1, 1000001), (0, 2, 5), (5, 1, 1000001), (0, 1, 1), (1, 2, 4), (1, 1, 3), (1, 0, 2)] (up I 8 0 0) (Q) τ) := by
  refine cal_of (M := (yJx4a65c_init_da8c8, cJx4a65c_init_da8c8, 1, none)) (cd := k_Jx4a65c_init_da8c8) (L := [some (.ref 8)]) rfl (Nat.le_of_ble_eq_true rfl) rfl rfl ?_
  refine aw_aload_n rfl rfl rfl ?_
  refine aw_calc (b_266_8 hB) rfl rfl rfl (Nat.le_of_ble_eq_true rfl) (Or.inr ⟨_, rfl, (hB.k (a := 8) (by decide))⟩) rfl ?_
  rintro _ τ1 ⟨rfl, hB1⟩
  change aw _ _ _ _ 4 [some (.ref 8)] [] _
  refine aw_aload_n rfl rfl rfl ?_
  refine aw_gstr (b := 1000001) rfl hB1.st0 rfl ?_
  refine aw_bputr hB1 rfl rfl rfl (by decide) rfl rfl (fun τ2 hB2 => ?_)
  exact aw_retv rfl ⟨rfl, hB2⟩
set_option maxRecDepth 10000 in
set_option maxHeartbeats 4000000 in
theorem b_tape {d : Nat} {sz : Nat} {κ : Nat × (Nat → Int32) × Option Nat} {I Q : Nat → Int → Int} {σ : az_S}  (hB : BX sz κ 10 [(0, 5, 8), (8, 1, 1000001), (0, 4, 7), (7, 1, 1000001), (0, 3, 6), (6, 1, 1000001), (0, 2, 5), (5, 1, 1000001), (0, 1, 1), (1, 2, 4), (1, 1, 3), (1, 0, 2)] (I) (Q) σ) : cal (d + 1) 57 [.ref 9] σ (fun r τ => r = none ∧ BX sz κ 14 [(9, 4, 13), (9, 3, 12), (9, 2, 11), (9, 0, 10), (0, 5, 8), (8, 1, 1000001), (0, 4, 7), (7, 1, 1000001), (0, 3, 6), (6, 1, 1000001), (0, 2, 5), (5, 1, 1000001), (0, 1, 1), (1, 2, 4), (1, 1, 3), (1, 0, 2)] (I) (Q) τ) := by
  have hsz := hB.1
  refine cal_of (M := (yX8_init, cX8_init, 1, none)) (cd := k_X8_init) (L := [some (.ref 9)]) rfl (Nat.le_of_ble_eq_true rfl) rfl rfl ?_
  refine aw_aload_n rfl rfl rfl ?_
  refine aw_obj rfl (Nat.le_of_ble_eq_true rfl) rfl ?_
  refine aw_aload_n rfl rfl rfl ?_
  refine aw_sipush rfl rfl rfl ?_
  refine aw_bnarr (N := 400) hB (by decide) rfl (by decide) rfl rfl rfl rfl (fun τ1 hB1 => ?_)
  refine aw_bputr hB1 rfl rfl rfl (by decide) rfl rfl (fun τ2 hB2 => ?_)
  refine aw_aload_n rfl rfl rfl ?_
  refine aw_sipush rfl rfl rfl ?_
  refine aw_bnarr (N := 401) hB2 (by decide) rfl (by decide) rfl rfl rfl rfl (fun τ3 hB3 => ?_)
  refine aw_bputr hB3 rfl rfl rfl (by decide) rfl rfl (fun τ4 hB4 => ?_)
  refine aw_aload_n rfl rfl rfl ?_
  refine aw_sipush rfl rfl rfl ?_
  refine aw_bnarr (N := 401) hB4 (by decide) rfl (by decide) rfl rfl rfl rfl (fun τ5 hB5 => ?_)
  refine aw_bputr hB5 rfl rfl rfl (by decide) rfl rfl (fun τ6 hB6 => ?_)
  refine aw_aload_n rfl rfl rfl ?_
  refine aw_sipush rfl rfl rfl ?_
  refine aw_bnarr (N := 401) hB6 (by decide) rfl (by decide) rfl rfl rfl rfl (fun τ7 hB7 => ?_)
  refine aw_bputr hB7 rfl rfl rfl (by decide) rfl rfl (fun τ8 hB8 => ?_)
  refine aw_retv rfl ?_
  exact ⟨rfl, hB8⟩
set_option maxRecDepth 10000 in
set_option maxHeartbeats 4000000 in
theorem b_tar16 {d : Nat} {sz : Nat} {κ : Nat × (Nat → Int32) × Option Nat} {I Q : Nat → Int → Int} {σ : az_S}  (hB : BX sz κ 17 [(0, 11, 15), (0, 10, 14), (0, 7, 9), (9, 4, 13), (9, 3, 12), (9, 2, 11), (9, 0, 10), (0, 5, 8), (8, 1, 1000001), (0, 4, 7), (7, 1, 1000001), (0, 3, 6), (6, 1, 1000001), (0, 2, 5), (5, 1, 1000001), (0, 1, 1), (1, 2, 4), (1, 1, 3), (1, 0, 2)] (I) (Q) σ) : cal (d + 1) 75 [.ref 16] σ (fun r τ => r = none ∧ BX sz κ 22 [(16, 4, 21), (16, 3, 20), (16, 2, 19), (16, 1, 18), (16, 0, 17), (0, 11, 15), (0, 10, 14), (0, 7, 9), (9, 4, 13), (9, 3, 12), (9, 2, 11), (9, 0, 10), (0, 5, 8), (8, 1, 1000001), (0, 4, 7), (7, 1, 1000001), (0, 3, 6), (6, 1, 1000001), (0, 2, 5), (5, 1, 1000001), (0, 1, 1), (1, 2, 4), (1, 1, 3), (1, 0, 2)] (I) (Q) τ) := by
  have hsz := hB.1
  refine cal_of (M := (yX9_init, cX9_init, 1, none)) (cd := k_X9_init) (L := [some (.ref 16)]) rfl (Nat.le_of_ble_eq_true rfl) rfl rfl ?_
  refine aw_aload_n rfl rfl rfl ?_
  refine aw_obj rfl (Nat.le_of_ble_eq_true rfl) rfl ?_
  refine aw_aload_n rfl rfl rfl ?_
  refine aw_sipush rfl rfl rfl ?_
  refine aw_bnarr (N := 400) hB (by decide) rfl (by decide) rfl rfl rfl rfl (fun τ1 hB1 => ?_)
  refine aw_bputr hB1 rfl rfl rfl (by decide) rfl rfl (fun τ2 hB2 => ?_)
  refine aw_aload_n rfl rfl rfl ?_
  refine aw_sipush rfl rfl rfl ?_
  refine aw_bnarr (N := 400) hB2 (by decide) rfl (by decide) rfl rfl rfl rfl (fun τ3 hB3 => ?_)
  refine aw_bputr hB3 rfl rfl rfl (by decide) rfl rfl (fun τ4 hB4 => ?_)
  refine aw_aload_n rfl rfl rfl ?_
  refine aw_bipush rfl rfl rfl ?_
  refine aw_bnarr (N := 20) hB4 (by decide) rfl (by decide) rfl rfl rfl rfl (fun τ5 hB5 => ?_)
  refine aw_bputr hB5 rfl rfl rfl (by decide) rfl rfl (fun τ6 hB6 => ?_)
  refine aw_aload_n rfl rfl rfl ?_
  refine aw_bipush rfl rfl rfl ?_
  refine aw_bnarr (N := 20) hB6 (by decide) rfl (by decide) rfl rfl rfl rfl (fun τ7 hB7 => ?_)
  refine aw_bputr hB7 rfl rfl rfl (by decide) rfl rfl (fun τ8 hB8 => ?_)
  refine aw_aload_n rfl rfl rfl ?_
  refine aw_bipush rfl rfl rfl ?_
  refine aw_bnarr (N := 64) hB8 (by decide) rfl (by decide) rfl rfl rfl rfl (fun τ9 hB9 => ?_)
  refine aw_bputr hB9 rfl rfl rfl (by decide) rfl rfl (fun τ10 hB10 => ?_)
  refine aw_retv rfl ?_
  exact ⟨rfl, hB10⟩
set_option maxRecDepth 10000 in
set_option maxHeartbeats 4000000 in
theorem b_tar22 {d : Nat} {sz : Nat} {κ : Nat × (Nat → Int32) × Option Nat} {I Q : Nat → Int → Int} {σ : az_S}  (hB : BX sz κ 23 [(0, 13, 16), (16, 4, 21), (16, 3, 20), (16, 2, 19), (16, 1, 18), (16, 0, 17), (0, 11, 15), (0, 10, 14), (0, 7, 9), (9, 4, 13), (9, 3, 12), (9, 2, 11), (9, 0, 10), (0, 5, 8), (8, 1, 1000001), (0, 4, 7), (7, 1, 1000001), (0, 3, 6), (6, 1, 1000001), (0, 2, 5), (5, 1, 1000001), (0, 1, 1), (1, 2, 4), (1, 1, 3), (1, 0, 2)] (I) (Q) σ) : cal (d + 1) 75 [.ref 22] σ (fun r τ => r = none ∧ BX sz κ 28 [(22, 4, 27), (22, 3, 26), (22, 2, 25), (22, 1, 24), (22, 0, 23), (0, 13, 16), (16, 4, 21), (16, 3, 20), (16, 2, 19), (16, 1, 18), (16, 0, 17), (0, 11, 15), (0, 10, 14), (0, 7, 9), (9, 4, 13), (9, 3, 12), (9, 2, 11), (9, 0, 10), (0, 5, 8), (8, 1, 1000001), (0, 4, 7), (7, 1, 1000001), (0, 3, 6), (6, 1, 1000001), (0, 2, 5), (5, 1, 1000001), (0, 1, 1), (1, 2, 4), (1, 1, 3), (1, 0, 2)] (I) (Q) τ) := by
  have hsz := hB.1
  refine cal_of (M := (yX9_init, cX9_init, 1, none)) (cd := k_X9_init) (L := [some (.ref 22)]) rfl (Nat.le_of_ble_eq_true rfl) rfl rfl ?_
  refine aw_aload_n rfl rfl rfl ?_
  refine aw_obj rfl (Nat.le_of_ble_eq_true rfl) rfl ?_
  refine aw_aload_n rfl rfl rfl ?_
  refine aw_sipush rfl rfl rfl ?_
  refine aw_bnarr (N := 400) hB (by decide) rfl (by decide) rfl rfl rfl rfl (fun τ1 hB1 => ?_)
  refine aw_bputr hB1 rfl rfl rfl (by decide) rfl rfl (fun τ2 hB2 => ?_)
  refine aw_aload_n rfl rfl rfl ?_
  refine aw_sipush rfl rfl rfl ?_
  refine aw_bnarr (N := 400) hB2 (by decide) rfl (by decide) rfl rfl rfl rfl (fun τ3 hB3 => ?_)
  refine aw_bputr hB3 rfl rfl rfl (by decide) rfl rfl (fun τ4 hB4 => ?_)
  refine aw_aload_n rfl rfl rfl ?_
  refine aw_bipush rfl rfl rfl ?_
  refine aw_bnarr (N := 20) hB4 (by decide) rfl (by decide) rfl rfl rfl rfl (fun τ5 hB5 => ?_)
  refine aw_bputr hB5 rfl rfl rfl (by decide) rfl rfl (fun τ6 hB6 => ?_)
  refine aw_aload_n rfl rfl rfl ?_
  refine aw_bipush rfl rfl rfl ?_
  refine aw_bnarr (N := 20) hB6 (by decide) rfl (by decide) rfl rfl rfl rfl (fun τ7 hB7 => ?_)
  refine aw_bputr hB7 rfl rfl rfl (by decide) rfl rfl (fun τ8 hB8 => ?_)
  refine aw_aload_n rfl rfl rfl ?_
  refine aw_bipush rfl rfl rfl ?_
  refine aw_bnarr (N := 64) hB8 (by decide) rfl (by decide) rfl rfl rfl rfl (fun τ9 hB9 => ?_)
  refine aw_bputr hB9 rfl rfl rfl (by decide) rfl rfl (fun τ10 hB10 => ?_)
  refine aw_retv rfl ?_
  exact ⟨rfl, hB10⟩
def cW (w : Int) : Int := if w < 4 then 4 else if 16 < w then 16 else w
def cH (h : Int) : Int := if h < 4 then 4 else if 12 < h then 12 else h
theorem cW_b (w : Int) : 4 ≤ cW w ∧ cW w ≤ 16 := by unfold cW; repeat' split; all_goals omega
theorem cH_b (w : Int) : 4 ≤ cH w ∧ cH w ≤ 12 := by unfold cH; repeat' split; all_goals omega
theorem cW_m (w : Int) : (if 4 < (if w < 16 then w else 16) then (if w < 16 then w else 16) else 4) = cW w := by unfold cW; repeat' split; all_goals omega
theorem cH_m (w : Int) : (if 4 < (if w < 12 then w else 12) then (if w < 12 then w else 12) else 4) = cH w := by unfold cH; repeat' split; all_goals omega
theorem wh_b (w h : Int) : 16 ≤ cW w * cH h ∧ cW w * cH h ≤ 192 := by
  have a := cW_b w
  have b := cH_b h
  constructor
  · have := Int.mul_le_mul a.1 b.1 (by omega) (by omega)
    omega
  · have := Int.mul_le_mul a.2 b.2 (by omega) (by omega)
    omega
set_option maxRecDepth 10000 in
set_option maxHeartbeats 4000000 in
theorem b_ground {d : Nat} {sz : Nat} {κ : Nat × (Nat → Int32) × Option Nat} {I Q : Nat → Int → Int} {σ : az_S} {w h : Int} (hw : inI w) (hh : inI h) (hB : BX sz κ 29 [(0, 14, 22), (22, 4, 27), (22, 3, 26), (22, 2, 25), (22, 1, 24), (22, 0, 23), (0, 13, 16), (16, 4, 21), (16, 3, 20), (16, 2, 19), (16, 1, 18), (16, 0, 17), (0, 11, 15), (0, 10, 14), (0, 7, 9), (9, 4, 13), (9, 3, 12), (9, 2, 11), (9, 0, 10), (0, 5, 8), (8, 1, 1000001), (0, 4, 7), (7, 1, 1000001), (0, 3, 6), (6, 1, 1000001), (0, 2, 5), (5, 1, 1000001), (0, 1, 1), (1, 2, 4), (1, 1, 3), (1, 0, 2)] (I) (Q) σ) : cal (d + 2) 4 [.ref 28, .int (iI w), .int (iI h)] σ (fun r τ => r = none ∧ BX sz κ 29 [(0, 14, 22), (22, 4, 27), (22, 3, 26), (22, 2, 25), (22, 1, 24), (22, 0, 23), (0, 13, 16), (16, 4, 21), (16, 3, 20), (16, 2, 19), (16, 1, 18), (16, 0, 17), (0, 11, 15), (0, 10, 14), (0, 7, 9), (9, 4, 13), (9, 3, 12), (9, 2, 11), (9, 0, 10), (0, 5, 8), (8, 1, 1000001), (0, 4, 7), (7, 1, 1000001), (0, 3, 6), (6, 1, 1000001), (0, 2, 5), (5, 1, 1000001), (0, 1, 1), (1, 2, 4), (1, 1, 3), (1, 0, 2)] (up (up (up I 28 0 (cW w)) 28 1 (cH h)) 28 2 (cW w * cH h)) (Q) τ) := by
  obtain ⟨hw1, hw2⟩ := hw
  obtain ⟨hh1, hh2⟩ := hh
  have a := cW_b w
  have b := cH_b h
  have c := wh_b w h
  refine cal_of (M := (yX1_init, cX1_init, 3, none)) (cd := k_X1_init) (L := [some (.ref 28), some (.int (iI w)), some (.int (iI h))]) rfl (Nat.le_of_ble_eq_true rfl) rfl rfl ?_
  refine aw_aload_n rfl rfl rfl ?_
  refine aw_obj rfl (Nat.le_of_ble_eq_true rfl) rfl ?_
  refine aw_aload_n rfl rfl rfl ?_
  refine aw_iconst rfl rfl ?_
  refine aw_bipush rfl rfl rfl ?_
  refine aw_iload_n rfl rfl rfl ?_
  refine aw_fnc (j_min ⟨by omega, by omega⟩ ⟨by omega, by omega⟩) rfl rfl rfl (Nat.le_of_ble_eq_true rfl) (Or.inl rfl) rfl ?_
  refine aw_fnc (j_max ⟨by omega, by omega⟩ (by split <;> exact ⟨by omega, by omega⟩)) rfl rfl rfl (Nat.le_of_ble_eq_true rfl) (Or.inl rfl) rfl ?_
  rw [cW_m]
  refine aw_bputi (0) hB rfl rfl rfl (by decide) rfl ⟨by omega, by omega⟩ rfl (fun τ1 hB1 => ?_)
  refine aw_aload_n rfl rfl rfl ?_
  refine aw_iconst rfl rfl ?_
  refine aw_bipush rfl rfl rfl ?_
  refine aw_iload_n rfl rfl rfl ?_
  refine aw_fnc (j_min ⟨by omega, by omega⟩ ⟨by omega, by omega⟩) rfl rfl rfl (Nat.le_of_ble_eq_true rfl) (Or.inl rfl) rfl ?_
  refine aw_fnc (j_max ⟨by omega, by omega⟩ (by split <;> exact ⟨by omega, by omega⟩)) rfl rfl rfl (Nat.le_of_ble_eq_true rfl) (Or.inl rfl) rfl ?_
  rw [cH_m]
  refine aw_bputi (1) hB1 rfl rfl rfl (by decide) rfl ⟨by omega, by omega⟩ rfl (fun τ2 hB2 => ?_)
  refine aw_aload_n rfl rfl rfl ?_
  refine aw_aload_n rfl rfl rfl ?_
  refine aw_gk (v := cW w) (0) rfl rfl (hB2.k (a := 28) (by decide)) rfl (by rw [hB2.i (a := 28) (by decide)]; simp [up]) rfl (fun _ _ => ?_)
  refine aw_aload_n rfl rfl rfl ?_
  refine aw_gk (v := cH h) (1) rfl rfl (hB2.k (a := 28) (by decide)) rfl (by rw [hB2.i (a := 28) (by decide)]; simp [up]) rfl (fun _ _ => ?_)
  refine aw_imul rfl rfl ?_
  refine aw_bputi (2) hB2 rfl rfl rfl (by decide) rfl ⟨by omega, by omega⟩ rfl (fun τ3 hB3 => ?_)
  exact aw_retv rfl ⟨rfl, hB3⟩
set_option maxRecDepth 10000 in
set_option maxHeartbeats 4000000 in
theorem b_scene {d : Nat} {sz : Nat} {κ : Nat × (Nat → Int32) × Option Nat} {I Q : Nat → Int → Int} {σ : az_S} (h28 : I 28 2 = (sz : Int)) (hB : BX sz κ 30 [(0, 0, 28), (0, 14, 22), (22, 4, 27), (22, 3, 26), (22, 2, 25), (22, 1, 24), (22, 0, 23), (0, 13, 16), (16, 4, 21), (16, 3, 20), (16, 2, 19), (16, 1, 18), (16, 0, 17), (0, 11, 15), (0, 10, 14), (0, 7, 9), (9, 4, 13), (9, 3, 12), (9, 2, 11), (9, 0, 10), (0, 5, 8), (8, 1, 1000001), (0, 4, 7), (7, 1, 1000001), (0, 3, 6), (6, 1, 1000001), (0, 2, 5), (5, 1, 1000001), (0, 1, 1), (1, 2, 4), (1, 1, 3), (1, 0, 2)] (I) (Q) σ) : cal (d + 1) 36 [.ref 29, .ref 28, .ref 1, .ref 6] σ (fun r τ => r = none ∧ BX sz κ 33 [(29, 5, 32), (29, 4, 31), (29, 2, 6), (29, 1, 1), (29, 0, 28), (29, 3, 30), (0, 0, 28), (0, 14, 22), (22, 4, 27), (22, 3, 26), (22, 2, 25), (22, 1, 24), (22, 0, 23), (0, 13, 16), (16, 4, 21), (16, 3, 20), (16, 2, 19), (16, 1, 18), (16, 0, 17), (0, 11, 15), (0, 10, 14), (0, 7, 9), (9, 4, 13), (9, 3, 12), (9, 2, 11), (9, 0, 10), (0, 5, 8), (8, 1, 1000001), (0, 4, 7), (7, 1, 1000001), (0, 3, 6), (6, 1, 1000001), (0, 2, 5), (5, 1, 1000001), (0, 1, 1), (1, 2, 4), (1, 1, 3), (1, 0, 2)] (I) (Q) τ) := by
  have hsz := hB.1
  refine cal_of (M := (yX5_init, cX5_init, 4, none)) (cd := k_X5_init) (L := [some (.ref 29), some (.ref 28), some (.ref 1), some (.ref 6)]) rfl (Nat.le_of_ble_eq_true rfl) rfl rfl ?_
  refine aw_aload_n rfl rfl rfl ?_
  refine aw_obj rfl (Nat.le_of_ble_eq_true rfl) rfl ?_
  refine aw_aload_n rfl rfl rfl ?_
  refine aw_bipush rfl rfl rfl ?_
  refine aw_bnarr (N := 24) hB (by decide) rfl (by decide) rfl rfl rfl rfl (fun τ1 hB1 => ?_)
  refine aw_bputr hB1 rfl rfl rfl (by decide) rfl rfl (fun τ2 hB2 => ?_)
  refine aw_aload_n rfl rfl rfl ?_
  refine aw_aload_n rfl rfl rfl ?_
  refine aw_bputr hB2 rfl rfl rfl (by decide) rfl rfl (fun τ3 hB3 => ?_)
  refine aw_aload_n rfl rfl rfl ?_
  refine aw_aload_n rfl rfl rfl ?_
  refine aw_bputr hB3 rfl rfl rfl (by decide) rfl rfl (fun τ4 hB4 => ?_)
  refine aw_aload_n rfl rfl rfl ?_
  refine aw_aload_n rfl rfl rfl ?_
  refine aw_bputr hB4 rfl rfl rfl (by decide) rfl rfl (fun τ5 hB5 => ?_)
  refine aw_aload_n rfl rfl rfl ?_
  refine aw_aload_n rfl rfl rfl ?_
  refine aw_gk (v := (sz : Int)) (2) rfl rfl (hB5.k (a := 28) (by decide)) rfl (by rw [hB5.i (a := 28) (by decide)]; exact h28) rfl (fun _ _ => ?_)
  refine aw_bnarr (N := sz) hB5 (by decide) rfl (by omega) rfl rfl rfl rfl (fun τ6 hB6 => ?_)
  refine aw_bputr hB6 rfl rfl rfl (by decide) rfl rfl (fun τ7 hB7 => ?_)
  refine aw_aload_n rfl rfl rfl ?_
  refine aw_aload_n rfl rfl rfl ?_
  refine aw_gk (v := (sz : Int)) (2) rfl rfl (hB7.k (a := 28) (by decide)) rfl (by rw [hB7.i (a := 28) (by decide)]; exact h28) rfl (fun _ _ => ?_)
  refine aw_bnarr (N := sz) hB7 (by decide) rfl (by omega) rfl rfl rfl rfl (fun τ8 hB8 => ?_)
  refine aw_bputr hB8 rfl rfl rfl (by decide) rfl rfl (fun τ9 hB9 => ?_)
  refine aw_retv rfl ?_
  exact ⟨rfl, hB9⟩
set_option maxRecDepth 10000 in
set_option maxHeartbeats 4000000 in
theorem b_route {d : Nat} {sz : Nat} {κ : Nat × (Nat → Int32) × Option Nat} {I Q : Nat → Int → Int} {σ : az_S} (h28 : I 28 2 = (sz : Int)) (hB : BX sz κ 34 [(0, 6, 29), (29, 5, 32), (29, 4, 31), (29, 2, 6), (29, 1, 1), (29, 0, 28), (29, 3, 30), (0, 0, 28), (0, 14, 22), (22, 4, 27), (22, 3, 26), (22, 2, 25), (22, 1, 24), (22, 0, 23), (0, 13, 16), (16, 4, 21), (16, 3, 20), (16, 2, 19), (16, 1, 18), (16, 0, 17), (0, 11, 15), (0, 10, 14), (0, 7, 9), (9, 4, 13), (9, 3, 12), (9, 2, 11), (9, 0, 10), (0, 5, 8), (8, 1, 1000001), (0, 4, 7), (7, 1, 1000001), (0, 3, 6), (6, 1, 1000001), (0, 2, 5), (5, 1, 1000001), (0, 1, 1), (1, 2, 4), (1, 1, 3), (1, 0, 2)] (I) (Q) σ) : cal (d + 1) 26 [.ref 33, .ref 28] σ (fun r τ => r = none ∧ BX sz κ 40 [(33, 6, 39), (33, 5, 38), (33, 4, 37), (33, 3, 36), (33, 1, 35), (33, 0, 28), (33, 2, 34), (0, 6, 29), (29, 5, 32), (29, 4, 31), (29, 2, 6), (29, 1, 1), (29, 0, 28), (29, 3, 30), (0, 0, 28), (0, 14, 22), (22, 4, 27), (22, 3, 26), (22, 2, 25), (22, 1, 24), (22, 0, 23), (0, 13, 16), (16, 4, 21), (16, 3, 20), (16, 2, 19), (16, 1, 18), (16, 0, 17), (0, 11, 15), (0, 10, 14), (0, 7, 9), (9, 4, 13), (9, 3, 12), (9, 2, 11), (9, 0, 10), (0, 5, 8), (8, 1, 1000001), (0, 4, 7), (7, 1, 1000001), (0, 3, 6), (6, 1, 1000001), (0, 2, 5), (5, 1, 1000001), (0, 1, 1), (1, 2, 4), (1, 1, 3), (1, 0, 2)] (I) (up (Q) 33 8 (-1)) τ) := by
  have hsz := hB.1
  refine cal_of (M := (yX4_init, cX4_init, 2, none)) (cd := k_X4_init) (L := [some (.ref 33), some (.ref 28)]) rfl (Nat.le_of_ble_eq_true rfl) rfl rfl ?_
  refine aw_aload_n rfl rfl rfl ?_
  refine aw_obj rfl (Nat.le_of_ble_eq_true rfl) rfl ?_
  refine aw_aload_n rfl rfl rfl ?_
  refine aw_bipush rfl rfl rfl ?_
  refine aw_bnarr (N := 12) hB (by decide) rfl (by decide) rfl rfl rfl rfl (fun τ1 hB1 => ?_)
  refine aw_bputr hB1 rfl rfl rfl (by decide) rfl rfl (fun τ2 hB2 => ?_)
  refine aw_aload_n rfl rfl rfl ?_
  refine aw_ldc2 (-1) rfl rfl rfl ?_
  refine aw_bputl (8) hB2 rfl rfl rfl (by decide) rfl (by decide) (by decide) rfl (fun τ3 hB3 => ?_)
  refine aw_aload_n rfl rfl rfl ?_
  refine aw_aload_n rfl rfl rfl ?_
  refine aw_bputr hB3 rfl rfl rfl (by decide) rfl rfl (fun τ4 hB4 => ?_)
  refine aw_aload_n rfl rfl rfl ?_
  refine aw_bipush rfl rfl rfl ?_
  refine aw_aload_n rfl rfl rfl ?_
  refine aw_gk (v := (sz : Int)) (2) rfl rfl (hB4.k (a := 28) (by decide)) rfl (by rw [hB4.i (a := 28) (by decide)]; exact h28) rfl (fun _ _ => ?_)
  refine aw_imul rfl rfl ?_
  rw [show ((12 : Int) * (sz : Int)) = ((12 * sz : Nat) : Int) by push_cast; rfl]
  refine aw_bnarr (N := 12 * sz) hB4 (by decide) rfl (by omega) rfl rfl rfl rfl (fun τ5 hB5 => ?_)
  refine aw_bputr hB5 rfl rfl rfl (by decide) rfl rfl (fun τ6 hB6 => ?_)
  refine aw_aload_n rfl rfl rfl ?_
  refine aw_aload_n rfl rfl rfl ?_
  refine aw_gk (v := (sz : Int)) (2) rfl rfl (hB6.k (a := 28) (by decide)) rfl (by rw [hB6.i (a := 28) (by decide)]; exact h28) rfl (fun _ _ => ?_)
  refine aw_bnarr (N := sz) hB6 (by decide) rfl (by omega) rfl rfl rfl rfl (fun τ7 hB7 => ?_)
  refine aw_bputr hB7 rfl rfl rfl (by decide) rfl rfl (fun τ8 hB8 => ?_)
  refine aw_aload_n rfl rfl rfl ?_
  refine aw_aload_n rfl rfl rfl ?_
  refine aw_gk (v := (sz : Int)) (2) rfl rfl (hB8.k (a := 28) (by decide)) rfl (by rw [hB8.i (a := 28) (by decide)]; exact h28) rfl (fun _ _ => ?_)
  refine aw_bnarr (N := sz) hB8 (by decide) rfl (by omega) rfl rfl rfl rfl (fun τ9 hB9 => ?_)
  refine aw_bputr hB9 rfl rfl rfl (by decide) rfl rfl (fun τ10 hB10 => ?_)
  refine aw_aload_n rfl rfl rfl ?_
  refine aw_aload_n rfl rfl rfl ?_
  refine aw_gk (v := (sz : Int)) (2) rfl rfl (hB10.k (a := 28) (by decide)) rfl (by rw [hB10.i (a := 28) (by decide)]; exact h28) rfl (fun _ _ => ?_)
  refine aw_bnarr (N := sz) hB10 (by decide) rfl (by omega) rfl rfl rfl rfl (fun τ11 hB11 => ?_)
  refine aw_bputr hB11 rfl rfl rfl (by decide) rfl rfl (fun τ12 hB12 => ?_)
  refine aw_aload_n rfl rfl rfl ?_
  refine aw_aload_n rfl rfl rfl ?_
  refine aw_gk (v := (sz : Int)) (2) rfl rfl (hB12.k (a := 28) (by decide)) rfl (by rw [hB12.i (a := 28) (by decide)]; exact h28) rfl (fun _ _ => ?_)
  refine aw_bnarr (N := sz) hB12 (by decide) rfl (by omega) rfl rfl rfl rfl (fun τ13 hB13 => ?_)
  refine aw_bputr hB13 rfl rfl rfl (by decide) rfl rfl (fun τ14 hB14 => ?_)
  refine aw_retv rfl ?_
  exact ⟨rfl, hB14⟩
set_option maxRecDepth 10000 in
set_option maxHeartbeats 4000000 in
theorem b_parser {d : Nat} {sz : Nat} {κ : Nat × (Nat → Int32) × Option Nat} {I Q : Nat → Int → Int} {σ : az_S}  (hB : BX sz κ 41 [(0, 9, 33), (33, 6, 39), (33, 5, 38), (33, 4, 37), (33, 3, 36), (33, 1, 35), (33, 0, 28), (33, 2, 34), (0, 6, 29), (29, 5, 32), (29, 4, 31), (29, 2, 6), (29, 1, 1), (29, 0, 28), (29, 3, 30), (0, 0, 28), (0, 14, 22), (22, 4, 27), (22, 3, 26), (22, 2, 25), (22, 1, 24), (22, 0, 23), (0, 13, 16), (16, 4, 21), (16, 3, 20), (16, 2, 19), (16, 1, 18), (16, 0, 17), (0, 11, 15), (0, 10, 14), (0, 7, 9), (9, 4, 13), (9, 3, 12), (9, 2, 11), (9, 0, 10), (0, 5, 8), (8, 1, 1000001), (0, 4, 7), (7, 1, 1000001), (0, 3, 6), (6, 1, 1000001), (0, 2, 5), (5, 1, 1000001), (0, 1, 1), (1, 2, 4), (1, 1, 3), (1, 0, 2)] (I) (Q) σ) : cal (d + 1) 10 [.ref 40, .ref 9, .ref 22] σ (fun r τ => r = none ∧ BX sz κ 41 [(40, 1, 22), (40, 0, 9), (0, 9, 33), (33, 6, 39), (33, 5, 38), (33, 4, 37), (33, 3, 36), (33, 1, 35), (33, 0, 28), (33, 2, 34), (0, 6, 29), (29, 5, 32), (29, 4, 31), (29, 2, 6), (29, 1, 1), (29, 0, 28), (29, 3, 30), (0, 0, 28), (0, 14, 22), (22, 4, 27), (22, 3, 26), (22, 2, 25), (22, 1, 24), (22, 0, 23), (0, 13, 16), (16, 4, 21), (16, 3, 20), (16, 2, 19), (16, 1, 18), (16, 0, 17), (0, 11, 15), (0, 10, 14), (0, 7, 9), (9, 4, 13), (9, 3, 12), (9, 2, 11), (9, 0, 10), (0, 5, 8), (8, 1, 1000001), (0, 4, 7), (7, 1, 1000001), (0, 3, 6), (6, 1, 1000001), (0, 2, 5), (5, 1, 1000001), (0, 1, 1), (1, 2, 4), (1, 1, 3), (1, 0, 2)] (I) (Q) τ) := by
  have hsz := hB.1
  refine cal_of (M := (yX2_init, cX2_init, 3, none)) (cd := k_X2_init) (L := [some (.ref 40), some (.ref 9), some (.ref 22)]) rfl (Nat.le_of_ble_eq_true rfl) rfl rfl ?_
  refine aw_aload_n rfl rfl rfl ?_
  refine aw_obj rfl (Nat.le_of_ble_eq_true rfl) rfl ?_
  refine aw_aload_n rfl rfl rfl ?_
  refine aw_aload_n rfl rfl rfl ?_
  refine aw_bputr hB rfl rfl rfl (by decide) rfl rfl (fun τ1 hB1 => ?_)
  refine aw_aload_n rfl rfl rfl ?_
  refine aw_aload_n rfl rfl rfl ?_
  refine aw_bputr hB1 rfl rfl rfl (by decide) rfl rfl (fun τ2 hB2 => ?_)
  refine aw_retv rfl ?_
  exact ⟨rfl, hB2⟩
set_option maxRecDepth 10000 in
set_option maxHeartbeats 4000000 in
theorem b_class {d : Nat} {sz : Nat} {κ : Nat × (Nat → Int32) × Option Nat} {I Q : Nat → Int → Int} {σ : az_S} {w h : Int} (hw : inI w) (hh : inI h) (hz : cW w * cH h = (sz : Int)) (hB : BX sz κ 1 [] (I) (Q) σ) : cal (d + 4) 94 [.ref 0, .int (iI w), .int (iI h)] σ (fun r τ => r = none ∧ BX sz κ 42 [(0, 12, 41), (0, 8, 40), (40, 1, 22), (40, 0, 9), (0, 9, 33), (33, 6, 39), (33, 5, 38), (33, 4, 37), (33, 3, 36), (33, 1, 35), (33, 0, 28), (33, 2, 34), (0, 6, 29), (29, 5, 32), (29, 4, 31), (29, 2, 6), (29, 1, 1), (29, 0, 28), (29, 3, 30), (0, 0, 28), (0, 14, 22), (22, 4, 27), (22, 3, 26), (22, 2, 25), (22, 1, 24), (22, 0, 23), (0, 13, 16), (16, 4, 21), (16, 3, 20), (16, 2, 19), (16, 1, 18), (16, 0, 17), (0, 11, 15), (0, 10, 14), (0, 7, 9), (9, 4, 13), (9, 3, 12), (9, 2, 11), (9, 0, 10), (0, 5, 8), (8, 1, 1000001), (0, 4, 7), (7, 1, 1000001), (0, 3, 6), (6, 1, 1000001), (0, 2, 5), (5, 1, 1000001), (0, 1, 1), (1, 2, 4), (1, 1, 3), (1, 0, 2)] (up (up (up (up (up (up (up (up (up (sI (I) 2 3 144) 5 0 0) 6 0 0) 7 0 0) 8 0 0) 0 16 (-1)) 0 17 (-1)) 28 0 (cW w)) 28 1 (cH h)) 28 2 (cW w * cH h)) (up (Q) 33 8 (-1)) τ) := by
  obtain ⟨hw1, hw2⟩ := hw
  obtain ⟨hh1, hh2⟩ := hh
  have hsz := hB.1
  refine cal_of (M := (yX11_init, cX11_init, 3, none)) (cd := k_X11_init) (L := [some (.ref 0), some (.int (iI w)), some (.int (iI h))]) rfl (Nat.le_of_ble_eq_true rfl) rfl rfl ?_
  refine aw_aload_n rfl rfl rfl ?_
  refine aw_obj rfl (Nat.le_of_ble_eq_true rfl) rfl ?_
  refine aw_aload_n rfl rfl rfl ?_
  refine aw_bnew hB (by decide) rfl rfl rfl (by decide) rfl (fun τ1 hB1 => ?_)
  refine aw_dup rfl rfl rfl ?_
  refine aw_calc (bx_sky hB1) rfl rfl rfl (Nat.le_of_ble_eq_true rfl) (Or.inr ⟨_, rfl, (hB1.k (a := 1) (by decide))⟩) rfl ?_
  rintro _ τ2 ⟨rfl, hB2⟩
  change aw _ _ _ _ 12 [some (.ref 0), some (.int (iI (w))), some (.int (iI (h)))] [.ref 1, .ref 0] _
  refine aw_bputr hB2 rfl rfl rfl (by decide) rfl rfl (fun τ3 hB3 => ?_)
  refine aw_aload_n rfl rfl rfl ?_
  refine aw_bnew hB3 (by decide) rfl rfl rfl (by decide) rfl (fun τ4 hB4 => ?_)
  refine aw_dup rfl rfl rfl ?_
  refine aw_calc (b_267_5 hB4) rfl rfl rfl (Nat.le_of_ble_eq_true rfl) (Or.inr ⟨_, rfl, (hB4.k (a := 5) (by decide))⟩) rfl ?_
  rintro _ τ5 ⟨rfl, hB5⟩
  change aw _ _ _ _ 23 [some (.ref 0), some (.int (iI (w))), some (.int (iI (h)))] [.ref 5, .ref 0] _
  refine aw_bputr hB5 rfl rfl rfl (by decide) rfl rfl (fun τ6 hB6 => ?_)
  refine aw_aload_n rfl rfl rfl ?_
  refine aw_bnew hB6 (by decide) rfl rfl rfl (by decide) rfl (fun τ7 hB7 => ?_)
  refine aw_dup rfl rfl rfl ?_
  refine aw_calc (b_267_6 hB7) rfl rfl rfl (Nat.le_of_ble_eq_true rfl) (Or.inr ⟨_, rfl, (hB7.k (a := 6) (by decide))⟩) rfl ?_
  rintro _ τ8 ⟨rfl, hB8⟩
  change aw _ _ _ _ 34 [some (.ref 0), some (.int (iI (w))), some (.int (iI (h)))] [.ref 6, .ref 0] _
  refine aw_bputr hB8 rfl rfl rfl (by decide) rfl rfl (fun τ9 hB9 => ?_)
  refine aw_aload_n rfl rfl rfl ?_
  refine aw_bnew hB9 (by decide) rfl rfl rfl (by decide) rfl (fun τ10 hB10 => ?_)
  refine aw_dup rfl rfl rfl ?_
  refine aw_calc (b_267_7 hB10) rfl rfl rfl (Nat.le_of_ble_eq_true rfl) (Or.inr ⟨_, rfl, (hB10.k (a := 7) (by decide))⟩) rfl ?_
  rintro _ τ11 ⟨rfl, hB11⟩
  change aw _ _ _ _ 45 [some (.ref 0), some (.int (iI (w))), some (.int (iI (h)))] [.ref 7, .ref 0] _
  refine aw_bputr hB11 rfl rfl rfl (by decide) rfl rfl (fun τ12 hB12 => ?_)
  refine aw_aload_n rfl rfl rfl ?_
  refine aw_bnew hB12 (by decide) rfl rfl rfl (by decide) rfl (fun τ13 hB13 => ?_)
  refine aw_dup rfl rfl rfl ?_
  refine aw_calc (b_267_8 hB13) rfl rfl rfl (Nat.le_of_ble_eq_true rfl) (Or.inr ⟨_, rfl, (hB13.k (a := 8) (by decide))⟩) rfl ?_
  rintro _ τ14 ⟨rfl, hB14⟩
  change aw _ _ _ _ 56 [some (.ref 0), some (.int (iI (w))), some (.int (iI (h)))] [.ref 8, .ref 0] _
  refine aw_bputr hB14 rfl rfl rfl (by decide) rfl rfl (fun τ15 hB15 => ?_)
  refine aw_aload_n rfl rfl rfl ?_
  refine aw_bnew hB15 (by decide) rfl rfl rfl (by decide) rfl (fun τ16 hB16 => ?_)
  refine aw_dup rfl rfl rfl ?_
  refine aw_calc (b_tape hB16) rfl rfl rfl (Nat.le_of_ble_eq_true rfl) (Or.inr ⟨_, rfl, (hB16.k (a := 9) (by decide))⟩) rfl ?_
  rintro _ τ17 ⟨rfl, hB17⟩
  change aw _ _ _ _ 67 [some (.ref 0), some (.int (iI (w))), some (.int (iI (h)))] [.ref 9, .ref 0] _
  refine aw_bputr hB17 rfl rfl rfl (by decide) rfl rfl (fun τ18 hB18 => ?_)
  refine aw_aload_n rfl rfl rfl ?_
  refine aw_bipush rfl rfl rfl ?_
  refine aw_bnarr (N := 8) hB18 (by decide) rfl (by decide) rfl rfl rfl rfl (fun τ19 hB19 => ?_)
  refine aw_bputr hB19 rfl rfl rfl (by decide) rfl rfl (fun τ20 hB20 => ?_)
  refine aw_aload_n rfl rfl rfl ?_
  refine aw_bipush rfl rfl rfl ?_
  refine aw_bnarr (N := 24) hB20 (by decide) rfl (by decide) rfl rfl rfl rfl (fun τ21 hB21 => ?_)
  refine aw_bputr hB21 rfl rfl rfl (by decide) rfl rfl (fun τ22 hB22 => ?_)
  refine aw_aload_n rfl rfl rfl ?_
  refine aw_bnew hB22 (by decide) rfl rfl rfl (by decide) rfl (fun τ23 hB23 => ?_)
  refine aw_dup rfl rfl rfl ?_
  refine aw_calc (b_tar16 hB23) rfl rfl rfl (Nat.le_of_ble_eq_true rfl) (Or.inr ⟨_, rfl, (hB23.k (a := 16) (by decide))⟩) rfl ?_
  rintro _ τ24 ⟨rfl, hB24⟩
  change aw _ _ _ _ 94 [some (.ref 0), some (.int (iI (w))), some (.int (iI (h)))] [.ref 16, .ref 0] _
  refine aw_bputr hB24 rfl rfl rfl (by decide) rfl rfl (fun τ25 hB25 => ?_)
  refine aw_aload_n rfl rfl rfl ?_
  refine aw_bnew hB25 (by decide) rfl rfl rfl (by decide) rfl (fun τ26 hB26 => ?_)
  refine aw_dup rfl rfl rfl ?_
  refine aw_calc (b_tar22 hB26) rfl rfl rfl (Nat.le_of_ble_eq_true rfl) (Or.inr ⟨_, rfl, (hB26.k (a := 22) (by decide))⟩) rfl ?_
  rintro _ τ27 ⟨rfl, hB27⟩
  change aw _ _ _ _ 105 [some (.ref 0), some (.int (iI (w))), some (.int (iI (h)))] [.ref 22, .ref 0] _
  refine aw_bputr hB27 rfl rfl rfl (by decide) rfl rfl (fun τ28 hB28 => ?_)
  refine aw_aload_n rfl rfl rfl ?_
  refine aw_iconst rfl rfl ?_
  refine aw_bputi (16) hB28 rfl rfl rfl (by decide) rfl ⟨by omega, by omega⟩ rfl (fun τ29 hB29 => ?_)
  refine aw_aload_n rfl rfl rfl ?_
  refine aw_iconst rfl rfl ?_
  refine aw_bputi (17) hB29 rfl rfl rfl (by decide) rfl ⟨by omega, by omega⟩ rfl (fun τ30 hB30 => ?_)
  refine aw_aload_n rfl rfl rfl ?_
  refine aw_bnew hB30 (by decide) rfl rfl rfl (by decide) rfl (fun τ31 hB31 => ?_)
  refine aw_dup rfl rfl rfl ?_
  refine aw_iload_n rfl rfl rfl ?_
  refine aw_iload_n rfl rfl rfl ?_
  refine aw_calc (b_ground ⟨by omega, by omega⟩ ⟨by omega, by omega⟩ hB31) rfl rfl rfl (Nat.le_of_ble_eq_true rfl) (Or.inr ⟨_, rfl, (hB31.k (a := 28) (by decide))⟩) rfl ?_
  rintro _ τ32 ⟨rfl, hB32⟩
  change aw _ _ _ _ 128 [some (.ref 0), some (.int (iI (w))), some (.int (iI (h)))] [.ref 28, .ref 0] _
  refine aw_bputr hB32 rfl rfl rfl (by decide) rfl rfl (fun τ33 hB33 => ?_)
  refine aw_aload_n rfl rfl rfl ?_
  refine aw_bnew hB33 (by decide) rfl rfl rfl (by decide) rfl (fun τ34 hB34 => ?_)
  refine aw_dup rfl rfl rfl ?_
  refine aw_aload_n rfl rfl rfl ?_
  refine aw_getr (b := 28) rfl rfl (hB34.k (a := 0) (by decide)) (hB34.r 0 0 28 (by decide)) rfl ?_
  refine aw_aload_n rfl rfl rfl ?_
  refine aw_getr (b := 1) rfl rfl (hB34.k (a := 0) (by decide)) (hB34.r 0 1 1 (by decide)) rfl ?_
  refine aw_aload_n rfl rfl rfl ?_
  refine aw_getr (b := 6) rfl rfl (hB34.k (a := 0) (by decide)) (hB34.r 0 3 6 (by decide)) rfl ?_
  refine aw_calc (b_scene (by simp [up]; omega) hB34) rfl rfl rfl (Nat.le_of_ble_eq_true rfl) (Or.inr ⟨_, rfl, (hB34.k (a := 29) (by decide))⟩) rfl ?_
  rintro _ τ35 ⟨rfl, hB35⟩
  change aw _ _ _ _ 151 [some (.ref 0), some (.int (iI (w))), some (.int (iI (h)))] [.ref 29, .ref 0] _
  refine aw_bputr hB35 rfl rfl rfl (by decide) rfl rfl (fun τ36 hB36 => ?_)
  refine aw_aload_n rfl rfl rfl ?_
  refine aw_bnew hB36 (by decide) rfl rfl rfl (by decide) rfl (fun τ37 hB37 => ?_)
  refine aw_dup rfl rfl rfl ?_
  refine aw_aload_n rfl rfl rfl ?_
  refine aw_getr (b := 28) rfl rfl (hB37.k (a := 0) (by decide)) (hB37.r 0 0 28 (by decide)) rfl ?_
  refine aw_calc (b_route (by simp [up]; omega) hB37) rfl rfl rfl (Nat.le_of_ble_eq_true rfl) (Or.inr ⟨_, rfl, (hB37.k (a := 33) (by decide))⟩) rfl ?_
  rintro _ τ38 ⟨rfl, hB38⟩
  change aw _ _ _ _ 166 [some (.ref 0), some (.int (iI (w))), some (.int (iI (h)))] [.ref 33, .ref 0] _
  refine aw_bputr hB38 rfl rfl rfl (by decide) rfl rfl (fun τ39 hB39 => ?_)
  refine aw_aload_n rfl rfl rfl ?_
  refine aw_bnew hB39 (by decide) rfl rfl rfl (by decide) rfl (fun τ40 hB40 => ?_)
  refine aw_dup rfl rfl rfl ?_
  refine aw_aload_n rfl rfl rfl ?_
  refine aw_getr (b := 9) rfl rfl (hB40.k (a := 0) (by decide)) (hB40.r 0 7 9 (by decide)) rfl ?_
  refine aw_aload_n rfl rfl rfl ?_
  refine aw_getr (b := 22) rfl rfl (hB40.k (a := 0) (by decide)) (hB40.r 0 14 22 (by decide)) rfl ?_
  refine aw_calc (b_parser hB40) rfl rfl rfl (Nat.le_of_ble_eq_true rfl) (Or.inr ⟨_, rfl, (hB40.k (a := 40) (by decide))⟩) rfl ?_
  rintro _ τ41 ⟨rfl, hB41⟩
  change aw _ _ _ _ 185 [some (.ref 0), some (.int (iI (w))), some (.int (iI (h)))] [.ref 40, .ref 0] _
  refine aw_bputr hB41 rfl rfl rfl (by decide) rfl rfl (fun τ42 hB42 => ?_)
  refine aw_aload_n rfl rfl rfl ?_
  refine aw_aload_n rfl rfl rfl ?_
  refine aw_getr (b := 28) rfl rfl (hB42.k (a := 0) (by decide)) (hB42.r 0 0 28 (by decide)) rfl ?_
  refine aw_gk (v := (sz : Int)) (2) rfl rfl (hB42.k (a := 28) (by decide)) rfl (by rw [hB42.i (a := 28) (by decide)]; simp [up]; omega) rfl (fun _ _ => ?_)
  refine aw_bnarr (N := sz) hB42 (by decide) rfl (by omega) rfl rfl rfl rfl (fun τ43 hB43 => ?_)
  refine aw_bputr hB43 rfl rfl rfl (by decide) rfl rfl (fun τ44 hB44 => ?_)
  refine aw_retv rfl ?_
  exact ⟨rfl, hB44⟩
