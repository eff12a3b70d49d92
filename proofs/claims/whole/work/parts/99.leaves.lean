/-! THE REFERENCE'S PARSER: the store shows a state of the machine -/
def eC (f v : Int → Int) : Int → List (Int × Int) → Prop
  | _, [] => True
  | k, q :: r => f k = q.1 ∧ v k = q.2 ∧ eC f v (k + 1) r
def frC (f m p : Int → Int) : List (Int × Int) → Prop
  | [] => True
  | q :: r => (f r.length = q.1 ∧ ((q.1 = 9 ∨ q.1 = 10) → m ((r.length : Int) + 1) = q.2) ∧ (q.1 = 6 → p ((r.length : Int) + 1) = q.2)) ∧ frC f m p r
def wsC (w m : Int → Int) : List (Int × Int) → Prop
  | [] => True
  | q :: r => (w r.length = q.1 ∧ m r.length = q.2) ∧ wsC w m r
theorem eC_snoc {f v : Int → Int} : ∀ (c : List (Int × Int)) (k : Int) (q : Int × Int), eC f v k c → f (k + c.length) = q.1 → v (k + c.length) = q.2 → eC f v k (c ++ [q]) := by
  intro c
  induction c with
  | nil => intro k q _ h1 h2; exact ⟨by simpa using h1, by simpa using h2, trivial⟩
  | cons r c ih =>
    intro k q h h1 h2
    refine ⟨h.1, h.2.1, ih (k + 1) q h.2.2 ?_ ?_⟩
    · rw [show k + 1 + (c.length : Int) = k + ((r :: c).length : Nat) by simp only [List.length_cons]; omega]; exact h1
    · rw [show k + 1 + (c.length : Int) = k + ((r :: c).length : Nat) by simp only [List.length_cons]; omega]; exact h2
theorem eC_up {f v f' v' : Int → Int} : ∀ (c : List (Int × Int)) (k : Int), eC f v k c → (∀ w : Int, w < k + c.length → f' w = f w ∧ v' w = v w) → eC f' v' k c := by
  intro c
  induction c with
  | nil => intro k _ _; trivial
  | cons r c ih =>
    intro k h h2
    have h3 := h2 k (by simp only [List.length_cons]; omega)
    exact ⟨h3.1.trans h.1, h3.2.trans h.2.1, ih (k + 1) h.2.2 (fun w w1 => h2 w (by simp only [List.length_cons]; omega))⟩
theorem frC_up {f m p f' m' p' : Int → Int} : ∀ (r : List (Int × Int)), frC f m p r → (∀ w : Int, w < r.length → f' w = f w) → (∀ w : Int, w ≤ r.length → m' w = m w ∧ p' w = p w) → frC f' m' p' r := by
  intro r
  induction r with
  | nil => intro _ _ _; trivial
  | cons q r ih =>
    intro h h1 h2
    rw [len_c] at h1 h2
    have a := h2 ((r.length : Int) + 1) (by omega)
    refine ⟨⟨(h1 _ (by omega)).trans h.1.1, fun x => a.1.trans (h.1.2.1 x), fun x => a.2.trans (h.1.2.2 x)⟩, ih h.2 (fun w w1 => h1 w (by omega)) (fun w w1 => h2 w (by omega))⟩
theorem wsC_up {f m f' m' : Int → Int} : ∀ (r : List (Int × Int)), wsC f m r → (∀ w : Int, w < r.length → f' w = f w ∧ m' w = m w) → wsC f' m' r := by
  intro r
  induction r with
  | nil => intro _ _; trivial
  | cons q r ih =>
    intro h h1
    rw [len_c] at h1
    have a := h1 (r.length : Int) (by omega)
    exact ⟨⟨a.1.trans h.1.1, a.2.trans h.1.2⟩, ih h.2 (fun w w1 => h1 w (by omega))⟩
/-- the store σ shows the state c of the machine -/
def MC (sz : Nat) (A : Nat → Int → Int) (K V S E : Int → Int) (N : Int) (σ0 σ : az_S) (c : Cf) : Prop := MV sz A σ ∧ Mod σ0 σ [42, 75, 76, 79, 80, 81, 94, 95] ∧ (zx σ 42 41 = N ∧ zx σ 42 42 = E c.n ∧ zx σ 42 43 = S c.n ∧ zx σ 42 44 = rSort (K c.n) ∧ RT (K c.n) (V c.n) (zx σ 42 45)) ∧ (zx σ 42 46 = c.wr ∧ zx σ 42 47 = c.wa ∧ zx σ 42 50 = (c.em.length : Int) ∧ zx σ 42 51 = c.ru ∧ zx σ 42 58 = (c.fr.length : Int) ∧ zx σ 42 60 = (c.ws.length : Int) ∧ zx σ 42 63 = c.op ∧ zx σ 42 78 = c.st) ∧ eC (zx σ 75) (zx σ 76) 0 c.em ∧ frC (zx σ 79) (zx σ 94) (zx σ 95) c.fr ∧ wsC (zx σ 80) (zx σ 81) c.ws
theorem MC.mv {sz : Nat} {A : Nat → Int → Int} {K V S E : Int → Int} {N : Int} {σ0 σ : az_S} {c : Cf} (hM : MC sz A K V S E N σ0 σ c) : MV sz A σ := hM.1
theorem MC.f {sz : Nat} {A : Nat → Int → Int} {K V S E : Int → Int} {N : Int} {σ0 σ : az_S} {c : Cf} (hM : MC sz A K V S E N σ0 σ c) : FX sz σ := hM.1.1
theorem MC.v43 {sz : Nat} {A : Nat → Int → Int} {K V S E : Int → Int} {N : Int} {σ0 σ : az_S} {c : Cf} (hM : MC sz A K V S E N σ0 σ c) : zx σ 42 43 = S c.n := hM.2.2.1.2.2.1
theorem MC.v44 {sz : Nat} {A : Nat → Int → Int} {K V S E : Int → Int} {N : Int} {σ0 σ : az_S} {c : Cf} (hM : MC sz A K V S E N σ0 σ c) : zx σ 42 44 = rSort (K c.n) := hM.2.2.1.2.2.2.1
theorem MC.v45 {sz : Nat} {A : Nat → Int → Int} {K V S E : Int → Int} {N : Int} {σ0 σ : az_S} {c : Cf} (hM : MC sz A K V S E N σ0 σ c) : RT (K c.n) (V c.n) (zx σ 42 45) := hM.2.2.1.2.2.2.2
theorem MC.v46 {sz : Nat} {A : Nat → Int → Int} {K V S E : Int → Int} {N : Int} {σ0 σ : az_S} {c : Cf} (hM : MC sz A K V S E N σ0 σ c) : zx σ 42 46 = c.wr := hM.2.2.2.1.1
theorem MC.v47 {sz : Nat} {A : Nat → Int → Int} {K V S E : Int → Int} {N : Int} {σ0 σ : az_S} {c : Cf} (hM : MC sz A K V S E N σ0 σ c) : zx σ 42 47 = c.wa := hM.2.2.2.1.2.1
theorem MC.v50 {sz : Nat} {A : Nat → Int → Int} {K V S E : Int → Int} {N : Int} {σ0 σ : az_S} {c : Cf} (hM : MC sz A K V S E N σ0 σ c) : zx σ 42 50 = (c.em.length : Int) := hM.2.2.2.1.2.2.1
theorem MC.v51 {sz : Nat} {A : Nat → Int → Int} {K V S E : Int → Int} {N : Int} {σ0 σ : az_S} {c : Cf} (hM : MC sz A K V S E N σ0 σ c) : zx σ 42 51 = c.ru := hM.2.2.2.1.2.2.2.1
theorem MC.v58 {sz : Nat} {A : Nat → Int → Int} {K V S E : Int → Int} {N : Int} {σ0 σ : az_S} {c : Cf} (hM : MC sz A K V S E N σ0 σ c) : zx σ 42 58 = (c.fr.length : Int) := hM.2.2.2.1.2.2.2.2.1
theorem MC.v60 {sz : Nat} {A : Nat → Int → Int} {K V S E : Int → Int} {N : Int} {σ0 σ : az_S} {c : Cf} (hM : MC sz A K V S E N σ0 σ c) : zx σ 42 60 = (c.ws.length : Int) := hM.2.2.2.1.2.2.2.2.2.1
theorem MC.v63 {sz : Nat} {A : Nat → Int → Int} {K V S E : Int → Int} {N : Int} {σ0 σ : az_S} {c : Cf} (hM : MC sz A K V S E N σ0 σ c) : zx σ 42 63 = c.op := hM.2.2.2.1.2.2.2.2.2.2.1
theorem MC.v78 {sz : Nat} {A : Nat → Int → Int} {K V S E : Int → Int} {N : Int} {σ0 σ : az_S} {c : Cf} (hM : MC sz A K V S E N σ0 σ c) : zx σ 42 78 = c.st := hM.2.2.2.1.2.2.2.2.2.2.2
/-- a field of the reference is written -/
theorem MC.fld {sz : Nat} {A : Nat → Int → Int} {K V S E : Int → Int} {N : Int} {σ0 σ : az_S} {c : Cf} (hM : MC sz A K V S E N σ0 σ c) {τ : az_S} (hV : MV sz A τ) (hD : Mod σ τ [42]) {k x : Int} (hU : ∀ w, zx τ 42 w = if w = k then x else zx σ 42 w) (hk : k = 58 ∨ k = 60 ∨ k = 63 ∨ k = 78 ∨ k = 51) {fr ws : List (Int × Int)} {op ru st : Int} (h58 : (fr.length : Int) = if k = 58 then x else c.fr.length) (h60 : (ws.length : Int) = if k = 60 then x else c.ws.length) (h63 : op = if k = 63 then x else c.op) (h51 : ru = if k = 51 then x else c.ru) (h78 : st = if k = 78 then x else c.st) (hf : frC (zx σ 79) (zx σ 94) (zx σ 95) fr) (hw : wsC (zx σ 80) (zx σ 81) ws) : MC sz A K V S E N σ0 τ (c.n, st, fr, ws, op, c.em, ru, c.wr, c.wa) := by
  obtain ⟨m1, m2, ⟨a1, a2, a3, a4, a5⟩, ⟨b1, b2, b3, b4, b5, b6, b7, b8⟩, e1, e2, e3⟩ := hM
  refine ⟨hV, m2.tr (hD.su rfl), ⟨?_, ?_, ?_, ?_, ?_⟩, ⟨?_, ?_, ?_, ?_, ?_, ?_, ?_, ?_⟩, ?_, ?_, ?_⟩
  · rw [hU, if_neg (by omega)]; exact a1
  · rw [hU, if_neg (by omega)]; exact a2
  · rw [hU, if_neg (by omega)]; exact a3
  · rw [hU, if_neg (by omega)]; exact a4
  · rw [hU, if_neg (by omega)]; exact a5
  · rw [hU, if_neg (by omega)]; exact b1
  · rw [hU, if_neg (by omega)]; exact b2
  · rw [hU, if_neg (by omega)]; exact b3
  · show _ = ru
    rw [hU, h51, b4]
    by_cases q : (51 : Int) = k
    · rw [if_pos q, if_pos q.symm]
    · rw [if_neg q, if_neg (fun z => q z.symm)]
  · show _ = (fr.length : Int)
    rw [hU, h58, b5]
    by_cases q : (58 : Int) = k
    · rw [if_pos q, if_pos q.symm]
    · rw [if_neg q, if_neg (fun z => q z.symm)]
  · show _ = (ws.length : Int)
    rw [hU, h60, b6]
    by_cases q : (60 : Int) = k
    · rw [if_pos q, if_pos q.symm]
    · rw [if_neg q, if_neg (fun z => q z.symm)]
  · show _ = op
    rw [hU, h63, b7]
    by_cases q : (63 : Int) = k
    · rw [if_pos q, if_pos q.symm]
    · rw [if_neg q, if_neg (fun z => q z.symm)]
  · show _ = st
    rw [hU, h78, b8]
    by_cases q : (78 : Int) = k
    · rw [if_pos q, if_pos q.symm]
    · rw [if_neg q, if_neg (fun z => q z.symm)]
  · rw [hD.z 75 rfl, hD.z 76 rfl]; exact e1
  · rw [hD.z 79 rfl, hD.z 94 rfl, hD.z 95 rfl]; exact hf
  · rw [hD.z 80 rfl, hD.z 81 rfl]; exact hw
theorem MC.to {sz : Nat} {A : Nat → Int → Int} {K V S E : Int → Int} {N : Int} {σ0 σ : az_S} {c : Cf} (hM : MC sz A K V S E N σ0 σ c) {τ : az_S} (hV : MV sz A τ) (hD : Mod σ τ [42]) {x : Int} (hU : ∀ w, zx τ 42 w = if w = 78 then x else zx σ 42 w) : MC sz A K V S E N σ0 τ (c.to x) := hM.fld hV hD hU (by decide) rfl rfl rfl rfl rfl hM.2.2.2.2.2.1 hM.2.2.2.2.2.2
theorem MC.opn {sz : Nat} {A : Nat → Int → Int} {K V S E : Int → Int} {N : Int} {σ0 σ : az_S} {c : Cf} (hM : MC sz A K V S E N σ0 σ c) {τ : az_S} (hV : MV sz A τ) (hD : Mod σ τ [42]) {i x : Int} (hU : ∀ w, zx τ 42 w = if w = 63 then x else zx σ 42 w) (hx : x = c.op + i) : MC sz A K V S E N σ0 τ (c.opn i) := hM.fld hV hD hU (by decide) rfl rfl hx.symm rfl rfl hM.2.2.2.2.2.1 hM.2.2.2.2.2.2
theorem MC.pop {sz : Nat} {A : Nat → Int → Int} {K V S E : Int → Int} {N : Int} {σ0 σ : az_S} {c : Cf} (hM : MC sz A K V S E N σ0 σ c) {τ : az_S} (hV : MV sz A τ) (hD : Mod σ τ [42]) {x : Int} (hU : ∀ w, zx τ 42 w = if w = 58 then x else zx σ 42 w) {q : Int × Int} {r : List (Int × Int)} (he : c.fr = q :: r) (hx : x = (c.fr.length : Int) - 1) : MC sz A K V S E N σ0 τ c.pop := by
  have h1 := hM.2.2.2.2.2.1
  refine hM.fld hV hD hU (by decide) ?_ rfl rfl rfl rfl ?_ hM.2.2.2.2.2.2
  · rw [if_pos rfl, hx, he, len_c]
    show (r.length : Int) = _
    omega
  · rw [he] at h1 ⊢; exact h1.2
theorem MC.wpop {sz : Nat} {A : Nat → Int → Int} {K V S E : Int → Int} {N : Int} {σ0 σ : az_S} {c : Cf} (hM : MC sz A K V S E N σ0 σ c) {τ : az_S} (hV : MV sz A τ) (hD : Mod σ τ [42]) {x : Int} (hU : ∀ w, zx τ 42 w = if w = 60 then x else zx σ 42 w) {q : Int × Int} {r : List (Int × Int)} (he : c.ws = q :: r) (hx : x = (c.ws.length : Int) - 1) : MC sz A K V S E N σ0 τ (c.n, c.st, c.fr, r, c.op, c.em, c.ru, c.wr, c.wa) := by
  have h1 := hM.2.2.2.2.2.2
  refine hM.fld hV hD hU (by decide) rfl ?_ rfl rfl rfl hM.2.2.2.2.2.1 ?_
  · rw [if_pos rfl, hx, he, len_c]; omega
  · rw [he] at h1; exact h1.2
set_option maxRecDepth 10000 in
set_option maxHeartbeats 2000000 in
theorem m_isSign {d : Nat} {sz : Nat} {σ : az_S} (hf : FX sz σ) {s : Int} (hs : inI s) : fn (d + 1) 212 [.ref 42, .int (iI s)] σ (.int (iI (bI (zx σ 42 44 = 3 ∧ zx σ 42 45 = s)))) := by
  obtain ⟨hs1, hs2⟩ := hs
  refine fn_of (M := (yX12_isSign, cX12_isSign, 2, (some .boolean))) (cd := k_X12_isSign) (L := [some (.ref 42), some (.int (iI s))]) rfl (Nat.le_of_ble_eq_true rfl) rfl rfl ?_
  have h0 : ¬ (zx σ 42 44 = 3 ∧ zx σ 42 45 = s) → aw d k_X12_isSign (some .boolean) (fun r τ => r = some (.int (iI (bI (zx σ 42 44 = 3 ∧ zx σ 42 45 = s)))) ∧ τ = σ) 20 [some (.ref 42), some (.int (iI s))] [] σ := by
    intro hn
    refine aw_iconst rfl rfl ?_
    refine aw_retn rfl rfl ?_
    exact ⟨by rw [bI_f hn], rfl⟩
  refine aw_aload_n rfl rfl rfl ?_
  refine aw_gs (44) rfl rfl (hf.k 42 rfl) rfl rfl (fun _ _ => ?_)
  refine aw_iconst rfl rfl ?_
  refine aw_icmp (p' := 20) rfl ⟨by omega, by omega⟩ ⟨by omega, by omega⟩ rfl rfl (fun c1 => ?_) (fun c1 => ?_)
  · dsimp only [zc] at c1
    exact h0 (fun q => c1 q.1)
  · dsimp only [zc] at c1
    refine aw_aload_n rfl rfl rfl ?_
    refine aw_gs (45) rfl rfl (hf.k 42 rfl) rfl rfl (fun _ _ => ?_)
    refine aw_iload_n rfl rfl rfl ?_
    refine aw_icmp (p' := 20) rfl ⟨by omega, by omega⟩ ⟨by omega, by omega⟩ rfl rfl (fun c2 => ?_) (fun c2 => ?_)
    · dsimp only [zc] at c2
      exact h0 (fun q => c2 q.2)
    · dsimp only [zc] at c2
      refine aw_iconst rfl rfl ?_
      refine aw_goto (p' := 21) rfl rfl ?_
      refine aw_retn rfl rfl ?_
      exact ⟨by rw [bI_t ⟨by omega, by omega⟩], rfl⟩
set_option maxRecDepth 10000 in
set_option maxHeartbeats 2000000 in
theorem m_isWord {d : Nat} {sz : Nat} {σ : az_S} (hf : FX sz σ) {s : Int} (hs : inI s) : fn (d + 1) 213 [.ref 42, .int (iI s)] σ (.int (iI (bI (zx σ 42 44 = 1 ∧ zx σ 42 45 = s)))) := by
  obtain ⟨hs1, hs2⟩ := hs
  refine fn_of (M := (yX12_isWord, cX12_isWord, 2, (some .boolean))) (cd := k_X12_isWord) (L := [some (.ref 42), some (.int (iI s))]) rfl (Nat.le_of_ble_eq_true rfl) rfl rfl ?_
  have h0 : ¬ (zx σ 42 44 = 1 ∧ zx σ 42 45 = s) → aw d k_X12_isWord (some .boolean) (fun r τ => r = some (.int (iI (bI (zx σ 42 44 = 1 ∧ zx σ 42 45 = s)))) ∧ τ = σ) 20 [some (.ref 42), some (.int (iI s))] [] σ := by
    intro hn
    refine aw_iconst rfl rfl ?_
    refine aw_retn rfl rfl ?_
    exact ⟨by rw [bI_f hn], rfl⟩
  refine aw_aload_n rfl rfl rfl ?_
  refine aw_gs (44) rfl rfl (hf.k 42 rfl) rfl rfl (fun _ _ => ?_)
  refine aw_iconst rfl rfl ?_
  refine aw_icmp (p' := 20) rfl ⟨by omega, by omega⟩ ⟨by omega, by omega⟩ rfl rfl (fun c1 => ?_) (fun c1 => ?_)
  · dsimp only [zc] at c1
    exact h0 (fun q => c1 q.1)
  · dsimp only [zc] at c1
    refine aw_aload_n rfl rfl rfl ?_
    refine aw_gs (45) rfl rfl (hf.k 42 rfl) rfl rfl (fun _ _ => ?_)
    refine aw_iload_n rfl rfl rfl ?_
    refine aw_icmp (p' := 20) rfl ⟨by omega, by omega⟩ ⟨by omega, by omega⟩ rfl rfl (fun c2 => ?_) (fun c2 => ?_)
    · dsimp only [zc] at c2
      exact h0 (fun q => c2 q.2)
    · dsimp only [zc] at c2
      refine aw_iconst rfl rfl ?_
      refine aw_goto (p' := 21) rfl rfl ?_
      refine aw_retn rfl rfl ?_
      exact ⟨by rw [bI_t ⟨by omega, by omega⟩], rfl⟩
set_option maxRecDepth 10000 in
set_option maxHeartbeats 2000000 in
theorem x_errs {d : Nat} {sz : Nat} {A : Nat → Int → Int} {K V S E : Int → Int} {N : Int} {σ0 σ : az_S} {c : Cf} (hM : MC sz A K V S E N σ0 σ c) (h0 : c.wr = 0) {f : Int} (hf : inI f) : cal (d + 1) 214 [.ref 42, .int (iI f)] σ (fun r τ => r = none ∧ MC sz A K V S E N σ0 τ (c.errs S f)) := by
  obtain ⟨hf1, hf2⟩ := hf
  refine cal_of (M := (yX12_errs, cX12_errs, 2, none)) (cd := k_X12_errs) (L := [some (.ref 42), some (.int (iI f))]) rfl (Nat.le_of_ble_eq_true rfl) rfl rfl ?_
  refine aw_aload_n rfl rfl rfl ?_
  refine aw_gk (v := 0) (46) rfl rfl (hM.f.k 42 rfl) rfl (hM.v46.trans h0) rfl (fun _ _ => ?_)
  refine aw_if (p' := 20) rfl ⟨by omega, by omega⟩ rfl rfl (fun c1 => ?_) (fun _ => ?_)
  · dsimp only [zc] at c1
    omega
  · refine aw_aload_n rfl rfl rfl ?_
    refine aw_iload_n rfl rfl rfl ?_
    refine aw_fw (46) hM.mv rfl rfl (hM.f.k 42 rfl) rfl rfl rfl ⟨by omega, by omega⟩ rfl (fun τ1 hV1 hD1 hU1 => ?_)
    refine aw_aload_n rfl rfl rfl ?_
    refine aw_aload_n rfl rfl rfl ?_
    refine aw_gk (v := S c.n) (43) rfl rfl (hV1.1.k 42 rfl) rfl (by rw [hU1, if_neg (by decide)]; exact hM.v43) rfl (fun _ _ => ?_)
    refine aw_fw (47) hV1 rfl rfl (hV1.1.k 42 rfl) rfl rfl rfl ⟨by omega, by omega⟩ rfl (fun τ2 hV2 hD2 hU2 => ?_)
    refine aw_retv rfl ?_
    obtain ⟨m1, m2, ⟨a1, a2, a3, a4, a5⟩, ⟨b1, b2, b3, b4, b5, b6, b7, b8⟩, e1, e2, e3⟩ := hM
    have hD := hD1.tr hD2
    refine ⟨rfl, hV2, m2.tr (hD.su rfl), ⟨?_, ?_, ?_, ?_, ?_⟩, ⟨?_, ?_, ?_, ?_, ?_, ?_, ?_, ?_⟩, ?_, ?_, ?_⟩
    · rw [hU2, if_neg (by decide), hU1, if_neg (by decide)]; exact a1
    · rw [hU2, if_neg (by decide), hU1, if_neg (by decide)]; exact a2
    · rw [hU2, if_neg (by decide), hU1, if_neg (by decide)]; exact a3
    · rw [hU2, if_neg (by decide), hU1, if_neg (by decide)]; exact a4
    · rw [hU2, if_neg (by decide), hU1, if_neg (by decide)]; exact a5
    · rw [hU2, if_neg (by decide), hU1, if_pos rfl]; rfl
    · rw [hU2, if_pos rfl]; rfl
    · rw [hU2, if_neg (by decide), hU1, if_neg (by decide)]; exact b3
    · rw [hU2, if_neg (by decide), hU1, if_neg (by decide)]; exact b4
    · rw [hU2, if_neg (by decide), hU1, if_neg (by decide)]; exact b5
    · rw [hU2, if_neg (by decide), hU1, if_neg (by decide)]; exact b6
    · rw [hU2, if_neg (by decide), hU1, if_neg (by decide)]; exact b7
    · rw [hU2, if_neg (by decide), hU1, if_neg (by decide)]; exact b8
    · rw [hD.z 75 rfl, hD.z 76 rfl]; exact e1
    · rw [hD.z 79 rfl, hD.z 94 rfl, hD.z 95 rfl]; exact e2
    · rw [hD.z 80 rfl, hD.z 81 rfl]; exact e3
set_option maxRecDepth 10000 in
set_option maxHeartbeats 2000000 in
theorem x_emits {d : Nat} {sz : Nat} {A : Nat → Int → Int} {K V S E : Int → Int} {N : Int} {σ0 σ : az_S} {c : Cf} (hM : MC sz A K V S E N σ0 σ c) (hl : (c.em.length : Int) < 900) {o v : Int} (ho : inI o) (hv : inI v) : cal (d + 1) 215 [.ref 42, .int (iI o), .int (iI v)] σ (fun r τ => r = none ∧ MC sz A K V S E N σ0 τ (c.emit o v)) := by
  obtain ⟨ho1, ho2⟩ := ho
  obtain ⟨hv1, hv2⟩ := hv
  refine cal_of (M := (yX12_emits, cX12_emits, 3, none)) (cd := k_X12_emits) (L := [some (.ref 42), some (.int (iI o)), some (.int (iI v))]) rfl (Nat.le_of_ble_eq_true rfl) rfl rfl ?_
  refine aw_aload_n rfl rfl rfl ?_
  refine aw_getr (b := 75) rfl rfl (hM.f.k 42 rfl) (hM.f.r 42 52 75 rfl) rfl ?_
  refine aw_aload_n rfl rfl rfl ?_
  refine aw_gk (v := (c.em.length : Int)) (50) rfl rfl (hM.f.k 42 rfl) rfl hM.v50 rfl (fun _ _ => ?_)
  refine aw_iload_n rfl rfl rfl ?_
  refine aw_ss (N := 900) hM.mv rfl (hM.f.s 75 rfl) (by omega) rfl (by omega) (by omega) ⟨by omega, by omega⟩ rfl (fun τ1 hV1 hD1 hU1 => ?_)
  refine aw_aload_n rfl rfl rfl ?_
  refine aw_getr (b := 76) rfl rfl (hV1.1.k 42 rfl) (hV1.1.r 42 53 76 rfl) rfl ?_
  refine aw_aload_n rfl rfl rfl ?_
  refine aw_gk (v := (c.em.length : Int)) (50) rfl rfl (hV1.1.k 42 rfl) rfl (by rw [hD1.z 42 rfl]; exact hM.v50) rfl (fun _ _ => ?_)
  refine aw_iload_n rfl rfl rfl ?_
  refine aw_ss (N := 900) hV1 rfl (hV1.1.s 76 rfl) (by omega) rfl (by omega) (by omega) ⟨by omega, by omega⟩ rfl (fun τ2 hV2 hD2 hU2 => ?_)
  refine aw_aload_n rfl rfl rfl ?_
  refine aw_dup rfl rfl rfl ?_
  refine aw_gk (v := (c.em.length : Int)) (50) rfl rfl (hV2.1.k 42 rfl) rfl (by rw [hD2.z 42 rfl, hD1.z 42 rfl]; exact hM.v50) rfl (fun _ _ => ?_)
  refine aw_iconst rfl rfl ?_
  refine aw_iadd rfl rfl ?_
  refine aw_fw (50) hV2 rfl rfl (hV2.1.k 42 rfl) rfl rfl rfl ⟨by omega, by omega⟩ rfl (fun τ3 hV3 hD3 hU3 => ?_)
  refine aw_retv rfl ?_
  obtain ⟨m1, m2, ⟨a1, a2, a3, a4, a5⟩, ⟨b1, b2, b3, b4, b5, b6, b7, b8⟩, e1, e2, e3⟩ := hM
  have z42 : zx τ2 42 = zx σ 42 := by rw [hD2.z 42 rfl, hD1.z 42 rfl]
  have hD : Mod σ τ3 [42, 75, 76, 79, 80, 81, 94, 95] := ((hD1.su rfl).tr (hD2.su rfl)).tr (hD3.su rfl)
  have z79 : zx τ3 79 = zx σ 79 ∧ zx τ3 94 = zx σ 94 ∧ zx τ3 95 = zx σ 95 ∧ zx τ3 80 = zx σ 80 ∧ zx τ3 81 = zx σ 81 := ⟨by rw [hD3.z 79 rfl, hD2.z 79 rfl, hD1.z 79 rfl], by rw [hD3.z 94 rfl, hD2.z 94 rfl, hD1.z 94 rfl], by rw [hD3.z 95 rfl, hD2.z 95 rfl, hD1.z 95 rfl], by rw [hD3.z 80 rfl, hD2.z 80 rfl, hD1.z 80 rfl], by rw [hD3.z 81 rfl, hD2.z 81 rfl, hD1.z 81 rfl]⟩
  refine ⟨rfl, hV3, m2.tr hD, ⟨?_, ?_, ?_, ?_, ?_⟩, ⟨?_, ?_, ?_, ?_, ?_, ?_, ?_, ?_⟩, ?_, ?_, ?_⟩
  · rw [hU3, if_neg (by decide), z42]; exact a1
  · rw [hU3, if_neg (by decide), z42]; exact a2
  · rw [hU3, if_neg (by decide), z42]; exact a3
  · rw [hU3, if_neg (by decide), z42]; exact a4
  · rw [hU3, if_neg (by decide), z42]; exact a5
  · rw [hU3, if_neg (by decide), z42]; exact b1
  · rw [hU3, if_neg (by decide), z42]; exact b2
  · rw [hU3, if_pos rfl]
    show _ = ((c.em ++ [(o, v)]).length : Int)
    rw [List.length_append]; rfl
  · rw [hU3, if_neg (by decide), z42]; exact b4
  · rw [hU3, if_neg (by decide), z42]; exact b5
  · rw [hU3, if_neg (by decide), z42]; exact b6
  · rw [hU3, if_neg (by decide), z42]; exact b7
  · rw [hU3, if_neg (by decide), z42]; exact b8
  · rw [hD3.z 75 rfl, hD3.z 76 rfl]
    refine eC_snoc _ _ _ (eC_up _ _ e1 (fun w hw => ?_)) ?_ ?_
    · rw [hD2.z 75 rfl, hU1, hU2, hD1.z 76 rfl, if_neg (by omega), if_neg (by omega)]
      exact ⟨rfl, rfl⟩
    · rw [hD2.z 75 rfl, hU1, if_pos (by omega)]
    · rw [hU2, if_pos (by omega)]
  · rw [z79.1, z79.2.1, z79.2.2.1]; exact e2
  · rw [z79.2.2.2.1, z79.2.2.2.2]; exact e3
set_option maxRecDepth 10000 in
set_option maxHeartbeats 2000000 in
theorem x_frame {d : Nat} {sz : Nat} {A : Nat → Int → Int} {K V S E : Int → Int} {N : Int} {σ0 σ : az_S} {c : Cf} (hM : MC sz A K V S E N σ0 σ c) (hl : (c.fr.length : Int) < 64) {f x : Int} (hf : inI f) (hx1 : (f = 9 ∨ f = 10) → zx σ 94 ((c.fr.length : Int) + 1) = x) (hx2 : f = 6 → zx σ 95 ((c.fr.length : Int) + 1) = x) : cal (d + 1) 216 [.ref 42, .int (iI f)] σ (fun r τ => r = none ∧ MC sz A K V S E N σ0 τ (c.push f x)) := by
  obtain ⟨hf1, hf2⟩ := hf
  refine cal_of (M := (yX12_opensFrame, cX12_opensFrame, 2, none)) (cd := k_X12_opensFrame) (L := [some (.ref 42), some (.int (iI f))]) rfl (Nat.le_of_ble_eq_true rfl) rfl rfl ?_
  refine aw_aload_n rfl rfl rfl ?_
  refine aw_getr (b := 79) rfl rfl (hM.f.k 42 rfl) (hM.f.r 42 59 79 rfl) rfl ?_
  refine aw_aload_n rfl rfl rfl ?_
  refine aw_gk (v := (c.fr.length : Int)) (58) rfl rfl (hM.f.k 42 rfl) rfl hM.v58 rfl (fun _ _ => ?_)
  refine aw_iload_n rfl rfl rfl ?_
  refine aw_ss (N := 64) hM.mv rfl (hM.f.s 79 rfl) (by omega) rfl (by omega) (by omega) ⟨by omega, by omega⟩ rfl (fun τ1 hV1 hD1 hU1 => ?_)
  refine aw_aload_n rfl rfl rfl ?_
  refine aw_dup rfl rfl rfl ?_
  refine aw_gk (v := (c.fr.length : Int)) (58) rfl rfl (hV1.1.k 42 rfl) rfl (by rw [hD1.z 42 rfl]; exact hM.v58) rfl (fun _ _ => ?_)
  refine aw_iconst rfl rfl ?_
  refine aw_iadd rfl rfl ?_
  refine aw_fw (58) hV1 rfl rfl (hV1.1.k 42 rfl) rfl rfl rfl ⟨by omega, by omega⟩ rfl (fun τ2 hV2 hD2 hU2 => ?_)
  refine aw_retv rfl ?_
  obtain ⟨m1, m2, ⟨a1, a2, a3, a4, a5⟩, ⟨b1, b2, b3, b4, b5, b6, b7, b8⟩, e1, e2, e3⟩ := hM
  have z42 : zx τ1 42 = zx σ 42 := hD1.z 42 rfl
  have hD : Mod σ τ2 [42, 75, 76, 79, 80, 81, 94, 95] := (hD1.su rfl).tr (hD2.su rfl)
  refine ⟨rfl, hV2, m2.tr hD, ⟨?_, ?_, ?_, ?_, ?_⟩, ⟨?_, ?_, ?_, ?_, ?_, ?_, ?_, ?_⟩, ?_, ?_, ?_⟩
  · rw [hU2, if_neg (by decide), z42]; exact a1
  · rw [hU2, if_neg (by decide), z42]; exact a2
  · rw [hU2, if_neg (by decide), z42]; exact a3
  · rw [hU2, if_neg (by decide), z42]; exact a4
  · rw [hU2, if_neg (by decide), z42]; exact a5
  · rw [hU2, if_neg (by decide), z42]; exact b1
  · rw [hU2, if_neg (by decide), z42]; exact b2
  · rw [hU2, if_neg (by decide), z42]; exact b3
  · rw [hU2, if_neg (by decide), z42]; exact b4
  · rw [hU2, if_pos rfl]
    show _ = (((f, x) :: c.fr).length : Int)
    rw [len_c]
  · rw [hU2, if_neg (by decide), z42]; exact b6
  · rw [hU2, if_neg (by decide), z42]; exact b7
  · rw [hU2, if_neg (by decide), z42]; exact b8
  · rw [hD2.z 75 rfl, hD2.z 76 rfl, hD1.z 75 rfl, hD1.z 76 rfl]; exact e1
  · rw [hD2.z 79 rfl, hD2.z 94 rfl, hD2.z 95 rfl, hD1.z 94 rfl, hD1.z 95 rfl]
    refine ⟨⟨by rw [hU1, if_pos rfl], hx1, hx2⟩, frC_up _ e2 (fun w hw => by rw [hU1, if_neg (by omega)]) (fun _ _ => ⟨rfl, rfl⟩)⟩
  · rw [hD2.z 80 rfl, hD2.z 81 rfl, hD1.z 80 rfl, hD1.z 81 rfl]; exact e3
set_option maxRecDepth 10000 in
set_option maxHeartbeats 2000000 in
theorem x_top {d : Nat} {sz : Nat} {A : Nat → Int → Int} {K V S E : Int → Int} {N : Int} {σ0 σ : az_S} {c : Cf} (hM : MC sz A K V S E N σ0 σ c) {q : Int × Int} {r : List (Int × Int)} (he : c.fr = q :: r) (hl : (c.fr.length : Int) ≤ 64) : fn (d + 1) 217 [.ref 42] σ (.int (iI q.1)) := by
  refine fn_of (M := (yX12_top, cX12_top, 1, (some .int))) (cd := k_X12_top) (L := [some (.ref 42)]) rfl (Nat.le_of_ble_eq_true rfl) rfl rfl ?_
  have h58 := hM.v58
  have h1 := hM.2.2.2.2.2.1
  rw [he] at h1
  rw [he, len_c] at h58 hl
  refine aw_aload_n rfl rfl rfl ?_
  refine aw_getr (b := 79) rfl rfl (hM.f.k 42 rfl) (hM.f.r 42 59 79 rfl) rfl ?_
  refine aw_aload_n rfl rfl rfl ?_
  refine aw_gk (v := ((r.length : Int) + 1)) (58) rfl rfl (hM.f.k 42 rfl) rfl h58 rfl (fun _ _ => ?_)
  refine aw_iconst rfl rfl ?_
  refine aw_isub rfl rfl ?_
  refine aw_ak (v := q.1) (N := 64) rfl (hM.f.s 79 rfl) (by omega) (by omega) (by omega) (by rw [show (r.length : Int) + 1 - 1 = r.length by omega]; exact h1.1.1) rfl (fun _ _ => ?_)
  refine aw_reti rfl ?_
  exact ⟨rfl, rfl⟩
set_option maxRecDepth 10000 in
set_option maxHeartbeats 2000000 in
theorem m_rank {d : Nat} {σ : az_S} {o : Int} (ho : inI o) : fn (d + 1) 219 [.int (iI o)] σ (.int (iI (rnk o))) := by
  obtain ⟨ho1, ho2⟩ := ho
  refine fn_of (M := (yX12_rank, cX12_rank, 1, (some .int))) (cd := k_X12_rank) (L := [some (.int (iI o))]) rfl (Nat.le_of_ble_eq_true rfl) rfl rfl ?_
  unfold rnk
  refine aw_iload_n rfl rfl rfl ?_
  refine aw_sipush rfl rfl rfl ?_
  refine aw_icmp (p' := 11) rfl ⟨by omega, by omega⟩ ⟨by omega, by omega⟩ rfl rfl (fun c1 => ?_) (fun c1 => ?_)
  · dsimp only [zc] at c1
    rw [if_neg c1]
    refine aw_iload_n rfl rfl rfl ?_
    refine aw_sipush rfl rfl rfl ?_
    refine aw_icmp (p' := 22) rfl ⟨by omega, by omega⟩ ⟨by omega, by omega⟩ rfl rfl (fun c2 => ?_) (fun c2 => ?_)
    · dsimp only [zc] at c2
      rw [if_neg c2]
      have h3 : (o = 43 ∨ o = 45) → aw d k_X12_rank (some .int) (fun r τ => r = some (.int (iI (if o = 43 ∨ o = 45 then 3 else 4))) ∧ τ = σ) 34 [some (.int (iI o))] [] σ := by
        intro h
        refine aw_iconst rfl rfl ?_
        refine aw_goto (p' := 39) rfl rfl ?_
        refine aw_reti rfl ?_
        exact ⟨by rw [if_pos h], rfl⟩
      refine aw_iload_n rfl rfl rfl ?_
      refine aw_bipush rfl rfl rfl ?_
      refine aw_icmp (p' := 34) rfl ⟨by omega, by omega⟩ ⟨by omega, by omega⟩ rfl rfl (fun c3 => h3 (Or.inl c3)) (fun c3 => ?_)
      dsimp only [zc] at c3
      refine aw_iload_n rfl rfl rfl ?_
      refine aw_bipush rfl rfl rfl ?_
      refine aw_icmp (p' := 38) rfl ⟨by omega, by omega⟩ ⟨by omega, by omega⟩ rfl rfl (fun c4 => ?_) (fun c4 => ?_)
      · dsimp only [zc] at c4
        refine aw_iconst rfl rfl ?_
        refine aw_reti rfl ?_
        exact ⟨by rw [if_neg (by omega)], rfl⟩
      · dsimp only [zc] at c4
        exact h3 (Or.inr (by omega))
    · dsimp only [zc] at c2
      rw [if_pos (by omega)]
      refine aw_iconst rfl rfl ?_
      refine aw_goto (p' := 39) rfl rfl ?_
      refine aw_reti rfl ?_
      exact ⟨rfl, rfl⟩
  · dsimp only [zc] at c1
    rw [if_pos (by omega)]
    refine aw_iconst rfl rfl ?_
    refine aw_goto (p' := 39) rfl rfl ?_
    refine aw_reti rfl ?_
    exact ⟨rfl, rfl⟩
