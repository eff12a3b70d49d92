theorem CR.days {sz : Nat} {κ : Nat × (Nat → Int32) × Option Nat} {A : Nat → Int → Int} {g : Nat → Nat} {σ τ : az_S} (h : CR sz κ A g σ) (hI : MI sz A) {x : Int} (hu : ∀ w, zx τ 0 w = if w = 15 then x else zx σ 0 w) (hd : Mod σ τ [0]) : CR sz κ (up A 42 3 x) g τ := by
  refine h.chF hI hd rfl (fun a z q => by simp only [up]; (repeat rw [if_neg (by omega)])) ⟨by simp [up], by simp [up], by simp [up], by simp [up]⟩ ?_
  obtain ⟨h1, h2, h3, h4, h5, h6, h7, h8⟩ := h.fix
  exact ⟨(by rw [hu, if_pos rfl]; simp [up]), (by rw [hd.z 28 rfl]; simpa [up] using h2), (by rw [hd.z 1 rfl]; simpa [up] using h3), (by rw [hd.z 2 rfl, hd.z 3 rfl]; simpa [up] using h4), (by rw [hd.z 4 rfl]; simpa [up] using h5), (by rw [hu, hu, if_neg (by decide), if_neg (by decide)]; simpa [up] using h6), (by rw [hd.z 9 rfl, hd.z 10 rfl]; simpa [up] using h7), (by rw [hd.z 33 rfl, hd.q 33 rfl, hd.z 34 rfl]; simpa [up] using h8)⟩
theorem CR.sunc {sz : Nat} {κ : Nat × (Nat → Int32) × Option Nat} {A : Nat → Int → Int} {g : Nat → Nat} {σ τ : az_S} (h : CR sz κ A g σ) (hI : MI sz A) {i x y : Int} (hu2 : ∀ w, zx τ 2 w = if w = i then x else zx σ 2 w) (hu3 : ∀ w, zx τ 3 w = if w = i then y else zx σ 3 w) (hd : Mod σ τ [2, 3]) : CR sz κ (up (up A 43 i x) 44 i y) g τ := by
  refine h.chF hI hd rfl (fun a z q => by simp only [up]; (repeat rw [if_neg (by omega)])) ⟨by simp [up], by simp [up], by simp [up], by simp [up]⟩ ?_
  obtain ⟨h1, h2, h3, h4, h5, h6, h7, h8⟩ := h.fix
  exact ⟨(by rw [hd.z 0 rfl]; simpa [up] using h1), (by rw [hd.z 28 rfl]; simpa [up] using h2), (by rw [hd.z 1 rfl]; simpa [up] using h3), (by
    intro j a b
    have q := h4 j a b
    rw [hu2, hu3]
    by_cases e : j = i
    · simp [up, e]
    · simp [up, e]; exact q), (by rw [hd.z 4 rfl]; simpa [up] using h5), (by rw [hd.z 0 rfl]; simpa [up] using h6), (by rw [hd.z 9 rfl, hd.z 10 rfl]; simpa [up] using h7), (by rw [hd.z 33 rfl, hd.q 33 rfl, hd.z 34 rfl]; simpa [up] using h8)⟩
theorem CR.cloudc {sz : Nat} {κ : Nat × (Nat → Int32) × Option Nat} {A : Nat → Int → Int} {g : Nat → Nat} {σ τ : az_S} (h : CR sz κ A g σ) (hI : MI sz A) {x y : Int} (hu4 : ∀ w, zx τ 4 w = if w = A 42 6 then x * 12 + y else zx σ 4 w) (hu1 : ∀ w, zx τ 1 w = if w = 3 then A 42 6 + 1 else zx σ 1 w) (hd : Mod σ τ [1, 4]) : CR sz κ (up (up (up A 45 (A 42 6) x) 46 (A 42 6) y) 42 6 (A 42 6 + 1)) g τ := by
  refine h.chF hI hd rfl (fun a z q => by simp only [up]; (repeat rw [if_neg (by omega)])) ⟨by simp [up], by simp [up], by simp [up], by simp [up]⟩ ?_
  obtain ⟨h1, h2, h3, h4, h5, h6, h7, h8⟩ := h.fix
  exact ⟨(by rw [hd.z 0 rfl]; simpa [up] using h1), (by rw [hd.z 28 rfl]; simpa [up] using h2), (by rw [hu1, if_pos rfl]; simp [up]), (by rw [hd.z 2 rfl, hd.z 3 rfl]; simpa [up] using h4), (by
    intro j a b
    rw [hu4]
    by_cases e : j = A 42 6
    · simp [up, e]; omega
    · have b2 : j < A 42 6 + 1 := by simpa [up] using b
      have q := h5 j a (by omega)
      simp [up, e]; exact q), (by rw [hd.z 0 rfl]; simpa [up] using h6), (by rw [hd.z 9 rfl, hd.z 10 rfl]; simpa [up] using h7), (by rw [hd.z 33 rfl, hd.q 33 rfl, hd.z 34 rfl]; simpa [up] using h8)⟩
theorem CR.endc {sz : Nat} {κ : Nat × (Nat → Int32) × Option Nat} {A : Nat → Int → Int} {g : Nat → Nat} {σ τ : az_S} (h : CR sz κ A g σ) (hI : MI sz A) {n : Int} (hn0 : 0 ≤ n) (hn : n ≤ A 42 40) (hu : ∀ w, zx τ 9 w = if w = 1 then n else zx σ 9 w) (hd : Mod σ τ [9]) : CR sz κ (up A 42 40 n) g τ := by
  refine h.chF hI hd rfl (fun a z q => by simp only [up]; (repeat rw [if_neg (by omega)])) ⟨by simp [up], by simp [up], by simp [up], by simp [up]⟩ ?_
  obtain ⟨h1, h2, h3, h4, h5, h6, h7, h8⟩ := h.fix
  exact ⟨(by rw [hd.z 0 rfl]; simpa [up] using h1), (by rw [hd.z 28 rfl]; simpa [up] using h2), (by rw [hd.z 1 rfl]; simpa [up] using h3), (by rw [hd.z 2 rfl, hd.z 3 rfl]; simpa [up] using h4), (by rw [hd.z 4 rfl]; simpa [up] using h5), (by rw [hd.z 0 rfl]; simpa [up] using h6), (by
    refine ⟨by rw [hu, if_pos rfl]; simp [up], ?_⟩
    intro j a b
    rw [hd.z 10 rfl]
    have b2 : j < n := by simpa [up] using b
    have q := h7.2 j a (by omega)
    simpa [up] using q), (by rw [hd.z 33 rfl, hd.q 33 rfl, hd.z 34 rfl]; simpa [up] using h8)⟩
theorem CR.diedc {sz : Nat} {κ : Nat × (Nat → Int32) × Option Nat} {A : Nat → Int → Int} {g : Nat → Nat} {σ τ : az_S} (h : CR sz κ A g σ) (hI : MI sz A) {p x y : Int} (hp0 : 0 ≤ p) (hp1 : p < A 42 9) (hd : Mod σ τ [gP g p]) (hu : ∀ w, zx τ (gP g p) w = if w = 1 then y else if w = 0 then x else zx σ (gP g p) w) : CR sz κ (up (up A 47 p x) 48 p y) g τ := by
  refine h.chP hI hp0 hp1 hd (fun a z q => by simp only [up]; (repeat rw [if_neg (by omega)])) ?_
  refine ⟨by rw [hd.2.2.1]; exact h.sP hp0 hp1, by rw [hu, if_neg (by decide), if_pos rfl]; simp [up], fun _ => by rw [hu, if_pos rfl]; simp [up]⟩
theorem CR.tellc {sz : Nat} {κ : Nat × (Nat → Int32) × Option Nat} {A : Nat → Int → Int} {g : Nat → Nat} {σ τ : az_S} (h : CR sz κ A g σ) (hI : MI sz A) {t x y : Int} (ht0 : 0 ≤ t) (ht1 : t < A 42 12) (he : A 56 t ≤ 40) (hd : Mod σ τ [gT g t, gTd g t, gTh g t, gTt g t]) (hu : ∀ w, zx τ (gT g t) w = if w = 10 then A 56 t + 1 else zx σ (gT g t) w) (hud : ∀ w, zx τ (gTd g t) w = if w = A 56 t then x else zx σ (gTd g t) w) (huh : ∀ w, zx τ (gTh g t) w = if w = A 56 t then y else zx σ (gTh g t) w) (hut : ∀ w, zx τ (gTt g t) w = if w = A 56 t then A 42 3 else zx σ (gTt g t) w) : CR sz κ (mEnter A t x y) g τ := by
  have hE := (hI.thing t ht0 ht1).1
  refine h.chT hI ht0 ht1 hd (fun a z q => by simp only [mEnter, up]; (repeat rw [if_neg (by omega)])) ?_
  obtain ⟨k1, k2, k3, k4⟩ := h.thing t ht0 ht1
  have e : ∀ w : Int, w ≠ 10 → zx τ (gT g t) w = zx σ (gT g t) w := fun w a => by rw [hu, if_neg a]
  refine ⟨by rw [hd.2.2.1]; exact k1, by rw [hd.2.2.2.1]; exact k2, ?_, ?_⟩
  · obtain ⟨v0, v1, v2, v3, v4, v5, v6, v10, v11, v12, v13⟩ := k3
    refine ⟨by rw [e 0 (by decide)]; simpa [mEnter, up] using v0, by rw [e 1 (by decide)]; simpa [mEnter, up] using v1, by rw [e 2 (by decide)]; simpa [mEnter, up] using v2, by rw [e 3 (by decide)]; simpa [mEnter, up] using v3, by rw [e 4 (by decide)]; simpa [mEnter, up] using v4, by rw [e 5 (by decide)]; simpa [mEnter, up] using v5, by rw [e 6 (by decide)]; simpa [mEnter, up] using v6, by rw [hu, if_pos rfl]; simp [mEnter, up], by rw [e 11 (by decide)]; simpa [mEnter, up] using v11, by rw [e 12 (by decide)]; simpa [mEnter, up] using v12, by rw [e 13 (by decide)]; simpa [mEnter, up] using v13⟩
  · intro i i0 i1
    rw [mEnter_56, if_pos rfl] at i1
    rw [mEnter_57, mEnter_58, mEnter_59, hud, huh, hut]
    by_cases ei : i = A 56 t
    · rw [if_pos ei, if_pos ei, if_pos ei, if_pos (by omega), if_pos (by omega), if_pos (by omega)]
      exact ⟨rfl, rfl, rfl⟩
    · rw [if_neg ei, if_neg ei, if_neg ei, if_neg (by omega), if_neg (by omega), if_neg (by omega)]
      exact k4 i i0 (by omega)
theorem CR.placec {sz : Nat} {κ : Nat × (Nat → Int32) × Option Nat} {A : Nat → Int → Int} {g : Nat → Nat} {σ τ : az_S} (h : CR sz κ A g σ) (hI : MI sz A) {s j x : Int} (hs0 : 0 ≤ s) (hs1 : s < A 42 66) (hj0 : 0 ≤ j) (hj1 : j < 12) (hd : Mod σ τ [gSp g s]) (hu : ∀ w, zx τ (gSp g s) w = if w = j then x else zx σ (gSp g s) w) : CR sz κ (up A 87 (12 * s + j) x) g τ := by
  have hst := hI.stalls
  have hd2 : Mod σ τ [gS g s, gSp g s] := hd.su (by simp)
  refine h.chS hI hs0 hs1 hd2 (fun a z q => by simp only [up]; rw [if_neg (by omega)]) ?_
  have n1 : zx τ (gS g s) = zx σ (gS g s) := hd.nz (by simp only [List.mem_cons, List.not_mem_nil, or_false]; exact fun e => by have := h.inj (500 + 2 * s.toNat) (501 + 2 * s.toNat) (by unfold live; omega) (by unfold live; omega) e; omega)
  obtain ⟨k1, k2, k3, k4, k5, k6⟩ := h.stall s hs0 hs1
  refine ⟨by rw [hd.2.2.1]; exact k1, by rw [hd.2.2.1]; exact k2, by rw [hd.2.2.2.1]; exact k3, by rw [n1]; simpa [up] using k4, by rw [n1]; simpa [up] using k5, fun e e0 e1 => ?_⟩
  rw [hu]
  by_cases q : e = j
  · simp [up, q]
  · rw [if_neg q, up_nz (by omega)]; exact k6 e e0 e1
theorem CR.fellc {sz : Nat} {κ : Nat × (Nat → Int32) × Option Nat} {A : Nat → Int → Int} {g : Nat → Nat} {σ τ : az_S} (h : CR sz κ A g σ) (hI : MI sz A) {t : Int} (ht0 : 0 ≤ t) (ht1 : t < A 42 12) {x y : Int} (hd : Mod σ τ [gT g t]) (hu : ∀ w, zx τ (gT g t) w = if w = 12 then y else if w = 11 then x else zx σ (gT g t) w) : CR sz κ (up (up A 60 t x) 61 t y) g τ := by
  have hth := hI.things
  have hd4 : Mod σ τ [gT g t, gTd g t, gTh g t, gTt g t] := hd.su (by simp)
  refine h.chT hI ht0 ht1 hd4 (fun a z q => by simp only [up]; (repeat rw [if_neg (by omega)])) ?_
  obtain ⟨k1, k2, k3, k4⟩ := h.thing t ht0 ht1
  have e : ∀ w : Int, w ≠ 12 → w ≠ 11 → zx τ (gT g t) w = zx σ (gT g t) w := fun w a12 a11 => by rw [hu, if_neg a12, if_neg a11]
  have n1 : zx τ (gTd g t) = zx σ (gTd g t) := hd.nz (by simp only [List.mem_cons, List.not_mem_nil, or_false]; exact fun e => by have := h.inj (301 + 4 * t.toNat) (300 + 4 * t.toNat) (by unfold live; omega) (by unfold live; omega) e; omega)
  have n2 : zx τ (gTh g t) = zx σ (gTh g t) := hd.nz (by simp only [List.mem_cons, List.not_mem_nil, or_false]; exact fun e => by have := h.inj (302 + 4 * t.toNat) (300 + 4 * t.toNat) (by unfold live; omega) (by unfold live; omega) e; omega)
  have n3 : zx τ (gTt g t) = zx σ (gTt g t) := hd.nz (by simp only [List.mem_cons, List.not_mem_nil, or_false]; exact fun e => by have := h.inj (303 + 4 * t.toNat) (300 + 4 * t.toNat) (by unfold live; omega) (by unfold live; omega) e; omega)
  refine ⟨by rw [hd.2.2.1]; exact k1, by rw [hd.2.2.2.1]; exact k2, ?_, ?_⟩
  · obtain ⟨v0, v1, v2, v3, v4, v5, v6, v10, v11, v12, v13⟩ := k3
    exact ⟨(by rw [e 0 (by decide) (by decide)]; simpa [up] using v0), (by rw [e 1 (by decide) (by decide)]; simpa [up] using v1), (by rw [e 2 (by decide) (by decide)]; simpa [up] using v2), (by rw [e 3 (by decide) (by decide)]; simpa [up] using v3), (by rw [e 4 (by decide) (by decide)]; simpa [up] using v4), (by rw [e 5 (by decide) (by decide)]; simpa [up] using v5), (by rw [e 6 (by decide) (by decide)]; simpa [up] using v6), (by rw [e 10 (by decide) (by decide)]; simpa [up] using v10), (by rw [hu, if_neg (by decide), if_pos rfl]; simp [up]), (fun _ => by rw [hu, if_pos rfl]; simp [up]), (by rw [e 13 (by decide) (by decide)]; simpa [up] using v13)⟩
  · rw [n1, n2, n3]
    simpa [up] using k4
theorem CR.measc {sz : Nat} {κ : Nat × (Nat → Int32) × Option Nat} {A : Nat → Int → Int} {g : Nat → Nat} {σ τ : az_S} (h : CR sz κ A g σ) (hI : MI sz A) {t : Int} (ht0 : 0 ≤ t) (ht1 : t < A 42 12) {x : Int} (hd : Mod σ τ [gT g t]) (hu : ∀ w, zx τ (gT g t) w = if w = 13 then x else zx σ (gT g t) w) : CR sz κ (up A 62 t x) g τ := by
  have hth := hI.things
  have hd4 : Mod σ τ [gT g t, gTd g t, gTh g t, gTt g t] := hd.su (by simp)
  refine h.chT hI ht0 ht1 hd4 (fun a z q => by simp only [up]; (repeat rw [if_neg (by omega)])) ?_
  obtain ⟨k1, k2, k3, k4⟩ := h.thing t ht0 ht1
  have e : ∀ w : Int, w ≠ 13 → zx τ (gT g t) w = zx σ (gT g t) w := fun w a13 => by rw [hu, if_neg a13]
  have n1 : zx τ (gTd g t) = zx σ (gTd g t) := hd.nz (by simp only [List.mem_cons, List.not_mem_nil, or_false]; exact fun e => by have := h.inj (301 + 4 * t.toNat) (300 + 4 * t.toNat) (by unfold live; omega) (by unfold live; omega) e; omega)
  have n2 : zx τ (gTh g t) = zx σ (gTh g t) := hd.nz (by simp only [List.mem_cons, List.not_mem_nil, or_false]; exact fun e => by have := h.inj (302 + 4 * t.toNat) (300 + 4 * t.toNat) (by unfold live; omega) (by unfold live; omega) e; omega)
  have n3 : zx τ (gTt g t) = zx σ (gTt g t) := hd.nz (by simp only [List.mem_cons, List.not_mem_nil, or_false]; exact fun e => by have := h.inj (303 + 4 * t.toNat) (300 + 4 * t.toNat) (by unfold live; omega) (by unfold live; omega) e; omega)
  refine ⟨by rw [hd.2.2.1]; exact k1, by rw [hd.2.2.2.1]; exact k2, ?_, ?_⟩
  · obtain ⟨v0, v1, v2, v3, v4, v5, v6, v10, v11, v12, v13⟩ := k3
    exact ⟨(by rw [e 0 (by decide)]; simpa [up] using v0), (by rw [e 1 (by decide)]; simpa [up] using v1), (by rw [e 2 (by decide)]; simpa [up] using v2), (by rw [e 3 (by decide)]; simpa [up] using v3), (by rw [e 4 (by decide)]; simpa [up] using v4), (by rw [e 5 (by decide)]; simpa [up] using v5), (by rw [e 6 (by decide)]; simpa [up] using v6), (by rw [e 10 (by decide)]; simpa [up] using v10), (by rw [e 11 (by decide)]; simpa [up] using v11), (by rw [e 12 (by decide)]; simpa [up] using v12), (by rw [hu, if_pos rfl]; simp [up])⟩
  · rw [n1, n2, n3]
    simpa [up] using k4
theorem CR.lessc {sz : Nat} {κ : Nat × (Nat → Int32) × Option Nat} {A : Nat → Int → Int} {g : Nat → Nat} {σ τ : az_S} (h : CR sz κ A g σ) (hI : MI sz A) {t : Int} (ht0 : 0 ≤ t) (ht1 : t < A 42 12) {x : Int} (hx : x ≤ A 56 t) (hd : Mod σ τ [gT g t]) (hu : ∀ w, zx τ (gT g t) w = if w = 10 then x else zx σ (gT g t) w) : CR sz κ (up A 56 t x) g τ := by
  have hth := hI.things
  have hd4 : Mod σ τ [gT g t, gTd g t, gTh g t, gTt g t] := hd.su (by simp)
  refine h.chT hI ht0 ht1 hd4 (fun a z q => by simp only [up]; (repeat rw [if_neg (by omega)])) ?_
  obtain ⟨k1, k2, k3, k4⟩ := h.thing t ht0 ht1
  have e : ∀ w : Int, w ≠ 10 → zx τ (gT g t) w = zx σ (gT g t) w := fun w a10 => by rw [hu, if_neg a10]
  have n1 : zx τ (gTd g t) = zx σ (gTd g t) := hd.nz (by simp only [List.mem_cons, List.not_mem_nil, or_false]; exact fun e => by have := h.inj (301 + 4 * t.toNat) (300 + 4 * t.toNat) (by unfold live; omega) (by unfold live; omega) e; omega)
  have n2 : zx τ (gTh g t) = zx σ (gTh g t) := hd.nz (by simp only [List.mem_cons, List.not_mem_nil, or_false]; exact fun e => by have := h.inj (302 + 4 * t.toNat) (300 + 4 * t.toNat) (by unfold live; omega) (by unfold live; omega) e; omega)
  have n3 : zx τ (gTt g t) = zx σ (gTt g t) := hd.nz (by simp only [List.mem_cons, List.not_mem_nil, or_false]; exact fun e => by have := h.inj (303 + 4 * t.toNat) (300 + 4 * t.toNat) (by unfold live; omega) (by unfold live; omega) e; omega)
  refine ⟨by rw [hd.2.2.1]; exact k1, by rw [hd.2.2.2.1]; exact k2, ?_, ?_⟩
  · obtain ⟨v0, v1, v2, v3, v4, v5, v6, v10, v11, v12, v13⟩ := k3
    exact ⟨(by rw [e 0 (by decide)]; simpa [up] using v0), (by rw [e 1 (by decide)]; simpa [up] using v1), (by rw [e 2 (by decide)]; simpa [up] using v2), (by rw [e 3 (by decide)]; simpa [up] using v3), (by rw [e 4 (by decide)]; simpa [up] using v4), (by rw [e 5 (by decide)]; simpa [up] using v5), (by rw [e 6 (by decide)]; simpa [up] using v6), (by rw [hu, if_pos rfl]; simp [up]), (by rw [e 11 (by decide)]; simpa [up] using v11), (by rw [e 12 (by decide)]; simpa [up] using v12), (by rw [e 13 (by decide)]; simpa [up] using v13)⟩
  · rw [n1, n2, n3]
    intro i i0 i1
    have i2 : i < x := by simpa [up] using i1
    have q := k4 i i0 (by omega)
    simpa [up] using q
theorem iI_and255 (a : Int) : iI a &&& iI 255 = iI (a % 256) := by
  have h1 : ∀ b : BitVec 32, b &&& 255#32 = BitVec.ofNat 32 (b.toNat % 256) := by
    intro b
    apply BitVec.eq_of_toNat_eq
    have hb := b.isLt
    rw [BitVec.toNat_and, BitVec.toNat_ofNat, BitVec.toNat_ofNat, show 255 % 2 ^ 32 = 2 ^ 8 - 1 by decide, Nat.and_two_pow_sub_one_eq_mod]
    omega
  have h2 : (iI a).toBitVec = BitVec.ofInt 32 a := rfl
  have h3 : (iI a &&& iI 255).toBitVec = (iI (a % 256)).toBitVec := by
    rw [Int32.toBitVec_and, show (iI 255).toBitVec = 255#32 by rfl, h1, h2, show (iI (a % 256)).toBitVec = BitVec.ofInt 32 (a % 256) from rfl]
    apply BitVec.eq_of_toNat_eq
    rw [BitVec.toNat_ofNat, BitVec.toNat_ofInt, BitVec.toNat_ofInt]
    have := Int.emod_nonneg a (show (256 : Int) ≠ 0 by decide)
    have := Int.emod_lt_of_pos a (show (0 : Int) < 256 by decide)
    have e1 : ((2 ^ 32 : Nat) : Int) = 4294967296 := by decide
    rw [e1, show (2 : Nat) ^ 32 = 4294967296 by decide]
    omega
  exact Int32.toBitVec_inj.mp h3
theorem bmod_mod (a : Int) : a.bmod 256 % 256 = a % 256 := by
  rw [Int.bmod_def]
  split <;> omega
section AwBits4
variable {d : Nat} {cd : List az_I} {rt : Option FieldType} {P : Option Value → az_S → Prop} {pc p' : Nat} {L : az_V} {st : List Value} {σ : az_S}
theorem aw_iand255 {a : Int} (hf : az_fetch cd pc = some (1, .iand, [])) (hp : pc + 1 = p') (h : aw d cd rt P p' L (.int (iI (a % 256)) :: st) σ) : aw d cd rt P pc L (.int (iI 255) :: .int (iI a) :: st) σ := by
  subst hp
  rw [← iI_and255] at h
  exact aw_nx hf (Nat.le_of_ble_eq_true rfl) ⟨_, _, st, rfl, rfl⟩ h
end AwBits4
theorem FX.f {sz : Nat} {σ : az_S} (h : FX sz σ) : FX sz σ := h
set_option maxRecDepth 10000 in
set_option maxHeartbeats 2000000 in
theorem c_days {d : Nat} {sz : Nat} {κ : Nat × (Nat → Int32) × Option Nat} {A : Nat → Int → Int} {g : Nat → Nat} {σ : az_S} (hC : CR sz κ A g σ) (hI : MI sz A) {n : Int} (hn : inI n) : cal (d + 1) 95 [.ref 0, .int (iI n)] σ (fun r τ => r = some (.int (iI (zit ((1 ≤ n ∧ n ≤ 400) ∧ A 42 3 + n ≤ 3599) (A 42 3 + n) (-1)))) ∧ CR sz κ (m_days_op A n) g τ ∧ Mod σ τ [0]) := by
  obtain ⟨hn1, hn2⟩ := hn
  have hcl := hI.clock
  refine cal_of (M := (yX11_days, cX11_days, 2, (some .int))) (cd := k_X11_days) (L := [some (.ref 0), some (.int (iI n))]) rfl (Nat.le_of_ble_eq_true rfl) rfl rfl ?_
  refine aw_iload_n rfl rfl rfl ?_
  refine aw_iconst rfl rfl ?_
  refine aw_icmp (p' := 24) rfl ⟨by omega, by omega⟩ ⟨by omega, by omega⟩ rfl rfl (fun c1 => ?_) (fun c1 => ?_)
  · dsimp only [zc] at c1
    refine aw_iconst rfl rfl ?_
    refine aw_reti rfl ?_
    refine ⟨?_, ?_, Mod.rf⟩
    · rw [zit_f (by omega)]
    · unfold m_days_op; rw [tit_f (by omega)]; exact hC
  · dsimp only [zc] at c1
    refine aw_iload_n rfl rfl rfl ?_
    refine aw_sipush rfl rfl rfl ?_
    refine aw_icmp (p' := 24) rfl ⟨by omega, by omega⟩ ⟨by omega, by omega⟩ rfl rfl (fun c2 => ?_) (fun c2 => ?_)
    · dsimp only [zc] at c2
      refine aw_iconst rfl rfl ?_
      refine aw_reti rfl ?_
      refine ⟨?_, ?_, Mod.rf⟩
      · rw [zit_f (by omega)]
      · unfold m_days_op; rw [tit_f (by omega)]; exact hC
    · dsimp only [zc] at c2
      refine aw_aload_n rfl rfl rfl ?_
      refine aw_gk (v := A 42 3) (15) rfl rfl (hC.f.k 0 rfl) rfl hC.today rfl (fun _ _ => ?_)
      refine aw_iload_n rfl rfl rfl ?_
      refine aw_iadd rfl rfl ?_
      refine aw_sipush rfl rfl rfl ?_
      refine aw_icmp (p' := 26) rfl ⟨by omega, by omega⟩ ⟨by omega, by omega⟩ rfl rfl (fun c3 => ?_) (fun c3 => ?_)
      · dsimp only [zc] at c3
        refine aw_aload_n rfl rfl rfl ?_
        refine aw_dup rfl rfl rfl ?_
        refine aw_gk (v := A 42 3) (15) rfl rfl (hC.f.k 0 rfl) rfl hC.today rfl (fun _ _ => ?_)
        refine aw_iload_n rfl rfl rfl ?_
        refine aw_iadd rfl rfl ?_
        refine aw_fs (15) rfl rfl (hC.f.k 0 rfl) rfl ⟨by omega, by omega⟩ rfl (fun τ4 hD4 hU4 hQ4 => ?_)
        have hM4 : FX sz τ4 := hD4.fx hC.f
        refine aw_aload_n rfl rfl rfl ?_
        refine aw_gk (v := (A 42 3 + n)) (15) rfl rfl (hM4.f.k 0 rfl) rfl (by rw [hU4, if_pos rfl]) rfl (fun _ _ => ?_)
        refine aw_reti rfl ?_
        refine ⟨?_, ?_, (hD4.su (T := [0]) rfl)⟩
        · rw [zit_t (by omega)]
        · unfold m_days_op; rw [tit_t (by omega)]; exact hC.days hI hU4 hD4
      · dsimp only [zc] at c3
        refine aw_iconst rfl rfl ?_
        refine aw_reti rfl ?_
        refine ⟨?_, ?_, Mod.rf⟩
        · rw [zit_f (by omega)]
        · unfold m_days_op; rw [tit_f (by omega)]; exact hC
set_option maxRecDepth 10000 in
set_option maxHeartbeats 2000000 in
theorem c_setSun {d : Nat} {sz : Nat} {κ : Nat × (Nat → Int32) × Option Nat} {A : Nat → Int → Int} {g : Nat → Nat} {σ : az_S} (hC : CR sz κ A g σ) (hI : MI sz A) {m h x y : Int} (hm0 : 0 ≤ m) (hm1 : m ≤ 11) (hh0 : 0 ≤ h) (hh1 : h ≤ 11) (hx0 : -300 ≤ x) (hx1 : x ≤ 300) (hy0 : -300 ≤ y) (hy1 : y ≤ 300) : cal (d + 1) 47 [.ref 1, .int (iI m), .int (iI h), .int (iI x), .int (iI y)] σ (fun r τ => r = none ∧ CR sz κ (up (up A 43 (12 * m + h) x) 44 (12 * m + h) y) g τ ∧ Mod σ τ [2, 3]) := by
  refine cal_of (M := (yX6_setSun, cX6_setSun, 6, none)) (cd := k_X6_setSun) (L := [some (.ref 1), some (.int (iI m)), some (.int (iI h)), some (.int (iI x)), some (.int (iI y)), none]) rfl (Nat.le_of_ble_eq_true rfl) rfl rfl ?_
  refine aw_iload_n rfl rfl rfl ?_
  refine aw_bipush rfl rfl rfl ?_
  refine aw_imul rfl rfl ?_
  refine aw_iload_n rfl rfl rfl ?_
  refine aw_iadd rfl rfl ?_
  refine aw_istore rfl (Nat.le_of_ble_eq_true rfl) rfl rfl ?_
  change aw _ _ _ _ 8 [some (.ref 1), some (.int (iI _)), some (.int (iI _)), some (.int (iI _)), some (.int (iI _)), some (.int (iI _))] _ _
  refine aw_iload rfl rfl rfl ?_
  refine aw_if (p' := 40) rfl ⟨by omega, by omega⟩ rfl rfl (fun c1 => ?_) (fun c1 => ?_)
  · dsimp only [zc] at c1
    omega
  · dsimp only [zc] at c1
    refine aw_iload rfl rfl rfl ?_
    refine aw_aload_n rfl rfl rfl ?_
    refine aw_getr (b := 2) rfl rfl (hC.f.k 1 rfl) (hC.f.r 1 0 2 rfl) rfl ?_
    refine aw_alen (N := 144) rfl (hC.f.s 2 rfl) (by decide) rfl ?_
    refine aw_icmp (p' := 40) rfl ⟨by omega, by omega⟩ ⟨by omega, by omega⟩ rfl rfl (fun c2 => ?_) (fun c2 => ?_)
    · dsimp only [zc] at c2
      omega
    · dsimp only [zc] at c2
      refine aw_aload_n rfl rfl rfl ?_
      refine aw_getr (b := 2) rfl rfl (hC.f.k 1 rfl) (hC.f.r 1 0 2 rfl) rfl ?_
      refine aw_iload rfl rfl rfl ?_
      refine aw_iload_n rfl rfl rfl ?_
      refine aw_ys (N := 144) rfl (hC.f.s 2 rfl) (by omega) (by omega) (by omega) ⟨by omega, by omega⟩ rfl (fun τ4 hD4 hU4 => ?_)
      have hM4 : FX sz τ4 := hD4.fx hC.f
      refine aw_aload_n rfl rfl rfl ?_
      refine aw_getr (b := 3) rfl rfl (hM4.f.k 1 rfl) (hM4.f.r 1 1 3 rfl) rfl ?_
      refine aw_iload rfl rfl rfl ?_
      refine aw_iload rfl rfl rfl ?_
      refine aw_ys (N := 144) rfl (hM4.f.s 3 rfl) (by omega) (by omega) (by omega) ⟨by omega, by omega⟩ rfl (fun τ6 hD6 hU6 => ?_)
      have hM6 : FX sz τ6 := hD6.fx hM4.f
      refine aw_retv rfl ?_
      refine ⟨rfl, ?_, ((hD4.su (T := [2, 3]) rfl).tr (hD6.su (T := [2, 3]) rfl))⟩
      rw [show 12 * m + h = m * 12 + h by omega]
      exact hC.sunc hI (fun w => by rw [hD6.z 2 rfl, hU4]) (fun w => by rw [hU6, hD4.z 3 rfl]) ((hD4.su (T := [2, 3]) rfl).tr (hD6.su (T := [2, 3]) rfl))
set_option maxRecDepth 10000 in
set_option maxHeartbeats 2000000 in
theorem c_sun {d : Nat} {sz : Nat} {κ : Nat × (Nat → Int32) × Option Nat} {A : Nat → Int → Int} {g : Nat → Nat} {σ : az_S} (hC : CR sz κ A g σ) (hI : MI sz A) {m : Int} (hm : inI m) {h : Int} (hh : inI h) {x : Int} (hx : inI x) {y : Int} (hy : inI y) : cal (d + 2) 96 [.ref 0, .int (iI m), .int (iI h), .int (iI x), .int (iI y)] σ (fun r τ => r = some (.int (iI (bI ((0 ≤ m ∧ m ≤ 11) ∧ (0 ≤ h ∧ h ≤ 11) ∧ (-300 ≤ x ∧ x ≤ 300) ∧ (-300 ≤ y ∧ y ≤ 300))))) ∧ CR sz κ (m_sun_op A m h x y) g τ ∧ Mod σ τ [2, 3]) := by
  obtain ⟨hm1, hm2⟩ := hm
  obtain ⟨hh1, hh2⟩ := hh
  obtain ⟨hx1, hx2⟩ := hx
  obtain ⟨hy1, hy2⟩ := hy
  refine cal_of (M := (yX11_sun, cX11_sun, 5, (some .boolean))) (cd := k_X11_sun) (L := [some (.ref 0), some (.int (iI m)), some (.int (iI h)), some (.int (iI x)), some (.int (iI y))]) rfl (Nat.le_of_ble_eq_true rfl) rfl rfl ?_
  refine aw_iload_n rfl rfl rfl ?_
  refine aw_if (p' := 17) rfl ⟨by omega, by omega⟩ rfl rfl (fun c1 => ?_) (fun c1 => ?_)
  · dsimp only [zc] at c1
    refine aw_iconst rfl rfl ?_
    refine aw_retn rfl rfl ?_
    refine ⟨?_, ?_, Mod.rf⟩
    · rw [bI_f (by omega)]
    · unfold m_sun_op; rw [tit_f (by omega)]; exact hC
  · dsimp only [zc] at c1
    refine aw_iload_n rfl rfl rfl ?_
    refine aw_bipush rfl rfl rfl ?_
    refine aw_icmp (p' := 17) rfl ⟨by omega, by omega⟩ ⟨by omega, by omega⟩ rfl rfl (fun c2 => ?_) (fun c2 => ?_)
    · dsimp only [zc] at c2
      refine aw_iconst rfl rfl ?_
      refine aw_retn rfl rfl ?_
      refine ⟨?_, ?_, Mod.rf⟩
      · rw [bI_f (by omega)]
      · unfold m_sun_op; rw [tit_f (by omega)]; exact hC
    · dsimp only [zc] at c2
      refine aw_iload_n rfl rfl rfl ?_
      refine aw_fnc (c_isHour ⟨by omega, by omega⟩) rfl rfl rfl (Nat.le_of_ble_eq_true rfl) (Or.inl rfl) rfl ?_
      refine aw_ifneb (p' := 19) rfl rfl rfl (fun c3 => ?_) (fun c3 => ?_)
      · refine aw_iload_n rfl rfl rfl ?_
        refine aw_sipush rfl rfl rfl ?_
        refine aw_fnc (c_isWithin ⟨by omega, by omega⟩ (by omega) (by omega)) rfl rfl rfl (Nat.le_of_ble_eq_true rfl) (Or.inl rfl) rfl ?_
        refine aw_ifeqb (p' := 40) rfl rfl rfl (fun c4 => ?_) (fun c4 => ?_)
        · refine aw_iconst rfl rfl ?_
          refine aw_retn rfl rfl ?_
          refine ⟨?_, ?_, Mod.rf⟩
          · rw [bI_f (by omega)]
          · unfold m_sun_op; rw [tit_f (by omega)]; exact hC
        · refine aw_iload rfl rfl rfl ?_
          refine aw_sipush rfl rfl rfl ?_
          refine aw_fnc (c_isWithin ⟨by omega, by omega⟩ (by omega) (by omega)) rfl rfl rfl (Nat.le_of_ble_eq_true rfl) (Or.inl rfl) rfl ?_
          refine aw_ifneb (p' := 42) rfl rfl rfl (fun c5 => ?_) (fun c5 => ?_)
          · refine aw_aload_n rfl rfl rfl ?_
            refine aw_getr (b := 1) rfl rfl (hC.f.k 0 rfl) (hC.f.r 0 1 1 rfl) rfl ?_
            refine aw_iload_n rfl rfl rfl ?_
            refine aw_iload_n rfl rfl rfl ?_
            refine aw_iload_n rfl rfl rfl ?_
            refine aw_iload rfl rfl rfl ?_
            refine aw_calc (c_setSun hC hI (by omega) (by omega) (by omega) (by omega) (by omega) (by omega) (by omega) (by omega)) rfl rfl rfl (Nat.le_of_ble_eq_true rfl) (Or.inr ⟨_, rfl, (hC.f.k 1 rfl)⟩) rfl ?_
            rintro _ τ6 ⟨rfl, hM6, hD6⟩
            change aw _ _ _ _ 54 [some (.ref 0), some (.int (iI _)), some (.int (iI _)), some (.int (iI _)), some (.int (iI _))] [] _
            refine aw_iconst rfl rfl ?_
            refine aw_retn rfl rfl ?_
            refine ⟨?_, ?_, (hD6.su (T := [2, 3]) rfl)⟩
            · rw [bI_t (by omega)]
            · unfold m_sun_op; rw [tit_t (by omega)]; exact hM6
          · refine aw_iconst rfl rfl ?_
            refine aw_retn rfl rfl ?_
            refine ⟨?_, ?_, Mod.rf⟩
            · rw [bI_f (by omega)]
            · unfold m_sun_op; rw [tit_f (by omega)]; exact hC
      · refine aw_iconst rfl rfl ?_
        refine aw_retn rfl rfl ?_
        refine ⟨?_, ?_, Mod.rf⟩
        · rw [bI_f (by omega)]
        · unfold m_sun_op; rw [tit_f (by omega)]; exact hC
set_option maxRecDepth 10000 in
set_option maxHeartbeats 2000000 in
theorem c_addCloud {d : Nat} {sz : Nat} {κ : Nat × (Nat → Int32) × Option Nat} {A : Nat → Int → Int} {g : Nat → Nat} {σ : az_S} (hC : CR sz κ A g σ) (hI : MI sz A) {x h : Int} (hx0 : 0 ≤ x) (hx1 : x ≤ 3599) (hh0 : 0 ≤ h) (hh1 : h ≤ 11) : cal (d + 1) 51 [.ref 1, .int (iI x), .int (iI h)] σ (fun r τ => r = some (.int (iI (zit (A 42 6 ≠ 60) (A 42 6 + 1) (-1)))) ∧ CR sz κ (tit (A 42 6 ≠ 60) (up (up (up A 45 (A 42 6) x) 46 (A 42 6) h) 42 6 (A 42 6 + 1)) A) g τ ∧ Mod σ τ [1, 4]) := by
  have hcl := hI.clouds
  refine cal_of (M := (yX6_addCloud, cX6_addCloud, 3, (some .int))) (cd := k_X6_addCloud) (L := [some (.ref 1), some (.int (iI x)), some (.int (iI h))]) rfl (Nat.le_of_ble_eq_true rfl) rfl rfl ?_
  refine aw_aload_n rfl rfl rfl ?_
  refine aw_gk (v := A 42 6) (3) rfl rfl (hC.f.k 1 rfl) rfl hC.clouds rfl (fun _ _ => ?_)
  refine aw_if (p' := 19) rfl ⟨by omega, by omega⟩ rfl rfl (fun c1 => ?_) (fun c1 => ?_)
  · dsimp only [zc] at c1
    omega
  · dsimp only [zc] at c1
    refine aw_aload_n rfl rfl rfl ?_
    refine aw_gk (v := A 42 6) (3) rfl rfl (hC.f.k 1 rfl) rfl hC.clouds rfl (fun _ _ => ?_)
    refine aw_aload_n rfl rfl rfl ?_
    refine aw_getr (b := 4) rfl rfl (hC.f.k 1 rfl) (hC.f.r 1 2 4 rfl) rfl ?_
    refine aw_alen (N := 60) rfl (hC.f.s 4 rfl) (by decide) rfl ?_
    refine aw_icmp (p' := 21) rfl ⟨by omega, by omega⟩ ⟨by omega, by omega⟩ rfl rfl (fun c2 => ?_) (fun c2 => ?_)
    · dsimp only [zc] at c2
      refine aw_aload_n rfl rfl rfl ?_
      refine aw_getr (b := 4) rfl rfl (hC.f.k 1 rfl) (hC.f.r 1 2 4 rfl) rfl ?_
      refine aw_aload_n rfl rfl rfl ?_
      refine aw_gk (v := A 42 6) (3) rfl rfl (hC.f.k 1 rfl) rfl hC.clouds rfl (fun _ _ => ?_)
      refine aw_iload_n rfl rfl rfl ?_
      refine aw_bipush rfl rfl rfl ?_
      refine aw_imul rfl rfl ?_
      refine aw_iload_n rfl rfl rfl ?_
      refine aw_iadd rfl rfl ?_
      refine aw_ys (N := 60) rfl (hC.f.s 4 rfl) (by omega) (by omega) (by omega) ⟨by omega, by omega⟩ rfl (fun τ4 hD4 hU4 => ?_)
      have hM4 : FX sz τ4 := hD4.fx hC.f
      refine aw_aload_n rfl rfl rfl ?_
      refine aw_dup rfl rfl rfl ?_
      refine aw_gk (v := (A 42 6)) (3) rfl rfl (hM4.f.k 1 rfl) rfl (by rw [hD4.z 1 rfl]; exact hC.clouds) rfl (fun _ _ => ?_)
      refine aw_iconst rfl rfl ?_
      refine aw_iadd rfl rfl ?_
      refine aw_fs (3) rfl rfl (hM4.f.k 1 rfl) rfl ⟨by omega, by omega⟩ rfl (fun τ5 hD5 hU5 hQ5 => ?_)
      have hM5 : FX sz τ5 := hD5.fx hM4.f
      refine aw_aload_n rfl rfl rfl ?_
      refine aw_gk (v := (A 42 6 + 1)) (3) rfl rfl (hM5.f.k 1 rfl) rfl (by rw [hU5, if_pos rfl]) rfl (fun _ _ => ?_)
      refine aw_reti rfl ?_
      refine ⟨?_, ?_, ((hD4.su (T := [1, 4]) rfl).tr (hD5.su (T := [1, 4]) rfl))⟩
      · rw [zit_t (by omega)]
      · rw [tit_t (by omega)]; exact hC.cloudc hI (fun w => by rw [hD5.z 4 rfl, hU4]) (fun w => by rw [hU5, hD4.z 1 rfl]) ((hD4.su (T := [1, 4]) rfl).tr (hD5.su (T := [1, 4]) rfl))
    · dsimp only [zc] at c2
      refine aw_iconst rfl rfl ?_
      refine aw_reti rfl ?_
      refine ⟨?_, ?_, Mod.rf⟩
      · rw [zit_f (by omega)]
      · rw [tit_f (by omega)]; exact hC
set_option maxRecDepth 10000 in
set_option maxHeartbeats 2000000 in
theorem c_cloud {d : Nat} {sz : Nat} {κ : Nat × (Nat → Int32) × Option Nat} {A : Nat → Int → Int} {g : Nat → Nat} {σ : az_S} (hC : CR sz κ A g σ) (hI : MI sz A) {x : Int} (hx : inI x) {h : Int} (hh : inI h) : cal (d + 2) 97 [.ref 0, .int (iI x), .int (iI h)] σ (fun r τ => r = some (.int (iI (zit ((0 ≤ x ∧ x ≤ 3599) ∧ (0 ≤ h ∧ h ≤ 11) ∧ ¬ mCloud A x h ∧ A 42 6 ≠ 60) (A 42 6 + 1) (-1)))) ∧ CR sz κ (m_cloud_op A x h) g τ ∧ Mod σ τ [1, 4]) := by
  obtain ⟨hx1, hx2⟩ := hx
  obtain ⟨hh1, hh2⟩ := hh
  refine cal_of (M := (yX11_cloud, cX11_cloud, 3, (some .int))) (cd := k_X11_cloud) (L := [some (.ref 0), some (.int (iI x)), some (.int (iI h))]) rfl (Nat.le_of_ble_eq_true rfl) rfl rfl ?_
  refine aw_iload_n rfl rfl rfl ?_
  refine aw_fnc (c_isDay ⟨by omega, by omega⟩) rfl rfl rfl (Nat.le_of_ble_eq_true rfl) (Or.inl rfl) rfl ?_
  refine aw_ifeqb (p' := 26) rfl rfl rfl (fun c1 => ?_) (fun c1 => ?_)
  · refine aw_iconst rfl rfl ?_
    refine aw_reti rfl ?_
    refine ⟨?_, ?_, Mod.rf⟩
    · rw [zit_f]; rintro ⟨q1, q2, q3, q4⟩; first | omega | exact q3 (by assumption)
    · unfold m_cloud_op; rw [tit_f]; exact hC; rintro ⟨q1, q2, q3, q4⟩; first | omega | exact q3 (by assumption)
  · refine aw_iload_n rfl rfl rfl ?_
    refine aw_fnc (c_isHour ⟨by omega, by omega⟩) rfl rfl rfl (Nat.le_of_ble_eq_true rfl) (Or.inl rfl) rfl ?_
    refine aw_ifeqb (p' := 26) rfl rfl rfl (fun c2 => ?_) (fun c2 => ?_)
    · refine aw_iconst rfl rfl ?_
      refine aw_reti rfl ?_
      refine ⟨?_, ?_, Mod.rf⟩
      · rw [zit_f]; rintro ⟨q1, q2, q3, q4⟩; first | omega | exact q3 (by assumption)
      · unfold m_cloud_op; rw [tit_f]; exact hC; rintro ⟨q1, q2, q3, q4⟩; first | omega | exact q3 (by assumption)
    · refine aw_aload_n rfl rfl rfl ?_
      refine aw_getr (b := 1) rfl rfl (hC.f.k 0 rfl) (hC.f.r 0 1 1 rfl) rfl ?_
      refine aw_iload_n rfl rfl rfl ?_
      refine aw_iload_n rfl rfl rfl ?_
      refine aw_fnc (c_isClouded hC hI (by omega) (by omega) (by omega) (by omega)) rfl rfl rfl (Nat.le_of_ble_eq_true rfl) (Or.inr ⟨_, rfl, (hC.f.k 1 rfl)⟩) rfl ?_
      refine aw_ifeqb (p' := 28) rfl rfl rfl (fun c3 => ?_) (fun c3 => ?_)
      · refine aw_aload_n rfl rfl rfl ?_
        refine aw_getr (b := 1) rfl rfl (hC.f.k 0 rfl) (hC.f.r 0 1 1 rfl) rfl ?_
        refine aw_iload_n rfl rfl rfl ?_
        refine aw_iload_n rfl rfl rfl ?_
        refine aw_calc (c_addCloud hC hI (by omega) (by omega) (by omega) (by omega)) rfl rfl rfl (Nat.le_of_ble_eq_true rfl) (Or.inr ⟨_, rfl, (hC.f.k 1 rfl)⟩) rfl ?_
        rintro _ τ4 ⟨rfl, hM4, hD4⟩
        change aw _ _ _ _ 37 [some (.ref 0), some (.int (iI _)), some (.int (iI _))] [.int (iI _)] _
        refine aw_reti rfl ?_
        by_cases q : A 42 6 ≠ 60
        · refine ⟨?_, ?_, (hD4.su (T := [1, 4]) rfl)⟩
          · rw [zit_t q, zit_t ⟨by omega, by omega, by assumption, q⟩]
          · unfold m_cloud_op; rw [tit_t ⟨by omega, by omega, by assumption, q⟩]; rw [tit_t q] at hM4; exact hM4
        · refine ⟨?_, ?_, (hD4.su (T := [1, 4]) rfl)⟩
          · rw [zit_f q, zit_f (fun e => q e.2.2.2)]
          · unfold m_cloud_op; rw [tit_f (fun e => q e.2.2.2)]; rw [tit_f q] at hM4; exact hM4
      · refine aw_iconst rfl rfl ?_
        refine aw_reti rfl ?_
        refine ⟨?_, ?_, Mod.rf⟩
        · rw [zit_f]; rintro ⟨q1, q2, q3, q4⟩; first | omega | exact q3 (by assumption)
        · unfold m_cloud_op; rw [tit_f]; exact hC; rintro ⟨q1, q2, q3, q4⟩; first | omega | exact q3 (by assumption)
set_option maxRecDepth 10000 in
set_option maxHeartbeats 2000000 in
theorem c_died {d : Nat} {sz : Nat} {κ : Nat × (Nat → Int32) × Option Nat} {A : Nat → Int → Int} {g : Nat → Nat} {σ : az_S} (hC : CR sz κ A g σ) (hI : MI sz A) {p : Int} (hp : inI p) {x : Int} (hx : inI x) : cal (d + 4) 99 [.ref 0, .int (iI p), .int (iI x)] σ (fun r τ => r = some (.int (iI (bI ((0 ≤ p ∧ p ≤ A 42 9 - 1) ∧ (0 ≤ x ∧ x ≤ A 42 3) ∧ A 47 p < 0)))) ∧ CR sz κ (m_died_op A p x) g τ ∧ (τ = σ ∨ (0 ≤ p ∧ p < A 42 9 ∧ Mod σ τ [gP g p]))) := by
  obtain ⟨hp1, hp2⟩ := hp
  obtain ⟨hx1, hx2⟩ := hx
  have hpe := hI.people
  have hcl := hI.clock
  refine cal_of (M := (yX11_died, cX11_died, 4, (some .boolean))) (cd := k_X11_died) (L := [some (.ref 0), some (.int (iI p)), some (.int (iI x)), none]) rfl (Nat.le_of_ble_eq_true rfl) rfl rfl ?_
  refine aw_aload_n rfl rfl rfl ?_
  refine aw_iload_n rfl rfl rfl ?_
  refine aw_fnc (c_isPerson hC hI ⟨by omega, by omega⟩) rfl rfl rfl (Nat.le_of_ble_eq_true rfl) (Or.inr ⟨_, rfl, (hC.f.k 0 rfl)⟩) rfl ?_
  refine aw_ifeqb (p' := 20) rfl rfl rfl (fun c1 => ?_) (fun c1 => ?_)
  · refine aw_iconst rfl rfl ?_
    refine aw_retn rfl rfl ?_
    refine ⟨?_, ?_, Or.inl rfl⟩
    · rw [bI_f (by omega)]
    · unfold m_died_op; rw [tit_f (by omega)]; exact hC
  · refine aw_iload_n rfl rfl rfl ?_
    refine aw_if (p' := 20) rfl ⟨by omega, by omega⟩ rfl rfl (fun c2 => ?_) (fun c2 => ?_)
    · dsimp only [zc] at c2
      refine aw_iconst rfl rfl ?_
      refine aw_retn rfl rfl ?_
      refine ⟨?_, ?_, Or.inl rfl⟩
      · rw [bI_f (by omega)]
      · unfold m_died_op; rw [tit_f (by omega)]; exact hC
    · dsimp only [zc] at c2
      refine aw_iload_n rfl rfl rfl ?_
      refine aw_aload_n rfl rfl rfl ?_
      refine aw_gk (v := A 42 3) (15) rfl rfl (hC.f.k 0 rfl) rfl hC.today rfl (fun _ _ => ?_)
      refine aw_icmp (p' := 22) rfl ⟨by omega, by omega⟩ ⟨by omega, by omega⟩ rfl rfl (fun c3 => ?_) (fun c3 => ?_)
      · dsimp only [zc] at c3
        refine aw_aload_n rfl rfl rfl ?_
        refine aw_getr (b := 5) rfl rfl (hC.f.k 0 rfl) (hC.f.r 0 2 5 rfl) rfl ?_
        refine aw_iload_n rfl rfl rfl ?_
        refine aw_fnc (c_get (hC.f.k 5 rfl) hC.lP (by omega) (by omega) (by omega)) rfl rfl rfl (Nat.le_of_ble_eq_true rfl) (Or.inr ⟨_, rfl, (hC.f.k 5 rfl)⟩) rfl ?_
        refine aw_cast rfl rfl (hC.kP (by omega) (by omega)) rfl ?_
        refine aw_astore_n rfl (Nat.le_of_ble_eq_true rfl) rfl rfl ?_
        change aw _ _ _ _ 34 [some (.ref 0), some (.int (iI _)), some (.int (iI _)), some (.ref (gP g p))] _ _
        have hpn := hI.person p (by omega) (by omega)
        refine aw_aload_n rfl rfl rfl ?_
        refine aw_gk (v := (A 47 p)) (0) rfl rfl (hC.kP (by omega) (by omega)) rfl (hC.P0 (by omega) (by omega)) rfl (fun _ _ => ?_)
        refine aw_iconst rfl rfl ?_
        refine aw_icmp (p' := 44) rfl ⟨by omega, by omega⟩ ⟨by omega, by omega⟩ rfl rfl (fun c4 => ?_) (fun c4 => ?_)
        · dsimp only [zc] at c4
          have hl := (hC.lv hI).1 p (by omega) (by omega)
          have hX0 : CX sz κ A g [gP g p] σ σ := ⟨hC, Mod.rf, by simp; omega⟩
          refine aw_aload_n rfl rfl rfl ?_
          refine aw_iload_n rfl rfl rfl ?_
          refine aw_xf (0) hX0 rfl rfl (hC.kP (by omega) (by omega)) rfl (by simp) ⟨by omega, by omega⟩ rfl (fun τ5 hM5 hD5 hU5 => ?_)
          refine aw_aload_n rfl rfl rfl ?_
          refine aw_aload_n rfl rfl rfl ?_
          refine aw_gk (v := A 42 3) (15) rfl rfl (hM5.f.k 0 rfl) rfl hM5.today rfl (fun _ _ => ?_)
          refine aw_xf (1) hM5 rfl rfl (hM5.kP (by omega) (by omega)) rfl (by simp) ⟨by omega, by omega⟩ rfl (fun τ6 hM6 hD6 hU6 => ?_)
          refine aw_iconst rfl rfl ?_
          refine aw_retn rfl rfl ?_
          refine ⟨?_, ?_, Or.inr ⟨by omega, by omega, hM6.2.1⟩⟩
          · rw [bI_t (by omega)]
          · unfold m_died_op; rw [tit_t (by omega)]; exact hC.diedc hI (by omega) (by omega) hM6.2.1 (fun w => by rw [hU6, hU5])
        · dsimp only [zc] at c4
          refine aw_iconst rfl rfl ?_
          refine aw_retn rfl rfl ?_
          refine ⟨?_, ?_, Or.inl rfl⟩
          · rw [bI_f (by omega)]
          · unfold m_died_op; rw [tit_f (by omega)]; exact hC
      · dsimp only [zc] at c3
        refine aw_iconst rfl rfl ?_
        refine aw_retn rfl rfl ?_
        refine ⟨?_, ?_, Or.inl rfl⟩
        · rw [bI_f (by omega)]
        · unfold m_died_op; rw [tit_f (by omega)]; exact hC
