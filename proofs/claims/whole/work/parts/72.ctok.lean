/-! THE CLASS'S TOKENS -/
def cb (a : Nat) : Bool := ca a || Nat.beq a 9 || (Nat.ble 16 a && Nat.ble a 27)
theorem cb_lt {a : Nat} (h : cb a = true) : a < 103 := by
  unfold cb at h
  rw [Bool.or_eq_true, Bool.or_eq_true, Bool.and_eq_true] at h
  rcases h with (h | h) | ⟨h, k⟩
  · exact ca_lt h
  · have := Nat.eq_of_beq_eq_true h
    omega
  · have := Nat.le_of_ble_eq_true k
    omega
set_option maxHeartbeats 1000000 in
theorem CR.mod3 {sz : Nat} {κ : Nat × (Nat → Int32) × Option Nat} {A : Nat → Int → Int} {g : Nat → Nat} {σ : az_S} {τ : az_S} {S : List Nat} (h : CR sz κ A g σ) (hI : MI sz A) (hd : Mod σ τ S) (hs : S.all cb = true) (h9 : zx τ 9 1 = zx σ 9 1) : CR sz κ A g τ := by
  have hlo : ∀ a, a ∈ S → cb a = true := fun a ha => List.all_eq_true.mp hs a ha
  have hfx : ∀ a, cb a = false → a ∉ S := fun a ha q => by rw [hlo a q] at ha; cases ha
  have hbig : ∀ a, 103 ≤ a → a ∉ S := fun a ha q => by have := cb_lt (hlo a q); omega
  have e0 := hd.nz (hfx 0 rfl)
  have e1 := hd.nz (hfx 1 rfl)
  have e2 := hd.nz (hfx 2 rfl)
  have e3 := hd.nz (hfx 3 rfl)
  have e4 := hd.nz (hfx 4 rfl)
  have e5 := hd.nz (hfx 5 rfl)
  have e6 := hd.nz (hfx 6 rfl)
  have e7 := hd.nz (hfx 7 rfl)
  have e8 := hd.nz (hfx 8 rfl)
  have e10 := hd.nz (hfx 10 rfl)
  have e28 := hd.nz (hfx 28 rfl)
  have e33 := hd.nz (hfx 33 rfl)
  have e34 := hd.nz (hfx 34 rfl)
  have q33 : zq τ 33 = zq σ 33 := by
    funext w
    unfold zq
    rw [hd.2.2.2.2.2 33 (hfx 33 rfl)]
  have en : az_n τ = az_n σ := hd.1
  have er := hd.2.2.2.1
  have es := hd.2.2.1
  have hth := hI.things
  have hpe := hI.people
  have hgr := hI.grants
  have hst := hI.stalls
  have zP : ∀ j : Int, 0 ≤ j → j < A 42 9 → zx τ (gP g j) = zx σ (gP g j) := fun j h0 h1 => hd.nz (hbig _ (h.pl (200 + j.toNat) (by unfold live; omega)).1)
  have zT : ∀ j : Int, 0 ≤ j → j < A 42 12 → zx τ (gT g j) = zx σ (gT g j) := fun j h0 h1 => hd.nz (hbig _ (h.pl (300 + 4 * j.toNat) (by unfold live; omega)).1)
  have zTd : ∀ j : Int, 0 ≤ j → j < A 42 12 → zx τ (gTd g j) = zx σ (gTd g j) := fun j h0 h1 => hd.nz (hbig _ (h.pl (301 + 4 * j.toNat) (by unfold live; omega)).1)
  have zTh : ∀ j : Int, 0 ≤ j → j < A 42 12 → zx τ (gTh g j) = zx σ (gTh g j) := fun j h0 h1 => hd.nz (hbig _ (h.pl (302 + 4 * j.toNat) (by unfold live; omega)).1)
  have zTt : ∀ j : Int, 0 ≤ j → j < A 42 12 → zx τ (gTt g j) = zx σ (gTt g j) := fun j h0 h1 => hd.nz (hbig _ (h.pl (303 + 4 * j.toNat) (by unfold live; omega)).1)
  have zG : ∀ j : Int, 0 ≤ j → j < A 42 27 → zx τ (gG g j) = zx σ (gG g j) := fun j h0 h1 => hd.nz (hbig _ (h.pl (400 + j.toNat) (by unfold live; omega)).1)
  have zS : ∀ j : Int, 0 ≤ j → j < A 42 66 → zx τ (gS g j) = zx σ (gS g j) := fun j h0 h1 => hd.nz (hbig _ (h.pl (500 + 2 * j.toNat) (by unfold live; omega)).1)
  have zSp : ∀ j : Int, 0 ≤ j → j < A 42 66 → zx τ (gSp g j) = zx σ (gSp g j) := fun j h0 h1 => hd.nz (hbig _ (h.pl (501 + 2 * j.toNat) (by unfold live; omega)).1)
  refine ⟨hd.fx h.f, ?_, ?_, ?_, ?_, ?_, ?_, ?_, ?_, ?_, ?_, ?_, ?_, h.lP.mod e5 er es hd.1, h.lT.mod e6 er es hd.1, h.lG.mod e7 er es hd.1, h.lS.mod e8 er es hd.1, ?_, h.inj, h.inq, ?_, ?_, ?_, ?_, ?_⟩
  · intro a ha
    rw [es, er, hd.2.2.2.2.1 a (hbig a (by omega))]
    exact h.k a ha
  · rw [en]; exact h.n
  · rw [e0]; exact h.today
  · rw [e28]; exact h.ground
  · rw [e1]; exact h.clouds
  · rw [e2, e3]; exact h.sun
  · rw [e4]; exact h.cld
  · rw [e0]; exact h.fault
  · exact ⟨h9.trans h.tape.1, by rw [e10]; exact h.tape.2⟩
  · rw [e33, q33, e34]; exact h.path
  · rw [er]; exact h.route
  · rw [er]; exact h.force
  · rw [en]; exact h.pl
  · intro j h0 h1; unfold CP; rw [es, zP j h0 h1]; exact h.person j h0 h1
  · intro j h0 h1; unfold CT; rw [es, er, zT j h0 h1, zTd j h0 h1, zTh j h0 h1, zTt j h0 h1]; exact h.thing j h0 h1
  · intro j h0 h1; unfold CG; rw [es, er, zG j h0 h1]; exact h.grant j h0 h1
  · intro j h0 h1; unfold CS; rw [es, er, zS j h0 h1, zSp j h0 h1]; exact h.stall j h0 h1
  · rw [en]; exact h.lim
section AwRulesTk
variable {d : Nat} {cd : List az_I} {rt : Option FieldType} {P : Option Value → az_S → Prop} {pc p' : Nat} {L : az_V} {st : List Value} {σ : az_S} {sz : Nat} {κ : Nat × (Nat → Int32) × Option Nat} {A : Nat → Int → Int} {g : Nat → Nat}
theorem aw_c9 {i ci k a : Nat} {x : Int} (j : Int) (hC : CR sz κ A g σ) (hI : MI sz A) (hf : az_fetch cd pc = some (3, .putfield i, [ci, k])) (hk : az_ft ci k = 0) (hs : (az_sh σ a).1 = ci) (hj : j = (k : Int)) (hq : [a].all cb = true) (h1 : j ≠ 1) (hx : inI x) (hp : pc + 3 = p') (h : ∀ τ, CR sz κ A g τ → Mod σ τ [a] → (∀ w, zx τ a w = if w = j then x else zx σ a w) → aw d cd rt P p' L st τ) : aw d cd rt P pc L (.int (iI x) :: .ref a :: st) σ :=
  aw_fs j hf hk hs hj hx hp (fun τ hd hz _ => h τ (hC.mod3 hI hd hq (by
    by_cases e : a = 9
    · subst e; rw [hz, if_neg (fun q => h1 q.symm)]
    · rw [hd.nz (fun q => e (List.mem_singleton.mp q).symm)])) hd hz)
theorem aw_ct {a N : Nat} {z x : Int} (hC : CR sz κ A g σ) (hI : MI sz A) (hf : az_fetch cd pc = some (1, .iastore, [])) (hs : az_sh σ a = (100, N)) (hN : N ≤ 10000) (hq : [a].all cb = true) (h9 : a ≠ 9) (h0 : 0 ≤ z) (hj : z < N) (hx : inI x) (hp : pc + 1 = p') (h : ∀ τ, CR sz κ A g τ → Mod σ τ [a] → (∀ w, zx τ a w = if w = z then x else zx σ a w) → aw d cd rt P p' L st τ) : aw d cd rt P pc L (.int (iI x) :: .int (iI z) :: .ref a :: st) σ := by
  have hd : Mod σ (az_pi σ a z.toNat (iI x)) [a] := Mod_pi (by simp)
  refine aw_sz hf hs hN h0 hj hp (h _ (hC.mod3 hI hd hq (by rw [hd.nz (fun q => h9 (List.mem_singleton.mp q).symm)])) hd (fun w => ?_))
  rw [zx_pi h0 hx]
  simp
theorem aw_tsd2 {z dflt lo hi : Int} {offs : Array Int} {len : Nat} (hf : az_fetch cd pc = some (len, .tableswitch dflt lo hi offs, [])) (hz : inI z) (hl : (z < lo ∨ hi < z) ∨ (lo ≤ z ∧ z ≤ hi ∧ offs[(z - lo).toNat]? = some dflt)) (hp : az_j pc dflt = p') (h1 : aw d cd rt P p' L st σ) : aw d cd rt P pc L (.int (iI z) :: st) σ := by
  rcases hl with hl | ⟨hl, hl2, hl3⟩
  · exact aw_tsd hf hz hl hp h1
  · subst hp
    refine aw_nx hf (Nat.le_of_ble_eq_true rfl) ⟨_, st, rfl, Or.inr ⟨dflt, ?_, ?_, ?_, rfl⟩⟩ h1
    · rw [iI_toInt hz]; omega
    · rw [iI_toInt hz]; omega
    · rw [iI_toInt hz]; exact hl3
end AwRulesTk
def tsK : Array Int := #[260, 293, 293, 293, 293, 275, 278, 269, 263, 287, 266, 293, 272, 293, 293, 293, 293, 293, 293, 293, 293, 293, 293, 293, 290, 251, 257, 254, 293, 293, 293, 293, 293, 293, 293, 293, 293, 293, 293, 293, 293, 293, 293, 293, 293, 293, 293, 293, 293, 293, 293, 293, 293, 293, 293, 293, 281, 293, 284]
theorem ts_n : ∀ n : Nat, n < 59 → n ≠ 0 ∧ n ≠ 5 ∧ n ≠ 6 ∧ n ≠ 7 ∧ n ≠ 8 ∧ n ≠ 9 ∧ n ≠ 10 ∧ n ≠ 12 ∧ n ≠ 24 ∧ n ≠ 25 ∧ n ≠ 26 ∧ n ≠ 27 ∧ n ≠ 56 ∧ n ≠ 58 → tsK[n]? = some 293 := by decide
theorem ts_k {x : Int} (h : x ≠ 35 ∧ x ≠ 40 ∧ x ≠ 41 ∧ x ≠ 42 ∧ x ≠ 43 ∧ x ≠ 44 ∧ x ≠ 45 ∧ x ≠ 47 ∧ x ≠ 59 ∧ x ≠ 60 ∧ x ≠ 61 ∧ x ≠ 62 ∧ x ≠ 91 ∧ x ≠ 93) : (x < 35 ∨ 93 < x) ∨ (35 ≤ x ∧ x ≤ 93 ∧ tsK[(x - 35).toNat]? = some 293) := by
  by_cases q : x < 35 ∨ 93 < x
  · exact Or.inl q
  · exact Or.inr ⟨by omega, by omega, ts_n _ (by omega) (by omega)⟩
def bA (A : Nat → Int → Int) (i : Int) : Int := if 0 ≤ i ∧ i < A 42 40 then A 74 i % 256 else -1
theorem bA_i {A : Nat → Int → Int} {i : Int} (h0 : 0 ≤ i) (h1 : i < A 42 40) : bA A i = A 74 i % 256 := if_pos ⟨h0, h1⟩
theorem bA_o {A : Nat → Int → Int} {i : Int} (h : ¬ (0 ≤ i ∧ i < A 42 40)) : bA A i = -1 := if_neg h
theorem bA_r (A : Nat → Int → Int) (i : Int) : -1 ≤ bA A i ∧ bA A i ≤ 255 := by unfold bA; split <;> omega
theorem isL_m {x : Int} (h0 : -128 ≤ x) (h1 : x ≤ 127) : isL (x % 256) ↔ isL x := by unfold isL; omega
set_option maxRecDepth 10000 in
set_option maxHeartbeats 2000000 in
theorem c_byteAt {d : Nat} {sz : Nat} {κ : Nat × (Nat → Int32) × Option Nat} {A : Nat → Int → Int} {g : Nat → Nat} {σ : az_S} (hC : CR sz κ A g σ) (hI : MI sz A) {i : Int} (hi : inI i) : fn (d + 1) 63 [.ref 9, .int (iI i)] σ (.int (iI (bA A i))) := by
  have htp := hI.taped
  obtain ⟨hi1, hi2⟩ := hi
  refine fn_of (M := (yX8_byteAt, cX8_byteAt, 2, (some .int))) (cd := k_X8_byteAt) (L := [some (.ref 9), some (.int (iI i))]) rfl (Nat.le_of_ble_eq_true rfl) rfl rfl ?_
  refine aw_iload_n rfl rfl rfl ?_
  refine aw_if (p' := 30) rfl ⟨by omega, by omega⟩ rfl rfl (fun c1 => ?_) (fun c1 => ?_)
  · dsimp only [zc] at c1
    refine aw_iconst rfl rfl ?_
    refine aw_reti rfl ?_
    refine ⟨?_, rfl⟩
    first | rw [bA_i (by omega) (by omega)] | rw [bA_o (by omega)]
  · dsimp only [zc] at c1
    refine aw_iload_n rfl rfl rfl ?_
    refine aw_aload_n rfl rfl rfl ?_
    refine aw_gk (v := A 42 40) (1) rfl rfl (hC.f.k 9 rfl) rfl hC.tape.1 rfl (fun _ _ => ?_)
    refine aw_icmp (p' := 30) rfl ⟨by omega, by omega⟩ ⟨by omega, by omega⟩ rfl rfl (fun c2 => ?_) (fun c2 => ?_)
    · dsimp only [zc] at c2
      refine aw_iconst rfl rfl ?_
      refine aw_reti rfl ?_
      refine ⟨?_, rfl⟩
      first | rw [bA_i (by omega) (by omega)] | rw [bA_o (by omega)]
    · dsimp only [zc] at c2
      refine aw_iload_n rfl rfl rfl ?_
      refine aw_aload_n rfl rfl rfl ?_
      refine aw_getr (b := 10) rfl rfl (hC.f.k 9 rfl) (hC.f.r 9 0 10 rfl) rfl ?_
      refine aw_alen (N := 400) rfl (hC.f.s 10 rfl) (by decide) rfl ?_
      refine aw_icmp (p' := 30) rfl ⟨by omega, by omega⟩ ⟨by omega, by omega⟩ rfl rfl (fun c3 => ?_) (fun c3 => ?_)
      · dsimp only [zc] at c3
        omega
      · dsimp only [zc] at c3
        refine aw_aload_n rfl rfl rfl ?_
        refine aw_getr (b := 10) rfl rfl (hC.f.k 9 rfl) (hC.f.r 9 0 10 rfl) rfl ?_
        refine aw_iload_n rfl rfl rfl ?_
        refine aw_ak (v := (A 74 i % 256)) (N := 400) rfl (hC.f.s 10 rfl) (by omega) (by omega) (by omega) (hC.tape.2 _ (by omega) (by omega)) rfl (fun _ _ => ?_)
        refine aw_goto (p' := 31) rfl rfl ?_
        refine aw_reti rfl ?_
        refine ⟨?_, rfl⟩
        first | rw [bA_i (by omega) (by omega)] | rw [bA_o (by omega)]
set_option maxRecDepth 10000 in
set_option maxHeartbeats 2000000 in
theorem c_isLetter {d : Nat} {σ : az_S} {x : Int} (hx : inI x) : fn (d + 1) 65 [.int (iI x)] σ (.int (iI (bI (isL x)))) := by
  obtain ⟨hx1, hx2⟩ := hx
  refine fn_of (M := (yX8_isLetter, cX8_isLetter, 1, (some .boolean))) (cd := k_X8_isLetter) (L := [some (.int (iI x))]) rfl (Nat.le_of_ble_eq_true rfl) rfl rfl ?_
  refine aw_iload_n rfl rfl rfl ?_
  refine aw_bipush rfl rfl rfl ?_
  refine aw_icmp (p' := 12) rfl ⟨by omega, by omega⟩ ⟨by omega, by omega⟩ rfl rfl (fun c1 => ?_) (fun c1 => ?_)
  · dsimp only [zc] at c1
    refine aw_iload_n rfl rfl rfl ?_
    refine aw_bipush rfl rfl rfl ?_
    refine aw_icmp (p' := 28) rfl ⟨by omega, by omega⟩ ⟨by omega, by omega⟩ rfl rfl (fun c2 => ?_) (fun c2 => ?_)
    · dsimp only [zc] at c2
      refine aw_iconst rfl rfl ?_
      refine aw_retn rfl (by first | rfl | exact bI_nar _) ?_
      refine ⟨?_, rfl⟩
      first | (exfalso; omega) | rw [bI_t (by unfold isL; omega)] | rw [bI_f (by unfold isL; omega)]
    · dsimp only [zc] at c2
      refine aw_iload_n rfl rfl rfl ?_
      refine aw_bipush rfl rfl rfl ?_
      refine aw_icmp (p' := 28) rfl ⟨by omega, by omega⟩ ⟨by omega, by omega⟩ rfl rfl (fun c3 => ?_) (fun c3 => ?_)
      · dsimp only [zc] at c3
        refine aw_iconst rfl rfl ?_
        refine aw_retn rfl (by first | rfl | exact bI_nar _) ?_
        refine ⟨?_, rfl⟩
        first | (exfalso; omega) | rw [bI_t (by unfold isL; omega)] | rw [bI_f (by unfold isL; omega)]
      · dsimp only [zc] at c3
        refine aw_iconst rfl rfl ?_
        refine aw_goto (p' := 29) rfl rfl ?_
        refine aw_retn rfl (by first | rfl | exact bI_nar _) ?_
        refine ⟨?_, rfl⟩
        first | (exfalso; omega) | rw [bI_t (by unfold isL; omega)] | rw [bI_f (by unfold isL; omega)]
  · dsimp only [zc] at c1
    refine aw_iload_n rfl rfl rfl ?_
    refine aw_bipush rfl rfl rfl ?_
    refine aw_icmp (p' := 24) rfl ⟨by omega, by omega⟩ ⟨by omega, by omega⟩ rfl rfl (fun c4 => ?_) (fun c4 => ?_)
    · dsimp only [zc] at c4
      refine aw_iconst rfl rfl ?_
      refine aw_goto (p' := 29) rfl rfl ?_
      refine aw_retn rfl (by first | rfl | exact bI_nar _) ?_
      refine ⟨?_, rfl⟩
      first | (exfalso; omega) | rw [bI_t (by unfold isL; omega)] | rw [bI_f (by unfold isL; omega)]
    · dsimp only [zc] at c4
      refine aw_iload_n rfl rfl rfl ?_
      refine aw_bipush rfl rfl rfl ?_
      refine aw_icmp (p' := 28) rfl ⟨by omega, by omega⟩ ⟨by omega, by omega⟩ rfl rfl (fun c5 => ?_) (fun c5 => ?_)
      · dsimp only [zc] at c5
        refine aw_iconst rfl rfl ?_
        refine aw_retn rfl (by first | rfl | exact bI_nar _) ?_
        refine ⟨?_, rfl⟩
        first | (exfalso; omega) | rw [bI_t (by unfold isL; omega)] | rw [bI_f (by unfold isL; omega)]
      · dsimp only [zc] at c5
        refine aw_iload_n rfl rfl rfl ?_
        refine aw_bipush rfl rfl rfl ?_
        refine aw_icmp (p' := 28) rfl ⟨by omega, by omega⟩ ⟨by omega, by omega⟩ rfl rfl (fun c6 => ?_) (fun c6 => ?_)
        · dsimp only [zc] at c6
          refine aw_iconst rfl rfl ?_
          refine aw_retn rfl (by first | rfl | exact bI_nar _) ?_
          refine ⟨?_, rfl⟩
          first | (exfalso; omega) | rw [bI_t (by unfold isL; omega)] | rw [bI_f (by unfold isL; omega)]
        · dsimp only [zc] at c6
          refine aw_iconst rfl rfl ?_
          refine aw_goto (p' := 29) rfl rfl ?_
          refine aw_retn rfl (by first | rfl | exact bI_nar _) ?_
          refine ⟨?_, rfl⟩
          first | (exfalso; omega) | rw [bI_t (by unfold isL; omega)] | rw [bI_f (by unfold isL; omega)]
set_option maxRecDepth 10000 in
set_option maxHeartbeats 2000000 in
theorem c_isDigit {d : Nat} {σ : az_S} {x : Int} (hx : inI x) : fn (d + 1) 66 [.int (iI x)] σ (.int (iI (bI (48 ≤ x ∧ x ≤ 57)))) := by
  obtain ⟨hx1, hx2⟩ := hx
  refine fn_of (M := (yX8_isDigit, cX8_isDigit, 1, (some .boolean))) (cd := k_X8_isDigit) (L := [some (.int (iI x))]) rfl (Nat.le_of_ble_eq_true rfl) rfl rfl ?_
  refine aw_iload_n rfl rfl rfl ?_
  refine aw_bipush rfl rfl rfl ?_
  refine aw_icmp (p' := 16) rfl ⟨by omega, by omega⟩ ⟨by omega, by omega⟩ rfl rfl (fun c1 => ?_) (fun c1 => ?_)
  · dsimp only [zc] at c1
    refine aw_iconst rfl rfl ?_
    refine aw_retn rfl (by first | rfl | exact bI_nar _) ?_
    refine ⟨?_, rfl⟩
    first | rw [bI_t (by omega)] | rw [bI_f (by omega)]
  · dsimp only [zc] at c1
    refine aw_iload_n rfl rfl rfl ?_
    refine aw_bipush rfl rfl rfl ?_
    refine aw_icmp (p' := 16) rfl ⟨by omega, by omega⟩ ⟨by omega, by omega⟩ rfl rfl (fun c2 => ?_) (fun c2 => ?_)
    · dsimp only [zc] at c2
      refine aw_iconst rfl rfl ?_
      refine aw_retn rfl (by first | rfl | exact bI_nar _) ?_
      refine ⟨?_, rfl⟩
      first | rw [bI_t (by omega)] | rw [bI_f (by omega)]
    · dsimp only [zc] at c2
      refine aw_iconst rfl rfl ?_
      refine aw_goto (p' := 17) rfl rfl ?_
      refine aw_retn rfl (by first | rfl | exact bI_nar _) ?_
      refine ⟨?_, rfl⟩
      first | rw [bI_t (by omega)] | rw [bI_f (by omega)]
set_option maxRecDepth 10000 in
set_option maxHeartbeats 2000000 in
theorem c_kindOfSign {d : Nat} {σ : az_S} {x : Int} (hx : inI x) : fn (d + 1) 74 [.int (iI x)] σ (.int (iI (kSg x))) := by
  obtain ⟨hx1, hx2⟩ := hx
  refine fn_of (M := (yX8_kindOfSign, cX8_kindOfSign, 1, (some .int))) (cd := k_X8_kindOfSign) (L := [some (.int (iI x))]) rfl (Nat.le_of_ble_eq_true rfl) rfl rfl ?_
  refine aw_iload_n rfl rfl rfl ?_
  refine aw_tsb (p' := 261) 0 rfl rfl ⟨by omega, by omega⟩ (by omega) rfl (fun c1 => ?_) (fun c1 => ?_)
  · refine aw_bipush rfl rfl rfl ?_
    refine aw_reti rfl ?_
    refine ⟨?_, rfl⟩
    first | (subst_vars; rfl) | (rw [show x = _ by assumption]; rfl) | (rw [show kSg x = 1 from Classical.byContradiction (fun q => by have := (kSg_i x).mp q; omega)])
  refine aw_tsb (p' := 276) 5 rfl rfl ⟨by omega, by omega⟩ (by omega) rfl (fun c2 => ?_) (fun c2 => ?_)
  · refine aw_bipush rfl rfl rfl ?_
    refine aw_reti rfl ?_
    refine ⟨?_, rfl⟩
    first | (subst_vars; rfl) | (rw [show x = _ by assumption]; rfl) | (rw [show kSg x = 1 from Classical.byContradiction (fun q => by have := (kSg_i x).mp q; omega)])
  refine aw_tsb (p' := 279) 6 rfl rfl ⟨by omega, by omega⟩ (by omega) rfl (fun c3 => ?_) (fun c3 => ?_)
  · refine aw_bipush rfl rfl rfl ?_
    refine aw_reti rfl ?_
    refine ⟨?_, rfl⟩
    first | (subst_vars; rfl) | (rw [show x = _ by assumption]; rfl) | (rw [show kSg x = 1 from Classical.byContradiction (fun q => by have := (kSg_i x).mp q; omega)])
  refine aw_tsb (p' := 270) 7 rfl rfl ⟨by omega, by omega⟩ (by omega) rfl (fun c4 => ?_) (fun c4 => ?_)
  · refine aw_bipush rfl rfl rfl ?_
    refine aw_reti rfl ?_
    refine ⟨?_, rfl⟩
    first | (subst_vars; rfl) | (rw [show x = _ by assumption]; rfl) | (rw [show kSg x = 1 from Classical.byContradiction (fun q => by have := (kSg_i x).mp q; omega)])
  refine aw_tsb (p' := 264) 8 rfl rfl ⟨by omega, by omega⟩ (by omega) rfl (fun c5 => ?_) (fun c5 => ?_)
  · refine aw_bipush rfl rfl rfl ?_
    refine aw_reti rfl ?_
    refine ⟨?_, rfl⟩
    first | (subst_vars; rfl) | (rw [show x = _ by assumption]; rfl) | (rw [show kSg x = 1 from Classical.byContradiction (fun q => by have := (kSg_i x).mp q; omega)])
  refine aw_tsb (p' := 288) 9 rfl rfl ⟨by omega, by omega⟩ (by omega) rfl (fun c6 => ?_) (fun c6 => ?_)
  · refine aw_bipush rfl rfl rfl ?_
    refine aw_reti rfl ?_
    refine ⟨?_, rfl⟩
    first | (subst_vars; rfl) | (rw [show x = _ by assumption]; rfl) | (rw [show kSg x = 1 from Classical.byContradiction (fun q => by have := (kSg_i x).mp q; omega)])
  refine aw_tsb (p' := 267) 10 rfl rfl ⟨by omega, by omega⟩ (by omega) rfl (fun c7 => ?_) (fun c7 => ?_)
  · refine aw_bipush rfl rfl rfl ?_
    refine aw_reti rfl ?_
    refine ⟨?_, rfl⟩
    first | (subst_vars; rfl) | (rw [show x = _ by assumption]; rfl) | (rw [show kSg x = 1 from Classical.byContradiction (fun q => by have := (kSg_i x).mp q; omega)])
  refine aw_tsb (p' := 273) 12 rfl rfl ⟨by omega, by omega⟩ (by omega) rfl (fun c8 => ?_) (fun c8 => ?_)
  · refine aw_bipush rfl rfl rfl ?_
    refine aw_reti rfl ?_
    refine ⟨?_, rfl⟩
    first | (subst_vars; rfl) | (rw [show x = _ by assumption]; rfl) | (rw [show kSg x = 1 from Classical.byContradiction (fun q => by have := (kSg_i x).mp q; omega)])
  refine aw_tsb (p' := 291) 24 rfl rfl ⟨by omega, by omega⟩ (by omega) rfl (fun c9 => ?_) (fun c9 => ?_)
  · refine aw_bipush rfl rfl rfl ?_
    refine aw_reti rfl ?_
    refine ⟨?_, rfl⟩
    first | (subst_vars; rfl) | (rw [show x = _ by assumption]; rfl) | (rw [show kSg x = 1 from Classical.byContradiction (fun q => by have := (kSg_i x).mp q; omega)])
  refine aw_tsb (p' := 252) 25 rfl rfl ⟨by omega, by omega⟩ (by omega) rfl (fun c10 => ?_) (fun c10 => ?_)
  · refine aw_bipush rfl rfl rfl ?_
    refine aw_reti rfl ?_
    refine ⟨?_, rfl⟩
    first | (subst_vars; rfl) | (rw [show x = _ by assumption]; rfl) | (rw [show kSg x = 1 from Classical.byContradiction (fun q => by have := (kSg_i x).mp q; omega)])
  refine aw_tsb (p' := 258) 26 rfl rfl ⟨by omega, by omega⟩ (by omega) rfl (fun c11 => ?_) (fun c11 => ?_)
  · refine aw_bipush rfl rfl rfl ?_
    refine aw_reti rfl ?_
    refine ⟨?_, rfl⟩
    first | (subst_vars; rfl) | (rw [show x = _ by assumption]; rfl) | (rw [show kSg x = 1 from Classical.byContradiction (fun q => by have := (kSg_i x).mp q; omega)])
  refine aw_tsb (p' := 255) 27 rfl rfl ⟨by omega, by omega⟩ (by omega) rfl (fun c12 => ?_) (fun c12 => ?_)
  · refine aw_bipush rfl rfl rfl ?_
    refine aw_reti rfl ?_
    refine ⟨?_, rfl⟩
    first | (subst_vars; rfl) | (rw [show x = _ by assumption]; rfl) | (rw [show kSg x = 1 from Classical.byContradiction (fun q => by have := (kSg_i x).mp q; omega)])
  refine aw_tsb (p' := 282) 56 rfl rfl ⟨by omega, by omega⟩ (by omega) rfl (fun c13 => ?_) (fun c13 => ?_)
  · refine aw_bipush rfl rfl rfl ?_
    refine aw_reti rfl ?_
    refine ⟨?_, rfl⟩
    first | (subst_vars; rfl) | (rw [show x = _ by assumption]; rfl) | (rw [show kSg x = 1 from Classical.byContradiction (fun q => by have := (kSg_i x).mp q; omega)])
  refine aw_tsb (p' := 285) 58 rfl rfl ⟨by omega, by omega⟩ (by omega) rfl (fun c14 => ?_) (fun c14 => ?_)
  · refine aw_bipush rfl rfl rfl ?_
    refine aw_reti rfl ?_
    refine ⟨?_, rfl⟩
    first | (subst_vars; rfl) | (rw [show x = _ by assumption]; rfl) | (rw [show kSg x = 1 from Classical.byContradiction (fun q => by have := (kSg_i x).mp q; omega)])
  refine aw_tsd2 (p' := 294) rfl ⟨by omega, by omega⟩ (ts_k (by omega)) rfl ?_
  refine aw_iconst rfl rfl ?_
  refine aw_reti rfl ?_
  refine ⟨?_, rfl⟩
  first | (subst_vars; rfl) | (rw [show x = _ by assumption]; rfl) | (rw [show kSg x = 1 from Classical.byContradiction (fun q => by have := (kSg_i x).mp q; omega)])
set_option maxRecDepth 10000 in
set_option maxHeartbeats 2000000 in
theorem c_endL_l2 {d : Nat} {sz : Nat} {κ : Nat × (Nat → Int32) × Option Nat} {A : Nat → Int → Int} {g : Nat → Nat} {σ : az_S} (hC : CR sz κ A g σ) (hI : MI sz A) {s e : Int} (hs0 : 0 ≤ s) (hER : ER isL (A 74) (A 42 40) s e) : ∀ (n : Nat) (j : Int), (A 42 40 - j).toNat = n → s ≤ j → j ≤ e → aw (d + 1) k_X8_endOfLetters (some .int) (fun r τ => r = some (.int (iI e)) ∧ τ = σ) 2 [some (.ref 9), some (.int (iI s)), some (.int (iI j))] [] σ := by
  intro n
  induction n using Nat.strongRecOn with
  | ind n ih =>
    intro j hn hj0 hj1
    have htp := hI.taped
    have htb := hI.tape
    have hER1 := hER.1
    refine aw_iload_n rfl rfl rfl ?_
    refine aw_aload_n rfl rfl rfl ?_
    refine aw_gk (v := A 42 40) (1) rfl rfl (hC.f.k 9 rfl) rfl hC.tape.1 rfl (fun _ _ => ?_)
    refine aw_icmp (p' := 27) rfl ⟨by omega, by omega⟩ ⟨by omega, by omega⟩ rfl rfl (fun c1 => ?_) (fun c1 => ?_)
    · dsimp only [zc] at c1
      refine aw_iload_n rfl rfl rfl ?_
      refine aw_reti rfl ?_
      refine ⟨?_, rfl⟩
      rw [ER_st hER hj0 hj1 (by first | exact Or.inl (by omega) | exact Or.inr (fun q => absurd ((isL_m (htb j (by omega) (by omega)).1 (htb j (by omega) (by omega)).2).mpr q) (by assumption)))]
    · dsimp only [zc] at c1
      refine aw_aload_n rfl rfl rfl ?_
      refine aw_iload_n rfl rfl rfl ?_
      refine aw_fnc (c_byteAt hC hI ⟨by omega, by omega⟩) rfl rfl rfl (Nat.le_of_ble_eq_true rfl) (Or.inr ⟨_, rfl, (hC.f.k 9 rfl)⟩) rfl ?_
      rw [bA_i (by omega) (by omega)]
      refine aw_fnc (c_isLetter ⟨by omega, by omega⟩) rfl rfl rfl (Nat.le_of_ble_eq_true rfl) (Or.inl rfl) rfl ?_
      refine aw_ifeqb (p' := 27) rfl rfl rfl (fun c2 => ?_) (fun c2 => ?_)
      · refine aw_iload_n rfl rfl rfl ?_
        refine aw_reti rfl ?_
        refine ⟨?_, rfl⟩
        rw [ER_st hER hj0 hj1 (by first | exact Or.inl (by omega) | exact Or.inr (fun q => absurd ((isL_m (htb j (by omega) (by omega)).1 (htb j (by omega) (by omega)).2).mpr q) (by assumption)))]
      · refine aw_iinc rfl rfl rfl rfl ?_
        change aw _ _ _ _ 24 [some (.ref 9), some (.int (iI _)), some (.int (iI _))] _ _
        refine aw_goto (p' := 2) rfl rfl ?_
        exact ih _ (by omega) _ rfl (by omega) (ER_go hER hj0 hj1 (by omega) ((isL_m (htb j (by omega) (by omega)).1 (htb j (by omega) (by omega)).2).mp (by assumption)))
set_option maxRecDepth 10000 in
set_option maxHeartbeats 2000000 in
theorem c_endL {d : Nat} {sz : Nat} {κ : Nat × (Nat → Int32) × Option Nat} {A : Nat → Int → Int} {g : Nat → Nat} {σ : az_S} (hC : CR sz κ A g σ) (hI : MI sz A) {s e : Int} (hs0 : 0 ≤ s) (hER : ER isL (A 74) (A 42 40) s e) : fn (d + 2) 67 [.ref 9, .int (iI s)] σ (.int (iI e)) := by
  have htp := hI.taped
  have htb := hI.tape
  have hER1 := hER.1
  refine fn_of (M := (yX8_endOfLetters, cX8_endOfLetters, 3, (some .int))) (cd := k_X8_endOfLetters) (L := [some (.ref 9), some (.int (iI s)), none]) rfl (Nat.le_of_ble_eq_true rfl) rfl rfl ?_
  refine aw_iload_n rfl rfl rfl ?_
  refine aw_istore_n rfl (Nat.le_of_ble_eq_true rfl) rfl rfl ?_
  change aw _ _ _ _ 2 [some (.ref 9), some (.int (iI _)), some (.int (iI _))] _ _
  exact c_endL_l2 hC hI hs0 hER _ s rfl (by omega) (by omega)
set_option maxRecDepth 10000 in
set_option maxHeartbeats 2000000 in
theorem c_endD_l2 {d : Nat} {sz : Nat} {κ : Nat × (Nat → Int32) × Option Nat} {A : Nat → Int → Int} {g : Nat → Nat} {σ : az_S} (hC : CR sz κ A g σ) (hI : MI sz A) {s e : Int} (hs0 : 0 ≤ s) (hER : ER isD (A 74) (A 42 40) s e) : ∀ (n : Nat) (j : Int), (A 42 40 - j).toNat = n → s ≤ j → j ≤ e → aw (d + 1) k_X8_endOfDigits (some .int) (fun r τ => r = some (.int (iI e)) ∧ τ = σ) 2 [some (.ref 9), some (.int (iI s)), some (.int (iI j))] [] σ := by
  intro n
  induction n using Nat.strongRecOn with
  | ind n ih =>
    intro j hn hj0 hj1
    have htp := hI.taped
    have htb := hI.tape
    have hER1 := hER.1
    refine aw_iload_n rfl rfl rfl ?_
    refine aw_aload_n rfl rfl rfl ?_
    refine aw_gk (v := A 42 40) (1) rfl rfl (hC.f.k 9 rfl) rfl hC.tape.1 rfl (fun _ _ => ?_)
    refine aw_icmp (p' := 27) rfl ⟨by omega, by omega⟩ ⟨by omega, by omega⟩ rfl rfl (fun c1 => ?_) (fun c1 => ?_)
    · dsimp only [zc] at c1
      refine aw_iload_n rfl rfl rfl ?_
      refine aw_reti rfl ?_
      refine ⟨?_, rfl⟩
      rw [ER_st hER hj0 hj1 (by first | exact Or.inl (by omega) | exact Or.inr (fun q => by have h1 : 48 ≤ A 74 j ∧ A 74 j ≤ 57 := q; have := htb j (by omega) (by omega); omega))]
    · dsimp only [zc] at c1
      refine aw_aload_n rfl rfl rfl ?_
      refine aw_iload_n rfl rfl rfl ?_
      refine aw_fnc (c_byteAt hC hI ⟨by omega, by omega⟩) rfl rfl rfl (Nat.le_of_ble_eq_true rfl) (Or.inr ⟨_, rfl, (hC.f.k 9 rfl)⟩) rfl ?_
      rw [bA_i (by omega) (by omega)]
      refine aw_fnc (c_isDigit ⟨by omega, by omega⟩) rfl rfl rfl (Nat.le_of_ble_eq_true rfl) (Or.inl rfl) rfl ?_
      refine aw_ifeqb (p' := 27) rfl rfl rfl (fun c2 => ?_) (fun c2 => ?_)
      · refine aw_iload_n rfl rfl rfl ?_
        refine aw_reti rfl ?_
        refine ⟨?_, rfl⟩
        rw [ER_st hER hj0 hj1 (by first | exact Or.inl (by omega) | exact Or.inr (fun q => by have h1 : 48 ≤ A 74 j ∧ A 74 j ≤ 57 := q; have := htb j (by omega) (by omega); omega))]
      · refine aw_iinc rfl rfl rfl rfl ?_
        change aw _ _ _ _ 24 [some (.ref 9), some (.int (iI _)), some (.int (iI _))] _ _
        refine aw_goto (p' := 2) rfl rfl ?_
        exact ih _ (by omega) _ rfl (by omega) (ER_go hER hj0 hj1 (by omega) (show 48 ≤ A 74 j ∧ A 74 j ≤ 57 by have := htb j (by omega) (by omega); omega))
set_option maxRecDepth 10000 in
set_option maxHeartbeats 2000000 in
theorem c_endD {d : Nat} {sz : Nat} {κ : Nat × (Nat → Int32) × Option Nat} {A : Nat → Int → Int} {g : Nat → Nat} {σ : az_S} (hC : CR sz κ A g σ) (hI : MI sz A) {s e : Int} (hs0 : 0 ≤ s) (hER : ER isD (A 74) (A 42 40) s e) : fn (d + 2) 68 [.ref 9, .int (iI s)] σ (.int (iI e)) := by
  have htp := hI.taped
  have htb := hI.tape
  have hER1 := hER.1
  refine fn_of (M := (yX8_endOfDigits, cX8_endOfDigits, 3, (some .int))) (cd := k_X8_endOfDigits) (L := [some (.ref 9), some (.int (iI s)), none]) rfl (Nat.le_of_ble_eq_true rfl) rfl rfl ?_
  refine aw_iload_n rfl rfl rfl ?_
  refine aw_istore_n rfl (Nat.le_of_ble_eq_true rfl) rfl rfl ?_
  change aw _ _ _ _ 2 [some (.ref 9), some (.int (iI _)), some (.int (iI _))] _ _
  exact c_endD_l2 hC hI hs0 hER _ s rfl (by omega) (by omega)
set_option maxRecDepth 10000 in
set_option maxHeartbeats 2000000 in
theorem c_numberOf_l5 {d : Nat} {sz : Nat} {κ : Nat × (Nat → Int32) × Option Nat} {A : Nat → Int → Int} {g : Nat → Nat} {σ : az_S} (hC : CR sz κ A g σ) (hI : MI sz A) {s e : Int} (hs0 : 0 ≤ s) (hse : s ≤ e) (heN : e ≤ A 42 40) (hD : ∀ k : Int, s ≤ k → k < e → isD (A 74 k)) : ∀ (n : Nat) (j v : Int), (e - j).toNat = n → s ≤ j → j ≤ e → v = nC (A 74) s (j - s).toNat → aw (d + 1) k_X8_numberOf (some .int) (fun r τ => r = some (.int (iI (nC (A 74) s (e - s).toNat))) ∧ τ = σ) 5 [some (.ref 9), some (.int (iI s)), some (.int (iI e)), some (.int (iI v)), some (.int (iI j))] [] σ := by
  intro n
  induction n using Nat.strongRecOn with
  | ind n ih =>
    intro j v hn hj0 hj1 hv
    have htp := hI.taped
    have htb := hI.tape
    have hcr := nRC (B := A 74) (s := s) (j - s).toNat (fun k k0 k1 => hD k k0 (by omega))
    rw [← hv] at hcr
    refine aw_iload rfl rfl rfl ?_
    refine aw_iload_n rfl rfl rfl ?_
    refine aw_icmp (p' := 37) rfl ⟨by omega, by omega⟩ ⟨by omega, by omega⟩ rfl rfl (fun c1 => ?_) (fun c1 => ?_)
    · dsimp only [zc] at c1
      refine aw_iload_n rfl rfl rfl ?_
      refine aw_reti rfl ?_
      refine ⟨?_, rfl⟩
      rw [hv, show j = e by omega]
    · dsimp only [zc] at c1
      refine aw_ldc (100001) rfl rfl rfl ?_
      refine aw_bipush rfl rfl rfl ?_
      refine aw_iload_n rfl rfl rfl ?_
      refine aw_imul rfl rfl ?_
      refine aw_aload_n rfl rfl rfl ?_
      refine aw_iload rfl rfl rfl ?_
      refine aw_fnc (c_byteAt hC hI ⟨by omega, by omega⟩) rfl rfl rfl (Nat.le_of_ble_eq_true rfl) (Or.inr ⟨_, rfl, (hC.f.k 9 rfl)⟩) rfl ?_
      rw [bA_i (by omega) (by omega), show A 74 j % 256 = A 74 j by have : 48 ≤ A 74 j ∧ A 74 j ≤ 57 := hD j (by omega) (by omega); omega]
      have hdj : 48 ≤ A 74 j ∧ A 74 j ≤ 57 := hD j (by omega) (by omega)
      refine aw_iadd rfl rfl ?_
      refine aw_bipush rfl rfl rfl ?_
      refine aw_isub rfl rfl ?_
      refine aw_fnc (j_min ⟨by omega, by omega⟩ ⟨by omega, by omega⟩) rfl rfl rfl (Nat.le_of_ble_eq_true rfl) (Or.inl rfl) rfl ?_
      refine aw_istore_n rfl (Nat.le_of_ble_eq_true rfl) rfl rfl ?_
      change aw _ _ _ _ 31 [some (.ref 9), some (.int (iI _)), some (.int (iI _)), some (.int (iI _)), some (.int (iI _))] _ _
      refine aw_iinc rfl rfl rfl rfl ?_
      change aw _ _ _ _ 34 [some (.ref 9), some (.int (iI _)), some (.int (iI _)), some (.int (iI _)), some (.int (iI _))] _ _
      refine aw_goto (p' := 5) rfl rfl ?_
      refine ih _ (by omega) _ _ rfl (by omega) (by omega) ?_
      have e1 : (j + 1 - s).toNat = (j - s).toNat + 1 := by omega
      have e2 : s + ((j - s).toNat : Int) = j := by omega
      rw [e1]
      show _ = (if 10 * nC (A 74) s (j - s).toNat + A 74 (s + ((j - s).toNat : Int)) - 48 < 100001 then 10 * nC (A 74) s (j - s).toNat + A 74 (s + ((j - s).toNat : Int)) - 48 else 100001)
      rw [e2, ← hv]
set_option maxRecDepth 10000 in
set_option maxHeartbeats 2000000 in
theorem c_numberOf {d : Nat} {sz : Nat} {κ : Nat × (Nat → Int32) × Option Nat} {A : Nat → Int → Int} {g : Nat → Nat} {σ : az_S} (hC : CR sz κ A g σ) (hI : MI sz A) {s e : Int} (hs0 : 0 ≤ s) (hse : s ≤ e) (heN : e ≤ A 42 40) (hD : ∀ k : Int, s ≤ k → k < e → isD (A 74 k)) : fn (d + 2) 69 [.ref 9, .int (iI s), .int (iI e)] σ (.int (iI (nC (A 74) s (e - s).toNat))) := by
  have htp := hI.taped
  have htb := hI.tape
  refine fn_of (M := (yX8_numberOf, cX8_numberOf, 5, (some .int))) (cd := k_X8_numberOf) (L := [some (.ref 9), some (.int (iI s)), some (.int (iI e)), none, none]) rfl (Nat.le_of_ble_eq_true rfl) rfl rfl ?_
  refine aw_iconst rfl rfl ?_
  refine aw_istore_n rfl (Nat.le_of_ble_eq_true rfl) rfl rfl ?_
  change aw _ _ _ _ 2 [some (.ref 9), some (.int (iI _)), some (.int (iI _)), some (.int (iI _)), none] _ _
  refine aw_iload_n rfl rfl rfl ?_
  refine aw_istore rfl (Nat.le_of_ble_eq_true rfl) rfl rfl ?_
  change aw _ _ _ _ 5 [some (.ref 9), some (.int (iI _)), some (.int (iI _)), some (.int (iI _)), some (.int (iI _))] _ _
  exact c_numberOf_l5 hC hI hs0 hse heN hD _ s 0 rfl (by omega) (by omega) (by rw [show (s - s).toNat = 0 by omega]; rfl)
