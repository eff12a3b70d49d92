def kSg (b : Int) : Int := if b = 60 then 11 else if b = 62 then 13 else if b = 61 then 15 else if b = 35 then 16 else if b = 43 then 17 else if b = 45 then 18 else if b = 42 then 19 else if b = 47 then 20 else if b = 40 then 21 else if b = 41 then 22 else if b = 91 then 23 else if b = 93 then 24 else if b = 44 then 25 else if b = 59 then 26 else 1
theorem kSg_i (x : Int) : kSg x ≠ 1 ↔ ((59 ≤ x ∧ x ≤ 62) ∨ x = 35 ∨ x = 43 ∨ x = 45 ∨ x = 42 ∨ x = 47 ∨ x = 40 ∨ x = 41 ∨ x = 91 ∨ x = 93 ∨ x = 44) := by unfold kSg; (repeat' split) <;> omega
def sgn (k : Int) : Int := if k = 11 then 60 else if k = 12 then 300 else if k = 13 then 62 else if k = 14 then 301 else if k = 15 then 61 else if k = 16 then 35 else if k = 17 then 43 else if k = 18 then 45 else if k = 19 then 42 else if k = 20 then 47 else if k = 21 then 40 else if k = 22 then 41 else if k = 23 then 91 else if k = 24 then 93 else if k = 25 then 44 else if k = 26 then 59 else 0
def tW (k v : Int) : Int := if k = 1 then -1 else if k = 3 then v + 7 else k - 4
def rSort (k : Int) : Int := if k = 0 then 0 else if k = 1 then 4 else if k = 2 then 2 else if k ≤ 10 then 1 else 3
def RT (k v t : Int) : Prop := (k = 2 → (v ≤ 100000 ∧ t = v) ∨ (100001 = v ∧ 100000 < t)) ∧ (3 ≤ k → k ≤ 10 → t = tW k v) ∧ (11 ≤ k → t = sgn k)
def nC (B : Int → Int) (s : Int) : Nat → Int
  | 0 => 0
  | m + 1 => if 10 * nC B s m + B (s + m) - 48 < 100001 then 10 * nC B s m + B (s + m) - 48 else 100001
def nR (B : Int → Int) (s : Int) : Nat → Int
  | 0 => 0
  | m + 1 => if 999999 < nR B s m then nR B s m else 10 * nR B s m + B (s + m) - 48
theorem nRC {B : Int → Int} {s : Int} : ∀ (m : Nat), (∀ k : Int, s ≤ k → k < s + m → isD (B k)) → (0 ≤ nR B s m ∧ nR B s m ≤ 9999999) ∧ (nR B s m ≤ 100000 → nC B s m = nR B s m) ∧ (100000 < nR B s m → nC B s m = 100001) := by
  intro m
  induction m with
  | zero => intro _; exact ⟨⟨Int.le_refl 0, (by decide : (0 : Int) ≤ 9999999)⟩, fun _ => rfl, fun h => absurd (show (100000 : Int) < 0 from h) (by decide)⟩
  | succ m ih =>
    intro h
    have h1 := ih (fun k k0 k1 => h k k0 (by omega))
    have h2 : 48 ≤ B (s + m) ∧ B (s + m) ≤ 57 := h (s + m) (by omega) (by omega)
    show (0 ≤ (if 999999 < nR B s m then nR B s m else 10 * nR B s m + B (s + m) - 48) ∧ (if 999999 < nR B s m then nR B s m else 10 * nR B s m + B (s + m) - 48) ≤ 9999999) ∧ ((if 999999 < nR B s m then nR B s m else 10 * nR B s m + B (s + m) - 48) ≤ 100000 → (if 10 * nC B s m + B (s + m) - 48 < 100001 then 10 * nC B s m + B (s + m) - 48 else 100001) = (if 999999 < nR B s m then nR B s m else 10 * nR B s m + B (s + m) - 48)) ∧ (100000 < (if 999999 < nR B s m then nR B s m else 10 * nR B s m + B (s + m) - 48) → (if 10 * nC B s m + B (s + m) - 48 < 100001 then 10 * nC B s m + B (s + m) - 48 else 100001) = 100001)
    split <;> split <;> omega
/-- a token: where the search begins, its kind, value, place and end -/
def Tk (B : Int → Int) (N p k v s e : Int) : Prop := ER isB B N p s ∧ ((s = N ∧ k = 0 ∧ v = 0 ∧ e = N) ∨ (s < N ∧ isL (B s) ∧ ER isL B N s e ∧ KW B s e k v) ∨ (s < N ∧ isD (B s) ∧ ER isD B N s e ∧ k = 2 ∧ v = nC B s (e - s).toNat) ∨ (s < N ∧ (B s = 60 ∨ B s = 62) ∧ s + 1 < N ∧ B (s + 1) = 61 ∧ e = s + 2 ∧ v = 0 ∧ ((B s = 60 ∧ k = 12) ∨ (B s = 62 ∧ k = 14))) ∨ (s < N ∧ ¬ isL (B s) ∧ ¬ isD (B s) ∧ ¬ ((B s = 60 ∨ B s = 62) ∧ s + 1 < N ∧ B (s + 1) = 61) ∧ e = s + 1 ∧ v = 0 ∧ k = kSg (B s)))
theorem kw_told {B : Int → Int} {s e k v : Int} {m : Nat} (h : KW B s e k v) (he : e = s + m) (h1 : 1 ≤ m) (hl : ∀ k : Int, s ≤ k → k < s + m → isL (B k)) : (6 < m → tW k v = -1) ∧ (m ≤ 6 → tW k v = wO (ltF B s 0 m)) ∧ ((1 ≤ k ∧ k ≤ 10) ∧ k ≠ 2) ∧ (k = 1 ↔ tW k v < 0) ∧ (tW k v ≤ 14 ∧ -1 ≤ tW k v) := by
  subst he
  rcases h with ⟨i, hi, hw, rfl, rfl⟩ | ⟨i, hi, hi2, hw, rfl, rfl⟩ | ⟨hn, rfl, rfl⟩
  · have hi' : i = 0 ∨ i = 1 ∨ i = 2 ∨ i = 3 ∨ i = 4 ∨ i = 5 ∨ i = 6 ∨ i = 7 := by omega
    rcases hi' with rfl | rfl | rfl | rfl | rfl | rfl | rfl | rfl
    · have hm : m = 4 := by have := hw.1; simp [wX] at this; omega
      have hc := (lt_w0 h1 (by omega) hl).mp hw
      exact ⟨fun q => by omega, fun _ => by rw [hc]; decide, by decide, by decide, by decide⟩
    · have hm : m = 5 := by have := hw.1; simp [wX] at this; omega
      have hc := (lt_w1 h1 (by omega) hl).mp hw
      exact ⟨fun q => by omega, fun _ => by rw [hc]; decide, by decide, by decide, by decide⟩
    · have hm : m = 3 := by have := hw.1; simp [wX] at this; omega
      have hc := (lt_w2 h1 (by omega) hl).mp hw
      exact ⟨fun q => by omega, fun _ => by rw [hc]; decide, by decide, by decide, by decide⟩
    · have hm : m = 6 := by have := hw.1; simp [wX] at this; omega
      have hc := (lt_w3 h1 (by omega) hl).mp hw
      exact ⟨fun q => by omega, fun _ => by rw [hc]; decide, by decide, by decide, by decide⟩
    · have hm : m = 4 := by have := hw.1; simp [wX] at this; omega
      have hc := (lt_w4 h1 (by omega) hl).mp hw
      exact ⟨fun q => by omega, fun _ => by rw [hc]; decide, by decide, by decide, by decide⟩
    · have hm : m = 4 := by have := hw.1; simp [wX] at this; omega
      have hc := (lt_w5 h1 (by omega) hl).mp hw
      exact ⟨fun q => by omega, fun _ => by rw [hc]; decide, by decide, by decide, by decide⟩
    · have hm : m = 5 := by have := hw.1; simp [wX] at this; omega
      have hc := (lt_w6 h1 (by omega) hl).mp hw
      exact ⟨fun q => by omega, fun _ => by rw [hc]; decide, by decide, by decide, by decide⟩
    · have hm : m = 5 := by have := hw.1; simp [wX] at this; omega
      have hc := (lt_w7 h1 (by omega) hl).mp hw
      exact ⟨fun q => by omega, fun _ => by rw [hc]; decide, by decide, by decide, by decide⟩
  · have hi' : i = 8 ∨ i = 9 ∨ i = 10 ∨ i = 11 ∨ i = 12 ∨ i = 13 ∨ i = 14 := by omega
    rcases hi' with rfl | rfl | rfl | rfl | rfl | rfl | rfl
    · have hm : m = 4 := by have := hw.1; simp [wX] at this; omega
      have hc := (lt_w8 h1 (by omega) hl).mp hw
      exact ⟨fun q => by omega, fun _ => by rw [hc]; decide, by decide, by decide, by decide⟩
    · have hm : m = 4 := by have := hw.1; simp [wX] at this; omega
      have hc := (lt_w9 h1 (by omega) hl).mp hw
      exact ⟨fun q => by omega, fun _ => by rw [hc]; decide, by decide, by decide, by decide⟩
    · have hm : m = 2 := by have := hw.1; simp [wX] at this; omega
      have hc := (lt_w10 h1 (by omega) hl).mp hw
      exact ⟨fun q => by omega, fun _ => by rw [hc]; decide, by decide, by decide, by decide⟩
    · have hm : m = 3 := by have := hw.1; simp [wX] at this; omega
      have hc := (lt_w11 h1 (by omega) hl).mp hw
      exact ⟨fun q => by omega, fun _ => by rw [hc]; decide, by decide, by decide, by decide⟩
    · have hm : m = 3 := by have := hw.1; simp [wX] at this; omega
      have hc := (lt_w12 h1 (by omega) hl).mp hw
      exact ⟨fun q => by omega, fun _ => by rw [hc]; decide, by decide, by decide, by decide⟩
    · have hm : m = 3 := by have := hw.1; simp [wX] at this; omega
      have hc := (lt_w13 h1 (by omega) hl).mp hw
      exact ⟨fun q => by omega, fun _ => by rw [hc]; decide, by decide, by decide, by decide⟩
    · have hm : m = 3 := by have := hw.1; simp [wX] at this; omega
      have hc := (lt_w14 h1 (by omega) hl).mp hw
      exact ⟨fun q => by omega, fun _ => by rw [hc]; decide, by decide, by decide, by decide⟩
  · refine ⟨fun _ => by decide, fun h6 => ?_, by decide, by decide, by decide⟩
    unfold wO
    rw [if_neg (fun q => hn 8 (by decide) ((lt_w8 h1 h6 hl).mpr q)), if_neg (fun q => hn 9 (by decide) ((lt_w9 h1 h6 hl).mpr q)), if_neg (fun q => hn 10 (by decide) ((lt_w10 h1 h6 hl).mpr q)), if_neg (fun q => hn 11 (by decide) ((lt_w11 h1 h6 hl).mpr q)), if_neg (fun q => hn 12 (by decide) ((lt_w12 h1 h6 hl).mpr q)), if_neg (fun q => hn 13 (by decide) ((lt_w13 h1 h6 hl).mpr q)), if_neg (fun q => hn 14 (by decide) ((lt_w14 h1 h6 hl).mpr q)), if_neg (fun q => hn 0 (by decide) ((lt_w0 h1 h6 hl).mpr q)), if_neg (fun q => hn 1 (by decide) ((lt_w1 h1 h6 hl).mpr q)), if_neg (fun q => hn 2 (by decide) ((lt_w2 h1 h6 hl).mpr q)), if_neg (fun q => hn 3 (by decide) ((lt_w3 h1 h6 hl).mpr q)), if_neg (fun q => hn 4 (by decide) ((lt_w4 h1 h6 hl).mpr q)), if_neg (fun q => hn 5 (by decide) ((lt_w5 h1 h6 hl).mpr q)), if_neg (fun q => hn 6 (by decide) ((lt_w6 h1 h6 hl).mpr q)), if_neg (fun q => hn 7 (by decide) ((lt_w7 h1 h6 hl).mpr q))]
    decide
set_option maxRecDepth 10000 in
set_option maxHeartbeats 2000000 in
theorem m_isLetter {d : Nat}  {σ : az_S} {x : Int} (hx : inI x) : fn (d + 2) 208 [.int (iI x)] σ (.int (iI (bI (isL x)))) := by
  obtain ⟨hx1, hx2⟩ := hx
  refine fn_of (M := (yX12_isLetter, cX12_isLetter, 1, (some .boolean))) (cd := k_X12_isLetter) (L := [some (.int (iI x))]) rfl (Nat.le_of_ble_eq_true rfl) rfl rfl ?_
  refine aw_iload_n rfl rfl rfl ?_
  refine aw_i2l rfl ⟨by omega, by omega⟩ rfl ?_
  refine aw_ldc2 (97) rfl rfl rfl ?_
  refine aw_ldc2 (122) rfl rfl rfl ?_
  refine aw_fnc (m_in ⟨by omega, by omega⟩ ⟨by omega, by omega⟩ ⟨by omega, by omega⟩) rfl rfl rfl (Nat.le_of_ble_eq_true rfl) (Or.inl rfl) rfl ?_
  refine aw_ifneb (p' := 28) rfl rfl rfl (fun c1 => ?_) (fun c1 => ?_)
  · refine aw_iconst rfl rfl ?_
    refine aw_goto (p' := 33) rfl rfl ?_
    refine aw_retn rfl (by first | rfl | exact bI_nar _) ?_
    refine ⟨?_, rfl⟩
    first | rw [bI_t (by unfold isL; omega)] | rw [bI_f (by unfold isL; omega)]
  · refine aw_iload_n rfl rfl rfl ?_
    refine aw_i2l rfl ⟨by omega, by omega⟩ rfl ?_
    refine aw_ldc2 (65) rfl rfl rfl ?_
    refine aw_ldc2 (90) rfl rfl rfl ?_
    refine aw_fnc (m_in ⟨by omega, by omega⟩ ⟨by omega, by omega⟩ ⟨by omega, by omega⟩) rfl rfl rfl (Nat.le_of_ble_eq_true rfl) (Or.inl rfl) rfl ?_
    refine aw_ifeqb (p' := 32) rfl rfl rfl (fun c2 => ?_) (fun c2 => ?_)
    · refine aw_iconst rfl rfl ?_
      refine aw_retn rfl (by first | rfl | exact bI_nar _) ?_
      refine ⟨?_, rfl⟩
      first | rw [bI_t (by unfold isL; omega)] | rw [bI_f (by unfold isL; omega)]
    · refine aw_iconst rfl rfl ?_
      refine aw_goto (p' := 33) rfl rfl ?_
      refine aw_retn rfl (by first | rfl | exact bI_nar _) ?_
      refine ⟨?_, rfl⟩
      first | rw [bI_t (by unfold isL; omega)] | rw [bI_f (by unfold isL; omega)]
set_option maxRecDepth 10000 in
set_option maxHeartbeats 2000000 in
theorem m_isSignByte {d : Nat}  {σ : az_S} {x : Int} (hx : inI x) : fn (d + 2) 211 [.int (iI x)] σ (.int (iI (bI (kSg x ≠ 1)))) := by
  obtain ⟨hx1, hx2⟩ := hx
  refine fn_of (M := (yX12_isSignByte, cX12_isSignByte, 1, (some .boolean))) (cd := k_X12_isSignByte) (L := [some (.int (iI x))]) rfl (Nat.le_of_ble_eq_true rfl) rfl rfl ?_
  refine aw_iload_n rfl rfl rfl ?_
  refine aw_i2l rfl ⟨by omega, by omega⟩ rfl ?_
  refine aw_ldc2 (59) rfl rfl rfl ?_
  refine aw_ldc2 (62) rfl rfl rfl ?_
  refine aw_fnc (m_in ⟨by omega, by omega⟩ ⟨by omega, by omega⟩ ⟨by omega, by omega⟩) rfl rfl rfl (Nat.le_of_ble_eq_true rfl) (Or.inl rfl) rfl ?_
  refine aw_ifneb (p' := 74) rfl rfl rfl (fun c1 => ?_) (fun c1 => ?_)
  · refine aw_iconst rfl rfl ?_
    refine aw_goto (p' := 79) rfl rfl ?_
    refine aw_retn rfl (by first | rfl | exact bI_nar _) ?_
    refine ⟨?_, rfl⟩
    first | rw [bI_t ((kSg_i x).mpr (by omega))] | rw [bI_f (fun q => by have := (kSg_i x).mp q; omega)]
  · refine aw_iload_n rfl rfl rfl ?_
    refine aw_bipush rfl rfl rfl ?_
    refine aw_icmp (p' := 74) rfl ⟨by omega, by omega⟩ ⟨by omega, by omega⟩ rfl rfl (fun c2 => ?_) (fun c2 => ?_)
    · dsimp only [zc] at c2
      refine aw_iconst rfl rfl ?_
      refine aw_goto (p' := 79) rfl rfl ?_
      refine aw_retn rfl (by first | rfl | exact bI_nar _) ?_
      refine ⟨?_, rfl⟩
      first | rw [bI_t ((kSg_i x).mpr (by omega))] | rw [bI_f (fun q => by have := (kSg_i x).mp q; omega)]
    · dsimp only [zc] at c2
      refine aw_iload_n rfl rfl rfl ?_
      refine aw_bipush rfl rfl rfl ?_
      refine aw_icmp (p' := 74) rfl ⟨by omega, by omega⟩ ⟨by omega, by omega⟩ rfl rfl (fun c3 => ?_) (fun c3 => ?_)
      · dsimp only [zc] at c3
        refine aw_iconst rfl rfl ?_
        refine aw_goto (p' := 79) rfl rfl ?_
        refine aw_retn rfl (by first | rfl | exact bI_nar _) ?_
        refine ⟨?_, rfl⟩
        first | rw [bI_t ((kSg_i x).mpr (by omega))] | rw [bI_f (fun q => by have := (kSg_i x).mp q; omega)]
      · dsimp only [zc] at c3
        refine aw_iload_n rfl rfl rfl ?_
        refine aw_bipush rfl rfl rfl ?_
        refine aw_icmp (p' := 74) rfl ⟨by omega, by omega⟩ ⟨by omega, by omega⟩ rfl rfl (fun c4 => ?_) (fun c4 => ?_)
        · dsimp only [zc] at c4
          refine aw_iconst rfl rfl ?_
          refine aw_goto (p' := 79) rfl rfl ?_
          refine aw_retn rfl (by first | rfl | exact bI_nar _) ?_
          refine ⟨?_, rfl⟩
          first | rw [bI_t ((kSg_i x).mpr (by omega))] | rw [bI_f (fun q => by have := (kSg_i x).mp q; omega)]
        · dsimp only [zc] at c4
          refine aw_iload_n rfl rfl rfl ?_
          refine aw_bipush rfl rfl rfl ?_
          refine aw_icmp (p' := 74) rfl ⟨by omega, by omega⟩ ⟨by omega, by omega⟩ rfl rfl (fun c5 => ?_) (fun c5 => ?_)
          · dsimp only [zc] at c5
            refine aw_iconst rfl rfl ?_
            refine aw_goto (p' := 79) rfl rfl ?_
            refine aw_retn rfl (by first | rfl | exact bI_nar _) ?_
            refine ⟨?_, rfl⟩
            first | rw [bI_t ((kSg_i x).mpr (by omega))] | rw [bI_f (fun q => by have := (kSg_i x).mp q; omega)]
          · dsimp only [zc] at c5
            refine aw_iload_n rfl rfl rfl ?_
            refine aw_bipush rfl rfl rfl ?_
            refine aw_icmp (p' := 74) rfl ⟨by omega, by omega⟩ ⟨by omega, by omega⟩ rfl rfl (fun c6 => ?_) (fun c6 => ?_)
            · dsimp only [zc] at c6
              refine aw_iconst rfl rfl ?_
              refine aw_goto (p' := 79) rfl rfl ?_
              refine aw_retn rfl (by first | rfl | exact bI_nar _) ?_
              refine ⟨?_, rfl⟩
              first | rw [bI_t ((kSg_i x).mpr (by omega))] | rw [bI_f (fun q => by have := (kSg_i x).mp q; omega)]
            · dsimp only [zc] at c6
              refine aw_iload_n rfl rfl rfl ?_
              refine aw_bipush rfl rfl rfl ?_
              refine aw_icmp (p' := 74) rfl ⟨by omega, by omega⟩ ⟨by omega, by omega⟩ rfl rfl (fun c7 => ?_) (fun c7 => ?_)
              · dsimp only [zc] at c7
                refine aw_iconst rfl rfl ?_
                refine aw_goto (p' := 79) rfl rfl ?_
                refine aw_retn rfl (by first | rfl | exact bI_nar _) ?_
                refine ⟨?_, rfl⟩
                first | rw [bI_t ((kSg_i x).mpr (by omega))] | rw [bI_f (fun q => by have := (kSg_i x).mp q; omega)]
              · dsimp only [zc] at c7
                refine aw_iload_n rfl rfl rfl ?_
                refine aw_bipush rfl rfl rfl ?_
                refine aw_icmp (p' := 74) rfl ⟨by omega, by omega⟩ ⟨by omega, by omega⟩ rfl rfl (fun c8 => ?_) (fun c8 => ?_)
                · dsimp only [zc] at c8
                  refine aw_iconst rfl rfl ?_
                  refine aw_goto (p' := 79) rfl rfl ?_
                  refine aw_retn rfl (by first | rfl | exact bI_nar _) ?_
                  refine ⟨?_, rfl⟩
                  first | rw [bI_t ((kSg_i x).mpr (by omega))] | rw [bI_f (fun q => by have := (kSg_i x).mp q; omega)]
                · dsimp only [zc] at c8
                  refine aw_iload_n rfl rfl rfl ?_
                  refine aw_bipush rfl rfl rfl ?_
                  refine aw_icmp (p' := 74) rfl ⟨by omega, by omega⟩ ⟨by omega, by omega⟩ rfl rfl (fun c9 => ?_) (fun c9 => ?_)
                  · dsimp only [zc] at c9
                    refine aw_iconst rfl rfl ?_
                    refine aw_goto (p' := 79) rfl rfl ?_
                    refine aw_retn rfl (by first | rfl | exact bI_nar _) ?_
                    refine ⟨?_, rfl⟩
                    first | rw [bI_t ((kSg_i x).mpr (by omega))] | rw [bI_f (fun q => by have := (kSg_i x).mp q; omega)]
                  · dsimp only [zc] at c9
                    refine aw_iload_n rfl rfl rfl ?_
                    refine aw_bipush rfl rfl rfl ?_
                    refine aw_icmp (p' := 74) rfl ⟨by omega, by omega⟩ ⟨by omega, by omega⟩ rfl rfl (fun c10 => ?_) (fun c10 => ?_)
                    · dsimp only [zc] at c10
                      refine aw_iconst rfl rfl ?_
                      refine aw_goto (p' := 79) rfl rfl ?_
                      refine aw_retn rfl (by first | rfl | exact bI_nar _) ?_
                      refine ⟨?_, rfl⟩
                      first | rw [bI_t ((kSg_i x).mpr (by omega))] | rw [bI_f (fun q => by have := (kSg_i x).mp q; omega)]
                    · dsimp only [zc] at c10
                      refine aw_iload_n rfl rfl rfl ?_
                      refine aw_bipush rfl rfl rfl ?_
                      refine aw_icmp (p' := 78) rfl ⟨by omega, by omega⟩ ⟨by omega, by omega⟩ rfl rfl (fun c11 => ?_) (fun c11 => ?_)
                      · dsimp only [zc] at c11
                        refine aw_iconst rfl rfl ?_
                        refine aw_retn rfl (by first | rfl | exact bI_nar _) ?_
                        refine ⟨?_, rfl⟩
                        first | rw [bI_t ((kSg_i x).mpr (by omega))] | rw [bI_f (fun q => by have := (kSg_i x).mp q; omega)]
                      · dsimp only [zc] at c11
                        refine aw_iconst rfl rfl ?_
                        refine aw_goto (p' := 79) rfl rfl ?_
                        refine aw_retn rfl (by first | rfl | exact bI_nar _) ?_
                        refine ⟨?_, rfl⟩
                        first | rw [bI_t ((kSg_i x).mpr (by omega))] | rw [bI_f (fun q => by have := (kSg_i x).mp q; omega)]
set_option maxRecDepth 10000 in
set_option maxHeartbeats 2000000 in
theorem m_wordOf {d : Nat}  {σ : az_S} {l : Int} (hl0 : 0 ≤ l) (hl1 : l < 9223372036854775808) : fn (d + 1) 209 [.long (lI l)] σ (.int (iI (wO l))) := by
  refine fn_of (M := (yX12_wordOf, cX12_wordOf, 2, (some .int))) (cd := k_X12_wordOf) (L := [some (.long (lI l)), none]) rfl (Nat.le_of_ble_eq_true rfl) rfl rfl ?_
  refine aw_lload_n rfl rfl rfl ?_
  refine aw_ldc2 (14584174) rfl rfl rfl ?_
  refine aw_lcif (p' := 10) rfl rfl (by omega) (by omega) (by omega) (by omega) rfl rfl (fun c1 => ?_) (fun c1 => ?_)
  · dsimp only [zc] at c1
    refine aw_lload_n rfl rfl rfl ?_
    refine aw_ldc2 (10395045) rfl rfl rfl ?_
    refine aw_lcif (p' := 20) rfl rfl (by omega) (by omega) (by omega) (by omega) rfl rfl (fun c2 => ?_) (fun c2 => ?_)
    · dsimp only [zc] at c2
      refine aw_lload_n rfl rfl rfl ?_
      refine aw_ldc2 (3058) rfl rfl rfl ?_
      refine aw_lcif (p' := 30) rfl rfl (by omega) (by omega) (by omega) (by omega) rfl rfl (fun c3 => ?_) (fun c3 => ?_)
      · dsimp only [zc] at c3
        refine aw_lload_n rfl rfl rfl ?_
        refine aw_ldc2 (138148) rfl rfl rfl ?_
        refine aw_lcif (p' := 40) rfl rfl (by omega) (by omega) (by omega) (by omega) rfl rfl (fun c4 => ?_) (fun c4 => ?_)
        · dsimp only [zc] at c4
          refine aw_lload_n rfl rfl rfl ?_
          refine aw_ldc2 (191476) rfl rfl rfl ?_
          refine aw_lcif (p' := 50) rfl rfl (by omega) (by omega) (by omega) (by omega) rfl rfl (fun c5 => ?_) (fun c5 => ?_)
          · dsimp only [zc] at c5
            refine aw_lload_n rfl rfl rfl ?_
            refine aw_ldc2 (186990) rfl rfl rfl ?_
            refine aw_lcif (p' := 60) rfl rfl (by omega) (by omega) (by omega) (by omega) rfl rfl (fun c6 => ?_) (fun c6 => ?_)
            · dsimp only [zc] at c6
              refine aw_lload_n rfl rfl rfl ?_
              refine aw_ldc2 (186488) rfl rfl rfl ?_
              refine aw_lcif (p' := 71) rfl rfl (by omega) (by omega) (by omega) (by omega) rfl rfl (fun c7 => ?_) (fun c7 => ?_)
              · dsimp only [zc] at c7
                refine aw_lload_n rfl rfl rfl ?_
                refine aw_ldc2 (10681714) rfl rfl rfl ?_
                refine aw_lcif (p' := 82) rfl rfl (by omega) (by omega) (by omega) (by omega) rfl rfl (fun c8 => ?_) (fun c8 => ?_)
                · dsimp only [zc] at c8
                  refine aw_lload_n rfl rfl rfl ?_
                  refine aw_ldc2 (767487272) rfl rfl rfl ?_
                  refine aw_lcif (p' := 93) rfl rfl (by omega) (by omega) (by omega) (by omega) rfl rfl (fun c9 => ?_) (fun c9 => ?_)
                  · dsimp only [zc] at c9
                    refine aw_lload_n rfl rfl rfl ?_
                    refine aw_ldc2 (149625) rfl rfl rfl ?_
                    refine aw_lcif (p' := 104) rfl rfl (by omega) (by omega) (by omega) (by omega) rfl rfl (fun c10 => ?_) (fun c10 => ?_)
                    · dsimp only [zc] at c10
                      refine aw_lload_n rfl rfl rfl ?_
                      refine aw_ldc2 (43581340212) rfl rfl rfl ?_
                      refine aw_lcif (p' := 115) rfl rfl (by omega) (by omega) (by omega) (by omega) rfl rfl (fun c11 => ?_) (fun c11 => ?_)
                      · dsimp only [zc] at c11
                        refine aw_lload_n rfl rfl rfl ?_
                        refine aw_ldc2 (11934649) rfl rfl rfl ?_
                        refine aw_lcif (p' := 126) rfl rfl (by omega) (by omega) (by omega) (by omega) rfl rfl (fun c12 => ?_) (fun c12 => ?_)
                        · dsimp only [zc] at c12
                          refine aw_lload_n rfl rfl rfl ?_
                          refine aw_ldc2 (11443108) rfl rfl rfl ?_
                          refine aw_lcif (p' := 137) rfl rfl (by omega) (by omega) (by omega) (by omega) rfl rfl (fun c13 => ?_) (fun c13 => ?_)
                          · dsimp only [zc] at c13
                            refine aw_lload_n rfl rfl rfl ?_
                            refine aw_ldc2 (883071911) rfl rfl rfl ?_
                            refine aw_lcif (p' := 148) rfl rfl (by omega) (by omega) (by omega) (by omega) rfl rfl (fun c14 => ?_) (fun c14 => ?_)
                            · dsimp only [zc] at c14
                              refine aw_lload_n rfl rfl rfl ?_
                              refine aw_ldc2 (869407532) rfl rfl rfl ?_
                              refine aw_lcif (p' := 159) rfl rfl (by omega) (by omega) (by omega) (by omega) rfl rfl (fun c15 => ?_) (fun c15 => ?_)
                              · dsimp only [zc] at c15
                                refine aw_iconst rfl rfl ?_
                                refine aw_reti rfl ?_
                                refine ⟨?_, rfl⟩
                                unfold wO
                                first | (repeat (first | rw [if_pos (by omega)] | rw [if_neg (by omega)])) | skip
                              · dsimp only [zc] at c15
                                refine aw_bipush rfl rfl rfl ?_
                                refine aw_reti rfl ?_
                                refine ⟨?_, rfl⟩
                                unfold wO
                                first | (repeat (first | rw [if_pos (by omega)] | rw [if_neg (by omega)])) | skip
                            · dsimp only [zc] at c14
                              refine aw_bipush rfl rfl rfl ?_
                              refine aw_reti rfl ?_
                              refine ⟨?_, rfl⟩
                              unfold wO
                              first | (repeat (first | rw [if_pos (by omega)] | rw [if_neg (by omega)])) | skip
                          · dsimp only [zc] at c13
                            refine aw_bipush rfl rfl rfl ?_
                            refine aw_reti rfl ?_
                            refine ⟨?_, rfl⟩
                            unfold wO
                            first | (repeat (first | rw [if_pos (by omega)] | rw [if_neg (by omega)])) | skip
                        · dsimp only [zc] at c12
                          refine aw_bipush rfl rfl rfl ?_
                          refine aw_reti rfl ?_
                          refine ⟨?_, rfl⟩
                          unfold wO
                          first | (repeat (first | rw [if_pos (by omega)] | rw [if_neg (by omega)])) | skip
                      · dsimp only [zc] at c11
                        refine aw_bipush rfl rfl rfl ?_
                        refine aw_reti rfl ?_
                        refine ⟨?_, rfl⟩
                        unfold wO
                        first | (repeat (first | rw [if_pos (by omega)] | rw [if_neg (by omega)])) | skip
                    · dsimp only [zc] at c10
                      refine aw_bipush rfl rfl rfl ?_
                      refine aw_reti rfl ?_
                      refine ⟨?_, rfl⟩
                      unfold wO
                      first | (repeat (first | rw [if_pos (by omega)] | rw [if_neg (by omega)])) | skip
                  · dsimp only [zc] at c9
                    refine aw_bipush rfl rfl rfl ?_
                    refine aw_reti rfl ?_
                    refine ⟨?_, rfl⟩
                    unfold wO
                    first | (repeat (first | rw [if_pos (by omega)] | rw [if_neg (by omega)])) | skip
                · dsimp only [zc] at c8
                  refine aw_bipush rfl rfl rfl ?_
                  refine aw_reti rfl ?_
                  refine ⟨?_, rfl⟩
                  unfold wO
                  first | (repeat (first | rw [if_pos (by omega)] | rw [if_neg (by omega)])) | skip
              · dsimp only [zc] at c7
                refine aw_bipush rfl rfl rfl ?_
                refine aw_reti rfl ?_
                refine ⟨?_, rfl⟩
                unfold wO
                first | (repeat (first | rw [if_pos (by omega)] | rw [if_neg (by omega)])) | skip
            · dsimp only [zc] at c6
              refine aw_iconst rfl rfl ?_
              refine aw_reti rfl ?_
              refine ⟨?_, rfl⟩
              unfold wO
              first | (repeat (first | rw [if_pos (by omega)] | rw [if_neg (by omega)])) | skip
          · dsimp only [zc] at c5
            refine aw_iconst rfl rfl ?_
            refine aw_reti rfl ?_
            refine ⟨?_, rfl⟩
            unfold wO
            first | (repeat (first | rw [if_pos (by omega)] | rw [if_neg (by omega)])) | skip
        · dsimp only [zc] at c4
          refine aw_iconst rfl rfl ?_
          refine aw_reti rfl ?_
          refine ⟨?_, rfl⟩
          unfold wO
          first | (repeat (first | rw [if_pos (by omega)] | rw [if_neg (by omega)])) | skip
      · dsimp only [zc] at c3
        refine aw_iconst rfl rfl ?_
        refine aw_reti rfl ?_
        refine ⟨?_, rfl⟩
        unfold wO
        first | (repeat (first | rw [if_pos (by omega)] | rw [if_neg (by omega)])) | skip
    · dsimp only [zc] at c2
      refine aw_iconst rfl rfl ?_
      refine aw_reti rfl ?_
      refine ⟨?_, rfl⟩
      unfold wO
      first | (repeat (first | rw [if_pos (by omega)] | rw [if_neg (by omega)])) | skip
  · dsimp only [zc] at c1
    refine aw_iconst rfl rfl ?_
    refine aw_reti rfl ?_
    refine ⟨?_, rfl⟩
    unfold wO
    first | (repeat (first | rw [if_pos (by omega)] | rw [if_neg (by omega)])) | skip
