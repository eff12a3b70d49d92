set_option maxRecDepth 10000 in
set_option maxHeartbeats 2000000 in
theorem c_isWord_l19 {d : Nat} {sz : Nat} {κ : Nat × (Nat → Int32) × Option Nat} {A : Nat → Int → Int} {g : Nat → Nat} {σ : az_S} (hC : CR sz κ A g σ) (hI : MI sz A) {i : Nat} (hi : i < 15) {s e : Int} (hs0 : 0 ≤ s) (hse : s ≤ e) (heN : e ≤ A 42 40) : ∀ (n : Nat) (j : Nat), ((wX.getD i []).length - (j : Int)).toNat = n → j ≤ (wX.getD i []).length → e - s = (wX.getD i []).length → (∀ k : Nat, k < j → A 74 (s + k) = (wX.getD i []).getD k 0) → aw (d + 4) k_X8_isWord (some .boolean) (fun r τ => r = some (.int (iI (bI (wM (A 74) s e i)))) ∧ τ = σ) 19 [some (.ref 9), some (.int (iI s)), some (.int (iI e)), some (.ref (1000010 + i)), some (.int (iI (j : Int)))] [] σ := by
  intro n
  induction n using Nat.strongRecOn with
  | ind n ih =>
    intro j hn hj hl hm
    have htp := hI.taped
    have htb := hI.tape
    have hwb := wX_b i hi
    refine aw_iload rfl rfl rfl ?_
    refine aw_aload_n rfl rfl rfl ?_
    refine aw_fnc (j_slen hi (hC.str hi)) rfl rfl rfl (Nat.le_of_ble_eq_true rfl) (Or.inr ⟨_, rfl, (by rw [(hC.str hi).1])⟩) rfl ?_
    refine aw_icmp (p' := 53) rfl ⟨by omega, by omega⟩ ⟨by omega, by omega⟩ rfl rfl (fun c1 => ?_) (fun c1 => ?_)
    · dsimp only [zc] at c1
      refine aw_iconst rfl rfl ?_
      refine aw_retn rfl (by first | rfl | exact bI_nar _) ?_
      refine ⟨?_, rfl⟩
      rw [bI_t ⟨hl, (mWd_iff _ _).mpr (fun k hk => hm k (by omega))⟩]
    · dsimp only [zc] at c1
      refine aw_aload_n rfl rfl rfl ?_
      refine aw_iload_n rfl rfl rfl ?_
      refine aw_iload rfl rfl rfl ?_
      refine aw_iadd rfl rfl ?_
      skip
      refine aw_fnc (c_byteAt hC hI ⟨by omega, by omega⟩) rfl rfl rfl (Nat.le_of_ble_eq_true rfl) (Or.inr ⟨_, rfl, (hC.f.k 9 rfl)⟩) rfl ?_
      rw [bA_i (by omega) (by omega)]
      refine aw_aload_n rfl rfl rfl ?_
      refine aw_iload rfl rfl rfl ?_
      refine aw_fnc (j_char hi (hC.str hi) (by omega)) rfl rfl rfl (Nat.le_of_ble_eq_true rfl) (Or.inr ⟨_, rfl, (by rw [(hC.str hi).1])⟩) rfl ?_
      have h2 := hwb.2.2 j (by omega)
      refine aw_icmp (p' := 47) rfl ⟨by omega, by omega⟩ ⟨by omega, by omega⟩ rfl rfl (fun c2 => ?_) (fun c2 => ?_)
      · dsimp only [zc] at c2
        refine aw_iinc rfl rfl rfl rfl ?_
        change aw _ _ _ _ 50 [some (.ref 9), some (.int (iI _)), some (.int (iI _)), some (.ref (1000010 + i)), some (.int (iI _))] _ _
        refine aw_goto (p' := 19) rfl rfl ?_
        refine ih _ (by omega) (j + 1) rfl (by omega) hl (fun k hk => ?_)
        by_cases e : k = j
        · subst e
          have h1 := htb (s + k) (by omega) (by omega)
          have h2 := hwb.2.2 k (by omega)
          omega
        · exact hm k (by omega)
      · dsimp only [zc] at c2
        refine aw_iconst rfl rfl ?_
        refine aw_retn rfl (by first | rfl | exact bI_nar _) ?_
        refine ⟨?_, rfl⟩
        rw [bI_f (fun q => by have := (mWd_iff _ _).mp q.2 j (by omega); omega)]
set_option maxRecDepth 10000 in
set_option maxHeartbeats 2000000 in
theorem c_isWord {d : Nat} {sz : Nat} {κ : Nat × (Nat → Int32) × Option Nat} {A : Nat → Int → Int} {g : Nat → Nat} {σ : az_S} (hC : CR sz κ A g σ) (hI : MI sz A) {i : Nat} (hi : i < 15) {s e : Int} (hs0 : 0 ≤ s) (hse : s ≤ e) (heN : e ≤ A 42 40) : fn (d + 5) 73 [.ref 9, .int (iI s), .int (iI e), .ref (1000010 + i)] σ (.int (iI (bI (wM (A 74) s e i)))) := by
  have htp := hI.taped
  have htb := hI.tape
  have hwb := wX_b i hi
  refine fn_of (M := (yX8_isWord, cX8_isWord, 5, (some .boolean))) (cd := k_X8_isWord) (L := [some (.ref 9), some (.int (iI s)), some (.int (iI e)), some (.ref (1000010 + i)), none]) rfl (Nat.le_of_ble_eq_true rfl) rfl rfl ?_
  refine aw_aload_n rfl rfl rfl ?_
  refine aw_ifnn rfl rfl ?_
  refine aw_iload_n rfl rfl rfl ?_
  refine aw_iload_n rfl rfl rfl ?_
  refine aw_isub rfl rfl ?_
  refine aw_aload_n rfl rfl rfl ?_
  refine aw_fnc (j_slen hi (hC.str hi)) rfl rfl rfl (Nat.le_of_ble_eq_true rfl) (Or.inr ⟨_, rfl, (by rw [(hC.str hi).1])⟩) rfl ?_
  refine aw_icmp (p' := 16) rfl ⟨by omega, by omega⟩ ⟨by omega, by omega⟩ rfl rfl (fun c3 => ?_) (fun c3 => ?_)
  · dsimp only [zc] at c3
    refine aw_iconst rfl rfl ?_
    refine aw_istore rfl (Nat.le_of_ble_eq_true rfl) rfl rfl ?_
    change aw _ _ _ _ 19 [some (.ref 9), some (.int (iI _)), some (.int (iI _)), some (.ref (1000010 + i)), some (.int (iI _))] _ _
    exact c_isWord_l19 hC hI hi hs0 hse heN _ 0 rfl (by omega) (by omega) (fun k hk => absurd hk (Nat.not_lt_zero k))
  · dsimp only [zc] at c3
    refine aw_iconst rfl rfl ?_
    refine aw_retn rfl (by first | rfl | exact bI_nar _) ?_
    refine ⟨?_, rfl⟩
    rw [bI_f (fun q => by have := q.1; omega)]
noncomputable def nmO (B : Int → Int) (s e : Int) : Int := zit (wM B s e 0) 0 (zit (wM B s e 1) 1 (zit (wM B s e 2) 2 (zit (wM B s e 3) 3 (zit (wM B s e 4) 4 (zit (wM B s e 5) 5 (zit (wM B s e 6) 6 (zit (wM B s e 7) 7 (-1))))))))
noncomputable def kwO (B : Int → Int) (s e : Int) : Int := zit (wM B s e 8) 4 (zit (wM B s e 9) 5 (zit (wM B s e 10) 6 (zit (wM B s e 11) 7 (zit (wM B s e 12) 8 (zit (wM B s e 13) 9 (zit (wM B s e 14) 10 (1)))))))
set_option maxRecDepth 10000 in
set_option maxHeartbeats 2000000 in
theorem c_nmOf {d : Nat} {sz : Nat} {κ : Nat × (Nat → Int32) × Option Nat} {A : Nat → Int → Int} {g : Nat → Nat} {σ : az_S} (hC : CR sz κ A g σ) (hI : MI sz A) {s e : Int} (hs0 : 0 ≤ s) (hse : s ≤ e) (heN : e ≤ A 42 40) : fn (d + 6) 71 [.ref 9, .int (iI s), .int (iI e)] σ (.int (iI (nmO (A 74) s e))) := by
  refine fn_of (M := (yX8_nameOf, cX8_nameOf, 3, (some .int))) (cd := k_X8_nameOf) (L := [some (.ref 9), some (.int (iI s)), some (.int (iI e))]) rfl (Nat.le_of_ble_eq_true rfl) rfl rfl ?_
  refine aw_aload_n rfl rfl rfl ?_
  refine aw_iload_n rfl rfl rfl ?_
  refine aw_iload_n rfl rfl rfl ?_
  refine aw_ldcr rfl rfl ?_
  refine aw_fnc (c_isWord (i := 0) hC hI (by decide) hs0 hse heN) rfl rfl rfl (Nat.le_of_ble_eq_true rfl) (Or.inr ⟨_, rfl, (hC.f.k 9 rfl)⟩) rfl ?_
  refine aw_ifeqb (p' := 13) rfl rfl rfl (fun c1 => ?_) (fun c1 => ?_)
  · refine aw_aload_n rfl rfl rfl ?_
    refine aw_iload_n rfl rfl rfl ?_
    refine aw_iload_n rfl rfl rfl ?_
    refine aw_ldcr rfl rfl ?_
    refine aw_fnc (c_isWord (i := 1) hC hI (by decide) hs0 hse heN) rfl rfl rfl (Nat.le_of_ble_eq_true rfl) (Or.inr ⟨_, rfl, (hC.f.k 9 rfl)⟩) rfl ?_
    refine aw_ifeqb (p' := 26) rfl rfl rfl (fun c2 => ?_) (fun c2 => ?_)
    · refine aw_aload_n rfl rfl rfl ?_
      refine aw_iload_n rfl rfl rfl ?_
      refine aw_iload_n rfl rfl rfl ?_
      refine aw_ldcr rfl rfl ?_
      refine aw_fnc (c_isWord (i := 2) hC hI (by decide) hs0 hse heN) rfl rfl rfl (Nat.le_of_ble_eq_true rfl) (Or.inr ⟨_, rfl, (hC.f.k 9 rfl)⟩) rfl ?_
      refine aw_ifeqb (p' := 39) rfl rfl rfl (fun c3 => ?_) (fun c3 => ?_)
      · refine aw_aload_n rfl rfl rfl ?_
        refine aw_iload_n rfl rfl rfl ?_
        refine aw_iload_n rfl rfl rfl ?_
        refine aw_ldcr rfl rfl ?_
        refine aw_fnc (c_isWord (i := 3) hC hI (by decide) hs0 hse heN) rfl rfl rfl (Nat.le_of_ble_eq_true rfl) (Or.inr ⟨_, rfl, (hC.f.k 9 rfl)⟩) rfl ?_
        refine aw_ifeqb (p' := 52) rfl rfl rfl (fun c4 => ?_) (fun c4 => ?_)
        · refine aw_aload_n rfl rfl rfl ?_
          refine aw_iload_n rfl rfl rfl ?_
          refine aw_iload_n rfl rfl rfl ?_
          refine aw_ldcr rfl rfl ?_
          refine aw_fnc (c_isWord (i := 4) hC hI (by decide) hs0 hse heN) rfl rfl rfl (Nat.le_of_ble_eq_true rfl) (Or.inr ⟨_, rfl, (hC.f.k 9 rfl)⟩) rfl ?_
          refine aw_ifeqb (p' := 65) rfl rfl rfl (fun c5 => ?_) (fun c5 => ?_)
          · refine aw_aload_n rfl rfl rfl ?_
            refine aw_iload_n rfl rfl rfl ?_
            refine aw_iload_n rfl rfl rfl ?_
            refine aw_ldcr rfl rfl ?_
            refine aw_fnc (c_isWord (i := 5) hC hI (by decide) hs0 hse heN) rfl rfl rfl (Nat.le_of_ble_eq_true rfl) (Or.inr ⟨_, rfl, (hC.f.k 9 rfl)⟩) rfl ?_
            refine aw_ifeqb (p' := 78) rfl rfl rfl (fun c6 => ?_) (fun c6 => ?_)
            · refine aw_aload_n rfl rfl rfl ?_
              refine aw_iload_n rfl rfl rfl ?_
              refine aw_iload_n rfl rfl rfl ?_
              refine aw_ldcr rfl rfl ?_
              refine aw_fnc (c_isWord (i := 6) hC hI (by decide) hs0 hse heN) rfl rfl rfl (Nat.le_of_ble_eq_true rfl) (Or.inr ⟨_, rfl, (hC.f.k 9 rfl)⟩) rfl ?_
              refine aw_ifeqb (p' := 92) rfl rfl rfl (fun c7 => ?_) (fun c7 => ?_)
              · refine aw_aload_n rfl rfl rfl ?_
                refine aw_iload_n rfl rfl rfl ?_
                refine aw_iload_n rfl rfl rfl ?_
                refine aw_ldcr rfl rfl ?_
                refine aw_fnc (c_isWord (i := 7) hC hI (by decide) hs0 hse heN) rfl rfl rfl (Nat.le_of_ble_eq_true rfl) (Or.inr ⟨_, rfl, (hC.f.k 9 rfl)⟩) rfl ?_
                refine aw_ifeqb (p' := 106) rfl rfl rfl (fun c8 => ?_) (fun c8 => ?_)
                · refine aw_iconst rfl rfl ?_
                  refine aw_reti rfl ?_
                  refine ⟨?_, rfl⟩
                  unfold nmO
                  rw [zit_f (p := wM (A 74) s e 0) (by assumption)]
                  rw [zit_f (p := wM (A 74) s e 1) (by assumption)]
                  rw [zit_f (p := wM (A 74) s e 2) (by assumption)]
                  rw [zit_f (p := wM (A 74) s e 3) (by assumption)]
                  rw [zit_f (p := wM (A 74) s e 4) (by assumption)]
                  rw [zit_f (p := wM (A 74) s e 5) (by assumption)]
                  rw [zit_f (p := wM (A 74) s e 6) (by assumption)]
                  rw [zit_f (p := wM (A 74) s e 7) (by assumption)]
                · refine aw_bipush rfl rfl rfl ?_
                  refine aw_reti rfl ?_
                  refine ⟨?_, rfl⟩
                  unfold nmO
                  rw [zit_f (p := wM (A 74) s e 0) (by assumption)]
                  rw [zit_f (p := wM (A 74) s e 1) (by assumption)]
                  rw [zit_f (p := wM (A 74) s e 2) (by assumption)]
                  rw [zit_f (p := wM (A 74) s e 3) (by assumption)]
                  rw [zit_f (p := wM (A 74) s e 4) (by assumption)]
                  rw [zit_f (p := wM (A 74) s e 5) (by assumption)]
                  rw [zit_f (p := wM (A 74) s e 6) (by assumption)]
                  rw [zit_t (p := wM (A 74) s e 7) (by assumption)]
              · refine aw_bipush rfl rfl rfl ?_
                refine aw_reti rfl ?_
                refine ⟨?_, rfl⟩
                unfold nmO
                rw [zit_f (p := wM (A 74) s e 0) (by assumption)]
                rw [zit_f (p := wM (A 74) s e 1) (by assumption)]
                rw [zit_f (p := wM (A 74) s e 2) (by assumption)]
                rw [zit_f (p := wM (A 74) s e 3) (by assumption)]
                rw [zit_f (p := wM (A 74) s e 4) (by assumption)]
                rw [zit_f (p := wM (A 74) s e 5) (by assumption)]
                rw [zit_t (p := wM (A 74) s e 6) (by assumption)]
            · refine aw_iconst rfl rfl ?_
              refine aw_reti rfl ?_
              refine ⟨?_, rfl⟩
              unfold nmO
              rw [zit_f (p := wM (A 74) s e 0) (by assumption)]
              rw [zit_f (p := wM (A 74) s e 1) (by assumption)]
              rw [zit_f (p := wM (A 74) s e 2) (by assumption)]
              rw [zit_f (p := wM (A 74) s e 3) (by assumption)]
              rw [zit_f (p := wM (A 74) s e 4) (by assumption)]
              rw [zit_t (p := wM (A 74) s e 5) (by assumption)]
          · refine aw_iconst rfl rfl ?_
            refine aw_reti rfl ?_
            refine ⟨?_, rfl⟩
            unfold nmO
            rw [zit_f (p := wM (A 74) s e 0) (by assumption)]
            rw [zit_f (p := wM (A 74) s e 1) (by assumption)]
            rw [zit_f (p := wM (A 74) s e 2) (by assumption)]
            rw [zit_f (p := wM (A 74) s e 3) (by assumption)]
            rw [zit_t (p := wM (A 74) s e 4) (by assumption)]
        · refine aw_iconst rfl rfl ?_
          refine aw_reti rfl ?_
          refine ⟨?_, rfl⟩
          unfold nmO
          rw [zit_f (p := wM (A 74) s e 0) (by assumption)]
          rw [zit_f (p := wM (A 74) s e 1) (by assumption)]
          rw [zit_f (p := wM (A 74) s e 2) (by assumption)]
          rw [zit_t (p := wM (A 74) s e 3) (by assumption)]
      · refine aw_iconst rfl rfl ?_
        refine aw_reti rfl ?_
        refine ⟨?_, rfl⟩
        unfold nmO
        rw [zit_f (p := wM (A 74) s e 0) (by assumption)]
        rw [zit_f (p := wM (A 74) s e 1) (by assumption)]
        rw [zit_t (p := wM (A 74) s e 2) (by assumption)]
    · refine aw_iconst rfl rfl ?_
      refine aw_reti rfl ?_
      refine ⟨?_, rfl⟩
      unfold nmO
      rw [zit_f (p := wM (A 74) s e 0) (by assumption)]
      rw [zit_t (p := wM (A 74) s e 1) (by assumption)]
  · refine aw_iconst rfl rfl ?_
    refine aw_reti rfl ?_
    refine ⟨?_, rfl⟩
    unfold nmO
    rw [zit_t (p := wM (A 74) s e 0) (by assumption)]
set_option maxRecDepth 10000 in
set_option maxHeartbeats 2000000 in
theorem c_kindOfWord {d : Nat} {sz : Nat} {κ : Nat × (Nat → Int32) × Option Nat} {A : Nat → Int → Int} {g : Nat → Nat} {σ : az_S} (hC : CR sz κ A g σ) (hI : MI sz A) {s e : Int} (hs0 : 0 ≤ s) (hse : s ≤ e) (heN : e ≤ A 42 40) : fn (d + 6) 72 [.ref 9, .int (iI s), .int (iI e)] σ (.int (iI (kwO (A 74) s e))) := by
  refine fn_of (M := (yX8_kindOfWord, cX8_kindOfWord, 3, (some .int))) (cd := k_X8_kindOfWord) (L := [some (.ref 9), some (.int (iI s)), some (.int (iI e))]) rfl (Nat.le_of_ble_eq_true rfl) rfl rfl ?_
  refine aw_aload_n rfl rfl rfl ?_
  refine aw_iload_n rfl rfl rfl ?_
  refine aw_iload_n rfl rfl rfl ?_
  refine aw_ldcr rfl rfl ?_
  refine aw_fnc (c_isWord (i := 8) hC hI (by decide) hs0 hse heN) rfl rfl rfl (Nat.le_of_ble_eq_true rfl) (Or.inr ⟨_, rfl, (hC.f.k 9 rfl)⟩) rfl ?_
  refine aw_ifeqb (p' := 13) rfl rfl rfl (fun c1 => ?_) (fun c1 => ?_)
  · refine aw_aload_n rfl rfl rfl ?_
    refine aw_iload_n rfl rfl rfl ?_
    refine aw_iload_n rfl rfl rfl ?_
    refine aw_ldcr rfl rfl ?_
    refine aw_fnc (c_isWord (i := 9) hC hI (by decide) hs0 hse heN) rfl rfl rfl (Nat.le_of_ble_eq_true rfl) (Or.inr ⟨_, rfl, (hC.f.k 9 rfl)⟩) rfl ?_
    refine aw_ifeqb (p' := 26) rfl rfl rfl (fun c2 => ?_) (fun c2 => ?_)
    · refine aw_aload_n rfl rfl rfl ?_
      refine aw_iload_n rfl rfl rfl ?_
      refine aw_iload_n rfl rfl rfl ?_
      refine aw_ldcr rfl rfl ?_
      refine aw_fnc (c_isWord (i := 10) hC hI (by decide) hs0 hse heN) rfl rfl rfl (Nat.le_of_ble_eq_true rfl) (Or.inr ⟨_, rfl, (hC.f.k 9 rfl)⟩) rfl ?_
      refine aw_ifeqb (p' := 40) rfl rfl rfl (fun c3 => ?_) (fun c3 => ?_)
      · refine aw_aload_n rfl rfl rfl ?_
        refine aw_iload_n rfl rfl rfl ?_
        refine aw_iload_n rfl rfl rfl ?_
        refine aw_ldcr rfl rfl ?_
        refine aw_fnc (c_isWord (i := 11) hC hI (by decide) hs0 hse heN) rfl rfl rfl (Nat.le_of_ble_eq_true rfl) (Or.inr ⟨_, rfl, (hC.f.k 9 rfl)⟩) rfl ?_
        refine aw_ifeqb (p' := 54) rfl rfl rfl (fun c4 => ?_) (fun c4 => ?_)
        · refine aw_aload_n rfl rfl rfl ?_
          refine aw_iload_n rfl rfl rfl ?_
          refine aw_iload_n rfl rfl rfl ?_
          refine aw_ldcr rfl rfl ?_
          refine aw_fnc (c_isWord (i := 12) hC hI (by decide) hs0 hse heN) rfl rfl rfl (Nat.le_of_ble_eq_true rfl) (Or.inr ⟨_, rfl, (hC.f.k 9 rfl)⟩) rfl ?_
          refine aw_ifeqb (p' := 68) rfl rfl rfl (fun c5 => ?_) (fun c5 => ?_)
          · refine aw_aload_n rfl rfl rfl ?_
            refine aw_iload_n rfl rfl rfl ?_
            refine aw_iload_n rfl rfl rfl ?_
            refine aw_ldcr rfl rfl ?_
            refine aw_fnc (c_isWord (i := 13) hC hI (by decide) hs0 hse heN) rfl rfl rfl (Nat.le_of_ble_eq_true rfl) (Or.inr ⟨_, rfl, (hC.f.k 9 rfl)⟩) rfl ?_
            refine aw_ifeqb (p' := 82) rfl rfl rfl (fun c6 => ?_) (fun c6 => ?_)
            · refine aw_aload_n rfl rfl rfl ?_
              refine aw_iload_n rfl rfl rfl ?_
              refine aw_iload_n rfl rfl rfl ?_
              refine aw_ldcr rfl rfl ?_
              refine aw_fnc (c_isWord (i := 14) hC hI (by decide) hs0 hse heN) rfl rfl rfl (Nat.le_of_ble_eq_true rfl) (Or.inr ⟨_, rfl, (hC.f.k 9 rfl)⟩) rfl ?_
              refine aw_ifeqb (p' := 96) rfl rfl rfl (fun c7 => ?_) (fun c7 => ?_)
              · refine aw_iconst rfl rfl ?_
                refine aw_reti rfl ?_
                refine ⟨?_, rfl⟩
                unfold kwO
                rw [zit_f (p := wM (A 74) s e 8) (by assumption)]
                rw [zit_f (p := wM (A 74) s e 9) (by assumption)]
                rw [zit_f (p := wM (A 74) s e 10) (by assumption)]
                rw [zit_f (p := wM (A 74) s e 11) (by assumption)]
                rw [zit_f (p := wM (A 74) s e 12) (by assumption)]
                rw [zit_f (p := wM (A 74) s e 13) (by assumption)]
                rw [zit_f (p := wM (A 74) s e 14) (by assumption)]
              · refine aw_bipush rfl rfl rfl ?_
                refine aw_reti rfl ?_
                refine ⟨?_, rfl⟩
                unfold kwO
                rw [zit_f (p := wM (A 74) s e 8) (by assumption)]
                rw [zit_f (p := wM (A 74) s e 9) (by assumption)]
                rw [zit_f (p := wM (A 74) s e 10) (by assumption)]
                rw [zit_f (p := wM (A 74) s e 11) (by assumption)]
                rw [zit_f (p := wM (A 74) s e 12) (by assumption)]
                rw [zit_f (p := wM (A 74) s e 13) (by assumption)]
                rw [zit_t (p := wM (A 74) s e 14) (by assumption)]
            · refine aw_bipush rfl rfl rfl ?_
              refine aw_reti rfl ?_
              refine ⟨?_, rfl⟩
              unfold kwO
              rw [zit_f (p := wM (A 74) s e 8) (by assumption)]
              rw [zit_f (p := wM (A 74) s e 9) (by assumption)]
              rw [zit_f (p := wM (A 74) s e 10) (by assumption)]
              rw [zit_f (p := wM (A 74) s e 11) (by assumption)]
              rw [zit_f (p := wM (A 74) s e 12) (by assumption)]
              rw [zit_t (p := wM (A 74) s e 13) (by assumption)]
          · refine aw_bipush rfl rfl rfl ?_
            refine aw_reti rfl ?_
            refine ⟨?_, rfl⟩
            unfold kwO
            rw [zit_f (p := wM (A 74) s e 8) (by assumption)]
            rw [zit_f (p := wM (A 74) s e 9) (by assumption)]
            rw [zit_f (p := wM (A 74) s e 10) (by assumption)]
            rw [zit_f (p := wM (A 74) s e 11) (by assumption)]
            rw [zit_t (p := wM (A 74) s e 12) (by assumption)]
        · refine aw_bipush rfl rfl rfl ?_
          refine aw_reti rfl ?_
          refine ⟨?_, rfl⟩
          unfold kwO
          rw [zit_f (p := wM (A 74) s e 8) (by assumption)]
          rw [zit_f (p := wM (A 74) s e 9) (by assumption)]
          rw [zit_f (p := wM (A 74) s e 10) (by assumption)]
          rw [zit_t (p := wM (A 74) s e 11) (by assumption)]
      · refine aw_bipush rfl rfl rfl ?_
        refine aw_reti rfl ?_
        refine ⟨?_, rfl⟩
        unfold kwO
        rw [zit_f (p := wM (A 74) s e 8) (by assumption)]
        rw [zit_f (p := wM (A 74) s e 9) (by assumption)]
        rw [zit_t (p := wM (A 74) s e 10) (by assumption)]
    · refine aw_iconst rfl rfl ?_
      refine aw_reti rfl ?_
      refine ⟨?_, rfl⟩
      unfold kwO
      rw [zit_f (p := wM (A 74) s e 8) (by assumption)]
      rw [zit_t (p := wM (A 74) s e 9) (by assumption)]
  · refine aw_iconst rfl rfl ?_
    refine aw_reti rfl ?_
    refine ⟨?_, rfl⟩
    unfold kwO
    rw [zit_t (p := wM (A 74) s e 8) (by assumption)]
theorem nm_kw (B : Int → Int) (s e : Int) : (nmO B s e = -1 ∧ KW B s e (kwO B s e) 0) ∨ (nmO B s e ≠ -1 ∧ KW B s e 3 (nmO B s e)) := by
  unfold nmO
  by_cases h0 : wM B s e 0
  · right
    rw [zit_t h0]
    exact ⟨by decide, Or.inl ⟨0, by decide, h0, rfl, rfl⟩⟩
  by_cases h1 : wM B s e 1
  · right
    rw [zit_f h0, zit_t h1]
    exact ⟨by decide, Or.inl ⟨1, by decide, h1, rfl, rfl⟩⟩
  by_cases h2 : wM B s e 2
  · right
    rw [zit_f h0, zit_f h1, zit_t h2]
    exact ⟨by decide, Or.inl ⟨2, by decide, h2, rfl, rfl⟩⟩
  by_cases h3 : wM B s e 3
  · right
    rw [zit_f h0, zit_f h1, zit_f h2, zit_t h3]
    exact ⟨by decide, Or.inl ⟨3, by decide, h3, rfl, rfl⟩⟩
  by_cases h4 : wM B s e 4
  · right
    rw [zit_f h0, zit_f h1, zit_f h2, zit_f h3, zit_t h4]
    exact ⟨by decide, Or.inl ⟨4, by decide, h4, rfl, rfl⟩⟩
  by_cases h5 : wM B s e 5
  · right
    rw [zit_f h0, zit_f h1, zit_f h2, zit_f h3, zit_f h4, zit_t h5]
    exact ⟨by decide, Or.inl ⟨5, by decide, h5, rfl, rfl⟩⟩
  by_cases h6 : wM B s e 6
  · right
    rw [zit_f h0, zit_f h1, zit_f h2, zit_f h3, zit_f h4, zit_f h5, zit_t h6]
    exact ⟨by decide, Or.inl ⟨6, by decide, h6, rfl, rfl⟩⟩
  by_cases h7 : wM B s e 7
  · right
    rw [zit_f h0, zit_f h1, zit_f h2, zit_f h3, zit_f h4, zit_f h5, zit_f h6, zit_t h7]
    exact ⟨by decide, Or.inl ⟨7, by decide, h7, rfl, rfl⟩⟩
  left
  rw [zit_f h0, zit_f h1, zit_f h2, zit_f h3, zit_f h4, zit_f h5, zit_f h6, zit_f h7]
  refine ⟨rfl, ?_⟩
  unfold kwO
  by_cases h8 : wM B s e 8
  · rw [zit_t h8]
    exact Or.inr (Or.inl ⟨8, by decide, by decide, h8, rfl, rfl⟩)
  by_cases h9 : wM B s e 9
  · rw [zit_f h8, zit_t h9]
    exact Or.inr (Or.inl ⟨9, by decide, by decide, h9, rfl, rfl⟩)
  by_cases h10 : wM B s e 10
  · rw [zit_f h8, zit_f h9, zit_t h10]
    exact Or.inr (Or.inl ⟨10, by decide, by decide, h10, rfl, rfl⟩)
  by_cases h11 : wM B s e 11
  · rw [zit_f h8, zit_f h9, zit_f h10, zit_t h11]
    exact Or.inr (Or.inl ⟨11, by decide, by decide, h11, rfl, rfl⟩)
  by_cases h12 : wM B s e 12
  · rw [zit_f h8, zit_f h9, zit_f h10, zit_f h11, zit_t h12]
    exact Or.inr (Or.inl ⟨12, by decide, by decide, h12, rfl, rfl⟩)
  by_cases h13 : wM B s e 13
  · rw [zit_f h8, zit_f h9, zit_f h10, zit_f h11, zit_f h12, zit_t h13]
    exact Or.inr (Or.inl ⟨13, by decide, by decide, h13, rfl, rfl⟩)
  by_cases h14 : wM B s e 14
  · rw [zit_f h8, zit_f h9, zit_f h10, zit_f h11, zit_f h12, zit_f h13, zit_t h14]
    exact Or.inr (Or.inl ⟨14, by decide, by decide, h14, rfl, rfl⟩)
  rw [zit_f h8, zit_f h9, zit_f h10, zit_f h11, zit_f h12, zit_f h13, zit_f h14]
  refine Or.inr (Or.inr ⟨fun i hi => ?_, rfl, rfl⟩)
  have hi' : i = 0 ∨ i = 1 ∨ i = 2 ∨ i = 3 ∨ i = 4 ∨ i = 5 ∨ i = 6 ∨ i = 7 ∨ i = 8 ∨ i = 9 ∨ i = 10 ∨ i = 11 ∨ i = 12 ∨ i = 13 ∨ i = 14 := by omega
  rcases hi' with rfl | rfl | rfl | rfl | rfl | rfl | rfl | rfl | rfl | rfl | rfl | rfl | rfl | rfl | rfl
  · exact h0
  · exact h1
  · exact h2
  · exact h3
  · exact h4
  · exact h5
  · exact h6
  · exact h7
  · exact h8
  · exact h9
  · exact h10
  · exact h11
  · exact h12
  · exact h13
  · exact h14
theorem nmO_b (B : Int → Int) (s e : Int) : (-1 ≤ nmO B s e ∧ nmO B s e ≤ 7) ∧ (1 ≤ kwO B s e ∧ kwO B s e ≤ 10) := by
  have z : ∀ (p : Prop) (a b : Int), zit p a b = a ∨ zit p a b = b := fun p a b => by by_cases h : p; exact Or.inl (zit_t h); exact Or.inr (zit_f h)
  rcases nm_kw B s e with ⟨h1, h2⟩ | ⟨h1, h2⟩
  · rcases h2 with ⟨i, a, b, c, d⟩ | ⟨i, a, b, c, d, e⟩ | ⟨a, b, c⟩ <;> omega
  · have hk : 1 ≤ kwO B s e ∧ kwO B s e ≤ 10 := by
      unfold kwO
      by_cases h8 : wM B s e 8
      · rw [zit_t h8]; decide
      by_cases h9 : wM B s e 9
      · rw [zit_f h8, zit_t h9]; decide
      by_cases h10 : wM B s e 10
      · rw [zit_f h8, zit_f h9, zit_t h10]; decide
      by_cases h11 : wM B s e 11
      · rw [zit_f h8, zit_f h9, zit_f h10, zit_t h11]; decide
      by_cases h12 : wM B s e 12
      · rw [zit_f h8, zit_f h9, zit_f h10, zit_f h11, zit_t h12]; decide
      by_cases h13 : wM B s e 13
      · rw [zit_f h8, zit_f h9, zit_f h10, zit_f h11, zit_f h12, zit_t h13]; decide
      by_cases h14 : wM B s e 14
      · rw [zit_f h8, zit_f h9, zit_f h10, zit_f h11, zit_f h12, zit_f h13, zit_t h14]; decide
      rw [zit_f h8, zit_f h9, zit_f h10, zit_f h11, zit_f h12, zit_f h13, zit_f h14]; decide
    rcases h2 with ⟨i, a, b, c, d⟩ | ⟨i, a, b, c, d, e⟩ | ⟨a, b, c⟩ <;> omega
set_option maxRecDepth 10000 in
set_option maxHeartbeats 2000000 in
theorem c_addToken {d : Nat} {sz : Nat} {κ : Nat × (Nat → Int32) × Option Nat} {A : Nat → Int → Int} {g : Nat → Nat} {σ : az_S} (hC : CR sz κ A g σ) (hI : MI sz A) {T : Int} (hT : zx σ 9 5 = T) (hT0 : 0 ≤ T) (hT1 : T ≤ 400) {k : Int} (hk : inI k) {s : Int} (hs : inI s) {v : Int} (hv : inI v) : cal (d + 1) 64 [.ref 9, .int (iI k), .int (iI s), .int (iI v)] σ (fun r τ => r = none ∧ CR sz κ A g τ ∧ Mod σ τ [9, 11, 12, 13] ∧ zx τ 9 5 = T + 1 ∧ (∀ w : Int, zx τ 11 w = if w = T then k else zx σ 11 w) ∧ (∀ w : Int, zx τ 12 w = if w = T then s else zx σ 12 w) ∧ (∀ w : Int, zx τ 13 w = if w = T then v else zx σ 13 w)) := by
  obtain ⟨hk1, hk2⟩ := hk
  obtain ⟨hs1, hs2⟩ := hs
  obtain ⟨hv1, hv2⟩ := hv
  refine cal_of (M := (yX8_addToken, cX8_addToken, 4, none)) (cd := k_X8_addToken) (L := [some (.ref 9), some (.int (iI k)), some (.int (iI s)), some (.int (iI v))]) rfl (Nat.le_of_ble_eq_true rfl) rfl rfl ?_
  refine aw_aload_n rfl rfl rfl ?_
  refine aw_gk (v := T) (5) rfl rfl (hC.f.k 9 rfl) rfl hT rfl (fun _ _ => ?_)
  refine aw_if (p' := 59) rfl ⟨by omega, by omega⟩ rfl rfl (fun c1 => ?_) (fun c1 => ?_)
  · dsimp only [zc] at c1
    omega
  · dsimp only [zc] at c1
    refine aw_aload_n rfl rfl rfl ?_
    refine aw_gk (v := T) (5) rfl rfl (hC.f.k 9 rfl) rfl hT rfl (fun _ _ => ?_)
    refine aw_aload_n rfl rfl rfl ?_
    refine aw_getr (b := 11) rfl rfl (hC.f.k 9 rfl) (hC.f.r 9 2 11 rfl) rfl ?_
    refine aw_alen (N := 401) rfl (hC.f.s 11 rfl) (by decide) rfl ?_
    refine aw_icmp (p' := 59) rfl ⟨by omega, by omega⟩ ⟨by omega, by omega⟩ rfl rfl (fun c2 => ?_) (fun c2 => ?_)
    · dsimp only [zc] at c2
      omega
    · dsimp only [zc] at c2
      refine aw_aload_n rfl rfl rfl ?_
      refine aw_getr (b := 11) rfl rfl (hC.f.k 9 rfl) (hC.f.r 9 2 11 rfl) rfl ?_
      refine aw_aload_n rfl rfl rfl ?_
      refine aw_gk (v := T) (5) rfl rfl (hC.f.k 9 rfl) rfl hT rfl (fun _ _ => ?_)
      refine aw_iload_n rfl rfl rfl ?_
      refine aw_cs (N := 401) hC hI rfl (hC.f.s 11 rfl) (by omega) rfl (by omega) (by omega) ⟨by omega, by omega⟩ rfl (fun τ3 hM3 hD3 hU3 => ?_)
      refine aw_aload_n rfl rfl rfl ?_
      refine aw_getr (b := 12) rfl rfl (hM3.f.k 9 rfl) (hM3.f.r 9 3 12 rfl) rfl ?_
      refine aw_aload_n rfl rfl rfl ?_
      refine aw_gk (v := T) (5) rfl rfl (hM3.f.k 9 rfl) rfl (by rw [hD3.z 9 rfl]; exact hT) rfl (fun _ _ => ?_)
      refine aw_iload_n rfl rfl rfl ?_
      refine aw_cs (N := 401) hM3 hI rfl (hM3.f.s 12 rfl) (by omega) rfl (by omega) (by omega) ⟨by omega, by omega⟩ rfl (fun τ4 hM4 hD4 hU4 => ?_)
      refine aw_aload_n rfl rfl rfl ?_
      refine aw_getr (b := 13) rfl rfl (hM4.f.k 9 rfl) (hM4.f.r 9 4 13 rfl) rfl ?_
      refine aw_aload_n rfl rfl rfl ?_
      refine aw_gk (v := T) (5) rfl rfl (hM4.f.k 9 rfl) rfl (by rw [hD4.z 9 rfl, hD3.z 9 rfl]; exact hT) rfl (fun _ _ => ?_)
      refine aw_iload_n rfl rfl rfl ?_
      refine aw_cs (N := 401) hM4 hI rfl (hM4.f.s 13 rfl) (by omega) rfl (by omega) (by omega) ⟨by omega, by omega⟩ rfl (fun τ5 hM5 hD5 hU5 => ?_)
      refine aw_aload_n rfl rfl rfl ?_
      refine aw_dup rfl rfl rfl ?_
      refine aw_gk (v := T) (5) rfl rfl (hM5.f.k 9 rfl) rfl (by rw [hD5.z 9 rfl, hD4.z 9 rfl, hD3.z 9 rfl]; exact hT) rfl (fun _ _ => ?_)
      refine aw_iconst rfl rfl ?_
      refine aw_iadd rfl rfl ?_
      refine aw_c9 (5) hM5 hI rfl rfl (hM5.f.k 9 rfl) rfl rfl (by decide) ⟨by omega, by omega⟩ rfl (fun τ6 hM6 hD6 hU6 => ?_)
      refine aw_retv rfl ?_
      refine ⟨rfl, hM6, ((((hD3.su (T := [9, 11, 12, 13]) rfl).tr (hD4.su (T := [9, 11, 12, 13]) rfl)).tr (hD5.su (T := [9, 11, 12, 13]) rfl)).tr (hD6.su (T := [9, 11, 12, 13]) rfl)), by rw [hU6, if_pos rfl], fun w => ?_, fun w => ?_, fun w => ?_⟩
      · rw [hD6.z 11 rfl, hD5.z 11 rfl, hD4.z 11 rfl, hU3]
      · rw [hD6.z 12 rfl, hD5.z 12 rfl, hU4, hD3.z 12 rfl]
      · rw [hD6.z 13 rfl, hU5, hD4.z 13 rfl, hD3.z 13 rfl]
set_option maxRecDepth 10000 in
set_option maxHeartbeats 2000000 in
theorem c_addWord {d : Nat} {sz : Nat} {κ : Nat × (Nat → Int32) × Option Nat} {A : Nat → Int → Int} {g : Nat → Nat} {σ : az_S} (hC : CR sz κ A g σ) (hI : MI sz A) {T : Int} (hT : zx σ 9 5 = T) (hT0 : 0 ≤ T) (hT1 : T ≤ 400) {s e k v : Int} (hs0 : 0 ≤ s) (hse : s ≤ e) (heN : e ≤ A 42 40) (h1 : nmO (A 74) s e = -1 → k = kwO (A 74) s e ∧ v = 0) (h2 : nmO (A 74) s e ≠ -1 → k = 3 ∧ v = nmO (A 74) s e) : cal (d + 7) 70 [.ref 9, .int (iI s), .int (iI e)] σ (fun r τ => r = none ∧ CR sz κ A g τ ∧ Mod σ τ [9, 11, 12, 13] ∧ zx τ 9 5 = T + 1 ∧ (∀ w : Int, zx τ 11 w = if w = T then k else zx σ 11 w) ∧ (∀ w : Int, zx τ 12 w = if w = T then s else zx σ 12 w) ∧ (∀ w : Int, zx τ 13 w = if w = T then v else zx σ 13 w)) := by
  have htp := hI.taped
  have hnb := nmO_b (A 74) s e
  refine cal_of (M := (yX8_addWord, cX8_addWord, 4, none)) (cd := k_X8_addWord) (L := [some (.ref 9), some (.int (iI s)), some (.int (iI e)), none]) rfl (Nat.le_of_ble_eq_true rfl) rfl rfl ?_
  refine aw_aload_n rfl rfl rfl ?_
  refine aw_iload_n rfl rfl rfl ?_
  refine aw_iload_n rfl rfl rfl ?_
  refine aw_fnc (c_nmOf hC hI (by omega) (by omega) (by omega)) rfl rfl rfl (Nat.le_of_ble_eq_true rfl) (Or.inr ⟨_, rfl, (hC.f.k 9 rfl)⟩) rfl ?_
  refine aw_istore_n rfl (Nat.le_of_ble_eq_true rfl) rfl rfl ?_
  change aw _ _ _ _ 7 [some (.ref 9), some (.int (iI _)), some (.int (iI _)), some (.int (iI _))] _ _
  refine aw_iload_n rfl rfl rfl ?_
  refine aw_iconst rfl rfl ?_
  refine aw_icmp (p' := 27) rfl ⟨by omega, by omega⟩ ⟨by omega, by omega⟩ rfl rfl (fun c1 => ?_) (fun c1 => ?_)
  · dsimp only [zc] at c1
    refine aw_aload_n rfl rfl rfl ?_
    refine aw_iconst rfl rfl ?_
    refine aw_iload_n rfl rfl rfl ?_
    refine aw_iload_n rfl rfl rfl ?_
    refine aw_calc (c_addToken hC hI hT (by omega) (by omega) ⟨by omega, by omega⟩ ⟨by omega, by omega⟩ ⟨by omega, by omega⟩) rfl rfl rfl (Nat.le_of_ble_eq_true rfl) (Or.inr ⟨_, rfl, (hC.f.k 9 rfl)⟩) rfl ?_
    rintro _ τ2 ⟨rfl, hM2, hD2, hT2, hK2, hS2, hV2⟩
    change aw _ _ _ _ 34 [some (.ref 9), some (.int (iI _)), some (.int (iI _)), some (.int (iI _))] [] _
    refine aw_retv rfl ?_
    refine ⟨rfl, hM2, (hD2.su (T := [9, 11, 12, 13]) rfl), hT2, fun w => ?_, fun w => ?_, fun w => ?_⟩
    · rw [hK2]; split <;> first | rfl | omega
    · rw [hS2]
    · rw [hV2]; split <;> first | rfl | omega
  · dsimp only [zc] at c1
    refine aw_aload_n rfl rfl rfl ?_
    refine aw_aload_n rfl rfl rfl ?_
    refine aw_iload_n rfl rfl rfl ?_
    refine aw_iload_n rfl rfl rfl ?_
    refine aw_fnc (c_kindOfWord hC hI (by omega) (by omega) (by omega)) rfl rfl rfl (Nat.le_of_ble_eq_true rfl) (Or.inr ⟨_, rfl, (hC.f.k 9 rfl)⟩) rfl ?_
    refine aw_iload_n rfl rfl rfl ?_
    refine aw_iconst rfl rfl ?_
    refine aw_calc (c_addToken hC hI hT (by omega) (by omega) ⟨by omega, by omega⟩ ⟨by omega, by omega⟩ ⟨by omega, by omega⟩) rfl rfl rfl (Nat.le_of_ble_eq_true rfl) (Or.inr ⟨_, rfl, (hC.f.k 9 rfl)⟩) rfl ?_
    rintro _ τ3 ⟨rfl, hM3, hD3, hT3, hK3, hS3, hV3⟩
    change aw _ _ _ _ 24 [some (.ref 9), some (.int (iI _)), some (.int (iI _)), some (.int (iI _))] [] _
    refine aw_goto (p' := 34) rfl rfl ?_
    refine aw_retv rfl ?_
    refine ⟨rfl, hM3, (hD3.su (T := [9, 11, 12, 13]) rfl), hT3, fun w => ?_, fun w => ?_, fun w => ?_⟩
    · rw [hK3]; split <;> first | rfl | omega
    · rw [hS3]
    · rw [hV3]; split <;> first | rfl | omega
