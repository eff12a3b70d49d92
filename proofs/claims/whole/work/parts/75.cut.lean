theorem ER_ex (p : Int → Prop) (B : Int → Int) {N : Int} : ∀ (n : Nat) (i : Int), (N - i).toNat = n → i ≤ N → ∃ e, ER p B N i e := by
  intro n
  induction n with
  | zero => intro i hn hi; exact ⟨i, ⟨by omega, hi⟩, fun k k0 k1 => by omega, Or.inl (by omega)⟩
  | succ n ih =>
    intro i hn hi
    by_cases h : p (B i)
    · obtain ⟨e, h1, h2, h3⟩ := ih (i + 1) (by omega) (by omega)
      refine ⟨e, ⟨by omega, h1.2⟩, fun k k0 k1 => ?_, h3⟩
      by_cases q : k = i
      · rw [q]; exact h
      · exact h2 k (by omega) k1
    · exact ⟨i, ⟨by omega, hi⟩, fun k k0 k1 => by omega, Or.inr h⟩
theorem nm_ex (B : Int → Int) (s e : Int) : ∃ k v, KW B s e k v ∧ (nmO B s e = -1 → k = kwO B s e ∧ v = 0) ∧ (nmO B s e ≠ -1 → k = 3 ∧ v = nmO B s e) := by
  rcases nm_kw B s e with ⟨h1, h2⟩ | ⟨h1, h2⟩
  · exact ⟨_, _, h2, fun _ => ⟨rfl, rfl⟩, fun q => absurd h1 q⟩
  · exact ⟨_, _, h2, fun q => absurd q h1, fun _ => ⟨rfl, rfl⟩⟩
theorem KW_0 {B : Int → Int} {s e k v : Int} (h : KW B s e k v) : k ≠ 0 := by
  rcases h with ⟨i, a, b, c, d⟩ | ⟨i, a, b, c, d, e⟩ | ⟨a, b, c⟩ <;> omega
theorem kSg_m {x : Int} (h0 : -128 ≤ x) (h1 : x ≤ 127) : kSg (x % 256) = kSg x := by
  by_cases h : 0 ≤ x
  · rw [show x % 256 = x by omega]
  · rw [show kSg x = 1 from Classical.byContradiction (fun q => by have := (kSg_i x).mp q; omega), show kSg (x % 256) = 1 from Classical.byContradiction (fun q => by have := (kSg_i _).mp q; omega)]
/-- the tokens so far -/
def TQ (B : Int → Int) (N : Int) (K V S E : Int → Int) (T : Int) : Prop := E (-1) = 0 ∧ ∀ n : Int, 0 ≤ n → n < T → Tk B N (E (n - 1)) (K n) (V n) (S n) (E n) ∧ K n ≠ 0
theorem TQ_add {B : Int → Int} {N : Int} {K V S E K' V' S' : Int → Int} {T k v s e : Int} (h : TQ B N K V S E T) (h0 : 0 ≤ T) (hT : Tk B N (E (T - 1)) k v s e) (hk : k ≠ 0) (hK : ∀ w, K' w = if w = T then k else K w) (hV : ∀ w, V' w = if w = T then v else V w) (hS : ∀ w, S' w = if w = T then s else S w) : ∃ E', TQ B N K' V' S' E' (T + 1) ∧ E' (T + 1 - 1) = e := by
  refine ⟨fun n => if n = T then e else E n, ⟨?_, fun n n0 n1 => ?_⟩, ?_⟩
  · show (if (-1 : Int) = T then e else E (-1)) = 0
    rw [if_neg (by omega)]; exact h.1
  · show Tk B N (if n - 1 = T then e else E (n - 1)) (K' n) (V' n) (S' n) (if n = T then e else E n) ∧ K' n ≠ 0
    rw [hK, hV, hS, if_neg (show ¬ n - 1 = T by omega)]
    by_cases q : n = T
    · subst q
      rw [if_pos rfl, if_pos rfl, if_pos rfl, if_pos rfl]
      exact ⟨hT, hk⟩
    · rw [if_neg q, if_neg q, if_neg q, if_neg q]
      exact h.2 n n0 (by omega)
  · show (if T + 1 - 1 = T then e else E (T + 1 - 1)) = e
    rw [if_pos (by omega)]
/-- all the tokens -/
def TS (A : Nat → Int → Int) (τ : az_S) (E : Int → Int) (T : Int) : Prop := E (-1) = 0 ∧ (0 ≤ T ∧ T ≤ 400) ∧ zx τ 9 5 = T + 1 ∧ ∀ n : Int, 0 ≤ n → n ≤ T → Tk (A 74) (A 42 40) (E (n - 1)) (zx τ 11 n) (zx τ 13 n) (zx τ 12 n) (E n) ∧ (zx τ 11 n = 0 ↔ n = T)
set_option maxRecDepth 10000 in
set_option maxHeartbeats 2000000 in
theorem c_cut_l9 {d : Nat} {sz : Nat} {κ : Nat × (Nat → Int32) × Option Nat} {A : Nat → Int → Int} {g : Nat → Nat} {σ : az_S} (hC : CR sz κ A g σ) (hI : MI sz A) : ∀ (n : Nat) (τ : az_S) (i t T : Int) (E : Int → Int) (w3 w4 : Option Value), (A 42 40 - i).toNat = n → CR sz κ A g τ → Mod σ τ [9, 11, 12, 13] → 0 ≤ T → T ≤ i → (0 ≤ t ∧ t ≤ i) → i ≤ A 42 40 → zx τ 9 5 = T → TQ (A 74) (A 42 40) (zx τ 11) (zx τ 13) (zx τ 12) E T → E (T - 1) ≤ i → (∀ k : Int, E (T - 1) ≤ k → k < i → isB (A 74 k)) → aw (d + 7) k_X8_cutIntoTokens none (fun r τ => r = none ∧ CR sz κ A g τ ∧ Mod σ τ [9, 11, 12, 13] ∧ ∃ E T, TS A τ E T) 9 [some (.ref 9), some (.int (iI i)), some (.int (iI t)), w3, w4] [] τ := by
  intro n
  induction n using Nat.strongRecOn with
  | ind n ih =>
    intro τ i t T E w3 w4 hn hM0 hD hT0 hTi hti hiN hT hQ hEi hB
    have htp := hI.taped
    have htb := hI.tape
    refine aw_iload_n rfl rfl rfl ?_
    refine aw_sipush rfl rfl rfl ?_
    refine aw_icmp (p' := 170) rfl ⟨by omega, by omega⟩ ⟨by omega, by omega⟩ rfl rfl (fun c1 => ?_) (fun c1 => ?_)
    · dsimp only [zc] at c1
      refine aw_aload_n rfl rfl rfl ?_
      refine aw_iconst rfl rfl ?_
      refine aw_aload_n rfl rfl rfl ?_
      refine aw_gk (v := A 42 40) (1) rfl rfl (hM0.f.k 9 rfl) rfl hM0.tape.1 rfl (fun _ _ => ?_)
      refine aw_iconst rfl rfl ?_
      refine aw_calc (c_addToken hM0 hI hT (by omega) (by omega) ⟨by omega, by omega⟩ ⟨by omega, by omega⟩ ⟨by omega, by omega⟩) rfl rfl rfl (Nat.le_of_ble_eq_true rfl) (Or.inr ⟨_, rfl, (hM0.f.k 9 rfl)⟩) rfl ?_
      rintro _ τ2 ⟨rfl, hM2, hD2, hT2, hK2, hS2, hV2⟩
      change aw _ _ _ _ 180 [some (.ref 9), some (.int (iI _)), some (.int (iI _)), _, _] [] _
      refine aw_retv rfl ?_
      have eN : i = A 42 40 := by omega
      refine ⟨rfl, hM2, ((hD.su (T := [9, 11, 12, 13]) rfl).tr (hD2.su (T := [9, 11, 12, 13]) rfl)), (fun n => if n = T then A 42 40 else E n), T, ?_, ⟨hT0, by omega⟩, hT2, fun n n0 n1 => ?_⟩
      · show (if (-1 : Int) = T then A 42 40 else E (-1)) = 0
        rw [if_neg (by omega)]; exact hQ.1
      · show Tk (A 74) (A 42 40) (if n - 1 = T then A 42 40 else E (n - 1)) _ _ _ (if n = T then A 42 40 else E n) ∧ _
        rw [hK2, hV2, hS2, if_neg (show ¬ n - 1 = T by omega)]
        by_cases q : n = T
        · subst q
          rw [if_pos rfl, if_pos rfl, if_pos rfl, if_pos rfl]
          exact ⟨⟨⟨⟨by omega, by omega⟩, fun k k0 k1 => hB k k0 (by omega), Or.inl rfl⟩, Or.inl ⟨rfl, rfl, rfl, rfl⟩⟩, ⟨fun _ => rfl, fun _ => rfl⟩⟩
        · rw [if_neg q, if_neg q, if_neg q, if_neg q]
          have h1 := hQ.2 n n0 (by omega)
          exact ⟨h1.1, ⟨fun r => absurd r h1.2, fun r => absurd r q⟩⟩
    · dsimp only [zc] at c1
      refine aw_iload_n rfl rfl rfl ?_
      refine aw_aload_n rfl rfl rfl ?_
      refine aw_gk (v := A 42 40) (1) rfl rfl (hM0.f.k 9 rfl) rfl hM0.tape.1 rfl (fun _ _ => ?_)
      refine aw_icmp (p' := 170) rfl ⟨by omega, by omega⟩ ⟨by omega, by omega⟩ rfl rfl (fun c3 => ?_) (fun c3 => ?_)
      · dsimp only [zc] at c3
        refine aw_aload_n rfl rfl rfl ?_
        refine aw_iconst rfl rfl ?_
        refine aw_aload_n rfl rfl rfl ?_
        refine aw_gk (v := A 42 40) (1) rfl rfl (hM0.f.k 9 rfl) rfl hM0.tape.1 rfl (fun _ _ => ?_)
        refine aw_iconst rfl rfl ?_
        refine aw_calc (c_addToken hM0 hI hT (by omega) (by omega) ⟨by omega, by omega⟩ ⟨by omega, by omega⟩ ⟨by omega, by omega⟩) rfl rfl rfl (Nat.le_of_ble_eq_true rfl) (Or.inr ⟨_, rfl, (hM0.f.k 9 rfl)⟩) rfl ?_
        rintro _ τ4 ⟨rfl, hM4, hD4, hT4, hK4, hS4, hV4⟩
        change aw _ _ _ _ 180 [some (.ref 9), some (.int (iI _)), some (.int (iI _)), _, _] [] _
        refine aw_retv rfl ?_
        have eN : i = A 42 40 := by omega
        refine ⟨rfl, hM4, ((hD.su (T := [9, 11, 12, 13]) rfl).tr (hD4.su (T := [9, 11, 12, 13]) rfl)), (fun n => if n = T then A 42 40 else E n), T, ?_, ⟨hT0, by omega⟩, hT4, fun n n0 n1 => ?_⟩
        · show (if (-1 : Int) = T then A 42 40 else E (-1)) = 0
          rw [if_neg (by omega)]; exact hQ.1
        · show Tk (A 74) (A 42 40) (if n - 1 = T then A 42 40 else E (n - 1)) _ _ _ (if n = T then A 42 40 else E n) ∧ _
          rw [hK4, hV4, hS4, if_neg (show ¬ n - 1 = T by omega)]
          by_cases q : n = T
          · subst q
            rw [if_pos rfl, if_pos rfl, if_pos rfl, if_pos rfl]
            exact ⟨⟨⟨⟨by omega, by omega⟩, fun k k0 k1 => hB k k0 (by omega), Or.inl rfl⟩, Or.inl ⟨rfl, rfl, rfl, rfl⟩⟩, ⟨fun _ => rfl, fun _ => rfl⟩⟩
          · rw [if_neg q, if_neg q, if_neg q, if_neg q]
            have h1 := hQ.2 n n0 (by omega)
            exact ⟨h1.1, ⟨fun r => absurd r h1.2, fun r => absurd r q⟩⟩
      · dsimp only [zc] at c3
        refine aw_aload_n rfl rfl rfl ?_
        refine aw_iload_n rfl rfl rfl ?_
        refine aw_fnc (c_byteAt hM0 hI ⟨by omega, by omega⟩) rfl rfl rfl (Nat.le_of_ble_eq_true rfl) (Or.inr ⟨_, rfl, (hM0.f.k 9 rfl)⟩) rfl ?_
        rw [bA_i (by omega) (by omega)]
        refine aw_istore_n rfl (Nat.le_of_ble_eq_true rfl) rfl rfl ?_
        change aw _ _ _ _ 30 [some (.ref 9), some (.int (iI _)), some (.int (iI _)), some (.int (iI _)), _] _ _
        have hbt := htb i (by omega) (by omega)
        refine aw_iload_n rfl rfl rfl ?_
        refine aw_fnc (c_isLetter ⟨by omega, by omega⟩) rfl rfl rfl (Nat.le_of_ble_eq_true rfl) (Or.inl rfl) rfl ?_
        refine aw_ifeqb (p' := 57) rfl rfl rfl (fun c5 => ?_) (fun c5 => ?_)
        · have hnl : ¬ isL (A 74 i) := fun q => absurd ((isL_m (htb i (by omega) (by omega)).1 (htb i (by omega) (by omega)).2).mpr q) (by assumption)
          refine aw_iload_n rfl rfl rfl ?_
          refine aw_fnc (c_isDigit ⟨by omega, by omega⟩) rfl rfl rfl (Nat.le_of_ble_eq_true rfl) (Or.inl rfl) rfl ?_
          refine aw_ifeqb (p' := 90) rfl rfl rfl (fun c6 => ?_) (fun c6 => ?_)
          · have hnd : ¬ isD (A 74 i) := fun q => by have q2 : 48 ≤ A 74 i ∧ A 74 i ≤ 57 := q; omega
            refine aw_iload_n rfl rfl rfl ?_
            refine aw_bipush rfl rfl rfl ?_
            refine aw_icmp (p' := 102) rfl ⟨by omega, by omega⟩ ⟨by omega, by omega⟩ rfl rfl (fun c7 => ?_) (fun c7 => ?_)
            · dsimp only [zc] at c7
              refine aw_aload_n rfl rfl rfl ?_
              refine aw_iload_n rfl rfl rfl ?_
              refine aw_iconst rfl rfl ?_
              refine aw_iadd rfl rfl ?_
              refine aw_fnc (c_byteAt hM0 hI ⟨by omega, by omega⟩) rfl rfl rfl (Nat.le_of_ble_eq_true rfl) (Or.inr ⟨_, rfl, (hM0.f.k 9 rfl)⟩) rfl ?_
              have hb1 : bA A (i + 1) = 61 → i + 1 < A 42 40 ∧ A 74 (i + 1) = 61 := by
                intro q
                by_cases r : i + 1 < A 42 40
                · have h1 := htb (i + 1) (by omega) (by omega)
                  rw [bA_i (by omega) r] at q
                  omega
                · rw [bA_o (by omega)] at q
                  omega
              have hb2 : i + 1 < A 42 40 → A 74 (i + 1) = 61 → bA A (i + 1) = 61 := by
                intro r q
                rw [bA_i (by omega) r, q]
                rfl
              have hb3 := bA_r A (i + 1)
              refine aw_bipush rfl rfl rfl ?_
              refine aw_icmp (p' := 139) rfl ⟨by omega, by omega⟩ ⟨by omega, by omega⟩ rfl rfl (fun c8 => ?_) (fun c8 => ?_)
              · dsimp only [zc] at c8
                skip
                refine aw_iload_n rfl rfl rfl ?_
                refine aw_bipush rfl rfl rfl ?_
                refine aw_icmp (p' := 161) rfl ⟨by omega, by omega⟩ ⟨by omega, by omega⟩ rfl rfl (fun c9 => ?_) (fun c9 => ?_)
                · dsimp only [zc] at c9
                  refine aw_iinc rfl rfl rfl rfl ?_
                  change aw _ _ _ _ 164 [some (.ref 9), some (.int (iI _)), some (.int (iI _)), some (.int (iI _)), _] _ _
                  refine aw_iinc rfl rfl rfl rfl ?_
                  change aw _ _ _ _ 167 [some (.ref 9), some (.int (iI _)), some (.int (iI _)), some (.int (iI _)), _] _ _
                  refine aw_goto (p' := 9) rfl rfl ?_
                  refine ih _ (by omega) _ _ _ _ _ _ _ rfl hM0 (hD.su (T := [9, 11, 12, 13]) rfl) hT0 (by omega) (by omega) (by omega) hT hQ (by omega) (fun k k0 k1 => ?_)
                  by_cases q : k = i
                  · subst q
                    have h1 := htb k (by omega) (by omega)
                    unfold isB
                    omega
                  · exact hB k k0 (by omega)
                · dsimp only [zc] at c9
                  refine aw_iload_n rfl rfl rfl ?_
                  refine aw_bipush rfl rfl rfl ?_
                  refine aw_icmp (p' := 161) rfl ⟨by omega, by omega⟩ ⟨by omega, by omega⟩ rfl rfl (fun c10 => ?_) (fun c10 => ?_)
                  · dsimp only [zc] at c10
                    refine aw_iinc rfl rfl rfl rfl ?_
                    change aw _ _ _ _ 164 [some (.ref 9), some (.int (iI _)), some (.int (iI _)), some (.int (iI _)), _] _ _
                    refine aw_iinc rfl rfl rfl rfl ?_
                    change aw _ _ _ _ 167 [some (.ref 9), some (.int (iI _)), some (.int (iI _)), some (.int (iI _)), _] _ _
                    refine aw_goto (p' := 9) rfl rfl ?_
                    refine ih _ (by omega) _ _ _ _ _ _ _ rfl hM0 (hD.su (T := [9, 11, 12, 13]) rfl) hT0 (by omega) (by omega) (by omega) hT hQ (by omega) (fun k k0 k1 => ?_)
                    by_cases q : k = i
                    · subst q
                      have h1 := htb k (by omega) (by omega)
                      unfold isB
                      omega
                    · exact hB k k0 (by omega)
                  · dsimp only [zc] at c10
                    skip
                    refine aw_aload_n rfl rfl rfl ?_
                    refine aw_iload_n rfl rfl rfl ?_
                    refine aw_fnc (c_kindOfSign ⟨by omega, by omega⟩) rfl rfl rfl (Nat.le_of_ble_eq_true rfl) (Or.inl rfl) rfl ?_
                    rw [kSg_m (htb i (by omega) (by omega)).1 (htb i (by omega) (by omega)).2]
                    have hkr : 1 ≤ kSg (A 74 i) ∧ kSg (A 74 i) ≤ 26 := by unfold kSg; (repeat' split) <;> omega
                    refine aw_iload_n rfl rfl rfl ?_
                    refine aw_iconst rfl rfl ?_
                    refine aw_calc (c_addToken hM0 hI hT (by omega) (by omega) ⟨by omega, by omega⟩ ⟨by omega, by omega⟩ ⟨by omega, by omega⟩) rfl rfl rfl (Nat.le_of_ble_eq_true rfl) (Or.inr ⟨_, rfl, (hM0.f.k 9 rfl)⟩) rfl ?_
                    rintro _ τ11 ⟨rfl, hM11, hD11, hT11, hK11, hS11, hV11⟩
                    change aw _ _ _ _ 161 [some (.ref 9), some (.int (iI _)), some (.int (iI _)), some (.int (iI _)), _] [] _
                    refine aw_iinc rfl rfl rfl rfl ?_
                    change aw _ _ _ _ 164 [some (.ref 9), some (.int (iI _)), some (.int (iI _)), some (.int (iI _)), _] _ _
                    refine aw_iinc rfl rfl rfl rfl ?_
                    change aw _ _ _ _ 167 [some (.ref 9), some (.int (iI _)), some (.int (iI _)), some (.int (iI _)), _] _ _
                    refine aw_goto (p' := 9) rfl rfl ?_
                    have hbr : ER isB (A 74) (A 42 40) (E (T - 1)) i := by
                      skip
                      have h1 := htb i (by omega) (by omega)
                      exact ⟨⟨by omega, by omega⟩, hB, Or.inr (by unfold isB; omega)⟩
                    skip
                    obtain ⟨E', hQ', hE'⟩ := TQ_add (e := i + 1) hQ hT0 ⟨hbr, Or.inr (Or.inr (Or.inr (Or.inr ⟨by omega, hnl, hnd, by omega, rfl, rfl, rfl⟩)))⟩ (by have := kSg_r (A 74 i); omega) hK11 hV11 hS11
                    exact ih _ (by omega) _ _ _ _ _ _ _ rfl hM11 ((hD.su (T := [9, 11, 12, 13]) rfl).tr (hD11.su (T := [9, 11, 12, 13]) rfl)) (by omega) (by omega) (by omega) (by omega) hT11 hQ' (by omega) (fun k k0 k1 => by omega)
              · dsimp only [zc] at c8
                skip
                refine aw_aload_n rfl rfl rfl ?_
                refine aw_iload_n rfl rfl rfl ?_
                refine aw_bipush rfl rfl rfl ?_
                refine aw_icmp (p' := 126) rfl ⟨by omega, by omega⟩ ⟨by omega, by omega⟩ rfl rfl (fun c12 => ?_) (fun c12 => ?_)
                · dsimp only [zc] at c12
                  refine aw_bipush rfl rfl rfl ?_
                  refine aw_iload_n rfl rfl rfl ?_
                  refine aw_iconst rfl rfl ?_
                  refine aw_calc (c_addToken hM0 hI hT (by omega) (by omega) ⟨by omega, by omega⟩ ⟨by omega, by omega⟩ ⟨by omega, by omega⟩) rfl rfl rfl (Nat.le_of_ble_eq_true rfl) (Or.inr ⟨_, rfl, (hM0.f.k 9 rfl)⟩) rfl ?_
                  rintro _ τ13 ⟨rfl, hM13, hD13, hT13, hK13, hS13, hV13⟩
                  change aw _ _ _ _ 133 [some (.ref 9), some (.int (iI _)), some (.int (iI _)), some (.int (iI _)), _] [] _
                  refine aw_iinc rfl rfl rfl rfl ?_
                  change aw _ _ _ _ 136 [some (.ref 9), some (.int (iI _)), some (.int (iI _)), some (.int (iI _)), _] _ _
                  refine aw_goto (p' := 164) rfl rfl ?_
                  refine aw_iinc rfl rfl rfl rfl ?_
                  change aw _ _ _ _ 167 [some (.ref 9), some (.int (iI _)), some (.int (iI _)), some (.int (iI _)), _] _ _
                  refine aw_goto (p' := 9) rfl rfl ?_
                  have hbr : ER isB (A 74) (A 42 40) (E (T - 1)) i := by
                    skip
                    have h1 := htb i (by omega) (by omega)
                    exact ⟨⟨by omega, by omega⟩, hB, Or.inr (by unfold isB; omega)⟩
                  skip
                  obtain ⟨E', hQ', hE'⟩ := TQ_add (e := i + 2) hQ hT0 ⟨hbr, Or.inr (Or.inr (Or.inr (Or.inl ⟨by omega, by omega, by omega, by omega, rfl, rfl, by omega⟩)))⟩ (by decide) hK13 hV13 hS13
                  exact ih _ (by omega) _ _ _ _ _ _ _ rfl hM13 ((hD.su (T := [9, 11, 12, 13]) rfl).tr (hD13.su (T := [9, 11, 12, 13]) rfl)) (by omega) (by omega) (by omega) (by omega) hT13 hQ' (by omega) (fun k k0 k1 => by omega)
                · dsimp only [zc] at c12
                  refine aw_bipush rfl rfl rfl ?_
                  refine aw_goto (p' := 128) rfl rfl ?_
                  refine aw_iload_n rfl rfl rfl ?_
                  refine aw_iconst rfl rfl ?_
                  refine aw_calc (c_addToken hM0 hI hT (by omega) (by omega) ⟨by omega, by omega⟩ ⟨by omega, by omega⟩ ⟨by omega, by omega⟩) rfl rfl rfl (Nat.le_of_ble_eq_true rfl) (Or.inr ⟨_, rfl, (hM0.f.k 9 rfl)⟩) rfl ?_
                  rintro _ τ14 ⟨rfl, hM14, hD14, hT14, hK14, hS14, hV14⟩
                  change aw _ _ _ _ 133 [some (.ref 9), some (.int (iI _)), some (.int (iI _)), some (.int (iI _)), _] [] _
                  refine aw_iinc rfl rfl rfl rfl ?_
                  change aw _ _ _ _ 136 [some (.ref 9), some (.int (iI _)), some (.int (iI _)), some (.int (iI _)), _] _ _
                  refine aw_goto (p' := 164) rfl rfl ?_
                  refine aw_iinc rfl rfl rfl rfl ?_
                  change aw _ _ _ _ 167 [some (.ref 9), some (.int (iI _)), some (.int (iI _)), some (.int (iI _)), _] _ _
                  refine aw_goto (p' := 9) rfl rfl ?_
                  have hbr : ER isB (A 74) (A 42 40) (E (T - 1)) i := by
                    skip
                    have h1 := htb i (by omega) (by omega)
                    exact ⟨⟨by omega, by omega⟩, hB, Or.inr (by unfold isB; omega)⟩
                  skip
                  obtain ⟨E', hQ', hE'⟩ := TQ_add (e := i + 2) hQ hT0 ⟨hbr, Or.inr (Or.inr (Or.inr (Or.inl ⟨by omega, by omega, by omega, by omega, rfl, rfl, by omega⟩)))⟩ (by decide) hK14 hV14 hS14
                  exact ih _ (by omega) _ _ _ _ _ _ _ rfl hM14 ((hD.su (T := [9, 11, 12, 13]) rfl).tr (hD14.su (T := [9, 11, 12, 13]) rfl)) (by omega) (by omega) (by omega) (by omega) hT14 hQ' (by omega) (fun k k0 k1 => by omega)
            · dsimp only [zc] at c7
              refine aw_iload_n rfl rfl rfl ?_
              refine aw_bipush rfl rfl rfl ?_
              refine aw_icmp (p' := 139) rfl ⟨by omega, by omega⟩ ⟨by omega, by omega⟩ rfl rfl (fun c15 => ?_) (fun c15 => ?_)
              · dsimp only [zc] at c15
                skip
                refine aw_iload_n rfl rfl rfl ?_
                refine aw_bipush rfl rfl rfl ?_
                refine aw_icmp (p' := 161) rfl ⟨by omega, by omega⟩ ⟨by omega, by omega⟩ rfl rfl (fun c16 => ?_) (fun c16 => ?_)
                · dsimp only [zc] at c16
                  refine aw_iinc rfl rfl rfl rfl ?_
                  change aw _ _ _ _ 164 [some (.ref 9), some (.int (iI _)), some (.int (iI _)), some (.int (iI _)), _] _ _
                  refine aw_iinc rfl rfl rfl rfl ?_
                  change aw _ _ _ _ 167 [some (.ref 9), some (.int (iI _)), some (.int (iI _)), some (.int (iI _)), _] _ _
                  refine aw_goto (p' := 9) rfl rfl ?_
                  refine ih _ (by omega) _ _ _ _ _ _ _ rfl hM0 (hD.su (T := [9, 11, 12, 13]) rfl) hT0 (by omega) (by omega) (by omega) hT hQ (by omega) (fun k k0 k1 => ?_)
                  by_cases q : k = i
                  · subst q
                    have h1 := htb k (by omega) (by omega)
                    unfold isB
                    omega
                  · exact hB k k0 (by omega)
                · dsimp only [zc] at c16
                  refine aw_iload_n rfl rfl rfl ?_
                  refine aw_bipush rfl rfl rfl ?_
                  refine aw_icmp (p' := 161) rfl ⟨by omega, by omega⟩ ⟨by omega, by omega⟩ rfl rfl (fun c17 => ?_) (fun c17 => ?_)
                  · dsimp only [zc] at c17
                    refine aw_iinc rfl rfl rfl rfl ?_
                    change aw _ _ _ _ 164 [some (.ref 9), some (.int (iI _)), some (.int (iI _)), some (.int (iI _)), _] _ _
                    refine aw_iinc rfl rfl rfl rfl ?_
                    change aw _ _ _ _ 167 [some (.ref 9), some (.int (iI _)), some (.int (iI _)), some (.int (iI _)), _] _ _
                    refine aw_goto (p' := 9) rfl rfl ?_
                    refine ih _ (by omega) _ _ _ _ _ _ _ rfl hM0 (hD.su (T := [9, 11, 12, 13]) rfl) hT0 (by omega) (by omega) (by omega) hT hQ (by omega) (fun k k0 k1 => ?_)
                    by_cases q : k = i
                    · subst q
                      have h1 := htb k (by omega) (by omega)
                      unfold isB
                      omega
                    · exact hB k k0 (by omega)
                  · dsimp only [zc] at c17
                    skip
                    refine aw_aload_n rfl rfl rfl ?_
                    refine aw_iload_n rfl rfl rfl ?_
                    refine aw_fnc (c_kindOfSign ⟨by omega, by omega⟩) rfl rfl rfl (Nat.le_of_ble_eq_true rfl) (Or.inl rfl) rfl ?_
                    rw [kSg_m (htb i (by omega) (by omega)).1 (htb i (by omega) (by omega)).2]
                    have hkr : 1 ≤ kSg (A 74 i) ∧ kSg (A 74 i) ≤ 26 := by unfold kSg; (repeat' split) <;> omega
                    refine aw_iload_n rfl rfl rfl ?_
                    refine aw_iconst rfl rfl ?_
                    refine aw_calc (c_addToken hM0 hI hT (by omega) (by omega) ⟨by omega, by omega⟩ ⟨by omega, by omega⟩ ⟨by omega, by omega⟩) rfl rfl rfl (Nat.le_of_ble_eq_true rfl) (Or.inr ⟨_, rfl, (hM0.f.k 9 rfl)⟩) rfl ?_
                    rintro _ τ18 ⟨rfl, hM18, hD18, hT18, hK18, hS18, hV18⟩
                    change aw _ _ _ _ 161 [some (.ref 9), some (.int (iI _)), some (.int (iI _)), some (.int (iI _)), _] [] _
                    refine aw_iinc rfl rfl rfl rfl ?_
                    change aw _ _ _ _ 164 [some (.ref 9), some (.int (iI _)), some (.int (iI _)), some (.int (iI _)), _] _ _
                    refine aw_iinc rfl rfl rfl rfl ?_
                    change aw _ _ _ _ 167 [some (.ref 9), some (.int (iI _)), some (.int (iI _)), some (.int (iI _)), _] _ _
                    refine aw_goto (p' := 9) rfl rfl ?_
                    have hbr : ER isB (A 74) (A 42 40) (E (T - 1)) i := by
                      skip
                      have h1 := htb i (by omega) (by omega)
                      exact ⟨⟨by omega, by omega⟩, hB, Or.inr (by unfold isB; omega)⟩
                    skip
                    obtain ⟨E', hQ', hE'⟩ := TQ_add (e := i + 1) hQ hT0 ⟨hbr, Or.inr (Or.inr (Or.inr (Or.inr ⟨by omega, hnl, hnd, by omega, rfl, rfl, rfl⟩)))⟩ (by have := kSg_r (A 74 i); omega) hK18 hV18 hS18
                    exact ih _ (by omega) _ _ _ _ _ _ _ rfl hM18 ((hD.su (T := [9, 11, 12, 13]) rfl).tr (hD18.su (T := [9, 11, 12, 13]) rfl)) (by omega) (by omega) (by omega) (by omega) hT18 hQ' (by omega) (fun k k0 k1 => by omega)
              · dsimp only [zc] at c15
                refine aw_aload_n rfl rfl rfl ?_
                refine aw_iload_n rfl rfl rfl ?_
                refine aw_iconst rfl rfl ?_
                refine aw_iadd rfl rfl ?_
                refine aw_fnc (c_byteAt hM0 hI ⟨by omega, by omega⟩) rfl rfl rfl (Nat.le_of_ble_eq_true rfl) (Or.inr ⟨_, rfl, (hM0.f.k 9 rfl)⟩) rfl ?_
                have hb1 : bA A (i + 1) = 61 → i + 1 < A 42 40 ∧ A 74 (i + 1) = 61 := by
                  intro q
                  by_cases r : i + 1 < A 42 40
                  · have h1 := htb (i + 1) (by omega) (by omega)
                    rw [bA_i (by omega) r] at q
                    omega
                  · rw [bA_o (by omega)] at q
                    omega
                have hb2 : i + 1 < A 42 40 → A 74 (i + 1) = 61 → bA A (i + 1) = 61 := by
                  intro r q
                  rw [bA_i (by omega) r, q]
                  rfl
                have hb3 := bA_r A (i + 1)
                refine aw_bipush rfl rfl rfl ?_
                refine aw_icmp (p' := 139) rfl ⟨by omega, by omega⟩ ⟨by omega, by omega⟩ rfl rfl (fun c19 => ?_) (fun c19 => ?_)
                · dsimp only [zc] at c19
                  skip
                  refine aw_iload_n rfl rfl rfl ?_
                  refine aw_bipush rfl rfl rfl ?_
                  refine aw_icmp (p' := 161) rfl ⟨by omega, by omega⟩ ⟨by omega, by omega⟩ rfl rfl (fun c20 => ?_) (fun c20 => ?_)
                  · dsimp only [zc] at c20
                    refine aw_iinc rfl rfl rfl rfl ?_
                    change aw _ _ _ _ 164 [some (.ref 9), some (.int (iI _)), some (.int (iI _)), some (.int (iI _)), _] _ _
                    refine aw_iinc rfl rfl rfl rfl ?_
                    change aw _ _ _ _ 167 [some (.ref 9), some (.int (iI _)), some (.int (iI _)), some (.int (iI _)), _] _ _
                    refine aw_goto (p' := 9) rfl rfl ?_
                    refine ih _ (by omega) _ _ _ _ _ _ _ rfl hM0 (hD.su (T := [9, 11, 12, 13]) rfl) hT0 (by omega) (by omega) (by omega) hT hQ (by omega) (fun k k0 k1 => ?_)
                    by_cases q : k = i
                    · subst q
                      have h1 := htb k (by omega) (by omega)
                      unfold isB
                      omega
                    · exact hB k k0 (by omega)
                  · dsimp only [zc] at c20
                    refine aw_iload_n rfl rfl rfl ?_
                    refine aw_bipush rfl rfl rfl ?_
                    refine aw_icmp (p' := 161) rfl ⟨by omega, by omega⟩ ⟨by omega, by omega⟩ rfl rfl (fun c21 => ?_) (fun c21 => ?_)
                    · dsimp only [zc] at c21
                      refine aw_iinc rfl rfl rfl rfl ?_
                      change aw _ _ _ _ 164 [some (.ref 9), some (.int (iI _)), some (.int (iI _)), some (.int (iI _)), _] _ _
                      refine aw_iinc rfl rfl rfl rfl ?_
                      change aw _ _ _ _ 167 [some (.ref 9), some (.int (iI _)), some (.int (iI _)), some (.int (iI _)), _] _ _
                      refine aw_goto (p' := 9) rfl rfl ?_
                      refine ih _ (by omega) _ _ _ _ _ _ _ rfl hM0 (hD.su (T := [9, 11, 12, 13]) rfl) hT0 (by omega) (by omega) (by omega) hT hQ (by omega) (fun k k0 k1 => ?_)
                      by_cases q : k = i
                      · subst q
                        have h1 := htb k (by omega) (by omega)
                        unfold isB
                        omega
                      · exact hB k k0 (by omega)
                    · dsimp only [zc] at c21
                      skip
                      refine aw_aload_n rfl rfl rfl ?_
                      refine aw_iload_n rfl rfl rfl ?_
                      refine aw_fnc (c_kindOfSign ⟨by omega, by omega⟩) rfl rfl rfl (Nat.le_of_ble_eq_true rfl) (Or.inl rfl) rfl ?_
                      rw [kSg_m (htb i (by omega) (by omega)).1 (htb i (by omega) (by omega)).2]
                      have hkr : 1 ≤ kSg (A 74 i) ∧ kSg (A 74 i) ≤ 26 := by unfold kSg; (repeat' split) <;> omega
                      refine aw_iload_n rfl rfl rfl ?_
                      refine aw_iconst rfl rfl ?_
                      refine aw_calc (c_addToken hM0 hI hT (by omega) (by omega) ⟨by omega, by omega⟩ ⟨by omega, by omega⟩ ⟨by omega, by omega⟩) rfl rfl rfl (Nat.le_of_ble_eq_true rfl) (Or.inr ⟨_, rfl, (hM0.f.k 9 rfl)⟩) rfl ?_
                      rintro _ τ22 ⟨rfl, hM22, hD22, hT22, hK22, hS22, hV22⟩
                      change aw _ _ _ _ 161 [some (.ref 9), some (.int (iI _)), some (.int (iI _)), some (.int (iI _)), _] [] _
                      refine aw_iinc rfl rfl rfl rfl ?_
                      change aw _ _ _ _ 164 [some (.ref 9), some (.int (iI _)), some (.int (iI _)), some (.int (iI _)), _] _ _
                      refine aw_iinc rfl rfl rfl rfl ?_
                      change aw _ _ _ _ 167 [some (.ref 9), some (.int (iI _)), some (.int (iI _)), some (.int (iI _)), _] _ _
                      refine aw_goto (p' := 9) rfl rfl ?_
                      have hbr : ER isB (A 74) (A 42 40) (E (T - 1)) i := by
                        skip
                        have h1 := htb i (by omega) (by omega)
                        exact ⟨⟨by omega, by omega⟩, hB, Or.inr (by unfold isB; omega)⟩
                      skip
                      obtain ⟨E', hQ', hE'⟩ := TQ_add (e := i + 1) hQ hT0 ⟨hbr, Or.inr (Or.inr (Or.inr (Or.inr ⟨by omega, hnl, hnd, by omega, rfl, rfl, rfl⟩)))⟩ (by have := kSg_r (A 74 i); omega) hK22 hV22 hS22
                      exact ih _ (by omega) _ _ _ _ _ _ _ rfl hM22 ((hD.su (T := [9, 11, 12, 13]) rfl).tr (hD22.su (T := [9, 11, 12, 13]) rfl)) (by omega) (by omega) (by omega) (by omega) hT22 hQ' (by omega) (fun k k0 k1 => by omega)
                · dsimp only [zc] at c19
                  skip
                  refine aw_aload_n rfl rfl rfl ?_
                  refine aw_iload_n rfl rfl rfl ?_
                  refine aw_bipush rfl rfl rfl ?_
                  refine aw_icmp (p' := 126) rfl ⟨by omega, by omega⟩ ⟨by omega, by omega⟩ rfl rfl (fun c23 => ?_) (fun c23 => ?_)
                  · dsimp only [zc] at c23
                    refine aw_bipush rfl rfl rfl ?_
                    refine aw_iload_n rfl rfl rfl ?_
                    refine aw_iconst rfl rfl ?_
                    refine aw_calc (c_addToken hM0 hI hT (by omega) (by omega) ⟨by omega, by omega⟩ ⟨by omega, by omega⟩ ⟨by omega, by omega⟩) rfl rfl rfl (Nat.le_of_ble_eq_true rfl) (Or.inr ⟨_, rfl, (hM0.f.k 9 rfl)⟩) rfl ?_
                    rintro _ τ24 ⟨rfl, hM24, hD24, hT24, hK24, hS24, hV24⟩
                    change aw _ _ _ _ 133 [some (.ref 9), some (.int (iI _)), some (.int (iI _)), some (.int (iI _)), _] [] _
                    refine aw_iinc rfl rfl rfl rfl ?_
                    change aw _ _ _ _ 136 [some (.ref 9), some (.int (iI _)), some (.int (iI _)), some (.int (iI _)), _] _ _
                    refine aw_goto (p' := 164) rfl rfl ?_
                    refine aw_iinc rfl rfl rfl rfl ?_
                    change aw _ _ _ _ 167 [some (.ref 9), some (.int (iI _)), some (.int (iI _)), some (.int (iI _)), _] _ _
                    refine aw_goto (p' := 9) rfl rfl ?_
                    have hbr : ER isB (A 74) (A 42 40) (E (T - 1)) i := by
                      skip
                      have h1 := htb i (by omega) (by omega)
                      exact ⟨⟨by omega, by omega⟩, hB, Or.inr (by unfold isB; omega)⟩
                    skip
                    obtain ⟨E', hQ', hE'⟩ := TQ_add (e := i + 2) hQ hT0 ⟨hbr, Or.inr (Or.inr (Or.inr (Or.inl ⟨by omega, by omega, by omega, by omega, rfl, rfl, by omega⟩)))⟩ (by decide) hK24 hV24 hS24
                    exact ih _ (by omega) _ _ _ _ _ _ _ rfl hM24 ((hD.su (T := [9, 11, 12, 13]) rfl).tr (hD24.su (T := [9, 11, 12, 13]) rfl)) (by omega) (by omega) (by omega) (by omega) hT24 hQ' (by omega) (fun k k0 k1 => by omega)
                  · dsimp only [zc] at c23
                    refine aw_bipush rfl rfl rfl ?_
                    refine aw_goto (p' := 128) rfl rfl ?_
                    refine aw_iload_n rfl rfl rfl ?_
                    refine aw_iconst rfl rfl ?_
                    refine aw_calc (c_addToken hM0 hI hT (by omega) (by omega) ⟨by omega, by omega⟩ ⟨by omega, by omega⟩ ⟨by omega, by omega⟩) rfl rfl rfl (Nat.le_of_ble_eq_true rfl) (Or.inr ⟨_, rfl, (hM0.f.k 9 rfl)⟩) rfl ?_
                    rintro _ τ25 ⟨rfl, hM25, hD25, hT25, hK25, hS25, hV25⟩
                    change aw _ _ _ _ 133 [some (.ref 9), some (.int (iI _)), some (.int (iI _)), some (.int (iI _)), _] [] _
                    refine aw_iinc rfl rfl rfl rfl ?_
                    change aw _ _ _ _ 136 [some (.ref 9), some (.int (iI _)), some (.int (iI _)), some (.int (iI _)), _] _ _
                    refine aw_goto (p' := 164) rfl rfl ?_
                    refine aw_iinc rfl rfl rfl rfl ?_
                    change aw _ _ _ _ 167 [some (.ref 9), some (.int (iI _)), some (.int (iI _)), some (.int (iI _)), _] _ _
                    refine aw_goto (p' := 9) rfl rfl ?_
                    have hbr : ER isB (A 74) (A 42 40) (E (T - 1)) i := by
                      skip
                      have h1 := htb i (by omega) (by omega)
                      exact ⟨⟨by omega, by omega⟩, hB, Or.inr (by unfold isB; omega)⟩
                    skip
                    obtain ⟨E', hQ', hE'⟩ := TQ_add (e := i + 2) hQ hT0 ⟨hbr, Or.inr (Or.inr (Or.inr (Or.inl ⟨by omega, by omega, by omega, by omega, rfl, rfl, by omega⟩)))⟩ (by decide) hK25 hV25 hS25
                    exact ih _ (by omega) _ _ _ _ _ _ _ rfl hM25 ((hD.su (T := [9, 11, 12, 13]) rfl).tr (hD25.su (T := [9, 11, 12, 13]) rfl)) (by omega) (by omega) (by omega) (by omega) hT25 hQ' (by omega) (fun k k0 k1 => by omega)
          · have hl0 : isD (A 74 i) := (show 48 ≤ A 74 i ∧ A 74 i ≤ 57 by omega)
            obtain ⟨e, hER⟩ := ER_ex isD (A 74) (N := A 42 40) _ i rfl (by omega)
            have her := hER.1
            have hcr := nRC (B := A 74) (s := i) (e - i).toNat (fun k k0 k1 => hER.2.1 k k0 (by omega))
            refine aw_aload_n rfl rfl rfl ?_
            refine aw_iload_n rfl rfl rfl ?_
            refine aw_fnc (c_endD hM0 hI (by omega) hER) rfl rfl rfl (Nat.le_of_ble_eq_true rfl) (Or.inr ⟨_, rfl, (hM0.f.k 9 rfl)⟩) rfl ?_
            skip
            refine aw_istore rfl (Nat.le_of_ble_eq_true rfl) rfl rfl ?_
            change aw _ _ _ _ 71 [some (.ref 9), some (.int (iI _)), some (.int (iI _)), some (.int (iI _)), some (.int (iI _))] _ _
            refine aw_aload_n rfl rfl rfl ?_
            refine aw_iconst rfl rfl ?_
            refine aw_iload_n rfl rfl rfl ?_
            refine aw_aload_n rfl rfl rfl ?_
            refine aw_iload_n rfl rfl rfl ?_
            refine aw_iload rfl rfl rfl ?_
            refine aw_fnc (c_numberOf hM0 hI (by omega) (by omega) (by omega) hER.2.1) rfl rfl rfl (Nat.le_of_ble_eq_true rfl) (Or.inr ⟨_, rfl, (hM0.f.k 9 rfl)⟩) rfl ?_
            refine aw_calc (c_addToken hM0 hI hT (by omega) (by omega) ⟨by omega, by omega⟩ ⟨by omega, by omega⟩ ⟨by omega, by omega⟩) rfl rfl rfl (Nat.le_of_ble_eq_true rfl) (Or.inr ⟨_, rfl, (hM0.f.k 9 rfl)⟩) rfl ?_
            rintro _ τ26 ⟨rfl, hM26, hD26, hT26, hK26, hS26, hV26⟩
            change aw _ _ _ _ 84 [some (.ref 9), some (.int (iI _)), some (.int (iI _)), some (.int (iI _)), some (.int (iI _))] [] _
            refine aw_iload rfl rfl rfl ?_
            refine aw_istore_n rfl (Nat.le_of_ble_eq_true rfl) rfl rfl ?_
            change aw _ _ _ _ 87 [some (.ref 9), some (.int (iI _)), some (.int (iI _)), some (.int (iI _)), some (.int (iI _))] _ _
            refine aw_goto (p' := 164) rfl rfl ?_
            refine aw_iinc rfl rfl rfl rfl ?_
            change aw _ _ _ _ 167 [some (.ref 9), some (.int (iI _)), some (.int (iI _)), some (.int (iI _)), some (.int (iI _))] _ _
            refine aw_goto (p' := 9) rfl rfl ?_
            have hbr : ER isB (A 74) (A 42 40) (E (T - 1)) i := by
              have hl1 : 48 ≤ A 74 i ∧ A 74 i ≤ 57 := hl0
              have h1 := htb i (by omega) (by omega)
              exact ⟨⟨by omega, by omega⟩, hB, Or.inr (by unfold isB; omega)⟩
            have hgo := ER_go hER (by omega) (by omega) (by omega) hl0
            have hge := hER.1
            obtain ⟨E', hQ', hE'⟩ := TQ_add (e := e) hQ hT0 ⟨hbr, Or.inr (Or.inr (Or.inl ⟨by omega, hl0, hER, rfl, rfl⟩))⟩ (by decide) hK26 hV26 hS26
            exact ih _ (by omega) _ _ _ _ _ _ _ rfl hM26 ((hD.su (T := [9, 11, 12, 13]) rfl).tr (hD26.su (T := [9, 11, 12, 13]) rfl)) (by omega) (by omega) (by omega) (by omega) hT26 hQ' (by omega) (fun k k0 k1 => by omega)
        · have hl0 : isL (A 74 i) := (isL_m (htb i (by omega) (by omega)).1 (htb i (by omega) (by omega)).2).mp (by assumption)
          obtain ⟨e, hER⟩ := ER_ex isL (A 74) (N := A 42 40) _ i rfl (by omega)
          have her := hER.1
          obtain ⟨k, v, hkw, hk1, hk2⟩ := nm_ex (A 74) i e
          refine aw_aload_n rfl rfl rfl ?_
          refine aw_iload_n rfl rfl rfl ?_
          refine aw_fnc (c_endL hM0 hI (by omega) hER) rfl rfl rfl (Nat.le_of_ble_eq_true rfl) (Or.inr ⟨_, rfl, (hM0.f.k 9 rfl)⟩) rfl ?_
          skip
          refine aw_istore rfl (Nat.le_of_ble_eq_true rfl) rfl rfl ?_
          change aw _ _ _ _ 44 [some (.ref 9), some (.int (iI _)), some (.int (iI _)), some (.int (iI _)), some (.int (iI _))] _ _
          refine aw_aload_n rfl rfl rfl ?_
          refine aw_iload_n rfl rfl rfl ?_
          refine aw_iload rfl rfl rfl ?_
          refine aw_calc (c_addWord (k := k) (v := v) hM0 hI hT (by omega) (by omega) (by omega) (by omega) (by omega) hk1 hk2) rfl rfl rfl (Nat.le_of_ble_eq_true rfl) (Or.inr ⟨_, rfl, (hM0.f.k 9 rfl)⟩) rfl ?_
          rintro _ τ27 ⟨rfl, hM27, hD27, hT27, hK27, hS27, hV27⟩
          change aw _ _ _ _ 51 [some (.ref 9), some (.int (iI _)), some (.int (iI _)), some (.int (iI _)), some (.int (iI _))] [] _
          refine aw_iload rfl rfl rfl ?_
          refine aw_istore_n rfl (Nat.le_of_ble_eq_true rfl) rfl rfl ?_
          change aw _ _ _ _ 54 [some (.ref 9), some (.int (iI _)), some (.int (iI _)), some (.int (iI _)), some (.int (iI _))] _ _
          refine aw_goto (p' := 164) rfl rfl ?_
          refine aw_iinc rfl rfl rfl rfl ?_
          change aw _ _ _ _ 167 [some (.ref 9), some (.int (iI _)), some (.int (iI _)), some (.int (iI _)), some (.int (iI _))] _ _
          refine aw_goto (p' := 9) rfl rfl ?_
          have hbr : ER isB (A 74) (A 42 40) (E (T - 1)) i := by
            have := isL_b hl0
            have h1 := htb i (by omega) (by omega)
            exact ⟨⟨by omega, by omega⟩, hB, Or.inr (by unfold isB; omega)⟩
          have hgo := ER_go hER (by omega) (by omega) (by omega) hl0
          have hge := hER.1
          obtain ⟨E', hQ', hE'⟩ := TQ_add (e := e) hQ hT0 ⟨hbr, Or.inr (Or.inl ⟨by omega, hl0, hER, hkw⟩)⟩ (KW_0 hkw) hK27 hV27 hS27
          exact ih _ (by omega) _ _ _ _ _ _ _ rfl hM27 ((hD.su (T := [9, 11, 12, 13]) rfl).tr (hD27.su (T := [9, 11, 12, 13]) rfl)) (by omega) (by omega) (by omega) (by omega) hT27 hQ' (by omega) (fun k k0 k1 => by omega)
set_option maxRecDepth 10000 in
set_option maxHeartbeats 2000000 in
theorem c_cut {d : Nat} {sz : Nat} {κ : Nat × (Nat → Int32) × Option Nat} {A : Nat → Int → Int} {g : Nat → Nat} {σ : az_S} (hC : CR sz κ A g σ) (hI : MI sz A) : cal (d + 8) 59 [.ref 9] σ (fun r τ => r = none ∧ CR sz κ A g τ ∧ Mod σ τ [9, 11, 12, 13] ∧ ∃ E T, TS A τ E T) := by
  have htp := hI.taped
  have htb := hI.tape
  refine cal_of (M := (yX8_cutIntoTokens, cX8_cutIntoTokens, 5, none)) (cd := k_X8_cutIntoTokens) (L := [some (.ref 9), none, none, none, none]) rfl (Nat.le_of_ble_eq_true rfl) rfl rfl ?_
  refine aw_aload_n rfl rfl rfl ?_
  refine aw_iconst rfl rfl ?_
  refine aw_c9 (5) hC hI rfl rfl (hC.f.k 9 rfl) rfl rfl (by decide) ⟨by omega, by omega⟩ rfl (fun τ28 hM28 hD28 hU28 => ?_)
  refine aw_iconst rfl rfl ?_
  refine aw_istore_n rfl (Nat.le_of_ble_eq_true rfl) rfl rfl ?_
  change aw _ _ _ _ 7 [some (.ref 9), some (.int (iI _)), none, none, none] _ _
  refine aw_iconst rfl rfl ?_
  refine aw_istore_n rfl (Nat.le_of_ble_eq_true rfl) rfl rfl ?_
  change aw _ _ _ _ 9 [some (.ref 9), some (.int (iI _)), some (.int (iI _)), none, none] _ _
  exact c_cut_l9 hC hI _ _ 0 0 0 (fun _ => 0) _ _ rfl hM28 (hD28.su (T := [9, 11, 12, 13]) rfl) (by omega) (by omega) ⟨by omega, by omega⟩ (by omega) (by rw [hU28, if_pos rfl]) ⟨rfl, fun n n0 n1 => by omega⟩ (Int.le_refl 0) (fun k k0 k1 => by have : (0 : Int) ≤ k := k0; omega)
