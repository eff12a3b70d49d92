theorem cTar.mod {σ τ : az_S} {b : Nat} {R : tRules} {S : List Nat} (h : cTar σ b R) (hd : Mod σ τ S) (hS : ∀ a, a ∈ S → a < b ∨ b + 4 < a) : cTar τ b R := by
  have n : ∀ a, b ≤ a → a ≤ b + 4 → a ∉ S := fun a h1 h2 q => by have := hS a q; omega
  unfold cTar
  rw [hd.nz (n b (by omega) (by omega)), hd.nz (n (b + 1) (by omega) (by omega)), hd.nz (n (b + 2) (by omega) (by omega)), hd.nz (n (b + 3) (by omega) (by omega)), hd.nz (n (b + 4) (by omega) (by omega))]
  exact h
theorem tLen_c (p : List (Int × Int) × List (Int × Int)) (R : tRules) : tLen (p :: R) = p.1.length + p.2.length + tLen R := rfl
theorem gvR_c (nm : Int → Int) (p : List (Int × Int) × List (Int × Int)) (R : tRules) : gvR nm (p :: R) = zit (p.1 = [] ∨ (vR nm p.1 []).headD 0 ≠ 0) ((vR nm p.2 []).headD 0) (gvR nm R) := rfl
set_option maxRecDepth 10000 in
set_option maxHeartbeats 2000000 in
theorem c_answer_l4 {d : Nat} {sz : Nat} {σ : az_S} (hf : FX sz σ) {b : Nat} (hb : b = 16 ∨ b = 22) {R : tRules} (hR : PW R) (hT : cTar σ b R) {nm : Int → Int} (hnk : nmOk nm) (hnm : ∀ i : Int, 0 ≤ i → i ≤ 7 → zx σ 14 i = nm i) : ∀ (n : Nat) (τ : az_S) (i st0 : Int) (w : Option Value) (Rr : tRules), (R.length - i).toNat = n → Mod σ τ [b + 5] → 0 ≤ i → 0 ≤ st0 → i + Rr.length = R.length → cRul (zx σ (b + 1)) (zx σ (b + 2)) (zx σ (b + 3)) (zx σ (b + 4)) i st0 Rr → st0 + tLen Rr = tLen R → (∀ p, p ∈ Rr → rOk p) → gvR nm Rr = gvR nm R → aw (d + 3) k_X9_answer (some .int) (fun r τ => r = some (.int (iI (gvR nm R))) ∧ Mod σ τ [b + 5]) 4 [some (.ref b), some (.ref 14), some (.int (iI st0)), some (.int (iI i)), w] [] τ := by
  intro n
  induction n using Nat.strongRecOn with
  | ind n ih =>
    intro τ i st0 w Rr hn hD hi0 hs0 hkr hcr hst hok hgv
    obtain ⟨hb1, ⟨hb2, hb3, hb4, hb5, hb6⟩, hr0, hr1, hr2, hr3, hr4⟩ := hf.tar hb
    obtain ⟨hR1, hR2, hR3⟩ := hR
    obtain ⟨hT1, hT2, hT3⟩ := hT
    refine aw_iload_n rfl rfl rfl ?_
    refine aw_aload_n rfl rfl rfl ?_
    refine aw_gk (v := (R.length : Int)) (6) rfl rfl (by rw [(hD.su (T := [b + 5]) (by simp)).2.2.1]; exact hb1) rfl (by rw [hD.nz (by simp)]; exact hT2) rfl (fun _ _ => ?_)
    refine aw_icmp (p' := 92) rfl ⟨by omega, by omega⟩ ⟨by omega, by omega⟩ rfl rfl (fun c1 => ?_) (fun c1 => ?_)
    · dsimp only [zc] at c1
      refine aw_iconst rfl rfl ?_
      refine aw_reti rfl ?_
      refine ⟨?_, (hD.su (T := [b + 5]) (by simp))⟩
      have hr0 : Rr = [] := by cases Rr with | nil => rfl | cons a b => simp at hkr; omega
      subst hr0
      rw [← hgv]
      rfl
    · dsimp only [zc] at c1
      refine aw_iload_n rfl rfl rfl ?_
      refine aw_aload_n rfl rfl rfl ?_
      refine aw_getr (b := (b + 4)) rfl rfl (by rw [(hD.su (T := [b + 5]) (by simp)).2.2.1]; exact hb1) (by rw [(hD.su (T := [b + 5]) (by simp)).2.2.2.1]; exact hr3) rfl ?_
      refine aw_alen (N := 20) rfl (by rw [(hD.su (T := [b + 5]) (by simp)).2.2.1]; exact hb5) (by decide) rfl ?_
      refine aw_icmp (p' := 92) rfl ⟨by omega, by omega⟩ ⟨by omega, by omega⟩ rfl rfl (fun c2 => ?_) (fun c2 => ?_)
      · dsimp only [zc] at c2
        omega
      · dsimp only [zc] at c2
        have hrn : Rr ≠ [] := by rintro rfl; simp at hkr; omega
        obtain ⟨p, Rr', rfl⟩ := List.exists_cons_of_ne_nil hrn
        simp only [List.length_cons] at hkr
        rw [tLen_c] at hst
        obtain ⟨e1, e2, e3, e4, e5⟩ := hcr
        have hpo := hok p (List.mem_cons_self)
        obtain ⟨v2, ev2, hvb2, -⟩ := tyR_one hnk hpo.2
        refine aw_aload_n rfl rfl rfl ?_
        refine aw_getr (b := (b + 3)) rfl rfl (by rw [(hD.su (T := [b + 5]) (by simp)).2.2.1]; exact hb1) (by rw [(hD.su (T := [b + 5]) (by simp)).2.2.2.1]; exact hr2) rfl ?_
        refine aw_iload_n rfl rfl rfl ?_
        refine aw_as (N := 20) rfl (by rw [(hD.su (T := [b + 5]) (by simp)).2.2.1]; exact hb4) (by omega) (by omega) (by omega) rfl (fun _ _ => ?_)
        rw [hD.nz (by simp), e1]
        refine aw_iload_n rfl rfl rfl ?_
        refine aw_icmp (p' := 35) rfl ⟨by omega, by omega⟩ ⟨by omega, by omega⟩ rfl rfl (fun c3 => ?_) (fun c3 => ?_)
        · dsimp only [zc] at c3
          refine aw_iconst rfl rfl ?_
          refine aw_istore rfl (Nat.le_of_ble_eq_true rfl) rfl rfl ?_
          change aw _ _ _ _ 38 [some (.ref b), some (.ref 14), some (.int (iI _)), some (.int (iI _)), some (.int (iI _))] _ _
          refine aw_iload rfl rfl rfl ?_
          refine aw_if (p' := 60) rfl ⟨by omega, by omega⟩ rfl rfl (fun c4 => ?_) (fun c4 => ?_)
          · dsimp only [zc] at c4
            omega
          · dsimp only [zc] at c4
            have hnil : p.1.length ≠ 0 := by omega
            have hask := hpo.1.resolve_left (fun q => hnil (by rw [q]; rfl))
            obtain ⟨v1, ev1, hvb1, -⟩ := tyR_one hnk hask
            refine aw_aload_n rfl rfl rfl ?_
            refine aw_iload_n rfl rfl rfl ?_
            refine aw_aload_n rfl rfl rfl ?_
            refine aw_getr (b := (b + 3)) rfl rfl (by rw [(hD.su (T := [b + 5]) (by simp)).2.2.1]; exact hb1) (by rw [(hD.su (T := [b + 5]) (by simp)).2.2.2.1]; exact hr2) rfl ?_
            refine aw_iload_n rfl rfl rfl ?_
            refine aw_as (N := 20) rfl (by rw [(hD.su (T := [b + 5]) (by simp)).2.2.1]; exact hb4) (by omega) (by omega) (by omega) rfl (fun _ _ => ?_)
            rw [hD.nz (by simp), e1]
            refine aw_aload_n rfl rfl rfl ?_
            refine aw_calc (c_run (nm := nm) (c := p.1) (bo := true) (n0 := tLen R) (((hD.su (T := [b + 5]) (by simp))).fx hf) hb hnk (fun w w0 w1 => by rw [((hD.su (T := [b + 5]) (by simp))).nz (by simp only [List.mem_singleton]; omega)]; exact hnm w w0 w1) hask (by omega) (by omega) (by rw [((hD.su (T := [b + 5]) (by simp))).nz (by simp only [List.mem_singleton]; omega)]; exact hT1) (by omega) (by omega) (by rw [((hD.su (T := [b + 5]) (by simp))).nz (by simp), ((hD.su (T := [b + 5]) (by simp))).nz (by simp)]; exact e3)) rfl rfl rfl (Nat.le_of_ble_eq_true rfl) (Or.inr ⟨_, rfl, (by rw [(hD.su (T := [b + 5]) (by simp)).2.2.1]; exact hb1)⟩) rfl ?_
            rintro _ τ5 ⟨rfl, hD5⟩
            change aw _ _ _ _ 55 [some (.ref b), some (.ref 14), some (.int (iI _)), some (.int (iI _)), some (.int (iI _))] [.long (lI _)] _
            rw [ev1]
            show aw _ _ _ _ _ _ (.long (lI v1) :: _) _
            refine aw_lconst 0 rfl rfl rfl ?_
            refine aw_lcif (p' := 79) rfl rfl (by omega) (by omega) (by omega) (by omega) rfl rfl (fun c6 => ?_) (fun c6 => ?_)
            · dsimp only [zc] at c6
              refine aw_aload_n rfl rfl rfl ?_
              refine aw_getr (b := (b + 4)) rfl rfl (by rw [((hD.su (T := [b + 5]) (by simp)).tr (hD5.su (T := [b + 5]) (by simp))).2.2.1]; exact hb1) (by rw [((hD.su (T := [b + 5]) (by simp)).tr (hD5.su (T := [b + 5]) (by simp))).2.2.2.1]; exact hr3) rfl ?_
              refine aw_iload_n rfl rfl rfl ?_
              refine aw_as (N := 20) rfl (by rw [((hD.su (T := [b + 5]) (by simp)).tr (hD5.su (T := [b + 5]) (by simp))).2.2.1]; exact hb5) (by omega) (by omega) (by omega) rfl (fun _ _ => ?_)
              rw [(((hD.su (T := [b + 5]) (by simp)).tr (hD5.su (T := [b + 5]) (by simp)))).nz (by simp), e2]
              refine aw_istore_n rfl (Nat.le_of_ble_eq_true rfl) rfl rfl ?_
              change aw _ _ _ _ 86 [some (.ref b), some (.ref 14), some (.int (iI _)), some (.int (iI _)), some (.int (iI _))] _ _
              refine aw_iinc rfl rfl rfl rfl ?_
              change aw _ _ _ _ 89 [some (.ref b), some (.ref 14), some (.int (iI _)), some (.int (iI _)), some (.int (iI _))] _ _
              refine aw_goto (p' := 4) rfl rfl ?_
              refine ih _ (by omega) _ _ _ _ Rr' rfl ((hD.su (T := [b + 5]) (by simp)).tr (hD5.su (T := [b + 5]) (by simp))) (by omega) (by omega) (by omega) e5 (by omega) (fun q hq => hok q (List.mem_cons_of_mem _ hq)) ?_
              rw [← hgv, gvR_c, zit_f]
              rintro (q | q)
              · rw [q] at hnil; simp at hnil
              · rw [ev1] at q; exact q (show v1 = 0 by omega)
            · dsimp only [zc] at c6
              skip
              refine aw_aload_n rfl rfl rfl ?_
              refine aw_aload_n rfl rfl rfl ?_
              refine aw_getr (b := (b + 3)) rfl rfl (by rw [((hD.su (T := [b + 5]) (by simp)).tr (hD5.su (T := [b + 5]) (by simp))).2.2.1]; exact hb1) (by rw [((hD.su (T := [b + 5]) (by simp)).tr (hD5.su (T := [b + 5]) (by simp))).2.2.2.1]; exact hr2) rfl ?_
              refine aw_iload_n rfl rfl rfl ?_
              refine aw_as (N := 20) rfl (by rw [((hD.su (T := [b + 5]) (by simp)).tr (hD5.su (T := [b + 5]) (by simp))).2.2.1]; exact hb4) (by omega) (by omega) (by omega) rfl (fun _ _ => ?_)
              rw [(((hD.su (T := [b + 5]) (by simp)).tr (hD5.su (T := [b + 5]) (by simp)))).nz (by simp), e1]
              refine aw_aload_n rfl rfl rfl ?_
              refine aw_getr (b := (b + 4)) rfl rfl (by rw [((hD.su (T := [b + 5]) (by simp)).tr (hD5.su (T := [b + 5]) (by simp))).2.2.1]; exact hb1) (by rw [((hD.su (T := [b + 5]) (by simp)).tr (hD5.su (T := [b + 5]) (by simp))).2.2.2.1]; exact hr3) rfl ?_
              refine aw_iload_n rfl rfl rfl ?_
              refine aw_as (N := 20) rfl (by rw [((hD.su (T := [b + 5]) (by simp)).tr (hD5.su (T := [b + 5]) (by simp))).2.2.1]; exact hb5) (by omega) (by omega) (by omega) rfl (fun _ _ => ?_)
              rw [(((hD.su (T := [b + 5]) (by simp)).tr (hD5.su (T := [b + 5]) (by simp)))).nz (by simp), e2]
              refine aw_aload_n rfl rfl rfl ?_
              refine aw_calc (c_run (nm := nm) (c := p.2) (bo := false) (n0 := tLen R) ((((hD.su (T := [b + 5]) (by simp)).tr (hD5.su (T := [b + 5]) (by simp)))).fx hf) hb hnk (fun w w0 w1 => by rw [(((hD.su (T := [b + 5]) (by simp)).tr (hD5.su (T := [b + 5]) (by simp)))).nz (by simp only [List.mem_singleton]; omega)]; exact hnm w w0 w1) hpo.2 (by omega) (by omega) (by rw [(((hD.su (T := [b + 5]) (by simp)).tr (hD5.su (T := [b + 5]) (by simp)))).nz (by simp only [List.mem_singleton]; omega)]; exact hT1) (by omega) (by omega) (by rw [(((hD.su (T := [b + 5]) (by simp)).tr (hD5.su (T := [b + 5]) (by simp)))).nz (by simp), (((hD.su (T := [b + 5]) (by simp)).tr (hD5.su (T := [b + 5]) (by simp)))).nz (by simp)]; exact e4)) rfl rfl rfl (Nat.le_of_ble_eq_true rfl) (Or.inr ⟨_, rfl, (by rw [((hD.su (T := [b + 5]) (by simp)).tr (hD5.su (T := [b + 5]) (by simp))).2.2.1]; exact hb1)⟩) rfl ?_
              rintro _ τ7 ⟨rfl, hD7⟩
              change aw _ _ _ _ 77 [some (.ref b), some (.ref 14), some (.int (iI _)), some (.int (iI _)), some (.int (iI _))] [.long (lI _)] _
              rw [ev2]
              show aw _ _ _ _ _ _ (.long (lI v2) :: _) _
              refine aw_l2i rfl (by omega) (by omega) rfl ?_
              refine aw_reti rfl ?_
              refine ⟨?_, (((hD.su (T := [b + 5]) (by simp)).tr (hD5.su (T := [b + 5]) (by simp))).tr (hD7.su (T := [b + 5]) (by simp)))⟩
              rw [← hgv, gvR_c, zit_t, ev2]
              · rfl
              · first | (left; exact List.eq_nil_of_length_eq_zero (by omega)) | (right; rw [ev1]; show v1 ≠ 0; omega)
        · dsimp only [zc] at c3
          refine aw_iconst rfl rfl ?_
          refine aw_goto (p' := 36) rfl rfl ?_
          refine aw_istore rfl (Nat.le_of_ble_eq_true rfl) rfl rfl ?_
          change aw _ _ _ _ 38 [some (.ref b), some (.ref 14), some (.int (iI _)), some (.int (iI _)), some (.int (iI _))] _ _
          refine aw_iload rfl rfl rfl ?_
          refine aw_if (p' := 60) rfl ⟨by omega, by omega⟩ rfl rfl (fun c8 => ?_) (fun c8 => ?_)
          · dsimp only [zc] at c8
            skip
            refine aw_aload_n rfl rfl rfl ?_
            refine aw_aload_n rfl rfl rfl ?_
            refine aw_getr (b := (b + 3)) rfl rfl (by rw [(hD.su (T := [b + 5]) (by simp)).2.2.1]; exact hb1) (by rw [(hD.su (T := [b + 5]) (by simp)).2.2.2.1]; exact hr2) rfl ?_
            refine aw_iload_n rfl rfl rfl ?_
            refine aw_as (N := 20) rfl (by rw [(hD.su (T := [b + 5]) (by simp)).2.2.1]; exact hb4) (by omega) (by omega) (by omega) rfl (fun _ _ => ?_)
            rw [((hD.su (T := [b + 5]) (by simp))).nz (by simp), e1]
            refine aw_aload_n rfl rfl rfl ?_
            refine aw_getr (b := (b + 4)) rfl rfl (by rw [(hD.su (T := [b + 5]) (by simp)).2.2.1]; exact hb1) (by rw [(hD.su (T := [b + 5]) (by simp)).2.2.2.1]; exact hr3) rfl ?_
            refine aw_iload_n rfl rfl rfl ?_
            refine aw_as (N := 20) rfl (by rw [(hD.su (T := [b + 5]) (by simp)).2.2.1]; exact hb5) (by omega) (by omega) (by omega) rfl (fun _ _ => ?_)
            rw [((hD.su (T := [b + 5]) (by simp))).nz (by simp), e2]
            refine aw_aload_n rfl rfl rfl ?_
            refine aw_calc (c_run (nm := nm) (c := p.2) (bo := false) (n0 := tLen R) (((hD.su (T := [b + 5]) (by simp))).fx hf) hb hnk (fun w w0 w1 => by rw [((hD.su (T := [b + 5]) (by simp))).nz (by simp only [List.mem_singleton]; omega)]; exact hnm w w0 w1) hpo.2 (by omega) (by omega) (by rw [((hD.su (T := [b + 5]) (by simp))).nz (by simp only [List.mem_singleton]; omega)]; exact hT1) (by omega) (by omega) (by rw [((hD.su (T := [b + 5]) (by simp))).nz (by simp), ((hD.su (T := [b + 5]) (by simp))).nz (by simp)]; exact e4)) rfl rfl rfl (Nat.le_of_ble_eq_true rfl) (Or.inr ⟨_, rfl, (by rw [(hD.su (T := [b + 5]) (by simp)).2.2.1]; exact hb1)⟩) rfl ?_
            rintro _ τ9 ⟨rfl, hD9⟩
            change aw _ _ _ _ 77 [some (.ref b), some (.ref 14), some (.int (iI _)), some (.int (iI _)), some (.int (iI _))] [.long (lI _)] _
            rw [ev2]
            show aw _ _ _ _ _ _ (.long (lI v2) :: _) _
            refine aw_l2i rfl (by omega) (by omega) rfl ?_
            refine aw_reti rfl ?_
            refine ⟨?_, ((hD.su (T := [b + 5]) (by simp)).tr (hD9.su (T := [b + 5]) (by simp)))⟩
            rw [← hgv, gvR_c, zit_t, ev2]
            · rfl
            · first | (left; exact List.eq_nil_of_length_eq_zero (by omega)) | (right; rw [ev1]; show v1 ≠ 0; omega)
          · dsimp only [zc] at c8
            omega
set_option maxRecDepth 10000 in
set_option maxHeartbeats 2000000 in
theorem c_answer {d : Nat} {sz : Nat} {σ : az_S} (hf : FX sz σ) {b : Nat} (hb : b = 16 ∨ b = 22) {R : tRules} (hR : PW R) (hT : cTar σ b R) {nm : Int → Int} (hnk : nmOk nm) (hnm : ∀ i : Int, 0 ≤ i → i ≤ 7 → zx σ 14 i = nm i) : cal (d + 4) 80 [.ref b, .ref 14] σ (fun r τ => r = some (.int (iI (gvR nm R))) ∧ Mod σ τ [b + 5]) := by
  obtain ⟨hb1, ⟨hb2, hb3, hb4, hb5, hb6⟩, hr0, hr1, hr2, hr3, hr4⟩ := hf.tar hb
  obtain ⟨hR1, hR2, hR3⟩ := hR
  obtain ⟨hT1, hT2, hT3⟩ := hT
  refine cal_of (M := (yX9_answer, cX9_answer, 5, (some .int))) (cd := k_X9_answer) (L := [some (.ref b), some (.ref 14), none, none, none]) rfl (Nat.le_of_ble_eq_true rfl) rfl rfl ?_
  refine aw_iconst rfl rfl ?_
  refine aw_istore_n rfl (Nat.le_of_ble_eq_true rfl) rfl rfl ?_
  change aw _ _ _ _ 2 [some (.ref b), some (.ref 14), some (.int (iI _)), none, none] _ _
  refine aw_iconst rfl rfl ?_
  refine aw_istore_n rfl (Nat.le_of_ble_eq_true rfl) rfl rfl ?_
  change aw _ _ _ _ 4 [some (.ref b), some (.ref 14), some (.int (iI _)), some (.int (iI _)), none] _ _
  exact c_answer_l4 hf hb ⟨hR1, hR2, hR3⟩ ⟨hT1, hT2, hT3⟩ hnk hnm _ _ 0 0 _ R rfl Mod.rf (by omega) (by omega) (by omega) hT3 (by omega) hR3 rfl
theorem nt14 {b : Nat} (hb : b = 16 ∨ b = 22) : ∀ a, a ∈ [14] → a < b ∨ b + 4 < a := by
  intro a ha
  rw [List.mem_singleton.mp ha]
  omega
theorem nt5 {b : Nat} (hb : b = 16 ∨ b = 22) : [b + 5].all ca = true := by
  rcases hb with rfl | rfl <;> rfl
theorem su27 {σ τ : az_S} {b : Nat} (hb : b = 16 ∨ b = 22) (h : Mod σ τ [b + 5]) {T : List Nat} (h1 : T.contains 21 = true) (h2 : T.contains 27 = true) : Mod σ τ T := by
  rcases hb with rfl | rfl
  · exact h.su (by simp; exact List.contains_iff_mem.mp h1)
  · exact h.su (by simp; exact List.contains_iff_mem.mp h2)
set_option maxRecDepth 10000 in
set_option maxHeartbeats 2000000 in
theorem c_gives {d : Nat} {sz : Nat} {κ : Nat × (Nat → Int32) × Option Nat} {A : Nat → Int → Int} {g : Nat → Nat} {σ : az_S} (hC : CR sz κ A g σ) (hI : MI sz A) {R : tRules} (hR : PW R) (hT : cTar σ (g 700) R) {a : Int} (ha : inI a) {b : Int} (hb : inI b) {c : Int} (hc : inI c) {e : Int} (he : inI e) {f : Int} (hf : inI f) {l : Int} (hl : inI l) : cal (d + 5) 120 [.ref 0, .int (iI a), .int (iI b), .int (iI c), .int (iI e), .int (iI f), .int (iI l)] σ (fun r τ => r = some (.int (iI (zit ((-1000000 ≤ a ∧ a ≤ 1000000) ∧ (-1000000 ≤ b ∧ b ≤ 1000000) ∧ (-1000000 ≤ c ∧ c ≤ 1000000) ∧ (-1000000 ≤ e ∧ e ≤ 1000000) ∧ (-1000000 ≤ f ∧ f ≤ 1000000) ∧ (-1000000 ≤ l ∧ l ≤ 1000000)) (gvR (nmE a b 0 c e f l 0) R) (-2000000000)))) ∧ CR sz κ A g τ ∧ Mod σ τ [14, 21, 27]) := by
  obtain ⟨hR1, hR2, hR3⟩ := hR
  obtain ⟨ha1, ha2⟩ := ha
  obtain ⟨hb1, hb2⟩ := hb
  obtain ⟨hc1, hc2⟩ := hc
  obtain ⟨he1, he2⟩ := he
  obtain ⟨hf1, hf2⟩ := hf
  obtain ⟨hl1, hl2⟩ := hl
  have hb7 := hC.force.1
  refine cal_of (M := (yX11_gives, cX11_gives, 7, (some .int))) (cd := k_X11_gives) (L := [some (.ref 0), some (.int (iI a)), some (.int (iI b)), some (.int (iI c)), some (.int (iI e)), some (.int (iI f)), some (.int (iI l))]) rfl (Nat.le_of_ble_eq_true rfl) rfl rfl ?_
  refine aw_iload_n rfl rfl rfl ?_
  refine aw_ldcw (1000000) rfl rfl rfl ?_
  refine aw_fnc (c_isWithin ⟨by omega, by omega⟩ (by omega) (by omega)) rfl rfl rfl (Nat.le_of_ble_eq_true rfl) (Or.inl rfl) rfl ?_
  refine aw_ifeqb (p' := 30) rfl rfl rfl (fun c1 => ?_) (fun c1 => ?_)
  · refine aw_ldcw (-2000000000) rfl rfl rfl ?_
    refine aw_reti rfl ?_
    refine ⟨?_, hC, Mod.rf⟩
    rw [zit_f (by omega)]
  · refine aw_iload_n rfl rfl rfl ?_
    refine aw_ldcw (1000000) rfl rfl rfl ?_
    refine aw_fnc (c_isWithin ⟨by omega, by omega⟩ (by omega) (by omega)) rfl rfl rfl (Nat.le_of_ble_eq_true rfl) (Or.inl rfl) rfl ?_
    refine aw_ifeqb (p' := 30) rfl rfl rfl (fun c2 => ?_) (fun c2 => ?_)
    · refine aw_ldcw (-2000000000) rfl rfl rfl ?_
      refine aw_reti rfl ?_
      refine ⟨?_, hC, Mod.rf⟩
      rw [zit_f (by omega)]
    · refine aw_iload_n rfl rfl rfl ?_
      refine aw_ldcw (1000000) rfl rfl rfl ?_
      refine aw_fnc (c_isWithin ⟨by omega, by omega⟩ (by omega) (by omega)) rfl rfl rfl (Nat.le_of_ble_eq_true rfl) (Or.inl rfl) rfl ?_
      refine aw_ifneb (p' := 34) rfl rfl rfl (fun c3 => ?_) (fun c3 => ?_)
      · refine aw_iload rfl rfl rfl ?_
        refine aw_ldcw (1000000) rfl rfl rfl ?_
        refine aw_fnc (c_isWithin ⟨by omega, by omega⟩ (by omega) (by omega)) rfl rfl rfl (Nat.le_of_ble_eq_true rfl) (Or.inl rfl) rfl ?_
        refine aw_ifeqb (p' := 67) rfl rfl rfl (fun c4 => ?_) (fun c4 => ?_)
        · refine aw_ldcw (-2000000000) rfl rfl rfl ?_
          refine aw_reti rfl ?_
          refine ⟨?_, hC, Mod.rf⟩
          rw [zit_f (by omega)]
        · refine aw_iload rfl rfl rfl ?_
          refine aw_ldcw (1000000) rfl rfl rfl ?_
          refine aw_fnc (c_isWithin ⟨by omega, by omega⟩ (by omega) (by omega)) rfl rfl rfl (Nat.le_of_ble_eq_true rfl) (Or.inl rfl) rfl ?_
          refine aw_ifeqb (p' := 67) rfl rfl rfl (fun c5 => ?_) (fun c5 => ?_)
          · refine aw_ldcw (-2000000000) rfl rfl rfl ?_
            refine aw_reti rfl ?_
            refine ⟨?_, hC, Mod.rf⟩
            rw [zit_f (by omega)]
          · refine aw_iload rfl rfl rfl ?_
            refine aw_ldcw (1000000) rfl rfl rfl ?_
            refine aw_fnc (c_isWithin ⟨by omega, by omega⟩ (by omega) (by omega)) rfl rfl rfl (Nat.le_of_ble_eq_true rfl) (Or.inl rfl) rfl ?_
            refine aw_ifneb (p' := 71) rfl rfl rfl (fun c6 => ?_) (fun c6 => ?_)
            · refine aw_aload_n rfl rfl rfl ?_
              refine aw_getr (b := 14) rfl rfl (hC.f.k 0 rfl) (hC.f.r 0 10 14 rfl) rfl ?_
              refine aw_iconst rfl rfl ?_
              refine aw_iload_n rfl rfl rfl ?_
              refine aw_cs (N := 8) hC hI rfl (hC.f.s 14 rfl) (by omega) rfl (by omega) (by omega) ⟨by omega, by omega⟩ rfl (fun τ7 hM7 hD7 hU7 => ?_)
              refine aw_aload_n rfl rfl rfl ?_
              refine aw_getr (b := 14) rfl rfl (hM7.f.k 0 rfl) (hM7.f.r 0 10 14 rfl) rfl ?_
              refine aw_iconst rfl rfl ?_
              refine aw_iload_n rfl rfl rfl ?_
              refine aw_cs (N := 8) hM7 hI rfl (hM7.f.s 14 rfl) (by omega) rfl (by omega) (by omega) ⟨by omega, by omega⟩ rfl (fun τ8 hM8 hD8 hU8 => ?_)
              refine aw_aload_n rfl rfl rfl ?_
              refine aw_getr (b := 14) rfl rfl (hM8.f.k 0 rfl) (hM8.f.r 0 10 14 rfl) rfl ?_
              refine aw_iconst rfl rfl ?_
              refine aw_iconst rfl rfl ?_
              refine aw_cs (N := 8) hM8 hI rfl (hM8.f.s 14 rfl) (by omega) rfl (by omega) (by omega) ⟨by omega, by omega⟩ rfl (fun τ9 hM9 hD9 hU9 => ?_)
              refine aw_aload_n rfl rfl rfl ?_
              refine aw_getr (b := 14) rfl rfl (hM9.f.k 0 rfl) (hM9.f.r 0 10 14 rfl) rfl ?_
              refine aw_iconst rfl rfl ?_
              refine aw_iload_n rfl rfl rfl ?_
              refine aw_cs (N := 8) hM9 hI rfl (hM9.f.s 14 rfl) (by omega) rfl (by omega) (by omega) ⟨by omega, by omega⟩ rfl (fun τ10 hM10 hD10 hU10 => ?_)
              refine aw_aload_n rfl rfl rfl ?_
              refine aw_getr (b := 14) rfl rfl (hM10.f.k 0 rfl) (hM10.f.r 0 10 14 rfl) rfl ?_
              refine aw_iconst rfl rfl ?_
              refine aw_iload rfl rfl rfl ?_
              refine aw_cs (N := 8) hM10 hI rfl (hM10.f.s 14 rfl) (by omega) rfl (by omega) (by omega) ⟨by omega, by omega⟩ rfl (fun τ11 hM11 hD11 hU11 => ?_)
              refine aw_aload_n rfl rfl rfl ?_
              refine aw_getr (b := 14) rfl rfl (hM11.f.k 0 rfl) (hM11.f.r 0 10 14 rfl) rfl ?_
              refine aw_iconst rfl rfl ?_
              refine aw_iload rfl rfl rfl ?_
              refine aw_cs (N := 8) hM11 hI rfl (hM11.f.s 14 rfl) (by omega) rfl (by omega) (by omega) ⟨by omega, by omega⟩ rfl (fun τ12 hM12 hD12 hU12 => ?_)
              refine aw_aload_n rfl rfl rfl ?_
              refine aw_getr (b := 14) rfl rfl (hM12.f.k 0 rfl) (hM12.f.r 0 10 14 rfl) rfl ?_
              refine aw_bipush rfl rfl rfl ?_
              refine aw_iload rfl rfl rfl ?_
              refine aw_cs (N := 8) hM12 hI rfl (hM12.f.s 14 rfl) (by omega) rfl (by omega) (by omega) ⟨by omega, by omega⟩ rfl (fun τ13 hM13 hD13 hU13 => ?_)
              refine aw_aload_n rfl rfl rfl ?_
              refine aw_getr (b := 14) rfl rfl (hM13.f.k 0 rfl) (hM13.f.r 0 10 14 rfl) rfl ?_
              refine aw_bipush rfl rfl rfl ?_
              refine aw_iconst rfl rfl ?_
              refine aw_cs (N := 8) hM13 hI rfl (hM13.f.s 14 rfl) (by omega) rfl (by omega) (by omega) ⟨by omega, by omega⟩ rfl (fun τ14 hM14 hD14 hU14 => ?_)
              have hnk : nmOk (nmE a b 0 c e f l 0) := fun i _ _ => nmE_b (by omega) (by omega) (by omega) (by omega) (by omega) (by omega) (by omega) (by omega) i
              have hD14 := ((((((((hD7.su (T := [14]) rfl).tr (hD8.su (T := [14]) rfl)).tr (hD9.su (T := [14]) rfl)).tr (hD10.su (T := [14]) rfl)).tr (hD11.su (T := [14]) rfl)).tr (hD12.su (T := [14]) rfl)).tr (hD13.su (T := [14]) rfl)).tr (hD14.su (T := [14]) rfl))
              refine aw_aload_n rfl rfl rfl ?_
              refine aw_getr (b := (g 700)) rfl rfl (hM14.f.k 0 rfl) hM14.force.2.1 rfl ?_
              refine aw_aload_n rfl rfl rfl ?_
              refine aw_getr (b := 14) rfl rfl (hM14.f.k 0 rfl) (hM14.f.r 0 10 14 rfl) rfl ?_
              refine aw_calc (c_answer (nm := (nmE a b 0 c e f l 0)) hM14.f hb7 ⟨hR1, hR2, hR3⟩ (hT.mod hD14 (nt14 hb7)) hnk (fun w w0 w1 => by
                    rw [hU14, hU13, hU12, hU11, hU10, hU9, hU8, hU7]
                    have hw : w = 0 ∨ w = 1 ∨ w = 2 ∨ w = 3 ∨ w = 4 ∨ w = 5 ∨ w = 6 ∨ w = 7 := by omega
                    rcases hw with rfl | rfl | rfl | rfl | rfl | rfl | rfl | rfl <;> simp [nmE])) rfl rfl rfl (Nat.le_of_ble_eq_true rfl) (Or.inr ⟨_, rfl, hM14.kF⟩) rfl ?_
              rintro _ τ15 ⟨rfl, hD15⟩
              change aw _ _ _ _ 143 [some (.ref 0), some (.int (iI _)), some (.int (iI _)), some (.int (iI _)), some (.int (iI _)), some (.int (iI _)), some (.int (iI _))] [.int (iI _)] _
              have hM15 := hM14.mod hI hD15 (nt5 hb7)
              refine aw_reti rfl ?_
              refine ⟨?_, hM15, (hD14.su (T := [14, 21, 27]) rfl).tr (su27 hb7 hD15 rfl rfl)⟩
              rw [zit_t (by omega)]
            · refine aw_ldcw (-2000000000) rfl rfl rfl ?_
              refine aw_reti rfl ?_
              refine ⟨?_, hC, Mod.rf⟩
              rw [zit_f (by omega)]
      · refine aw_ldcw (-2000000000) rfl rfl rfl ?_
        refine aw_reti rfl ?_
        refine ⟨?_, hC, Mod.rf⟩
        rw [zit_f (by omega)]
