section AwRoute
variable {d : Nat} {cd : List az_I} {rt : Option FieldType} {P : Option Value → az_S → Prop} {pc p' : Nat} {L : az_V} {st : List Value} {σ : az_S}
theorem aw_yl {i ci k a : Nat} {x : Int} (j : Int) (hf : az_fetch cd pc = some (3, .putfield i, [ci, k])) (hk : az_ft ci k = 1) (hs : (az_sh σ a).1 = ci) (hj : j = (k : Int)) (h1 : -9223372036854775808 ≤ x) (h2 : x < 9223372036854775808) (hp : pc + 3 = p') (h : ∀ τ, Mod σ τ [a] → (∀ w, zq τ a w = if w = j then x else zq σ a w) → zx τ a = zx σ a → aw d cd rt P p' L st τ) : aw d cd rt P pc L (.long (lI x) :: .ref a :: st) σ := by
  have hd : Mod σ (az_pl σ a j.toNat (lI x)) [a] := Mod_pl (by simp)
  have e : j.toNat = k := by omega
  refine aw_putl hf hk hs hp ?_
  rw [← e]
  refine h _ hd (fun w => ?_) rfl
  rw [zq_pl (by omega) h1 h2]
  simp
end AwRoute
def f0 (t e : Int) : Int × Int := if e = t then (0, 0) else (1000, 0)
theorem f0_t {t e : Int} (h : e = t) : f0 t e = (0, 0) := if_pos h
theorem f0_f {t e : Int} (h : e ≠ t) : f0 t e = (1000, 0) := if_neg h
theorem sxv {κ : Nat × (Nat → Int32) × Option Nat} {k : Int} (h0 : 0 ≤ k) (h1 : k < 5) : az_i0 κ.2.1 1000002 k.toNat = iI (dX k) ∧ az_i0 κ.2.1 1000003 k.toNat = iI (dY k) := by
  have hk : k = 0 ∨ k = 1 ∨ k = 2 ∨ k = 3 ∨ k = 4 := by omega
  rcases hk with rfl | rfl | rfl | rfl | rfl <;> exact ⟨rfl, rfl⟩
set_option maxRecDepth 10000 in
set_option maxHeartbeats 2000000 in
theorem c_leads0 {d : Nat} {sz : Nat} {κ : Nat × (Nat → Int32) × Option Nat} {A : Nat → Int → Int} {g : Nat → Nat} {σ : az_S} (hC : CR sz κ A g σ) (hI : MI sz A) (hv : g 701 = 0) {f : Int → Int × Int} {rc : Int → Prop} (hAf : cAf A f rc 37 39 (A 42 2) σ) (hfb : ∀ e : Int, 0 ≤ e → e < A 42 2 → (0 ≤ (f e).1 ∧ (f e).1 ≤ 1000) ∧ (0 ≤ (f e).2 ∧ (f e).2 ≤ 1000000000000)) {c : Int} (hc : inI c) : fn (d + 1) 29 [.ref 33, .int (iI c)] σ (.int (iI (bI ((0 ≤ c ∧ c < A 42 2) ∧ rc c ∧ (f c).1 < 1000)))) := by
  obtain ⟨hc1, hc2⟩ := hc
  have hce := hI.cells
  have hsz := hC.f.1
  refine fn_of (M := (yX4_leadsOn, cX4_leadsOn, 2, (some .boolean))) (cd := k_X4_leadsOn) (L := [some (.ref 33), some (.int (iI c))]) rfl (Nat.le_of_ble_eq_true rfl) rfl rfl ?_
  refine aw_iload_n rfl rfl rfl ?_
  refine aw_if (p' := 27) rfl ⟨by omega, by omega⟩ rfl rfl (fun c1 => ?_) (fun c1 => ?_)
  · dsimp only [zc] at c1
    refine aw_iconst rfl rfl ?_
    refine aw_retn rfl (by first | rfl | exact bI_nar _) ?_
    refine ⟨?_, rfl⟩
    first | (rw [bI_f (by rintro ⟨q1, q2⟩; first | omega | (have := ((hAf c (by omega) (by omega)).1 q2).1; have := hfb c (by omega) (by omega); omega))]; done) | (rw [bI_t ⟨by omega, Classical.not_not.mp (fun q => by have := (hAf c (by omega) (by omega)).2 q; omega)⟩])
  · dsimp only [zc] at c1
    refine aw_iload_n rfl rfl rfl ?_
    refine aw_aload_n rfl rfl rfl ?_
    refine aw_getr (b := 37) rfl rfl (hC.f.k 33 rfl) (by have q := hC.route.2.2.1; rw [hv] at q; exact q) rfl ?_
    refine aw_alen (N := sz) rfl (hC.f.s 37 rfl) (by decide) rfl ?_
    refine aw_icmp (p' := 27) rfl ⟨by omega, by omega⟩ ⟨by omega, by omega⟩ rfl rfl (fun c2 => ?_) (fun c2 => ?_)
    · dsimp only [zc] at c2
      refine aw_iconst rfl rfl ?_
      refine aw_retn rfl (by first | rfl | exact bI_nar _) ?_
      refine ⟨?_, rfl⟩
      first | (rw [bI_f (by rintro ⟨q1, q2⟩; first | omega | (have := ((hAf c (by omega) (by omega)).1 q2).1; have := hfb c (by omega) (by omega); omega))]; done) | (rw [bI_t ⟨by omega, Classical.not_not.mp (fun q => by have := (hAf c (by omega) (by omega)).2 q; omega)⟩])
    · dsimp only [zc] at c2
      refine aw_aload_n rfl rfl rfl ?_
      refine aw_getr (b := 37) rfl rfl (hC.f.k 33 rfl) (by have q := hC.route.2.2.1; rw [hv] at q; exact q) rfl ?_
      refine aw_iload_n rfl rfl rfl ?_
      refine aw_as (N := sz) rfl (hC.f.s 37 rfl) (by omega) (by omega) (by omega) rfl (fun _ _ => ?_)
      refine aw_iconst rfl rfl ?_
      refine aw_icmp (p' := 27) rfl ⟨by omega, by omega⟩ ⟨by omega, by omega⟩ rfl rfl (fun c3 => ?_) (fun c3 => ?_)
      · dsimp only [zc] at c3
        refine aw_iconst rfl rfl ?_
        refine aw_retn rfl (by first | rfl | exact bI_nar _) ?_
        refine ⟨?_, rfl⟩
        first | (rw [bI_f (by rintro ⟨q1, q2⟩; first | omega | (have := ((hAf c (by omega) (by omega)).1 q2).1; have := hfb c (by omega) (by omega); omega))]; done) | (rw [bI_t ⟨by omega, Classical.not_not.mp (fun q => by have := (hAf c (by omega) (by omega)).2 q; omega)⟩])
      · dsimp only [zc] at c3
        refine aw_iconst rfl rfl ?_
        refine aw_goto (p' := 28) rfl rfl ?_
        refine aw_retn rfl (by first | rfl | exact bI_nar _) ?_
        refine ⟨?_, rfl⟩
        first | (rw [bI_f (by rintro ⟨q1, q2⟩; first | omega | (have := ((hAf c (by omega) (by omega)).1 q2).1; have := hfb c (by omega) (by omega); omega))]; done) | (rw [bI_t ⟨by omega, Classical.not_not.mp (fun q => by have := (hAf c (by omega) (by omega)).2 q; omega)⟩])
set_option maxRecDepth 10000 in
set_option maxHeartbeats 2000000 in
theorem c_better0 {d : Nat} {sz : Nat} {κ : Nat × (Nat → Int32) × Option Nat} {A : Nat → Int → Int} {g : Nat → Nat} {σ : az_S} (hC : CR sz κ A g σ) (hI : MI sz A) (hv : g 701 = 0) {f : Int → Int × Int} {rc : Int → Prop} (hAf : cAf A f rc 37 39 (A 42 2) σ) (hfb : ∀ e : Int, 0 ≤ e → e < A 42 2 → (0 ≤ (f e).1 ∧ (f e).1 ≤ 1000) ∧ (0 ≤ (f e).2 ∧ (f e).2 ≤ 1000000000000)) {n b : Int} (hn : ((0 ≤ n ∧ n < A 42 2) ∧ rc n ∧ (f n).1 < 1000)) (hb : ((0 ≤ b ∧ b < A 42 2) ∧ rc b ∧ (f b).1 < 1000)) : fn (d + 2) 31 [.ref 33, .int (iI n), .int (iI b)] σ (.int (iI (bI (wBet f n b)))) := by
  obtain ⟨⟨hn0, hn1⟩, hn2⟩ := hn
  obtain ⟨⟨hb0, hb1⟩, hb2⟩ := hb
  have hce := hI.cells
  have hsz := hC.f.1
  have an := (hAf n hn0 hn1).1 hn2
  have ab := (hAf b hb0 hb1).1 hb2
  have fn := hfb n hn0 hn1
  have fb := hfb b hb0 hb1
  refine fn_of (M := (yX4_isBetter, cX4_isBetter, 3, (some .boolean))) (cd := k_X4_isBetter) (L := [some (.ref 33), some (.int (iI n)), some (.int (iI b))]) rfl (Nat.le_of_ble_eq_true rfl) rfl rfl ?_
  refine aw_aload_n rfl rfl rfl ?_
  refine aw_iload_n rfl rfl rfl ?_
  refine aw_fnc (c_leads0 hC hI hv hAf hfb ⟨by omega, by omega⟩) rfl rfl rfl (Nat.le_of_ble_eq_true rfl) (Or.inr ⟨_, rfl, (hC.f.k 33 rfl)⟩) rfl ?_
  refine aw_ifeqb (p' := 16) rfl rfl rfl (fun c1 => ?_) (fun c1 => ?_)
  · exact absurd (show ((0 ≤ n ∧ n < A 42 2) ∧ rc n ∧ (f n).1 < 1000) from ⟨⟨hn0, hn1⟩, hn2⟩) (by assumption)
  · refine aw_aload_n rfl rfl rfl ?_
    refine aw_iload_n rfl rfl rfl ?_
    refine aw_fnc (c_leads0 hC hI hv hAf hfb ⟨by omega, by omega⟩) rfl rfl rfl (Nat.le_of_ble_eq_true rfl) (Or.inr ⟨_, rfl, (hC.f.k 33 rfl)⟩) rfl ?_
    refine aw_ifneb (p' := 18) rfl rfl rfl (fun c2 => ?_) (fun c2 => ?_)
    · refine aw_aload_n rfl rfl rfl ?_
      refine aw_getr (b := 37) rfl rfl (hC.f.k 33 rfl) (by have q := hC.route.2.2.1; rw [hv] at q; exact q) rfl ?_
      refine aw_iload_n rfl rfl rfl ?_
      refine aw_as (N := sz) rfl (hC.f.s 37 rfl) (by omega) (by omega) (by omega) rfl (fun _ _ => ?_)
      rw [an.1]
      refine aw_aload_n rfl rfl rfl ?_
      refine aw_getr (b := 37) rfl rfl (hC.f.k 33 rfl) (by have q := hC.route.2.2.1; rw [hv] at q; exact q) rfl ?_
      refine aw_iload_n rfl rfl rfl ?_
      refine aw_as (N := sz) rfl (hC.f.s 37 rfl) (by omega) (by omega) (by omega) rfl (fun _ _ => ?_)
      rw [ab.1]
      refine aw_icmp (p' := 54) rfl ⟨by omega, by omega⟩ ⟨by omega, by omega⟩ rfl rfl (fun c3 => ?_) (fun c3 => ?_)
      · dsimp only [zc] at c3
        refine aw_aload_n rfl rfl rfl ?_
        refine aw_getr (b := 39) rfl rfl (hC.f.k 33 rfl) (by have q := hC.route.2.2.2.2; rw [hv] at q; exact q) rfl ?_
        refine aw_iload_n rfl rfl rfl ?_
        refine aw_lz (N := sz) rfl (hC.f.s 39 rfl) (by omega) (by omega) (by omega) rfl (fun _ _ => ?_)
        rw [an.2]
        refine aw_aload_n rfl rfl rfl ?_
        refine aw_getr (b := 39) rfl rfl (hC.f.k 33 rfl) (by have q := hC.route.2.2.2.2; rw [hv] at q; exact q) rfl ?_
        refine aw_iload_n rfl rfl rfl ?_
        refine aw_lz (N := sz) rfl (hC.f.s 39 rfl) (by omega) (by omega) (by omega) rfl (fun _ _ => ?_)
        rw [ab.2]
        refine aw_lcif (p' := 74) rfl rfl (by omega) (by omega) (by omega) (by omega) rfl rfl (fun c4 => ?_) (fun c4 => ?_)
        · dsimp only [zc] at c4
          refine aw_iconst rfl rfl ?_
          refine aw_retn rfl rfl ?_
          refine ⟨?_, rfl⟩
          unfold wBet
          first | (rw [bI_t (by omega)]; done) | (rw [bI_f (by omega)])
        · dsimp only [zc] at c4
          refine aw_iconst rfl rfl ?_
          refine aw_goto (p' := 75) rfl rfl ?_
          refine aw_retn rfl rfl ?_
          refine ⟨?_, rfl⟩
          unfold wBet
          first | (rw [bI_t (by omega)]; done) | (rw [bI_f (by omega)])
      · dsimp only [zc] at c3
        refine aw_aload_n rfl rfl rfl ?_
        refine aw_getr (b := 37) rfl rfl (hC.f.k 33 rfl) (by have q := hC.route.2.2.1; rw [hv] at q; exact q) rfl ?_
        refine aw_iload_n rfl rfl rfl ?_
        refine aw_as (N := sz) rfl (hC.f.s 37 rfl) (by omega) (by omega) (by omega) rfl (fun _ _ => ?_)
        rw [an.1]
        refine aw_aload_n rfl rfl rfl ?_
        refine aw_getr (b := 37) rfl rfl (hC.f.k 33 rfl) (by have q := hC.route.2.2.1; rw [hv] at q; exact q) rfl ?_
        refine aw_iload_n rfl rfl rfl ?_
        refine aw_as (N := sz) rfl (hC.f.s 37 rfl) (by omega) (by omega) (by omega) rfl (fun _ _ => ?_)
        rw [ab.1]
        refine aw_icmp (p' := 52) rfl ⟨by omega, by omega⟩ ⟨by omega, by omega⟩ rfl rfl (fun c5 => ?_) (fun c5 => ?_)
        · dsimp only [zc] at c5
          refine aw_iconst rfl rfl ?_
          refine aw_retn rfl rfl ?_
          refine ⟨?_, rfl⟩
          unfold wBet
          first | (rw [bI_t (by omega)]; done) | (rw [bI_f (by omega)])
        · dsimp only [zc] at c5
          refine aw_iconst rfl rfl ?_
          refine aw_goto (p' := 53) rfl rfl ?_
          refine aw_retn rfl rfl ?_
          refine ⟨?_, rfl⟩
          unfold wBet
          first | (rw [bI_t (by omega)]; done) | (rw [bI_f (by omega)])
    · exact absurd (show ((0 ≤ b ∧ b < A 42 2) ∧ rc b ∧ (f b).1 < 1000) from ⟨⟨hb0, hb1⟩, hb2⟩) (by assumption)
set_option maxRecDepth 10000 in
set_option maxHeartbeats 2000000 in
theorem c_bestNx0_l24 {d : Nat} {sz : Nat} {κ : Nat × (Nat → Int32) × Option Nat} {A : Nat → Int → Int} {g : Nat → Nat} {σ : az_S} (hC : CR sz κ A g σ) (hI : MI sz A) (hv : g 701 = 0) {f : Int → Int × Int} {rc : Int → Prop} (hAf : cAf A f rc 37 39 (A 42 2) σ) (hfb : ∀ e : Int, 0 ≤ e → e < A 42 2 → (0 ≤ (f e).1 ∧ (f e).1 ≤ 1000) ∧ (0 ≤ (f e).2 ∧ (f e).2 ≤ 1000000000000)) {c : Int} (hc0 : 0 ≤ c) (hc1 : c < A 42 2) (hrc : ∀ k : Int, 0 ≤ k → k < 5 → 0 ≤ mBeside A c k → rc (mBeside A c k)) : ∀ (n : Nat) (k b : Int) (w : Option Value), (5 - k).toNat = n → 0 ≤ k → k ≤ 5 → b = nxN A f c k.toNat → (0 ≤ b → rc b) → aw (d + 2) k_X4_bestNext (some .int) (fun r τ => r = some (.int (iI (wNx A f c))) ∧ τ = σ) 24 [some (.ref 33), some (.int (iI c)), some (.int (iI (c % A 42 0))), some (.int (iI (c / A 42 0))), some (.int (iI b)), some (.int (iI k)), w] [] σ := by
  intro n
  induction n using Nat.strongRecOn with
  | ind n ih =>
    intro k b w hn hk0 hk1 hbb hbr
    have hw := hI.wide
    have hh := hI.high
    have hce := hI.cells
    have hdm := cell_dm hI hc0 hc1
    have hq := nxN_s (A := A) (f := f) (c := c) hk0
    have hr := nxN_r hI (f := f) hc0 hc1 k.toNat
    rw [← hbb] at hq hr
    have hbs := mBeside_r hI (k := k) hc0 hc1
    have hdd : -1 ≤ dX k ∧ dX k ≤ 1 ∧ -1 ≤ dY k ∧ dY k ≤ 1 := by unfold dX dY; (repeat' split) <;> omega
    have hrk := fun q => hrc k hk0 q
    refine aw_iload rfl rfl rfl ?_
    refine aw_gstr (b := 1000002) rfl hC.st1 rfl ?_
    refine aw_alen (N := 5) rfl (by rw [(hC.k 1000002 (by decide)).1]; rfl) (by decide) rfl ?_
    refine aw_icmp (p' := 103) rfl ⟨by omega, by omega⟩ ⟨by omega, by omega⟩ rfl rfl (fun c1 => ?_) (fun c1 => ?_)
    · dsimp only [zc] at c1
      refine aw_iload rfl rfl rfl ?_
      refine aw_reti rfl ?_
      refine ⟨?_, rfl⟩
      rw [hbb, show k = 5 by omega]
      rfl
    · dsimp only [zc] at c1
      refine aw_iload rfl rfl rfl ?_
      refine aw_gstr (b := 1000003) rfl hC.st2 rfl ?_
      refine aw_alen (N := 5) rfl (by rw [(hC.k 1000003 (by decide)).1]; rfl) (by decide) rfl ?_
      refine aw_icmp (p' := 103) rfl ⟨by omega, by omega⟩ ⟨by omega, by omega⟩ rfl rfl (fun c2 => ?_) (fun c2 => ?_)
      · dsimp only [zc] at c2
        omega
      · dsimp only [zc] at c2
        refine aw_aload_n rfl rfl rfl ?_
        refine aw_getr (b := 28) rfl rfl (hC.f.k 33 rfl) (hC.f.r 33 0 28 rfl) rfl ?_
        refine aw_iload_n rfl rfl rfl ?_
        refine aw_gstr (b := 1000002) rfl hC.st1 rfl ?_
        refine aw_iload rfl rfl rfl ?_
        refine aw_ialoadc (v := iI (dX k)) (N := 5) (j := k.toNat) rfl (by rw [(hC.k 1000002 (by decide)).1]; rfl) (by decide) (by omega) (by omega) (by rw [(hC.k 1000002 (by decide)).2.1]; exact (sxv hk0 (by omega)).1) rfl ?_
        refine aw_iadd rfl rfl ?_
        refine aw_iload_n rfl rfl rfl ?_
        refine aw_gstr (b := 1000003) rfl hC.st2 rfl ?_
        refine aw_iload rfl rfl rfl ?_
        refine aw_ialoadc (v := iI (dY k)) (N := 5) (j := k.toNat) rfl (by rw [(hC.k 1000003 (by decide)).1]; rfl) (by decide) (by omega) (by omega) (by rw [(hC.k 1000003 (by decide)).2.1]; exact (sxv hk0 (by omega)).2) rfl ?_
        refine aw_iadd rfl rfl ?_
        refine aw_fnc (c_cellAt hC hI (by omega) (by omega) (by omega) (by omega)) rfl rfl rfl (Nat.le_of_ble_eq_true rfl) (Or.inr ⟨_, rfl, (hC.f.k 28 rfl)⟩) rfl ?_
        rw [beside_at hI hc0 hc1 hk0 (by omega)]
        refine aw_istore rfl (Nat.le_of_ble_eq_true rfl) rfl rfl ?_
        change aw _ _ _ _ 67 [some (.ref 33), some (.int (iI _)), some (.int (iI _)), some (.int (iI _)), some (.int (iI _)), some (.int (iI _)), some (.int (iI _))] _ _
        refine aw_aload_n rfl rfl rfl ?_
        refine aw_iload rfl rfl rfl ?_
        refine aw_fnc (c_leads0 hC hI hv hAf hfb ⟨by omega, by omega⟩) rfl rfl rfl (Nat.le_of_ble_eq_true rfl) (Or.inr ⟨_, rfl, (hC.f.k 33 rfl)⟩) rfl ?_
        refine aw_ifeqb (p' := 97) rfl rfl rfl (fun c3 => ?_) (fun c3 => ?_)
        · refine aw_iinc rfl rfl rfl rfl ?_
          change aw _ _ _ _ 100 [some (.ref 33), some (.int (iI _)), some (.int (iI _)), some (.int (iI _)), some (.int (iI _)), some (.int (iI _)), some (.int (iI _))] _ _
          refine aw_goto (p' := 24) rfl rfl ?_
          refine ih _ (by omega) _ _ _ rfl (by omega) (by omega) ?_ (by first | exact hbr | exact fun q => hrk (by omega) q)
          rw [hq]
          first | (rw [zit_t ⟨⟨by omega, by omega⟩, by first | (left; omega) | (right; assumption)⟩]; done) | (rw [zit_f (by rintro ⟨⟨q1, q2⟩, q3⟩; first | exact (by assumption : ¬ ((0 ≤ mBeside A c k ∧ mBeside A c k < A 42 2) ∧ rc (mBeside A c k) ∧ (f (mBeside A c k)).1 < 1000)) ⟨by omega, hrk (by omega) q1, q2⟩ | (rcases q3 with q3 | q3; omega; exact absurd q3 (by assumption)))])
        · have hln := (by assumption : (0 ≤ mBeside A c k ∧ mBeside A c k < A 42 2) ∧ rc (mBeside A c k) ∧ (f (mBeside A c k)).1 < 1000)
          refine aw_iload rfl rfl rfl ?_
          refine aw_iconst rfl rfl ?_
          refine aw_icmp (p' := 93) rfl ⟨by omega, by omega⟩ ⟨by omega, by omega⟩ rfl rfl (fun c4 => ?_) (fun c4 => ?_)
          · dsimp only [zc] at c4
            refine aw_iload rfl rfl rfl ?_
            refine aw_istore rfl (Nat.le_of_ble_eq_true rfl) rfl rfl ?_
            change aw _ _ _ _ 97 [some (.ref 33), some (.int (iI _)), some (.int (iI _)), some (.int (iI _)), some (.int (iI _)), some (.int (iI _)), some (.int (iI _))] _ _
            refine aw_iinc rfl rfl rfl rfl ?_
            change aw _ _ _ _ 100 [some (.ref 33), some (.int (iI _)), some (.int (iI _)), some (.int (iI _)), some (.int (iI _)), some (.int (iI _)), some (.int (iI _))] _ _
            refine aw_goto (p' := 24) rfl rfl ?_
            refine ih _ (by omega) _ _ _ rfl (by omega) (by omega) ?_ (by first | exact hbr | exact fun q => hrk (by omega) q)
            rw [hq]
            first | (rw [zit_t ⟨⟨by omega, by omega⟩, by first | (left; omega) | (right; assumption)⟩]; done) | (rw [zit_f (by rintro ⟨⟨q1, q2⟩, q3⟩; first | exact (by assumption : ¬ ((0 ≤ mBeside A c k ∧ mBeside A c k < A 42 2) ∧ rc (mBeside A c k) ∧ (f (mBeside A c k)).1 < 1000)) ⟨by omega, hrk (by omega) q1, q2⟩ | (rcases q3 with q3 | q3; omega; exact absurd q3 (by assumption)))])
          · dsimp only [zc] at c4
            have hln := (by assumption : (0 ≤ mBeside A c k ∧ mBeside A c k < A 42 2) ∧ rc (mBeside A c k) ∧ (f (mBeside A c k)).1 < 1000)
            have hlb : (0 ≤ b ∧ b < A 42 2) ∧ rc b ∧ (f b).1 < 1000 := ⟨by omega, hbr (by omega), hr.2 (by omega)⟩
            refine aw_aload_n rfl rfl rfl ?_
            refine aw_iload rfl rfl rfl ?_
            refine aw_iload rfl rfl rfl ?_
            refine aw_fnc (c_better0 hC hI hv hAf hfb hln hlb) rfl rfl rfl (Nat.le_of_ble_eq_true rfl) (Or.inr ⟨_, rfl, (hC.f.k 33 rfl)⟩) rfl ?_
            refine aw_ifeqb (p' := 97) rfl rfl rfl (fun c5 => ?_) (fun c5 => ?_)
            · refine aw_iinc rfl rfl rfl rfl ?_
              change aw _ _ _ _ 100 [some (.ref 33), some (.int (iI _)), some (.int (iI _)), some (.int (iI _)), some (.int (iI _)), some (.int (iI _)), some (.int (iI _))] _ _
              refine aw_goto (p' := 24) rfl rfl ?_
              refine ih _ (by omega) _ _ _ rfl (by omega) (by omega) ?_ (by first | exact hbr | exact fun q => hrk (by omega) q)
              rw [hq]
              first | (rw [zit_t ⟨⟨by omega, by omega⟩, by first | (left; omega) | (right; assumption)⟩]; done) | (rw [zit_f (by rintro ⟨⟨q1, q2⟩, q3⟩; first | exact (by assumption : ¬ ((0 ≤ mBeside A c k ∧ mBeside A c k < A 42 2) ∧ rc (mBeside A c k) ∧ (f (mBeside A c k)).1 < 1000)) ⟨by omega, hrk (by omega) q1, q2⟩ | (rcases q3 with q3 | q3; omega; exact absurd q3 (by assumption)))])
            · refine aw_iload rfl rfl rfl ?_
              refine aw_istore rfl (Nat.le_of_ble_eq_true rfl) rfl rfl ?_
              change aw _ _ _ _ 97 [some (.ref 33), some (.int (iI _)), some (.int (iI _)), some (.int (iI _)), some (.int (iI _)), some (.int (iI _)), some (.int (iI _))] _ _
              refine aw_iinc rfl rfl rfl rfl ?_
              change aw _ _ _ _ 100 [some (.ref 33), some (.int (iI _)), some (.int (iI _)), some (.int (iI _)), some (.int (iI _)), some (.int (iI _)), some (.int (iI _))] _ _
              refine aw_goto (p' := 24) rfl rfl ?_
              refine ih _ (by omega) _ _ _ rfl (by omega) (by omega) ?_ (by first | exact hbr | exact fun q => hrk (by omega) q)
              rw [hq]
              first | (rw [zit_t ⟨⟨by omega, by omega⟩, by first | (left; omega) | (right; assumption)⟩]; done) | (rw [zit_f (by rintro ⟨⟨q1, q2⟩, q3⟩; first | exact (by assumption : ¬ ((0 ≤ mBeside A c k ∧ mBeside A c k < A 42 2) ∧ rc (mBeside A c k) ∧ (f (mBeside A c k)).1 < 1000)) ⟨by omega, hrk (by omega) q1, q2⟩ | (rcases q3 with q3 | q3; omega; exact absurd q3 (by assumption)))])
set_option maxRecDepth 10000 in
set_option maxHeartbeats 2000000 in
theorem c_bestNx0 {d : Nat} {sz : Nat} {κ : Nat × (Nat → Int32) × Option Nat} {A : Nat → Int → Int} {g : Nat → Nat} {σ : az_S} (hC : CR sz κ A g σ) (hI : MI sz A) (hv : g 701 = 0) {f : Int → Int × Int} {rc : Int → Prop} (hAf : cAf A f rc 37 39 (A 42 2) σ) (hfb : ∀ e : Int, 0 ≤ e → e < A 42 2 → (0 ≤ (f e).1 ∧ (f e).1 ≤ 1000) ∧ (0 ≤ (f e).2 ∧ (f e).2 ≤ 1000000000000)) {c : Int} (hc0 : 0 ≤ c) (hc1 : c < A 42 2) (hrc : ∀ k : Int, 0 ≤ k → k < 5 → 0 ≤ mBeside A c k → rc (mBeside A c k)) : fn (d + 3) 30 [.ref 33, .int (iI c)] σ (.int (iI (wNx A f c))) := by
  have hw := hI.wide
  have hh := hI.high
  have hce := hI.cells
  have hdm := cell_dm hI hc0 hc1
  refine fn_of (M := (yX4_bestNext, cX4_bestNext, 7, (some .int))) (cd := k_X4_bestNext) (L := [some (.ref 33), some (.int (iI c)), none, none, none, none, none]) rfl (Nat.le_of_ble_eq_true rfl) rfl rfl ?_
  refine aw_aload_n rfl rfl rfl ?_
  refine aw_getr (b := 28) rfl rfl (hC.f.k 33 rfl) (hC.f.r 33 0 28 rfl) rfl ?_
  refine aw_iload_n rfl rfl rfl ?_
  refine aw_fnc (c_col hC hI (by omega) (by omega)) rfl rfl rfl (Nat.le_of_ble_eq_true rfl) (Or.inr ⟨_, rfl, (hC.f.k 28 rfl)⟩) rfl ?_
  refine aw_istore_n rfl (Nat.le_of_ble_eq_true rfl) rfl rfl ?_
  change aw _ _ _ _ 9 [some (.ref 33), some (.int (iI _)), some (.int (iI _)), none, none, none, none] _ _
  refine aw_aload_n rfl rfl rfl ?_
  refine aw_getr (b := 28) rfl rfl (hC.f.k 33 rfl) (hC.f.r 33 0 28 rfl) rfl ?_
  refine aw_iload_n rfl rfl rfl ?_
  refine aw_fnc (c_row hC hI (by omega) (by omega)) rfl rfl rfl (Nat.le_of_ble_eq_true rfl) (Or.inr ⟨_, rfl, (hC.f.k 28 rfl)⟩) rfl ?_
  refine aw_istore_n rfl (Nat.le_of_ble_eq_true rfl) rfl rfl ?_
  change aw _ _ _ _ 18 [some (.ref 33), some (.int (iI _)), some (.int (iI _)), some (.int (iI _)), none, none, none] _ _
  refine aw_iconst rfl rfl ?_
  refine aw_istore rfl (Nat.le_of_ble_eq_true rfl) rfl rfl ?_
  change aw _ _ _ _ 21 [some (.ref 33), some (.int (iI _)), some (.int (iI _)), some (.int (iI _)), some (.int (iI _)), none, none] _ _
  refine aw_iconst rfl rfl ?_
  refine aw_istore rfl (Nat.le_of_ble_eq_true rfl) rfl rfl ?_
  change aw _ _ _ _ 24 [some (.ref 33), some (.int (iI _)), some (.int (iI _)), some (.int (iI _)), some (.int (iI _)), some (.int (iI _)), none] _ _
  exact c_bestNx0_l24 hC hI hv hAf hfb hc0 hc1 hrc _ 0 (-1) _ rfl (by omega) (by omega) rfl (fun q => by omega)
set_option maxRecDepth 10000 in
set_option maxHeartbeats 2000000 in
theorem c_start0 {d : Nat} {sz : Nat} {κ : Nat × (Nat → Int32) × Option Nat} {A : Nat → Int → Int} {g : Nat → Nat} {σ : az_S} (hC : CR sz κ A g σ) (hI : MI sz A) (hv : g 701 = 0) {t : Int} (ht0 : 0 ≤ t) (ht1 : t < A 42 2) : cal (d + 2) 27 [.ref 33, .int (iI t)] σ (fun r τ => r = none ∧ CR sz κ A g τ ∧ Mod σ τ [36, 38] ∧ cAf A (f0 t) (fun _ => True) 36 38 (A 42 2) τ) := by
  have hce := hI.cells
  have hsz := hC.f.1
  refine cal_of (M := (yX4_startFromBehind, cX4_startFromBehind, 2, none)) (cd := k_X4_startFromBehind) (L := [some (.ref 33), some (.int (iI t))]) rfl (Nat.le_of_ble_eq_true rfl) rfl rfl ?_
  refine aw_aload_n rfl rfl rfl ?_
  refine aw_getr (b := 36) rfl rfl (hC.f.k 33 rfl) (by have q := hC.route.2.1; rw [hv] at q; exact q) rfl ?_
  refine aw_iconst rfl rfl ?_
  refine aw_calc (j_fill (N := sz) (hC.f.s 36 rfl) (by omega) ⟨by omega, by omega⟩) rfl rfl rfl (Nat.le_of_ble_eq_true rfl) (Or.inl rfl) rfl ?_
  rintro _ τ1 ⟨rfl, hD1, hU1⟩
  change aw _ _ _ _ 8 [some (.ref 33), some (.int (iI _))] [] _
  have hM1 := hC.mod hI hD1 rfl
  refine aw_iload_n rfl rfl rfl ?_
  refine aw_if (p' := 35) rfl ⟨by omega, by omega⟩ rfl rfl (fun c2 => ?_) (fun c2 => ?_)
  · dsimp only [zc] at c2
    omega
  · dsimp only [zc] at c2
    refine aw_iload_n rfl rfl rfl ?_
    refine aw_aload_n rfl rfl rfl ?_
    refine aw_getr (b := 36) rfl rfl (hM1.f.k 33 rfl) (by have q := hM1.route.2.1; rw [hv] at q; exact q) rfl ?_
    refine aw_alen (N := sz) rfl (hM1.f.s 36 rfl) (by decide) rfl ?_
    refine aw_icmp (p' := 35) rfl ⟨by omega, by omega⟩ ⟨by omega, by omega⟩ rfl rfl (fun c3 => ?_) (fun c3 => ?_)
    · dsimp only [zc] at c3
      omega
    · dsimp only [zc] at c3
      refine aw_aload_n rfl rfl rfl ?_
      refine aw_getr (b := 36) rfl rfl (hM1.f.k 33 rfl) (by have q := hM1.route.2.1; rw [hv] at q; exact q) rfl ?_
      refine aw_iload_n rfl rfl rfl ?_
      refine aw_iconst rfl rfl ?_
      refine aw_cs (N := sz) hM1 hI rfl (hM1.f.s 36 rfl) (by omega) rfl (by omega) (by omega) ⟨by omega, by omega⟩ rfl (fun τ4 hM4 hD4 hU4 => ?_)
      refine aw_aload_n rfl rfl rfl ?_
      refine aw_getr (b := 38) rfl rfl (hM4.f.k 33 rfl) (by have q := hM4.route.2.2.2.1; rw [hv] at q; exact q) rfl ?_
      refine aw_iload_n rfl rfl rfl ?_
      refine aw_lconst 0 rfl rfl rfl ?_
      refine aw_cl (N := sz) hM4 hI rfl (hM4.f.s 38 rfl) (by omega) rfl (by omega) (by omega) (by omega) (by omega) rfl (fun τ5 hM5 hD5 hU5 => ?_)
      refine aw_retv rfl ?_
      refine ⟨rfl, hM5, (((hD1.su (T := [36, 38]) rfl).tr (hD4.su (T := [36, 38]) rfl)).tr (hD5.su (T := [36, 38]) rfl)), fun e e0 e1 => ⟨fun q => ?_, fun q => ?_⟩⟩
      · have et : e = t := by
          by_cases et : e = t
          · exact et
          · have q2 := q.2; rw [f0_f et] at q2; exact absurd q2 (by decide)
        rw [f0_t et, hD5.z 36 rfl, hU4, if_pos et, hU5, if_pos et]
        exact ⟨rfl, rfl⟩
      · have et : e ≠ t := fun et => q ⟨trivial, by rw [f0_t et]; decide⟩
        rw [hD5.z 36 rfl, hU4, if_neg et, hU1, if_pos ⟨e0, by omega⟩]
set_option maxRecDepth 10000 in
theorem c_back0 {d : Nat} {sz : Nat} {κ : Nat × (Nat → Int32) × Option Nat} {A : Nat → Int → Int} {g : Nat → Nat} {σ : az_S} (hC : CR sz κ A g σ) (hI : MI sz A) (hv : g 701 = 0) : cal (d + 2) 28 [.ref 33] σ (fun r τ => r = none ∧ CR sz κ A (gsw g 1) τ ∧ Mi σ τ [37] ∧ ∀ e : Int, 0 ≤ e → e < A 42 2 → zx τ 37 e = -1) := by
  have hce := hI.cells
  have hsz := hC.f.1
  have hsw := hC.sw hI hv
  have r3 : az_r σ 33 3 = some 36 := by have q := hC.route.2.1; rw [hv] at q; exact q
  have r4 : az_r σ 33 4 = some 37 := by have q := hC.route.2.2.1; rw [hv] at q; exact q
  have r5 : az_r σ 33 5 = some 38 := by have q := hC.route.2.2.2.1; rw [hv] at q; exact q
  have r6 : az_r σ 33 6 = some 39 := by have q := hC.route.2.2.2.2; rw [hv] at q; exact q
  have k33 : (az_sh σ 33).1 = 5 := hC.f.k 33 rfl
  refine cal_of (M := (yX4_goBackAnHour, cX4_goBackAnHour, 3, none)) (cd := k_X4_goBackAnHour) (L := [some (.ref 33), none, none]) rfl (Nat.le_of_ble_eq_true rfl) rfl rfl ?_
  refine aw_aload_n rfl rfl rfl ?_
  refine aw_getr (b := 37) rfl rfl k33 r4 rfl ?_
  refine aw_astore_n rfl (Nat.le_of_ble_eq_true rfl) rfl rfl ?_
  refine aw_aload_n rfl rfl rfl ?_
  refine aw_aload_n rfl rfl rfl ?_
  refine aw_getr (b := 36) rfl rfl k33 r3 rfl ?_
  refine aw_putr rfl rfl k33 rfl ?_
  refine aw_aload_n rfl rfl rfl ?_
  refine aw_aload_n rfl rfl rfl ?_
  refine aw_putr rfl rfl k33 rfl ?_
  refine aw_aload_n rfl rfl rfl ?_
  refine aw_getr (b := 39) rfl rfl k33 (by show az_up (az_up (az_r σ) 33 4 (some 36)) 33 3 (some 37) 33 6 = _; rw [az_up_nk (by decide), az_up_nk (by decide)]; exact r6) rfl ?_
  refine aw_astore_n rfl (Nat.le_of_ble_eq_true rfl) rfl rfl ?_
  refine aw_aload_n rfl rfl rfl ?_
  refine aw_aload_n rfl rfl rfl ?_
  refine aw_getr (b := 38) rfl rfl k33 (by show az_up (az_up (az_r σ) 33 4 (some 36)) 33 3 (some 37) 33 5 = _; rw [az_up_nk (by decide), az_up_nk (by decide)]; exact r5) rfl ?_
  refine aw_putr rfl rfl k33 rfl ?_
  refine aw_aload_n rfl rfl rfl ?_
  refine aw_aload_n rfl rfl rfl ?_
  refine aw_putr rfl rfl k33 rfl ?_
  change aw _ _ _ _ 36 _ _ (sw4 σ 36 37 38 39)
  refine aw_aload_n rfl rfl rfl ?_
  refine aw_getr (b := 37) rfl rfl k33 sw4_33.1.1 rfl ?_
  refine aw_iconst rfl rfl ?_
  have hs : az_sh (sw4 σ 36 37 38 39) 37 = (100, sz) := hC.f.s 37 rfl
  refine aw_calc (j_fill (N := sz) hs (by omega) ⟨by omega, by omega⟩) rfl rfl rfl (Nat.le_of_ble_eq_true rfl) (Or.inl rfl) rfl ?_
  rintro _ τ ⟨rfl, hD, hU⟩
  have hsw2 : CR sz κ A (gsw g 1) (sw4 σ 36 37 38 39) := hsw
  refine aw_retv rfl ⟨rfl, hsw2.mod hI hD rfl, ⟨hD.1, hD.2.1, hD.2.2.1, hD.2.2.2.2.1, hD.2.2.2.2.2⟩, fun e e0 e1 => by rw [hU, if_pos ⟨e0, by omega⟩]⟩
set_option maxRecDepth 10000 in
set_option maxHeartbeats 2000000 in
theorem c_lead0 {d : Nat} {sz : Nat} {κ : Nat × (Nat → Int32) × Option Nat} {A : Nat → Int → Int} {g : Nat → Nat} {σ : az_S} (hC : CR sz κ A g σ) (hI : MI sz A) (hv : g 701 = 0) {f : Int → Int × Int} {rc : Int → Prop} (hAf : cAf A f rc 37 39 (A 42 2) σ) (hfb : ∀ e : Int, 0 ≤ e → e < A 42 2 → (0 ≤ (f e).1 ∧ (f e).1 ≤ 1000) ∧ (0 ≤ (f e).2 ∧ (f e).2 ≤ 1000000000000)) {h c n s z : Int} (hh0 : 0 ≤ h) (hh1 : h ≤ 11) (hc0 : 0 ≤ c) (hc1 : c < A 42 2) (hn : ((0 ≤ n ∧ n < A 42 2) ∧ rc n ∧ (f n).1 < 1000)) (hs0 : 0 ≤ s) (hs1 : s ≤ 1) (hz0 : 0 ≤ z) (hz1 : z ≤ 24000000000) : cal (d + 2) 32 [.ref 33, .int (iI h), .int (iI c), .int (iI n), .int (iI s), .long (lI z)] σ (fun r τ => r = none ∧ CR sz κ A g τ ∧ Mod σ τ [35, 36, 38] ∧ (∀ w, zx τ 35 w = if w = h * A 42 2 + c then n else zx σ 35 w) ∧ (∀ w, zx τ 36 w = if w = c then (f n).1 + s else zx σ 36 w) ∧ (∀ w, zq τ 38 w = if w = c then (f n).2 + z else zq σ 38 w)) := by
  obtain ⟨⟨hn0, hn1⟩, hn2⟩ := hn
  have hce := hI.cells
  have hsz := hC.f.1
  have an := (hAf n hn0 hn1).1 hn2
  have fn := hfb n hn0 hn1
  have hm1 : h * A 42 2 ≤ 11 * A 42 2 := Int.mul_le_mul_of_nonneg_right hh1 (by omega)
  have hm0 : 0 ≤ h * A 42 2 := Int.mul_nonneg hh0 (by omega)
  refine cal_of (M := (yX4_lead, cX4_lead, 8, none)) (cd := k_X4_lead) (L := [some (.ref 33), some (.int (iI h)), some (.int (iI c)), some (.int (iI n)), some (.int (iI s)), some (.long (lI z)), none, none]) rfl (Nat.le_of_ble_eq_true rfl) rfl rfl ?_
  refine aw_iload_n rfl rfl rfl ?_
  refine aw_aload_n rfl rfl rfl ?_
  refine aw_getr (b := 28) rfl rfl (hC.f.k 33 rfl) (hC.f.r 33 0 28 rfl) rfl ?_
  refine aw_gk (v := A 42 2) (2) rfl rfl (hC.f.k 28 rfl) rfl hC.ground.2.2 rfl (fun _ _ => ?_)
  refine aw_imul rfl rfl ?_
  refine aw_iload_n rfl rfl rfl ?_
  refine aw_iadd rfl rfl ?_
  refine aw_istore rfl (Nat.le_of_ble_eq_true rfl) rfl rfl ?_
  change aw _ _ _ _ 13 [some (.ref 33), some (.int (iI _)), some (.int (iI _)), some (.int (iI _)), some (.int (iI _)), some (.long (lI _)), none, some (.int (iI _))] _ _
  refine aw_iload_n rfl rfl rfl ?_
  refine aw_if (p' := 49) rfl ⟨by omega, by omega⟩ rfl rfl (fun c1 => ?_) (fun c1 => ?_)
  · dsimp only [zc] at c1
    omega
  · dsimp only [zc] at c1
    refine aw_iload_n rfl rfl rfl ?_
    refine aw_aload_n rfl rfl rfl ?_
    refine aw_getr (b := 36) rfl rfl (hC.f.k 33 rfl) (by have q := hC.route.2.1; rw [hv] at q; exact q) rfl ?_
    refine aw_alen (N := sz) rfl (hC.f.s 36 rfl) (by decide) rfl ?_
    refine aw_icmp (p' := 49) rfl ⟨by omega, by omega⟩ ⟨by omega, by omega⟩ rfl rfl (fun c2 => ?_) (fun c2 => ?_)
    · dsimp only [zc] at c2
      omega
    · dsimp only [zc] at c2
      refine aw_iload rfl rfl rfl ?_
      refine aw_if (p' := 49) rfl ⟨by omega, by omega⟩ rfl rfl (fun c3 => ?_) (fun c3 => ?_)
      · dsimp only [zc] at c3
        omega
      · dsimp only [zc] at c3
        refine aw_iload rfl rfl rfl ?_
        refine aw_aload_n rfl rfl rfl ?_
        refine aw_getr (b := 35) rfl rfl (hC.f.k 33 rfl) (hC.f.r 33 1 35 rfl) rfl ?_
        refine aw_alen (N := (12 * sz)) rfl (hC.f.s 35 rfl) (by decide) rfl ?_
        refine aw_icmp (p' := 49) rfl ⟨by omega, by omega⟩ ⟨by omega, by omega⟩ rfl rfl (fun c4 => ?_) (fun c4 => ?_)
        · dsimp only [zc] at c4
          omega
        · dsimp only [zc] at c4
          refine aw_aload_n rfl rfl rfl ?_
          refine aw_iload_n rfl rfl rfl ?_
          refine aw_fnc (c_leads0 hC hI hv hAf hfb ⟨by omega, by omega⟩) rfl rfl rfl (Nat.le_of_ble_eq_true rfl) (Or.inr ⟨_, rfl, (hC.f.k 33 rfl)⟩) rfl ?_
          refine aw_ifneb (p' := 50) rfl rfl rfl (fun c5 => ?_) (fun c5 => ?_)
          · refine aw_aload_n rfl rfl rfl ?_
            refine aw_getr (b := 35) rfl rfl (hC.f.k 33 rfl) (hC.f.r 33 1 35 rfl) rfl ?_
            refine aw_iload rfl rfl rfl ?_
            refine aw_iload_n rfl rfl rfl ?_
            refine aw_cs (N := (12 * sz)) hC hI rfl (hC.f.s 35 rfl) (by omega) rfl (by omega) (by omega) ⟨by omega, by omega⟩ rfl (fun τ6 hM6 hD6 hU6 => ?_)
            refine aw_aload_n rfl rfl rfl ?_
            refine aw_getr (b := 36) rfl rfl (hM6.f.k 33 rfl) (by have q := hM6.route.2.1; rw [hv] at q; exact q) rfl ?_
            refine aw_iload_n rfl rfl rfl ?_
            refine aw_aload_n rfl rfl rfl ?_
            refine aw_getr (b := 37) rfl rfl (hM6.f.k 33 rfl) (by have q := hM6.route.2.2.1; rw [hv] at q; exact q) rfl ?_
            refine aw_iload_n rfl rfl rfl ?_
            refine aw_as (N := sz) rfl (hM6.f.s 37 rfl) (by omega) (by omega) (by omega) rfl (fun _ _ => ?_)
            rw [hD6.z 37 rfl, an.1]
            refine aw_iload rfl rfl rfl ?_
            refine aw_iadd rfl rfl ?_
            refine aw_cs (N := sz) hM6 hI rfl (hM6.f.s 36 rfl) (by omega) rfl (by omega) (by omega) ⟨by omega, by omega⟩ rfl (fun τ7 hM7 hD7 hU7 => ?_)
            refine aw_aload_n rfl rfl rfl ?_
            refine aw_getr (b := 38) rfl rfl (hM7.f.k 33 rfl) (by have q := hM7.route.2.2.2.1; rw [hv] at q; exact q) rfl ?_
            refine aw_iload_n rfl rfl rfl ?_
            refine aw_aload_n rfl rfl rfl ?_
            refine aw_getr (b := 39) rfl rfl (hM7.f.k 33 rfl) (by have q := hM7.route.2.2.2.2; rw [hv] at q; exact q) rfl ?_
            refine aw_iload_n rfl rfl rfl ?_
            refine aw_lz (N := sz) rfl (hM7.f.s 39 rfl) (by omega) (by omega) (by omega) rfl (fun _ _ => ?_)
            rw [hD7.q 39 rfl, hD6.q 39 rfl, an.2]
            refine aw_lload rfl rfl rfl ?_
            refine aw_ladd rfl rfl ?_
            refine aw_cl (N := sz) hM7 hI rfl (hM7.f.s 38 rfl) (by omega) rfl (by omega) (by omega) (by omega) (by omega) rfl (fun τ8 hM8 hD8 hU8 => ?_)
            refine aw_retv rfl ?_
            exact ⟨rfl, hM8, (((hD6.su (T := [35, 36, 38]) rfl).tr (hD7.su (T := [35, 36, 38]) rfl)).tr (hD8.su (T := [35, 36, 38]) rfl)), fun w => by rw [hD8.z 35 rfl, hD7.z 35 rfl, hU6], fun w => by rw [hD8.z 36 rfl, hU7, hD6.z 36 rfl], fun w => by rw [hU8, hD7.q 38 rfl, hD6.q 38 rfl]⟩
          · exact absurd (show ((0 ≤ n ∧ n < A 42 2) ∧ rc n ∧ (f n).1 < 1000) from ⟨⟨hn0, hn1⟩, hn2⟩) (by assumption)
set_option maxRecDepth 10000 in
set_option maxHeartbeats 2000000 in
theorem c_leads1 {d : Nat} {sz : Nat} {κ : Nat × (Nat → Int32) × Option Nat} {A : Nat → Int → Int} {g : Nat → Nat} {σ : az_S} (hC : CR sz κ A g σ) (hI : MI sz A) (hv : g 701 = 1) {f : Int → Int × Int} {rc : Int → Prop} (hAf : cAf A f rc 36 38 (A 42 2) σ) (hfb : ∀ e : Int, 0 ≤ e → e < A 42 2 → (0 ≤ (f e).1 ∧ (f e).1 ≤ 1000) ∧ (0 ≤ (f e).2 ∧ (f e).2 ≤ 1000000000000)) {c : Int} (hc : inI c) : fn (d + 1) 29 [.ref 33, .int (iI c)] σ (.int (iI (bI ((0 ≤ c ∧ c < A 42 2) ∧ rc c ∧ (f c).1 < 1000)))) := by
  obtain ⟨hc1, hc2⟩ := hc
  have hce := hI.cells
  have hsz := hC.f.1
  refine fn_of (M := (yX4_leadsOn, cX4_leadsOn, 2, (some .boolean))) (cd := k_X4_leadsOn) (L := [some (.ref 33), some (.int (iI c))]) rfl (Nat.le_of_ble_eq_true rfl) rfl rfl ?_
  refine aw_iload_n rfl rfl rfl ?_
  refine aw_if (p' := 27) rfl ⟨by omega, by omega⟩ rfl rfl (fun c1 => ?_) (fun c1 => ?_)
  · dsimp only [zc] at c1
    refine aw_iconst rfl rfl ?_
    refine aw_retn rfl (by first | rfl | exact bI_nar _) ?_
    refine ⟨?_, rfl⟩
    first | (rw [bI_f (by rintro ⟨q1, q2⟩; first | omega | (have := ((hAf c (by omega) (by omega)).1 q2).1; have := hfb c (by omega) (by omega); omega))]; done) | (rw [bI_t ⟨by omega, Classical.not_not.mp (fun q => by have := (hAf c (by omega) (by omega)).2 q; omega)⟩])
  · dsimp only [zc] at c1
    refine aw_iload_n rfl rfl rfl ?_
    refine aw_aload_n rfl rfl rfl ?_
    refine aw_getr (b := 36) rfl rfl (hC.f.k 33 rfl) (by have q := hC.route.2.2.1; rw [hv] at q; exact q) rfl ?_
    refine aw_alen (N := sz) rfl (hC.f.s 36 rfl) (by decide) rfl ?_
    refine aw_icmp (p' := 27) rfl ⟨by omega, by omega⟩ ⟨by omega, by omega⟩ rfl rfl (fun c2 => ?_) (fun c2 => ?_)
    · dsimp only [zc] at c2
      refine aw_iconst rfl rfl ?_
      refine aw_retn rfl (by first | rfl | exact bI_nar _) ?_
      refine ⟨?_, rfl⟩
      first | (rw [bI_f (by rintro ⟨q1, q2⟩; first | omega | (have := ((hAf c (by omega) (by omega)).1 q2).1; have := hfb c (by omega) (by omega); omega))]; done) | (rw [bI_t ⟨by omega, Classical.not_not.mp (fun q => by have := (hAf c (by omega) (by omega)).2 q; omega)⟩])
    · dsimp only [zc] at c2
      refine aw_aload_n rfl rfl rfl ?_
      refine aw_getr (b := 36) rfl rfl (hC.f.k 33 rfl) (by have q := hC.route.2.2.1; rw [hv] at q; exact q) rfl ?_
      refine aw_iload_n rfl rfl rfl ?_
      refine aw_as (N := sz) rfl (hC.f.s 36 rfl) (by omega) (by omega) (by omega) rfl (fun _ _ => ?_)
      refine aw_iconst rfl rfl ?_
      refine aw_icmp (p' := 27) rfl ⟨by omega, by omega⟩ ⟨by omega, by omega⟩ rfl rfl (fun c3 => ?_) (fun c3 => ?_)
      · dsimp only [zc] at c3
        refine aw_iconst rfl rfl ?_
        refine aw_retn rfl (by first | rfl | exact bI_nar _) ?_
        refine ⟨?_, rfl⟩
        first | (rw [bI_f (by rintro ⟨q1, q2⟩; first | omega | (have := ((hAf c (by omega) (by omega)).1 q2).1; have := hfb c (by omega) (by omega); omega))]; done) | (rw [bI_t ⟨by omega, Classical.not_not.mp (fun q => by have := (hAf c (by omega) (by omega)).2 q; omega)⟩])
      · dsimp only [zc] at c3
        refine aw_iconst rfl rfl ?_
        refine aw_goto (p' := 28) rfl rfl ?_
        refine aw_retn rfl (by first | rfl | exact bI_nar _) ?_
        refine ⟨?_, rfl⟩
        first | (rw [bI_f (by rintro ⟨q1, q2⟩; first | omega | (have := ((hAf c (by omega) (by omega)).1 q2).1; have := hfb c (by omega) (by omega); omega))]; done) | (rw [bI_t ⟨by omega, Classical.not_not.mp (fun q => by have := (hAf c (by omega) (by omega)).2 q; omega)⟩])
set_option maxRecDepth 10000 in
set_option maxHeartbeats 2000000 in
theorem c_better1 {d : Nat} {sz : Nat} {κ : Nat × (Nat → Int32) × Option Nat} {A : Nat → Int → Int} {g : Nat → Nat} {σ : az_S} (hC : CR sz κ A g σ) (hI : MI sz A) (hv : g 701 = 1) {f : Int → Int × Int} {rc : Int → Prop} (hAf : cAf A f rc 36 38 (A 42 2) σ) (hfb : ∀ e : Int, 0 ≤ e → e < A 42 2 → (0 ≤ (f e).1 ∧ (f e).1 ≤ 1000) ∧ (0 ≤ (f e).2 ∧ (f e).2 ≤ 1000000000000)) {n b : Int} (hn : ((0 ≤ n ∧ n < A 42 2) ∧ rc n ∧ (f n).1 < 1000)) (hb : ((0 ≤ b ∧ b < A 42 2) ∧ rc b ∧ (f b).1 < 1000)) : fn (d + 2) 31 [.ref 33, .int (iI n), .int (iI b)] σ (.int (iI (bI (wBet f n b)))) := by
  obtain ⟨⟨hn0, hn1⟩, hn2⟩ := hn
  obtain ⟨⟨hb0, hb1⟩, hb2⟩ := hb
  have hce := hI.cells
  have hsz := hC.f.1
  have an := (hAf n hn0 hn1).1 hn2
  have ab := (hAf b hb0 hb1).1 hb2
  have fn := hfb n hn0 hn1
  have fb := hfb b hb0 hb1
  refine fn_of (M := (yX4_isBetter, cX4_isBetter, 3, (some .boolean))) (cd := k_X4_isBetter) (L := [some (.ref 33), some (.int (iI n)), some (.int (iI b))]) rfl (Nat.le_of_ble_eq_true rfl) rfl rfl ?_
  refine aw_aload_n rfl rfl rfl ?_
  refine aw_iload_n rfl rfl rfl ?_
  refine aw_fnc (c_leads1 hC hI hv hAf hfb ⟨by omega, by omega⟩) rfl rfl rfl (Nat.le_of_ble_eq_true rfl) (Or.inr ⟨_, rfl, (hC.f.k 33 rfl)⟩) rfl ?_
  refine aw_ifeqb (p' := 16) rfl rfl rfl (fun c1 => ?_) (fun c1 => ?_)
  · exact absurd (show ((0 ≤ n ∧ n < A 42 2) ∧ rc n ∧ (f n).1 < 1000) from ⟨⟨hn0, hn1⟩, hn2⟩) (by assumption)
  · refine aw_aload_n rfl rfl rfl ?_
    refine aw_iload_n rfl rfl rfl ?_
    refine aw_fnc (c_leads1 hC hI hv hAf hfb ⟨by omega, by omega⟩) rfl rfl rfl (Nat.le_of_ble_eq_true rfl) (Or.inr ⟨_, rfl, (hC.f.k 33 rfl)⟩) rfl ?_
    refine aw_ifneb (p' := 18) rfl rfl rfl (fun c2 => ?_) (fun c2 => ?_)
    · refine aw_aload_n rfl rfl rfl ?_
      refine aw_getr (b := 36) rfl rfl (hC.f.k 33 rfl) (by have q := hC.route.2.2.1; rw [hv] at q; exact q) rfl ?_
      refine aw_iload_n rfl rfl rfl ?_
      refine aw_as (N := sz) rfl (hC.f.s 36 rfl) (by omega) (by omega) (by omega) rfl (fun _ _ => ?_)
      rw [an.1]
      refine aw_aload_n rfl rfl rfl ?_
      refine aw_getr (b := 36) rfl rfl (hC.f.k 33 rfl) (by have q := hC.route.2.2.1; rw [hv] at q; exact q) rfl ?_
      refine aw_iload_n rfl rfl rfl ?_
      refine aw_as (N := sz) rfl (hC.f.s 36 rfl) (by omega) (by omega) (by omega) rfl (fun _ _ => ?_)
      rw [ab.1]
      refine aw_icmp (p' := 54) rfl ⟨by omega, by omega⟩ ⟨by omega, by omega⟩ rfl rfl (fun c3 => ?_) (fun c3 => ?_)
      · dsimp only [zc] at c3
        refine aw_aload_n rfl rfl rfl ?_
        refine aw_getr (b := 38) rfl rfl (hC.f.k 33 rfl) (by have q := hC.route.2.2.2.2; rw [hv] at q; exact q) rfl ?_
        refine aw_iload_n rfl rfl rfl ?_
        refine aw_lz (N := sz) rfl (hC.f.s 38 rfl) (by omega) (by omega) (by omega) rfl (fun _ _ => ?_)
        rw [an.2]
        refine aw_aload_n rfl rfl rfl ?_
        refine aw_getr (b := 38) rfl rfl (hC.f.k 33 rfl) (by have q := hC.route.2.2.2.2; rw [hv] at q; exact q) rfl ?_
        refine aw_iload_n rfl rfl rfl ?_
        refine aw_lz (N := sz) rfl (hC.f.s 38 rfl) (by omega) (by omega) (by omega) rfl (fun _ _ => ?_)
        rw [ab.2]
        refine aw_lcif (p' := 74) rfl rfl (by omega) (by omega) (by omega) (by omega) rfl rfl (fun c4 => ?_) (fun c4 => ?_)
        · dsimp only [zc] at c4
          refine aw_iconst rfl rfl ?_
          refine aw_retn rfl rfl ?_
          refine ⟨?_, rfl⟩
          unfold wBet
          first | (rw [bI_t (by omega)]; done) | (rw [bI_f (by omega)])
        · dsimp only [zc] at c4
          refine aw_iconst rfl rfl ?_
          refine aw_goto (p' := 75) rfl rfl ?_
          refine aw_retn rfl rfl ?_
          refine ⟨?_, rfl⟩
          unfold wBet
          first | (rw [bI_t (by omega)]; done) | (rw [bI_f (by omega)])
      · dsimp only [zc] at c3
        refine aw_aload_n rfl rfl rfl ?_
        refine aw_getr (b := 36) rfl rfl (hC.f.k 33 rfl) (by have q := hC.route.2.2.1; rw [hv] at q; exact q) rfl ?_
        refine aw_iload_n rfl rfl rfl ?_
        refine aw_as (N := sz) rfl (hC.f.s 36 rfl) (by omega) (by omega) (by omega) rfl (fun _ _ => ?_)
        rw [an.1]
        refine aw_aload_n rfl rfl rfl ?_
        refine aw_getr (b := 36) rfl rfl (hC.f.k 33 rfl) (by have q := hC.route.2.2.1; rw [hv] at q; exact q) rfl ?_
        refine aw_iload_n rfl rfl rfl ?_
        refine aw_as (N := sz) rfl (hC.f.s 36 rfl) (by omega) (by omega) (by omega) rfl (fun _ _ => ?_)
        rw [ab.1]
        refine aw_icmp (p' := 52) rfl ⟨by omega, by omega⟩ ⟨by omega, by omega⟩ rfl rfl (fun c5 => ?_) (fun c5 => ?_)
        · dsimp only [zc] at c5
          refine aw_iconst rfl rfl ?_
          refine aw_retn rfl rfl ?_
          refine ⟨?_, rfl⟩
          unfold wBet
          first | (rw [bI_t (by omega)]; done) | (rw [bI_f (by omega)])
        · dsimp only [zc] at c5
          refine aw_iconst rfl rfl ?_
          refine aw_goto (p' := 53) rfl rfl ?_
          refine aw_retn rfl rfl ?_
          refine ⟨?_, rfl⟩
          unfold wBet
          first | (rw [bI_t (by omega)]; done) | (rw [bI_f (by omega)])
    · exact absurd (show ((0 ≤ b ∧ b < A 42 2) ∧ rc b ∧ (f b).1 < 1000) from ⟨⟨hb0, hb1⟩, hb2⟩) (by assumption)
set_option maxRecDepth 10000 in
set_option maxHeartbeats 2000000 in
theorem c_bestNx1_l24 {d : Nat} {sz : Nat} {κ : Nat × (Nat → Int32) × Option Nat} {A : Nat → Int → Int} {g : Nat → Nat} {σ : az_S} (hC : CR sz κ A g σ) (hI : MI sz A) (hv : g 701 = 1) {f : Int → Int × Int} {rc : Int → Prop} (hAf : cAf A f rc 36 38 (A 42 2) σ) (hfb : ∀ e : Int, 0 ≤ e → e < A 42 2 → (0 ≤ (f e).1 ∧ (f e).1 ≤ 1000) ∧ (0 ≤ (f e).2 ∧ (f e).2 ≤ 1000000000000)) {c : Int} (hc0 : 0 ≤ c) (hc1 : c < A 42 2) (hrc : ∀ k : Int, 0 ≤ k → k < 5 → 0 ≤ mBeside A c k → rc (mBeside A c k)) : ∀ (n : Nat) (k b : Int) (w : Option Value), (5 - k).toNat = n → 0 ≤ k → k ≤ 5 → b = nxN A f c k.toNat → (0 ≤ b → rc b) → aw (d + 2) k_X4_bestNext (some .int) (fun r τ => r = some (.int (iI (wNx A f c))) ∧ τ = σ) 24 [some (.ref 33), some (.int (iI c)), some (.int (iI (c % A 42 0))), some (.int (iI (c / A 42 0))), some (.int (iI b)), some (.int (iI k)), w] [] σ := by
  intro n
  induction n using Nat.strongRecOn with
  | ind n ih =>
    intro k b w hn hk0 hk1 hbb hbr
    have hw := hI.wide
    have hh := hI.high
    have hce := hI.cells
    have hdm := cell_dm hI hc0 hc1
    have hq := nxN_s (A := A) (f := f) (c := c) hk0
    have hr := nxN_r hI (f := f) hc0 hc1 k.toNat
    rw [← hbb] at hq hr
    have hbs := mBeside_r hI (k := k) hc0 hc1
    have hdd : -1 ≤ dX k ∧ dX k ≤ 1 ∧ -1 ≤ dY k ∧ dY k ≤ 1 := by unfold dX dY; (repeat' split) <;> omega
    have hrk := fun q => hrc k hk0 q
    refine aw_iload rfl rfl rfl ?_
    refine aw_gstr (b := 1000002) rfl hC.st1 rfl ?_
    refine aw_alen (N := 5) rfl (by rw [(hC.k 1000002 (by decide)).1]; rfl) (by decide) rfl ?_
    refine aw_icmp (p' := 103) rfl ⟨by omega, by omega⟩ ⟨by omega, by omega⟩ rfl rfl (fun c1 => ?_) (fun c1 => ?_)
    · dsimp only [zc] at c1
      refine aw_iload rfl rfl rfl ?_
      refine aw_reti rfl ?_
      refine ⟨?_, rfl⟩
      rw [hbb, show k = 5 by omega]
      rfl
    · dsimp only [zc] at c1
      refine aw_iload rfl rfl rfl ?_
      refine aw_gstr (b := 1000003) rfl hC.st2 rfl ?_
      refine aw_alen (N := 5) rfl (by rw [(hC.k 1000003 (by decide)).1]; rfl) (by decide) rfl ?_
      refine aw_icmp (p' := 103) rfl ⟨by omega, by omega⟩ ⟨by omega, by omega⟩ rfl rfl (fun c2 => ?_) (fun c2 => ?_)
      · dsimp only [zc] at c2
        omega
      · dsimp only [zc] at c2
        refine aw_aload_n rfl rfl rfl ?_
        refine aw_getr (b := 28) rfl rfl (hC.f.k 33 rfl) (hC.f.r 33 0 28 rfl) rfl ?_
        refine aw_iload_n rfl rfl rfl ?_
        refine aw_gstr (b := 1000002) rfl hC.st1 rfl ?_
        refine aw_iload rfl rfl rfl ?_
        refine aw_ialoadc (v := iI (dX k)) (N := 5) (j := k.toNat) rfl (by rw [(hC.k 1000002 (by decide)).1]; rfl) (by decide) (by omega) (by omega) (by rw [(hC.k 1000002 (by decide)).2.1]; exact (sxv hk0 (by omega)).1) rfl ?_
        refine aw_iadd rfl rfl ?_
        refine aw_iload_n rfl rfl rfl ?_
        refine aw_gstr (b := 1000003) rfl hC.st2 rfl ?_
        refine aw_iload rfl rfl rfl ?_
        refine aw_ialoadc (v := iI (dY k)) (N := 5) (j := k.toNat) rfl (by rw [(hC.k 1000003 (by decide)).1]; rfl) (by decide) (by omega) (by omega) (by rw [(hC.k 1000003 (by decide)).2.1]; exact (sxv hk0 (by omega)).2) rfl ?_
        refine aw_iadd rfl rfl ?_
        refine aw_fnc (c_cellAt hC hI (by omega) (by omega) (by omega) (by omega)) rfl rfl rfl (Nat.le_of_ble_eq_true rfl) (Or.inr ⟨_, rfl, (hC.f.k 28 rfl)⟩) rfl ?_
        rw [beside_at hI hc0 hc1 hk0 (by omega)]
        refine aw_istore rfl (Nat.le_of_ble_eq_true rfl) rfl rfl ?_
        change aw _ _ _ _ 67 [some (.ref 33), some (.int (iI _)), some (.int (iI _)), some (.int (iI _)), some (.int (iI _)), some (.int (iI _)), some (.int (iI _))] _ _
        refine aw_aload_n rfl rfl rfl ?_
        refine aw_iload rfl rfl rfl ?_
        refine aw_fnc (c_leads1 hC hI hv hAf hfb ⟨by omega, by omega⟩) rfl rfl rfl (Nat.le_of_ble_eq_true rfl) (Or.inr ⟨_, rfl, (hC.f.k 33 rfl)⟩) rfl ?_
        refine aw_ifeqb (p' := 97) rfl rfl rfl (fun c3 => ?_) (fun c3 => ?_)
        · refine aw_iinc rfl rfl rfl rfl ?_
          change aw _ _ _ _ 100 [some (.ref 33), some (.int (iI _)), some (.int (iI _)), some (.int (iI _)), some (.int (iI _)), some (.int (iI _)), some (.int (iI _))] _ _
          refine aw_goto (p' := 24) rfl rfl ?_
          refine ih _ (by omega) _ _ _ rfl (by omega) (by omega) ?_ (by first | exact hbr | exact fun q => hrk (by omega) q)
          rw [hq]
          first | (rw [zit_t ⟨⟨by omega, by omega⟩, by first | (left; omega) | (right; assumption)⟩]; done) | (rw [zit_f (by rintro ⟨⟨q1, q2⟩, q3⟩; first | exact (by assumption : ¬ ((0 ≤ mBeside A c k ∧ mBeside A c k < A 42 2) ∧ rc (mBeside A c k) ∧ (f (mBeside A c k)).1 < 1000)) ⟨by omega, hrk (by omega) q1, q2⟩ | (rcases q3 with q3 | q3; omega; exact absurd q3 (by assumption)))])
        · have hln := (by assumption : (0 ≤ mBeside A c k ∧ mBeside A c k < A 42 2) ∧ rc (mBeside A c k) ∧ (f (mBeside A c k)).1 < 1000)
          refine aw_iload rfl rfl rfl ?_
          refine aw_iconst rfl rfl ?_
          refine aw_icmp (p' := 93) rfl ⟨by omega, by omega⟩ ⟨by omega, by omega⟩ rfl rfl (fun c4 => ?_) (fun c4 => ?_)
          · dsimp only [zc] at c4
            refine aw_iload rfl rfl rfl ?_
            refine aw_istore rfl (Nat.le_of_ble_eq_true rfl) rfl rfl ?_
            change aw _ _ _ _ 97 [some (.ref 33), some (.int (iI _)), some (.int (iI _)), some (.int (iI _)), some (.int (iI _)), some (.int (iI _)), some (.int (iI _))] _ _
            refine aw_iinc rfl rfl rfl rfl ?_
            change aw _ _ _ _ 100 [some (.ref 33), some (.int (iI _)), some (.int (iI _)), some (.int (iI _)), some (.int (iI _)), some (.int (iI _)), some (.int (iI _))] _ _
            refine aw_goto (p' := 24) rfl rfl ?_
            refine ih _ (by omega) _ _ _ rfl (by omega) (by omega) ?_ (by first | exact hbr | exact fun q => hrk (by omega) q)
            rw [hq]
            first | (rw [zit_t ⟨⟨by omega, by omega⟩, by first | (left; omega) | (right; assumption)⟩]; done) | (rw [zit_f (by rintro ⟨⟨q1, q2⟩, q3⟩; first | exact (by assumption : ¬ ((0 ≤ mBeside A c k ∧ mBeside A c k < A 42 2) ∧ rc (mBeside A c k) ∧ (f (mBeside A c k)).1 < 1000)) ⟨by omega, hrk (by omega) q1, q2⟩ | (rcases q3 with q3 | q3; omega; exact absurd q3 (by assumption)))])
          · dsimp only [zc] at c4
            have hln := (by assumption : (0 ≤ mBeside A c k ∧ mBeside A c k < A 42 2) ∧ rc (mBeside A c k) ∧ (f (mBeside A c k)).1 < 1000)
            have hlb : (0 ≤ b ∧ b < A 42 2) ∧ rc b ∧ (f b).1 < 1000 := ⟨by omega, hbr (by omega), hr.2 (by omega)⟩
            refine aw_aload_n rfl rfl rfl ?_
            refine aw_iload rfl rfl rfl ?_
            refine aw_iload rfl rfl rfl ?_
            refine aw_fnc (c_better1 hC hI hv hAf hfb hln hlb) rfl rfl rfl (Nat.le_of_ble_eq_true rfl) (Or.inr ⟨_, rfl, (hC.f.k 33 rfl)⟩) rfl ?_
            refine aw_ifeqb (p' := 97) rfl rfl rfl (fun c5 => ?_) (fun c5 => ?_)
            · refine aw_iinc rfl rfl rfl rfl ?_
              change aw _ _ _ _ 100 [some (.ref 33), some (.int (iI _)), some (.int (iI _)), some (.int (iI _)), some (.int (iI _)), some (.int (iI _)), some (.int (iI _))] _ _
              refine aw_goto (p' := 24) rfl rfl ?_
              refine ih _ (by omega) _ _ _ rfl (by omega) (by omega) ?_ (by first | exact hbr | exact fun q => hrk (by omega) q)
              rw [hq]
              first | (rw [zit_t ⟨⟨by omega, by omega⟩, by first | (left; omega) | (right; assumption)⟩]; done) | (rw [zit_f (by rintro ⟨⟨q1, q2⟩, q3⟩; first | exact (by assumption : ¬ ((0 ≤ mBeside A c k ∧ mBeside A c k < A 42 2) ∧ rc (mBeside A c k) ∧ (f (mBeside A c k)).1 < 1000)) ⟨by omega, hrk (by omega) q1, q2⟩ | (rcases q3 with q3 | q3; omega; exact absurd q3 (by assumption)))])
            · refine aw_iload rfl rfl rfl ?_
              refine aw_istore rfl (Nat.le_of_ble_eq_true rfl) rfl rfl ?_
              change aw _ _ _ _ 97 [some (.ref 33), some (.int (iI _)), some (.int (iI _)), some (.int (iI _)), some (.int (iI _)), some (.int (iI _)), some (.int (iI _))] _ _
              refine aw_iinc rfl rfl rfl rfl ?_
              change aw _ _ _ _ 100 [some (.ref 33), some (.int (iI _)), some (.int (iI _)), some (.int (iI _)), some (.int (iI _)), some (.int (iI _)), some (.int (iI _))] _ _
              refine aw_goto (p' := 24) rfl rfl ?_
              refine ih _ (by omega) _ _ _ rfl (by omega) (by omega) ?_ (by first | exact hbr | exact fun q => hrk (by omega) q)
              rw [hq]
              first | (rw [zit_t ⟨⟨by omega, by omega⟩, by first | (left; omega) | (right; assumption)⟩]; done) | (rw [zit_f (by rintro ⟨⟨q1, q2⟩, q3⟩; first | exact (by assumption : ¬ ((0 ≤ mBeside A c k ∧ mBeside A c k < A 42 2) ∧ rc (mBeside A c k) ∧ (f (mBeside A c k)).1 < 1000)) ⟨by omega, hrk (by omega) q1, q2⟩ | (rcases q3 with q3 | q3; omega; exact absurd q3 (by assumption)))])
set_option maxRecDepth 10000 in
set_option maxHeartbeats 2000000 in
theorem c_bestNx1 {d : Nat} {sz : Nat} {κ : Nat × (Nat → Int32) × Option Nat} {A : Nat → Int → Int} {g : Nat → Nat} {σ : az_S} (hC : CR sz κ A g σ) (hI : MI sz A) (hv : g 701 = 1) {f : Int → Int × Int} {rc : Int → Prop} (hAf : cAf A f rc 36 38 (A 42 2) σ) (hfb : ∀ e : Int, 0 ≤ e → e < A 42 2 → (0 ≤ (f e).1 ∧ (f e).1 ≤ 1000) ∧ (0 ≤ (f e).2 ∧ (f e).2 ≤ 1000000000000)) {c : Int} (hc0 : 0 ≤ c) (hc1 : c < A 42 2) (hrc : ∀ k : Int, 0 ≤ k → k < 5 → 0 ≤ mBeside A c k → rc (mBeside A c k)) : fn (d + 3) 30 [.ref 33, .int (iI c)] σ (.int (iI (wNx A f c))) := by
  have hw := hI.wide
  have hh := hI.high
  have hce := hI.cells
  have hdm := cell_dm hI hc0 hc1
  refine fn_of (M := (yX4_bestNext, cX4_bestNext, 7, (some .int))) (cd := k_X4_bestNext) (L := [some (.ref 33), some (.int (iI c)), none, none, none, none, none]) rfl (Nat.le_of_ble_eq_true rfl) rfl rfl ?_
  refine aw_aload_n rfl rfl rfl ?_
  refine aw_getr (b := 28) rfl rfl (hC.f.k 33 rfl) (hC.f.r 33 0 28 rfl) rfl ?_
  refine aw_iload_n rfl rfl rfl ?_
  refine aw_fnc (c_col hC hI (by omega) (by omega)) rfl rfl rfl (Nat.le_of_ble_eq_true rfl) (Or.inr ⟨_, rfl, (hC.f.k 28 rfl)⟩) rfl ?_
  refine aw_istore_n rfl (Nat.le_of_ble_eq_true rfl) rfl rfl ?_
  change aw _ _ _ _ 9 [some (.ref 33), some (.int (iI _)), some (.int (iI _)), none, none, none, none] _ _
  refine aw_aload_n rfl rfl rfl ?_
  refine aw_getr (b := 28) rfl rfl (hC.f.k 33 rfl) (hC.f.r 33 0 28 rfl) rfl ?_
  refine aw_iload_n rfl rfl rfl ?_
  refine aw_fnc (c_row hC hI (by omega) (by omega)) rfl rfl rfl (Nat.le_of_ble_eq_true rfl) (Or.inr ⟨_, rfl, (hC.f.k 28 rfl)⟩) rfl ?_
  refine aw_istore_n rfl (Nat.le_of_ble_eq_true rfl) rfl rfl ?_
  change aw _ _ _ _ 18 [some (.ref 33), some (.int (iI _)), some (.int (iI _)), some (.int (iI _)), none, none, none] _ _
  refine aw_iconst rfl rfl ?_
  refine aw_istore rfl (Nat.le_of_ble_eq_true rfl) rfl rfl ?_
  change aw _ _ _ _ 21 [some (.ref 33), some (.int (iI _)), some (.int (iI _)), some (.int (iI _)), some (.int (iI _)), none, none] _ _
  refine aw_iconst rfl rfl ?_
  refine aw_istore rfl (Nat.le_of_ble_eq_true rfl) rfl rfl ?_
  change aw _ _ _ _ 24 [some (.ref 33), some (.int (iI _)), some (.int (iI _)), some (.int (iI _)), some (.int (iI _)), some (.int (iI _)), none] _ _
  exact c_bestNx1_l24 hC hI hv hAf hfb hc0 hc1 hrc _ 0 (-1) _ rfl (by omega) (by omega) rfl (fun q => by omega)
set_option maxRecDepth 10000 in
set_option maxHeartbeats 2000000 in
theorem c_start1 {d : Nat} {sz : Nat} {κ : Nat × (Nat → Int32) × Option Nat} {A : Nat → Int → Int} {g : Nat → Nat} {σ : az_S} (hC : CR sz κ A g σ) (hI : MI sz A) (hv : g 701 = 1) {t : Int} (ht0 : 0 ≤ t) (ht1 : t < A 42 2) : cal (d + 2) 27 [.ref 33, .int (iI t)] σ (fun r τ => r = none ∧ CR sz κ A g τ ∧ Mod σ τ [37, 39] ∧ cAf A (f0 t) (fun _ => True) 37 39 (A 42 2) τ) := by
  have hce := hI.cells
  have hsz := hC.f.1
  refine cal_of (M := (yX4_startFromBehind, cX4_startFromBehind, 2, none)) (cd := k_X4_startFromBehind) (L := [some (.ref 33), some (.int (iI t))]) rfl (Nat.le_of_ble_eq_true rfl) rfl rfl ?_
  refine aw_aload_n rfl rfl rfl ?_
  refine aw_getr (b := 37) rfl rfl (hC.f.k 33 rfl) (by have q := hC.route.2.1; rw [hv] at q; exact q) rfl ?_
  refine aw_iconst rfl rfl ?_
  refine aw_calc (j_fill (N := sz) (hC.f.s 37 rfl) (by omega) ⟨by omega, by omega⟩) rfl rfl rfl (Nat.le_of_ble_eq_true rfl) (Or.inl rfl) rfl ?_
  rintro _ τ1 ⟨rfl, hD1, hU1⟩
  change aw _ _ _ _ 8 [some (.ref 33), some (.int (iI _))] [] _
  have hM1 := hC.mod hI hD1 rfl
  refine aw_iload_n rfl rfl rfl ?_
  refine aw_if (p' := 35) rfl ⟨by omega, by omega⟩ rfl rfl (fun c2 => ?_) (fun c2 => ?_)
  · dsimp only [zc] at c2
    omega
  · dsimp only [zc] at c2
    refine aw_iload_n rfl rfl rfl ?_
    refine aw_aload_n rfl rfl rfl ?_
    refine aw_getr (b := 37) rfl rfl (hM1.f.k 33 rfl) (by have q := hM1.route.2.1; rw [hv] at q; exact q) rfl ?_
    refine aw_alen (N := sz) rfl (hM1.f.s 37 rfl) (by decide) rfl ?_
    refine aw_icmp (p' := 35) rfl ⟨by omega, by omega⟩ ⟨by omega, by omega⟩ rfl rfl (fun c3 => ?_) (fun c3 => ?_)
    · dsimp only [zc] at c3
      omega
    · dsimp only [zc] at c3
      refine aw_aload_n rfl rfl rfl ?_
      refine aw_getr (b := 37) rfl rfl (hM1.f.k 33 rfl) (by have q := hM1.route.2.1; rw [hv] at q; exact q) rfl ?_
      refine aw_iload_n rfl rfl rfl ?_
      refine aw_iconst rfl rfl ?_
      refine aw_cs (N := sz) hM1 hI rfl (hM1.f.s 37 rfl) (by omega) rfl (by omega) (by omega) ⟨by omega, by omega⟩ rfl (fun τ4 hM4 hD4 hU4 => ?_)
      refine aw_aload_n rfl rfl rfl ?_
      refine aw_getr (b := 39) rfl rfl (hM4.f.k 33 rfl) (by have q := hM4.route.2.2.2.1; rw [hv] at q; exact q) rfl ?_
      refine aw_iload_n rfl rfl rfl ?_
      refine aw_lconst 0 rfl rfl rfl ?_
      refine aw_cl (N := sz) hM4 hI rfl (hM4.f.s 39 rfl) (by omega) rfl (by omega) (by omega) (by omega) (by omega) rfl (fun τ5 hM5 hD5 hU5 => ?_)
      refine aw_retv rfl ?_
      refine ⟨rfl, hM5, (((hD1.su (T := [37, 39]) rfl).tr (hD4.su (T := [37, 39]) rfl)).tr (hD5.su (T := [37, 39]) rfl)), fun e e0 e1 => ⟨fun q => ?_, fun q => ?_⟩⟩
      · have et : e = t := by
          by_cases et : e = t
          · exact et
          · have q2 := q.2; rw [f0_f et] at q2; exact absurd q2 (by decide)
        rw [f0_t et, hD5.z 37 rfl, hU4, if_pos et, hU5, if_pos et]
        exact ⟨rfl, rfl⟩
      · have et : e ≠ t := fun et => q ⟨trivial, by rw [f0_t et]; decide⟩
        rw [hD5.z 37 rfl, hU4, if_neg et, hU1, if_pos ⟨e0, by omega⟩]
set_option maxRecDepth 10000 in
theorem c_back1 {d : Nat} {sz : Nat} {κ : Nat × (Nat → Int32) × Option Nat} {A : Nat → Int → Int} {g : Nat → Nat} {σ : az_S} (hC : CR sz κ A g σ) (hI : MI sz A) (hv : g 701 = 1) : cal (d + 2) 28 [.ref 33] σ (fun r τ => r = none ∧ CR sz κ A (gsw g 0) τ ∧ Mi σ τ [36] ∧ ∀ e : Int, 0 ≤ e → e < A 42 2 → zx τ 36 e = -1) := by
  have hce := hI.cells
  have hsz := hC.f.1
  have hsw := hC.sw hI hv
  have r3 : az_r σ 33 3 = some 37 := by have q := hC.route.2.1; rw [hv] at q; exact q
  have r4 : az_r σ 33 4 = some 36 := by have q := hC.route.2.2.1; rw [hv] at q; exact q
  have r5 : az_r σ 33 5 = some 39 := by have q := hC.route.2.2.2.1; rw [hv] at q; exact q
  have r6 : az_r σ 33 6 = some 38 := by have q := hC.route.2.2.2.2; rw [hv] at q; exact q
  have k33 : (az_sh σ 33).1 = 5 := hC.f.k 33 rfl
  refine cal_of (M := (yX4_goBackAnHour, cX4_goBackAnHour, 3, none)) (cd := k_X4_goBackAnHour) (L := [some (.ref 33), none, none]) rfl (Nat.le_of_ble_eq_true rfl) rfl rfl ?_
  refine aw_aload_n rfl rfl rfl ?_
  refine aw_getr (b := 36) rfl rfl k33 r4 rfl ?_
  refine aw_astore_n rfl (Nat.le_of_ble_eq_true rfl) rfl rfl ?_
  refine aw_aload_n rfl rfl rfl ?_
  refine aw_aload_n rfl rfl rfl ?_
  refine aw_getr (b := 37) rfl rfl k33 r3 rfl ?_
  refine aw_putr rfl rfl k33 rfl ?_
  refine aw_aload_n rfl rfl rfl ?_
  refine aw_aload_n rfl rfl rfl ?_
  refine aw_putr rfl rfl k33 rfl ?_
  refine aw_aload_n rfl rfl rfl ?_
  refine aw_getr (b := 38) rfl rfl k33 (by show az_up (az_up (az_r σ) 33 4 (some 37)) 33 3 (some 36) 33 6 = _; rw [az_up_nk (by decide), az_up_nk (by decide)]; exact r6) rfl ?_
  refine aw_astore_n rfl (Nat.le_of_ble_eq_true rfl) rfl rfl ?_
  refine aw_aload_n rfl rfl rfl ?_
  refine aw_aload_n rfl rfl rfl ?_
  refine aw_getr (b := 39) rfl rfl k33 (by show az_up (az_up (az_r σ) 33 4 (some 37)) 33 3 (some 36) 33 5 = _; rw [az_up_nk (by decide), az_up_nk (by decide)]; exact r5) rfl ?_
  refine aw_putr rfl rfl k33 rfl ?_
  refine aw_aload_n rfl rfl rfl ?_
  refine aw_aload_n rfl rfl rfl ?_
  refine aw_putr rfl rfl k33 rfl ?_
  change aw _ _ _ _ 36 _ _ (sw4 σ 37 36 39 38)
  refine aw_aload_n rfl rfl rfl ?_
  refine aw_getr (b := 36) rfl rfl k33 sw4_33.1.1 rfl ?_
  refine aw_iconst rfl rfl ?_
  have hs : az_sh (sw4 σ 37 36 39 38) 36 = (100, sz) := hC.f.s 36 rfl
  refine aw_calc (j_fill (N := sz) hs (by omega) ⟨by omega, by omega⟩) rfl rfl rfl (Nat.le_of_ble_eq_true rfl) (Or.inl rfl) rfl ?_
  rintro _ τ ⟨rfl, hD, hU⟩
  have hsw2 : CR sz κ A (gsw g 0) (sw4 σ 37 36 39 38) := hsw
  refine aw_retv rfl ⟨rfl, hsw2.mod hI hD rfl, ⟨hD.1, hD.2.1, hD.2.2.1, hD.2.2.2.2.1, hD.2.2.2.2.2⟩, fun e e0 e1 => by rw [hU, if_pos ⟨e0, by omega⟩]⟩
set_option maxRecDepth 10000 in
set_option maxHeartbeats 2000000 in
theorem c_lead1 {d : Nat} {sz : Nat} {κ : Nat × (Nat → Int32) × Option Nat} {A : Nat → Int → Int} {g : Nat → Nat} {σ : az_S} (hC : CR sz κ A g σ) (hI : MI sz A) (hv : g 701 = 1) {f : Int → Int × Int} {rc : Int → Prop} (hAf : cAf A f rc 36 38 (A 42 2) σ) (hfb : ∀ e : Int, 0 ≤ e → e < A 42 2 → (0 ≤ (f e).1 ∧ (f e).1 ≤ 1000) ∧ (0 ≤ (f e).2 ∧ (f e).2 ≤ 1000000000000)) {h c n s z : Int} (hh0 : 0 ≤ h) (hh1 : h ≤ 11) (hc0 : 0 ≤ c) (hc1 : c < A 42 2) (hn : ((0 ≤ n ∧ n < A 42 2) ∧ rc n ∧ (f n).1 < 1000)) (hs0 : 0 ≤ s) (hs1 : s ≤ 1) (hz0 : 0 ≤ z) (hz1 : z ≤ 24000000000) : cal (d + 2) 32 [.ref 33, .int (iI h), .int (iI c), .int (iI n), .int (iI s), .long (lI z)] σ (fun r τ => r = none ∧ CR sz κ A g τ ∧ Mod σ τ [35, 37, 39] ∧ (∀ w, zx τ 35 w = if w = h * A 42 2 + c then n else zx σ 35 w) ∧ (∀ w, zx τ 37 w = if w = c then (f n).1 + s else zx σ 37 w) ∧ (∀ w, zq τ 39 w = if w = c then (f n).2 + z else zq σ 39 w)) := by
  obtain ⟨⟨hn0, hn1⟩, hn2⟩ := hn
  have hce := hI.cells
  have hsz := hC.f.1
  have an := (hAf n hn0 hn1).1 hn2
  have fn := hfb n hn0 hn1
  have hm1 : h * A 42 2 ≤ 11 * A 42 2 := Int.mul_le_mul_of_nonneg_right hh1 (by omega)
  have hm0 : 0 ≤ h * A 42 2 := Int.mul_nonneg hh0 (by omega)
  refine cal_of (M := (yX4_lead, cX4_lead, 8, none)) (cd := k_X4_lead) (L := [some (.ref 33), some (.int (iI h)), some (.int (iI c)), some (.int (iI n)), some (.int (iI s)), some (.long (lI z)), none, none]) rfl (Nat.le_of_ble_eq_true rfl) rfl rfl ?_
  refine aw_iload_n rfl rfl rfl ?_
  refine aw_aload_n rfl rfl rfl ?_
  refine aw_getr (b := 28) rfl rfl (hC.f.k 33 rfl) (hC.f.r 33 0 28 rfl) rfl ?_
  refine aw_gk (v := A 42 2) (2) rfl rfl (hC.f.k 28 rfl) rfl hC.ground.2.2 rfl (fun _ _ => ?_)
  refine aw_imul rfl rfl ?_
  refine aw_iload_n rfl rfl rfl ?_
  refine aw_iadd rfl rfl ?_
  refine aw_istore rfl (Nat.le_of_ble_eq_true rfl) rfl rfl ?_
  change aw _ _ _ _ 13 [some (.ref 33), some (.int (iI _)), some (.int (iI _)), some (.int (iI _)), some (.int (iI _)), some (.long (lI _)), none, some (.int (iI _))] _ _
  refine aw_iload_n rfl rfl rfl ?_
  refine aw_if (p' := 49) rfl ⟨by omega, by omega⟩ rfl rfl (fun c1 => ?_) (fun c1 => ?_)
  · dsimp only [zc] at c1
    omega
  · dsimp only [zc] at c1
    refine aw_iload_n rfl rfl rfl ?_
    refine aw_aload_n rfl rfl rfl ?_
    refine aw_getr (b := 37) rfl rfl (hC.f.k 33 rfl) (by have q := hC.route.2.1; rw [hv] at q; exact q) rfl ?_
    refine aw_alen (N := sz) rfl (hC.f.s 37 rfl) (by decide) rfl ?_
    refine aw_icmp (p' := 49) rfl ⟨by omega, by omega⟩ ⟨by omega, by omega⟩ rfl rfl (fun c2 => ?_) (fun c2 => ?_)
    · dsimp only [zc] at c2
      omega
    · dsimp only [zc] at c2
      refine aw_iload rfl rfl rfl ?_
      refine aw_if (p' := 49) rfl ⟨by omega, by omega⟩ rfl rfl (fun c3 => ?_) (fun c3 => ?_)
      · dsimp only [zc] at c3
        omega
      · dsimp only [zc] at c3
        refine aw_iload rfl rfl rfl ?_
        refine aw_aload_n rfl rfl rfl ?_
        refine aw_getr (b := 35) rfl rfl (hC.f.k 33 rfl) (hC.f.r 33 1 35 rfl) rfl ?_
        refine aw_alen (N := (12 * sz)) rfl (hC.f.s 35 rfl) (by decide) rfl ?_
        refine aw_icmp (p' := 49) rfl ⟨by omega, by omega⟩ ⟨by omega, by omega⟩ rfl rfl (fun c4 => ?_) (fun c4 => ?_)
        · dsimp only [zc] at c4
          omega
        · dsimp only [zc] at c4
          refine aw_aload_n rfl rfl rfl ?_
          refine aw_iload_n rfl rfl rfl ?_
          refine aw_fnc (c_leads1 hC hI hv hAf hfb ⟨by omega, by omega⟩) rfl rfl rfl (Nat.le_of_ble_eq_true rfl) (Or.inr ⟨_, rfl, (hC.f.k 33 rfl)⟩) rfl ?_
          refine aw_ifneb (p' := 50) rfl rfl rfl (fun c5 => ?_) (fun c5 => ?_)
          · refine aw_aload_n rfl rfl rfl ?_
            refine aw_getr (b := 35) rfl rfl (hC.f.k 33 rfl) (hC.f.r 33 1 35 rfl) rfl ?_
            refine aw_iload rfl rfl rfl ?_
            refine aw_iload_n rfl rfl rfl ?_
            refine aw_cs (N := (12 * sz)) hC hI rfl (hC.f.s 35 rfl) (by omega) rfl (by omega) (by omega) ⟨by omega, by omega⟩ rfl (fun τ6 hM6 hD6 hU6 => ?_)
            refine aw_aload_n rfl rfl rfl ?_
            refine aw_getr (b := 37) rfl rfl (hM6.f.k 33 rfl) (by have q := hM6.route.2.1; rw [hv] at q; exact q) rfl ?_
            refine aw_iload_n rfl rfl rfl ?_
            refine aw_aload_n rfl rfl rfl ?_
            refine aw_getr (b := 36) rfl rfl (hM6.f.k 33 rfl) (by have q := hM6.route.2.2.1; rw [hv] at q; exact q) rfl ?_
            refine aw_iload_n rfl rfl rfl ?_
            refine aw_as (N := sz) rfl (hM6.f.s 36 rfl) (by omega) (by omega) (by omega) rfl (fun _ _ => ?_)
            rw [hD6.z 36 rfl, an.1]
            refine aw_iload rfl rfl rfl ?_
            refine aw_iadd rfl rfl ?_
            refine aw_cs (N := sz) hM6 hI rfl (hM6.f.s 37 rfl) (by omega) rfl (by omega) (by omega) ⟨by omega, by omega⟩ rfl (fun τ7 hM7 hD7 hU7 => ?_)
            refine aw_aload_n rfl rfl rfl ?_
            refine aw_getr (b := 39) rfl rfl (hM7.f.k 33 rfl) (by have q := hM7.route.2.2.2.1; rw [hv] at q; exact q) rfl ?_
            refine aw_iload_n rfl rfl rfl ?_
            refine aw_aload_n rfl rfl rfl ?_
            refine aw_getr (b := 38) rfl rfl (hM7.f.k 33 rfl) (by have q := hM7.route.2.2.2.2; rw [hv] at q; exact q) rfl ?_
            refine aw_iload_n rfl rfl rfl ?_
            refine aw_lz (N := sz) rfl (hM7.f.s 38 rfl) (by omega) (by omega) (by omega) rfl (fun _ _ => ?_)
            rw [hD7.q 38 rfl, hD6.q 38 rfl, an.2]
            refine aw_lload rfl rfl rfl ?_
            refine aw_ladd rfl rfl ?_
            refine aw_cl (N := sz) hM7 hI rfl (hM7.f.s 39 rfl) (by omega) rfl (by omega) (by omega) (by omega) (by omega) rfl (fun τ8 hM8 hD8 hU8 => ?_)
            refine aw_retv rfl ?_
            exact ⟨rfl, hM8, (((hD6.su (T := [35, 37, 39]) rfl).tr (hD7.su (T := [35, 37, 39]) rfl)).tr (hD8.su (T := [35, 37, 39]) rfl)), fun w => by rw [hD8.z 35 rfl, hD7.z 35 rfl, hU6], fun w => by rw [hD8.z 37 rfl, hU7, hD6.z 37 rfl], fun w => by rw [hU8, hD7.q 39 rfl, hD6.q 39 rfl]⟩
          · exact absurd (show ((0 ≤ n ∧ n < A 42 2) ∧ rc n ∧ (f n).1 < 1000) from ⟨⟨hn0, hn1⟩, hn2⟩) (by assumption)
set_option maxRecDepth 10000 in
set_option maxHeartbeats 2000000 in
theorem c_mayWalk_l2 {d : Nat} {sz : Nat} {κ : Nat × (Nat → Int32) × Option Nat} {A : Nat → Int → Int} {g : Nat → Nat} {σ : az_S} (hC : CR sz κ A g σ) (hI : MI sz A) {x h : Int} (hx0 : 0 ≤ x) (hx1 : x ≤ 3599) (hh0 : 0 ≤ h) (hh1 : h ≤ 11) (hS : cSL A x (A 42 3) σ) {c : Int} (hc0 : 0 ≤ c) (hc1 : c < A 42 2) : ∀ (n : Nat) (s : Int) (w : Option Value), (A 42 66 - s).toNat = n → 0 ≤ s → s ≤ A 42 66 → ¬ mTakenTo A c x h s → aw (d + 3) k_X11_mayWalk (some .boolean) (fun r τ => r = some (.int (iI (bI (mOpen A c x (A 42 3) ∧ ¬ mTaken A c x h)))) ∧ τ = σ) 2 [some (.ref 0), some (.int (iI c)), some (.int (iI h)), some (.int (iI s)), w] [] σ := by
  intro n
  induction n using Nat.strongRecOn with
  | ind n ih =>
    intro s w hn hs0 hs1 hb
    have hst := hI.stalls
    have hce := hI.cells
    have hcl := hI.clock
    have hts := mTakenTo_s (A := A) (c := c) (x := x) (h := h) hs0
    have hSI := fun q => (hI.stall s hs0 q).2 h hh0 (by omega)
    refine aw_iload_n rfl rfl rfl ?_
    refine aw_aload_n rfl rfl rfl ?_
    refine aw_getr (b := 8) rfl rfl (hC.f.k 0 rfl) (hC.f.r 0 5 8 rfl) rfl ?_
    refine aw_fnc (c_size (hC.f.k 8 rfl) hC.lS.1) rfl rfl rfl (Nat.le_of_ble_eq_true rfl) (Or.inr ⟨_, rfl, (hC.f.k 8 rfl)⟩) rfl ?_
    refine aw_icmp (p' := 59) rfl ⟨by omega, by omega⟩ ⟨by omega, by omega⟩ rfl rfl (fun c1 => ?_) (fun c1 => ?_)
    · dsimp only [zc] at c1
      refine aw_aload_n rfl rfl rfl ?_
      refine aw_getr (b := 29) rfl rfl (hC.f.k 0 rfl) (hC.f.r 0 6 29 rfl) rfl ?_
      refine aw_iload_n rfl rfl rfl ?_
      refine aw_fnc (c_sOpen hC hI hx0 hx1 hcl.1 hcl.2 ⟨by omega, by omega⟩ hS) rfl rfl rfl (Nat.le_of_ble_eq_true rfl) (Or.inr ⟨_, rfl, (hC.f.k 29 rfl)⟩) rfl ?_
      refine aw_retn rfl (by first | rfl | exact bI_nar _) ?_
      refine ⟨?_, rfl⟩
      congr 3
      have ht : ¬ mTaken A c x h := by show ¬ mTakenTo A c x h (A 42 66); rw [show A 42 66 = s by omega]; exact hb
      exact bI_congr ⟨fun q => ⟨q.2, ht⟩, fun q => ⟨by omega, q.1⟩⟩
    · dsimp only [zc] at c1
      refine aw_aload_n rfl rfl rfl ?_
      refine aw_getr (b := 8) rfl rfl (hC.f.k 0 rfl) (hC.f.r 0 5 8 rfl) rfl ?_
      refine aw_iload_n rfl rfl rfl ?_
      refine aw_fnc (c_get (hC.f.k 8 rfl) hC.lS (by omega) (by omega) (by omega)) rfl rfl rfl (Nat.le_of_ble_eq_true rfl) (Or.inr ⟨_, rfl, (hC.f.k 8 rfl)⟩) rfl ?_
      refine aw_cast rfl rfl (hC.kS (by omega) (by omega)) rfl ?_
      refine aw_astore rfl (Nat.le_of_ble_eq_true rfl) rfl rfl ?_
      change aw _ _ _ _ 26 [some (.ref 0), some (.int (iI _)), some (.int (iI _)), some (.int (iI _)), some (.ref (gS g s))] _ _
      have hSI1 := hSI (by omega)
      refine aw_aload rfl rfl rfl ?_
      refine aw_aload_n rfl rfl rfl ?_
      refine aw_getr (b := 29) rfl rfl (hC.f.k 0 rfl) (hC.f.r 0 6 29 rfl) rfl ?_
      refine aw_gk (v := x) (6) rfl rfl (hC.f.k 29 rfl) rfl hS.1 rfl (fun _ _ => ?_)
      refine aw_fnc (c_isOn hC hI (by omega) (by omega) ⟨by omega, by omega⟩) rfl rfl rfl (Nat.le_of_ble_eq_true rfl) (Or.inr ⟨_, rfl, (hC.kS (by omega) (by omega))⟩) rfl ?_
      refine aw_ifeqb (p' := 53) rfl rfl rfl (fun c2 => ?_) (fun c2 => ?_)
      · refine aw_iinc rfl rfl rfl rfl ?_
        change aw _ _ _ _ 56 [some (.ref 0), some (.int (iI _)), some (.int (iI _)), some (.int (iI _)), some (.ref (gS g s))] _ _
        refine aw_goto (p' := 2) rfl rfl ?_
        refine ih _ (by omega) _ _ rfl (by omega) (by omega) ?_
        rw [hts]
        rintro (q | ⟨q1, q2⟩)
        · exact hb q
        · first | omega | exact absurd q1 (by assumption)
      · refine aw_aload rfl rfl rfl ?_
        refine aw_iload_n rfl rfl rfl ?_
        refine aw_fnc (c_cellIn hC hI (by omega) (by omega) ⟨by omega, by omega⟩) rfl rfl rfl (Nat.le_of_ble_eq_true rfl) (Or.inr ⟨_, rfl, (hC.kS (by omega) (by omega))⟩) rfl ?_
        rw [zit_t (by omega)]
        refine aw_iload_n rfl rfl rfl ?_
        refine aw_icmp (p' := 53) rfl ⟨by omega, by omega⟩ ⟨by omega, by omega⟩ rfl rfl (fun c3 => ?_) (fun c3 => ?_)
        · dsimp only [zc] at c3
          refine aw_iinc rfl rfl rfl rfl ?_
          change aw _ _ _ _ 56 [some (.ref 0), some (.int (iI _)), some (.int (iI _)), some (.int (iI _)), some (.ref (gS g s))] _ _
          refine aw_goto (p' := 2) rfl rfl ?_
          refine ih _ (by omega) _ _ rfl (by omega) (by omega) ?_
          rw [hts]
          rintro (q | ⟨q1, q2⟩)
          · exact hb q
          · first | omega | exact absurd q1 (by assumption)
        · dsimp only [zc] at c3
          refine aw_iconst rfl rfl ?_
          refine aw_retn rfl (by first | rfl | exact bI_nar _) ?_
          refine ⟨?_, rfl⟩
          rw [bI_f (fun q => q.2 ⟨s, hs0, by omega, by assumption, by omega⟩)]
set_option maxRecDepth 10000 in
set_option maxHeartbeats 2000000 in
theorem c_mayWalk {d : Nat} {sz : Nat} {κ : Nat × (Nat → Int32) × Option Nat} {A : Nat → Int → Int} {g : Nat → Nat} {σ : az_S} (hC : CR sz κ A g σ) (hI : MI sz A) {x h : Int} (hx0 : 0 ≤ x) (hx1 : x ≤ 3599) (hh0 : 0 ≤ h) (hh1 : h ≤ 11) (hS : cSL A x (A 42 3) σ) {c : Int} (hc0 : 0 ≤ c) (hc1 : c < A 42 2) : fn (d + 4) 153 [.ref 0, .int (iI c), .int (iI h)] σ (.int (iI (bI (mOpen A c x (A 42 3) ∧ ¬ mTaken A c x h)))) := by
  have hst := hI.stalls
  have hce := hI.cells
  have hcl := hI.clock
  refine fn_of (M := (yX11_mayWalk, cX11_mayWalk, 5, (some .boolean))) (cd := k_X11_mayWalk) (L := [some (.ref 0), some (.int (iI c)), some (.int (iI h)), none, none]) rfl (Nat.le_of_ble_eq_true rfl) rfl rfl ?_
  refine aw_iconst rfl rfl ?_
  refine aw_istore_n rfl (Nat.le_of_ble_eq_true rfl) rfl rfl ?_
  change aw _ _ _ _ 2 [some (.ref 0), some (.int (iI _)), some (.int (iI _)), some (.int (iI _)), none] _ _
  exact c_mayWalk_l2 hC hI hx0 hx1 hh0 hh1 hS hc0 hc1 _ 0 _ rfl (by omega) (by omega) (by rintro ⟨o, h1, h2, -⟩; omega)
