theorem opens_wr {S : Int → Int} {f x : Int} {c : Cf} (h : 0 ≤ c.wr) : 0 ≤ (opensSign S f x c).wr := by
  unfold opensSign
  split
  · show (0 : Int) ≤ 3; decide
  · exact h
theorem stp_wr {K V S : Int → Int} {c : Cf} (h : 0 ≤ c.wr) : 0 ≤ (stp K V S c).wr := by
  have e1 : ∀ (d : Cf) (f : Int), 0 ≤ f → 0 ≤ (d.errs S f).wr := fun _ f q => q
  unfold stp
  split
  · unfold sAsks
    split
    · exact opens_wr h
    · split
      · exact opens_wr h
      · exact h
  · split
    · unfold sBegins
      split
      · split
        · exact e1 _ 2 (by decide)
        · exact h
      · split
        · exact h
        · split
          · exact opens_wr h
          · split
            · exact opens_wr h
            · split
              · split
                · exact opens_wr (show 0 ≤ c.nxt.wr from h)
                · exact e1 _ 1 (by decide)
              · exact e1 _ 1 (by decide)
    · split
      · unfold sGoesOn
        split
        · exact h
        · split
          · by_cases q : topF c = 10
            · rw [if_pos q]; exact h
            · rw [if_neg q]; exact h
          · split
            · exact h
            · split
              · exact h
              · split
                · exact h
                · split
                  · exact h
                  · exact e1 _ 1 (by decide)
      · split
        · unfold sAsksOn
          split
          · exact h
          · split
            · exact h
            · split
              · exact h
              · split
                · exact h
                · exact e1 _ 1 (by decide)
        · unfold sRule
          split
          · exact e1 _ 1 (by decide)
          · split
            · exact e1 _ 4 (by decide)
            · exact h
section AwFpu
variable {d : Nat} {cd : List az_I} {rt : Option FieldType} {P : Option Value → az_S → Prop} {pc p' : Nat} {L : az_V} {st : List Value} {σ : az_S} {sz : Nat} {A : Nat → Int → Int}
theorem aw_fpu {i ci k a : Nat} {x : Int} (j : Int) (hM : MV sz A σ) (hf : az_fetch cd pc = some (3, .putfield i, [ci, k])) (hk : az_ft ci k = 0) (hs : (az_sh σ a).1 = ci) (hj : j = (k : Int)) (hq : ∀ τ, V τ a j = zx τ a j) (h86 : Nat.beq k 86 = false) (hx : inI x) (hp : pc + 3 = p') (h : ∀ τ, MV sz (up A a j x) τ → Mod σ τ [a] → (∀ w, zx τ a w = if w = j then x else zx σ a w) → aw d cd rt P p' L st τ) : aw d cd rt P pc L (.int (iI x) :: .ref a :: st) σ := by
  have hd : Mod σ (az_pi σ a j.toNat (iI x)) [a] := Mod_pi (by simp)
  have e : j.toNat = k := by omega
  have h3 : MV sz (up A a j x) (az_pi σ a j.toNat (iI x)) := by
    refine ⟨hd.fx hM.1, ?_⟩
    rw [V_pi (by omega) hx hq (fun _ q => by rw [e] at q; rw [q] at h86; exact absurd h86 (by decide)), hM.2]
  refine aw_puti hf hk hs hp ?_
  rw [← e]
  refine h _ h3 hd (fun w => ?_)
  rw [zx_pi (by omega) hx]
  simp
end AwFpu
set_option maxRecDepth 10000 in
set_option maxHeartbeats 2000000 in
theorem x_loop {d : Nat} {sz : Nat} {A : Nat → Int → Int} {K V S E : Int → Int} {T N : Int} {σ0 : az_S} (hI : MI sz A) (hN : 0 ≤ N ∧ N ≤ 400) (hTk : TkN (A 74) N K V S E T) {e : Cf} (hfin : e.wr ≠ 0 ∨ (e.st = 4 ∧ K e.n = 0)) {P : Option Value → az_S → Prop} (hP : ∀ τ, MC sz A K V S E N σ0 τ e → 0 ≤ e.wr → CI T e → aw (d + 7) k_X12_tariff (some .int) P 155 [some (.ref 42), none] [] τ) : ∀ (k : Nat) (c : Cf) (σ : az_S), RcN K V S k c e → MC sz A K V S E N σ0 σ c → CI T c → 0 ≤ c.wr → aw (d + 7) k_X12_tariff (some .int) P 62 [some (.ref 42), none] [] σ := by
  intro k
  induction k with
  | zero =>
    intro c σ hR hM hC hw
    have he : c = e := hR
    subst he
    obtain ⟨⟨bE, bF, bW⟩, bO, bN, bV⟩ := CI_b hTk hC
    have htf := hM.tf hTk bN
    refine aw_aload_n rfl rfl rfl ?_
    refine aw_gk (v := c.wr) (46) rfl rfl (hM.f.k 42 rfl) rfl hM.v46 rfl (fun _ _ => ?_)
    refine aw_if (p' := 155) rfl ⟨by omega, by omega⟩ rfl rfl (fun _ => hP σ hM hw hC) (fun c1 => ?_)
    dsimp only [zc] at c1
    have hf2 : c.st = 4 ∧ K c.n = 0 := by
      rcases hfin with q | q
      · exact absurd q c1
      · exact q
    refine aw_aload_n rfl rfl rfl ?_
    refine aw_gk (v := 4) (78) rfl rfl (hM.f.k 42 rfl) rfl (hM.v78.trans hf2.1) rfl (fun _ _ => ?_)
    refine aw_iconst rfl rfl ?_
    refine aw_icmp (p' := 84) rfl ⟨by omega, by omega⟩ ⟨by omega, by omega⟩ rfl rfl (fun c2 => ?_) (fun _ => ?_)
    · dsimp only [zc] at c2
      omega
    · refine aw_aload_n rfl rfl rfl ?_
      refine aw_gk (v := 0) (44) rfl rfl (hM.f.k 42 rfl) rfl ((tfz htf).mpr hf2.2) rfl (fun _ _ => ?_)
      refine aw_if (p' := 155) rfl ⟨by omega, by omega⟩ rfl rfl (fun _ => hP σ hM hw hC) (fun c3 => ?_)
      dsimp only [zc] at c3
      omega
  | succ k ih =>
    intro c σ hR hM hC hw
    obtain ⟨h0, hl, hR2⟩ := hR
    obtain ⟨⟨bE, bF, bW⟩, bO, bN, bV⟩ := CI_b hTk hC
    have htf := hM.tf hTk bN
    have hst : c.st = 0 ∨ c.st = 1 ∨ c.st = 2 ∨ c.st = 3 ∨ c.st = 4 := by
      rcases bV with q | q
      · omega
      · have := q.2
        unfold SP at this
        omega
    have hnx : ∀ τ, MC sz A K V S E N σ0 τ (stp K V S c) → aw (d + 7) k_X12_tariff (some .int) P 62 [some (.ref 42), none] [] τ := fun τ h => ih _ τ hR2 h (CI_stp (fun n a b => (hTk.2.2 n a b).2) hC hl) (stp_wr hw)
    have h84 : aw (d + 7) k_X12_tariff (some .int) P 84 [some (.ref 42), none] [] σ := by
      refine aw_aload_n rfl rfl rfl ?_
      refine aw_gk (v := c.st) (78) rfl rfl (hM.f.k 42 rfl) rfl hM.v78 rfl (fun _ _ => ?_)
      refine aw_tsb (p' := 120) 0 rfl rfl ⟨by omega, by omega⟩ (by omega) rfl (fun h => ?_) (fun n0 => ?_)
      · have s0 : c.st = 0 := by omega
        refine aw_aload_n rfl rfl rfl ?_
        refine aw_calc ((x_asks (d := d + 2) hI hN hTk hM hC h0 s0)) rfl rfl rfl (Nat.le_of_ble_eq_true rfl) (Or.inr ⟨_, rfl, (hM.f.k 42 rfl)⟩) rfl ?_
        rintro _ τ1 ⟨rfl, hM1⟩
        change aw _ _ _ _ 124 [some (.ref 42), none] [] _
        refine aw_goto (p' := 62) rfl rfl ?_
        refine hnx τ1 ?_
        unfold stp
        rw [if_pos s0]
        exact hM1
      · refine aw_tsb (p' := 127) 1 rfl rfl ⟨by omega, by omega⟩ (by omega) rfl (fun h => ?_) (fun n1 => ?_)
        · have s1 : c.st = 1 := by omega
          refine aw_aload_n rfl rfl rfl ?_
          refine aw_calc ((x_begins (d := d + 1) hI hN hTk hM hC h0 s1)) rfl rfl rfl (Nat.le_of_ble_eq_true rfl) (Or.inr ⟨_, rfl, (hM.f.k 42 rfl)⟩) rfl ?_
          rintro _ τ1 ⟨rfl, hM1⟩
          change aw _ _ _ _ 131 [some (.ref 42), none] [] _
          refine aw_goto (p' := 62) rfl rfl ?_
          refine hnx τ1 ?_
          unfold stp
          rw [if_neg (by omega), if_pos s1]
          exact hM1
        · refine aw_tsb (p' := 134) 2 rfl rfl ⟨by omega, by omega⟩ (by omega) rfl (fun h => ?_) (fun n2 => ?_)
          · have s2 : c.st = 2 := by omega
            refine aw_aload_n rfl rfl rfl ?_
            refine aw_calc ((x_goesOn hI hN hTk hM hC h0 s2)) rfl rfl rfl (Nat.le_of_ble_eq_true rfl) (Or.inr ⟨_, rfl, (hM.f.k 42 rfl)⟩) rfl ?_
            rintro _ τ1 ⟨rfl, hM1⟩
            change aw _ _ _ _ 138 [some (.ref 42), none] [] _
            refine aw_goto (p' := 62) rfl rfl ?_
            refine hnx τ1 ?_
            unfold stp
            rw [if_neg (by omega), if_neg (by omega), if_pos s2]
            exact hM1
          · refine aw_tsb (p' := 141) 3 rfl rfl ⟨by omega, by omega⟩ (by omega) rfl (fun h => ?_) (fun n3 => ?_)
            · have s3 : c.st = 3 := by omega
              refine aw_aload_n rfl rfl rfl ?_
              refine aw_calc ((x_asksOn hI hN hTk hM hC h0 s3)) rfl rfl rfl (Nat.le_of_ble_eq_true rfl) (Or.inr ⟨_, rfl, (hM.f.k 42 rfl)⟩) rfl ?_
              rintro _ τ1 ⟨rfl, hM1⟩
              change aw _ _ _ _ 145 [some (.ref 42), none] [] _
              refine aw_goto (p' := 62) rfl rfl ?_
              refine hnx τ1 ?_
              unfold stp
              rw [if_neg (by omega), if_neg (by omega), if_neg (by omega), if_pos s3]
              exact hM1
            · have s4 : c.st = 4 := by omega
              refine aw_tsd (p' := 148) rfl ⟨by omega, by omega⟩ (by omega) rfl ?_
              refine aw_aload_n rfl rfl rfl ?_
              refine aw_calc ((x_rule (d := d + 1) hI hN hTk hM hC h0 s4)) rfl rfl rfl (Nat.le_of_ble_eq_true rfl) (Or.inr ⟨_, rfl, (hM.f.k 42 rfl)⟩) rfl ?_
              rintro _ τ1 ⟨rfl, hM1⟩
              change aw _ _ _ _ 152 [some (.ref 42), none] [] _
              refine aw_goto (p' := 62) rfl rfl ?_
              refine hnx τ1 ?_
              unfold stp
              rw [if_neg (by omega), if_neg (by omega), if_neg (by omega), if_neg (by omega)]
              exact hM1
    refine aw_aload_n rfl rfl rfl ?_
    refine aw_gk (v := 0) (46) rfl rfl (hM.f.k 42 rfl) rfl (hM.v46.trans h0) rfl (fun _ _ => ?_)
    refine aw_if (p' := 155) rfl ⟨by omega, by omega⟩ rfl rfl (fun c1 => ?_) (fun _ => ?_)
    · dsimp only [zc] at c1
      omega
    · refine aw_aload_n rfl rfl rfl ?_
      refine aw_gk (v := c.st) (78) rfl rfl (hM.f.k 42 rfl) rfl hM.v78 rfl (fun _ _ => ?_)
      refine aw_iconst rfl rfl ?_
      refine aw_icmp (p' := 84) rfl ⟨by omega, by omega⟩ ⟨by omega, by omega⟩ rfl rfl (fun _ => h84) (fun c2 => ?_)
      dsimp only [zc] at c2
      refine aw_aload_n rfl rfl rfl ?_
      refine aw_gs (44) rfl rfl (hM.f.k 42 rfl) rfl rfl (fun _ _ => ?_)
      refine aw_if (p' := 155) rfl ⟨by omega, by omega⟩ rfl rfl (fun c3 => ?_) (fun _ => h84)
      dsimp only [zc] at c3
      have := (tfz htf).mp c3
      omega
/-- the new tariff is copied, j orders so far -/
def cpA (A : Nat → Int → Int) (f v : Int → Int) (j : Int) : Nat → Int → Int := fun a z => if a = 77 ∧ 0 ≤ z ∧ z < j then f z else if a = 78 ∧ 0 ≤ z ∧ z < j then v z else A a z
theorem cpA_0 (A : Nat → Int → Int) (f v : Int → Int) : cpA A f v 0 = A := by
  funext a z
  unfold cpA
  rw [if_neg (by omega), if_neg (by omega)]
theorem cpA_s {A : Nat → Int → Int} {f v : Int → Int} {j : Int} (hj : 0 ≤ j) : up (up (cpA A f v j) 77 j (f j)) 78 j (v j) = cpA A f v (j + 1) := by
  funext a z
  unfold up cpA
  by_cases h78 : a = 78 ∧ z = j
  · rw [if_pos h78, if_neg (by omega), if_pos (by omega), h78.2]
  · rw [if_neg h78]
    by_cases h77 : a = 77 ∧ z = j
    · rw [if_pos h77, if_pos (by omega), h77.2]
    · rw [if_neg h77]
      by_cases q : a = 77 ∧ 0 ≤ z ∧ z < j
      · rw [if_pos q, if_pos (by omega)]
      · rw [if_neg q]
        by_cases q2 : a = 78 ∧ 0 ≤ z ∧ z < j
        · rw [if_pos q2, if_neg (by omega), if_pos (by omega)]
        · rw [if_neg q2, if_neg (by omega), if_neg (by omega)]
theorem cpA_n {A : Nat → Int → Int} {f v : Int → Int} {j z : Int} {a : Nat} (h1 : a ≠ 77) (h2 : a ≠ 78) : cpA A f v j a z = A a z := by
  unfold cpA
  rw [if_neg (by omega), if_neg (by omega)]
theorem cpA_code {A : Nat → Int → Int} {f v : Int → Int} {j : Int} : ∀ (em : List (Int × Int)) (k : Int), 0 ≤ k → k + em.length ≤ j → eC f v k em → mCode (cpA A f v j) k em := by
  intro em
  induction em with
  | nil => intro k _ _ _; trivial
  | cons q r ih =>
    intro k hk hl h
    rw [len_c] at hl
    refine ⟨?_, ?_, ih (k + 1) (by omega) (by omega) h.2.2⟩
    · show cpA A f v j 77 k = q.1
      unfold cpA
      rw [if_pos ⟨rfl, by omega, by omega⟩]; exact h.1
    · show cpA A f v j 78 k = q.2
      unfold cpA
      rw [if_neg (by omega), if_pos ⟨rfl, by omega, by omega⟩]; exact h.2.1
set_option maxRecDepth 10000 in
set_option maxHeartbeats 2000000 in
theorem x_copy {d : Nat} {sz : Nat} {B : Nat → Int → Int} {σ : az_S} {M R0 : Int} (hM0 : 0 ≤ M ∧ M ≤ 900) (h50 : zx σ 42 50 = M) (hB : B 42 55 = R0) {P : Option Value → az_S → Prop} (hP : ∀ τ, MV sz (cpA B (zx σ 75) (zx σ 76) M) τ → Mod σ τ [77, 78] → P (some (.int (iI R0))) τ) : ∀ (n : Nat) (j : Int) (τ : az_S), (M - j).toNat = n → 0 ≤ j → j ≤ M → MV sz (cpA B (zx σ 75) (zx σ 76) j) τ → Mod σ τ [77, 78] → aw d k_X12_tariff (some .int) P 198 [some (.ref 42), some (.int (iI j))] [] τ := by
  intro n
  induction n using Nat.strongRecOn with
  | ind n ih =>
  intro j τ hn hj0 hj1 hV hD
  have z42 : zx τ 42 = zx σ 42 := hD.z 42 rfl
  have z75 : zx τ 75 = zx σ 75 := hD.z 75 rfl
  have z76 : zx τ 76 = zx σ 76 := hD.z 76 rfl
  refine aw_iload_n rfl rfl rfl ?_
  refine aw_aload_n rfl rfl rfl ?_
  refine aw_gk (v := M) (50) rfl rfl (hV.1.k 42 rfl) rfl (by rw [z42]; exact h50) rfl (fun _ _ => ?_)
  refine aw_icmp (p' := 236) rfl ⟨by omega, by omega⟩ ⟨by omega, by omega⟩ rfl rfl (fun c1 => ?_) (fun c1 => ?_)
  · dsimp only [zc] at c1
    have ej : j = M := by omega
    subst ej
    refine aw_aload_n rfl rfl rfl ?_
    refine aw_gpv (v := R0) (55) hV rfl rfl (hV.1.k 42 rfl) rfl (by rw [cpA_n (by decide) (by decide)]; exact hB) rfl (fun _ _ => ?_)
    exact aw_reti rfl (hP τ hV hD)
  · dsimp only [zc] at c1
    refine aw_aload_n rfl rfl rfl ?_
    refine aw_getr (b := 77) rfl rfl (hV.1.k 42 rfl) (hV.1.r 42 56 77 rfl) rfl ?_
    refine aw_iload_n rfl rfl rfl ?_
    refine aw_aload_n rfl rfl rfl ?_
    refine aw_getr (b := 75) rfl rfl (hV.1.k 42 rfl) (hV.1.r 42 52 75 rfl) rfl ?_
    refine aw_iload_n rfl rfl rfl ?_
    refine aw_ak (v := zx σ 75 j) (N := 900) rfl (hV.1.s 75 rfl) (by omega) (by omega) (by omega) (by rw [z75]) rfl (fun _ _ => ?_)
    refine aw_sp (N := 900) hV rfl (hV.1.s 77 rfl) (by omega) rfl (by omega) (by omega) ⟨by omega, by omega⟩ rfl (fun τ1 hV1 hD1 => ?_)
    refine aw_aload_n rfl rfl rfl ?_
    refine aw_getr (b := 78) rfl rfl (hV1.1.k 42 rfl) (hV1.1.r 42 57 78 rfl) rfl ?_
    refine aw_iload_n rfl rfl rfl ?_
    refine aw_aload_n rfl rfl rfl ?_
    refine aw_getr (b := 76) rfl rfl (hV1.1.k 42 rfl) (hV1.1.r 42 53 76 rfl) rfl ?_
    refine aw_iload_n rfl rfl rfl ?_
    refine aw_ak (v := zx σ 76 j) (N := 900) rfl (hV1.1.s 76 rfl) (by omega) (by omega) (by omega) (by rw [hD1.z 76 rfl, z76]) rfl (fun _ _ => ?_)
    refine aw_sp (N := 900) hV1 rfl (hV1.1.s 78 rfl) (by omega) rfl (by omega) (by omega) ⟨by omega, by omega⟩ rfl (fun τ2 hV2 hD2 => ?_)
    rw [cpA_s hj0] at hV2
    refine aw_iinc rfl rfl rfl rfl ?_
    change aw _ _ _ _ 233 [some (.ref 42), some (.int (iI (j + 1)))] [] _
    refine aw_goto (p' := 198) rfl rfl ?_
    exact ih _ (by omega) (j + 1) τ2 rfl (by omega) (by omega) hV2 ((hD.tr (hD1.su rfl)).tr (hD2.su rfl))
/-- what the reference's tariff leaves -/
def TR (sz : Nat) (A : Nat → Int → Int) (σ : az_S) (e : Cf) : Option Value → az_S → Prop := fun r τ => Mod σ τ [42, 75, 76, 77, 78, 79, 80, 81, 94, 95] ∧ ((e.wr = 0 ∧ r = some (.int (iI e.ru)) ∧ ∃ A', MV sz A' τ ∧ (∀ a z, a ≠ 77 → a ≠ 78 → (a ≠ 42 ∨ (z ≠ 54 ∧ z ≠ 55)) → A' a z = tA A e.wr e.wa a z) ∧ A' 42 54 = (e.em.length : Int) ∧ A' 42 55 = e.ru ∧ mCode A' 0 e.em) ∨ (0 < e.wr ∧ r = some (.int (iI (-1))) ∧ MV sz (tA A e.wr e.wa) τ))
set_option maxRecDepth 10000 in
set_option maxHeartbeats 2000000 in
theorem x_end {d : Nat} {sz : Nat} {A : Nat → Int → Int} {K V S E : Int → Int} {T N : Int} {σ0 σs τ : az_S} {e : Cf} {B : Int → Int} (hTk : TkN B N K V S E T) (hM : MC sz (up A 42 40 0) K V S E N σ0 τ e) (hs : Mod σs σ0 [42, 75, 76, 77, 78, 79, 80, 81, 94, 95]) (hw : 0 ≤ e.wr) (hC : CI T e) : aw d k_X12_tariff (some .int) (TR sz A σs e) 155 [some (.ref 42), none] [] τ := by
  obtain ⟨⟨bE, bF, bW⟩, bO, bN, bV⟩ := CI_b hTk hC
  have hwl := zx_lo τ 42 46
  have hwh := zx_hi τ 42 46
  rw [hM.v46] at hwl hwh
  have hal := zx_lo τ 42 47
  have hah := zx_hi τ 42 47
  rw [hM.v47] at hal hah
  have hrl := zx_lo τ 42 51
  have hrh := zx_hi τ 42 51
  rw [hM.v51] at hrl hrh
  have hD0 : Mod σs τ [42, 75, 76, 77, 78, 79, 80, 81, 94, 95] := hs.tr (hM.2.1.su rfl)
  refine aw_aload_n rfl rfl rfl ?_
  refine aw_aload_n rfl rfl rfl ?_
  refine aw_gk (v := e.wr) (46) rfl rfl (hM.f.k 42 rfl) rfl hM.v46 rfl (fun _ _ => ?_)
  refine aw_fpu (48) hM.mv rfl rfl (hM.f.k 42 rfl) rfl (fun _ => rfl) rfl ⟨by omega, by omega⟩ rfl (fun τ1 hV1 hD1 hU1 => ?_)
  refine aw_aload_n rfl rfl rfl ?_
  refine aw_aload_n rfl rfl rfl ?_
  refine aw_gk (v := e.wa) (47) rfl rfl (hV1.1.k 42 rfl) rfl (by rw [hU1, if_neg (by decide)]; exact hM.v47) rfl (fun _ _ => ?_)
  refine aw_fpu (49) hV1 rfl rfl (hV1.1.k 42 rfl) rfl (fun _ => rfl) rfl ⟨by omega, by omega⟩ rfl (fun τ2 hV2 hD2 hU2 => ?_)
  have hV2' : MV sz (tA A e.wr e.wa) τ2 := hV2
  refine aw_aload_n rfl rfl rfl ?_
  refine aw_gk (v := e.wr) (46) rfl rfl (hV2.1.k 42 rfl) rfl (by rw [hU2, if_neg (by decide), hU1, if_neg (by decide)]; exact hM.v46) rfl (fun _ _ => ?_)
  refine aw_if (p' := 180) rfl ⟨by omega, by omega⟩ rfl rfl (fun c1 => ?_) (fun c1 => ?_)
  · dsimp only [zc] at c1
    refine aw_aload_n rfl rfl rfl ?_
    refine aw_aload_n rfl rfl rfl ?_
    refine aw_gk (v := (e.em.length : Int)) (50) rfl rfl (hV2.1.k 42 rfl) rfl (by rw [hU2, if_neg (by decide), hU1, if_neg (by decide)]; exact hM.v50) rfl (fun _ _ => ?_)
    refine aw_fpu (54) hV2' rfl rfl (hV2.1.k 42 rfl) rfl (fun _ => rfl) rfl ⟨by omega, by omega⟩ rfl (fun τ3 hV3 hD3 hU3 => ?_)
    refine aw_aload_n rfl rfl rfl ?_
    refine aw_aload_n rfl rfl rfl ?_
    refine aw_gk (v := e.ru) (51) rfl rfl (hV3.1.k 42 rfl) rfl (by rw [hU3, if_neg (by decide), hU2, if_neg (by decide), hU1, if_neg (by decide)]; exact hM.v51) rfl (fun _ _ => ?_)
    refine aw_fpu (55) hV3 rfl rfl (hV3.1.k 42 rfl) rfl (fun _ => rfl) rfl ⟨by omega, by omega⟩ rfl (fun τ4 hV4 hD4 hU4 => ?_)
    refine aw_iconst rfl rfl ?_
    refine aw_istore_n rfl (Nat.le_of_ble_eq_true rfl) rfl rfl ?_
    change aw _ _ _ _ 198 [some (.ref 42), some (.int (iI 0))] [] _
    have hD14 : Mod τ τ4 [42] := ((hD1.tr hD2).tr hD3).tr hD4
    have h50 : zx τ4 42 50 = (e.em.length : Int) := by rw [hU4, if_neg (by decide), hU3, if_neg (by decide), hU2, if_neg (by decide), hU1, if_neg (by decide)]; exact hM.v50
    have he : eC (zx τ4 75) (zx τ4 76) 0 e.em := by rw [hD14.z 75 rfl, hD14.z 76 rfl]; exact hM.2.2.2.2.1
    refine x_copy (B := up (up (tA A e.wr e.wa) 42 54 (e.em.length : Int)) 42 55 e.ru) (M := (e.em.length : Int)) ⟨by omega, by omega⟩ h50 (up_self _ _ _ _) (fun τ5 hV5 hD5 => ?_) _ 0 τ4 rfl (by omega) (by omega) (by rw [cpA_0]; exact hV4) Mod.rf
    refine ⟨(hD0.tr (hD14.su rfl)).tr (hD5.su rfl), Or.inl ⟨by omega, rfl, _, hV5, fun a z h1 h2 h3 => ?_, ?_, ?_, cpA_code _ _ (by omega) (by omega) he⟩⟩
    · rw [cpA_n h1 h2]
      unfold up
      rw [if_neg (by omega), if_neg (by omega)]
    · rw [cpA_n (by decide) (by decide), up_nz (by decide), up_self]
    · rw [cpA_n (by decide) (by decide), up_self]
  · dsimp only [zc] at c1
    refine aw_iconst rfl rfl ?_
    refine aw_reti rfl ?_
    exact ⟨hD0.tr ((hD1.tr hD2).su rfl), Or.inr ⟨by omega, rfl, hV2'⟩⟩
set_option maxRecDepth 10000 in
set_option maxHeartbeats 2000000 in
theorem m_tariff {d : Nat} {sz : Nat} {A : Nat → Int → Int} {σ : az_S} (hM : MV sz A σ) (hI : MI sz A) {K V S E : Int → Int} {T : Int} (hTk : Toks A K V S E T) {e : Cf} (hR : Rch K V S (CT0 0 []) e) (hfin : e.wr ≠ 0 ∨ (e.st = 4 ∧ K e.n = 0)) : cal (d + 8) 230 [.ref 42] σ (TR sz A σ e) := by
  obtain ⟨k, hk⟩ := hR
  have htp := hI.taped
  have hN : 0 ≤ A 42 40 ∧ A 42 40 ≤ 400 := htp
  have e74 : (up A 42 40 0) 74 = A 74 := up_fn (by decide)
  have hTN : TkN ((up A 42 40 0) 74) (A 42 40) K V S E T := by rw [e74]; exact hTk
  have hI1 : MI sz (up A 42 40 0) := by
    refine hI.ch0 ?_ ?_ ?_ ?_ ?_ ?_ ?_ ?_ ?_ ?_ ?_ ?_
    iterate 10 simp [up]
    · simp [up]
    · intro a ha
      have : a ≠ 42 := by rintro rfl; exact absurd ha (by decide)
      rw [up_fn this]
  refine cal_of (M := (yX12_tariff, cX12_tariff, 2, (some .int))) (cd := k_X12_tariff) (L := [some (.ref 42), none]) rfl (Nat.le_of_ble_eq_true rfl) rfl rfl ?_
  refine aw_aload_n rfl rfl rfl ?_
  refine aw_aload_n rfl rfl rfl ?_
  refine aw_gp (40) hM rfl rfl (hM.1.k 42 rfl) rfl rfl (fun _ _ => ?_)
  refine aw_fw (41) hM rfl rfl (hM.1.k 42 rfl) rfl rfl rfl ⟨by omega, by omega⟩ rfl (fun τ1 hV1 hD1 hU1 => ?_)
  refine aw_aload_n rfl rfl rfl ?_
  refine aw_iconst rfl rfl ?_
  refine aw_fpu (40) hV1 rfl rfl (hV1.1.k 42 rfl) rfl (fun _ => rfl) rfl ⟨by omega, by omega⟩ rfl (fun τ2 hV2 hD2 hU2 => ?_)
  refine aw_aload_n rfl rfl rfl ?_
  refine aw_iconst rfl rfl ?_
  refine aw_fw (42) hV2 rfl rfl (hV2.1.k 42 rfl) rfl rfl rfl ⟨by omega, by omega⟩ rfl (fun τ3 hV3 hD3 hU3 => ?_)
  refine aw_aload_n rfl rfl rfl ?_
  refine aw_iconst rfl rfl ?_
  refine aw_fw (46) hV3 rfl rfl (hV3.1.k 42 rfl) rfl rfl rfl ⟨by omega, by omega⟩ rfl (fun τ4 hV4 hD4 hU4 => ?_)
  refine aw_aload_n rfl rfl rfl ?_
  refine aw_iconst rfl rfl ?_
  refine aw_fw (47) hV4 rfl rfl (hV4.1.k 42 rfl) rfl rfl rfl ⟨by omega, by omega⟩ rfl (fun τ5 hV5 hD5 hU5 => ?_)
  refine aw_aload_n rfl rfl rfl ?_
  refine aw_iconst rfl rfl ?_
  refine aw_fw (50) hV5 rfl rfl (hV5.1.k 42 rfl) rfl rfl rfl ⟨by omega, by omega⟩ rfl (fun τ6 hV6 hD6 hU6 => ?_)
  refine aw_aload_n rfl rfl rfl ?_
  refine aw_iconst rfl rfl ?_
  refine aw_fw (51) hV6 rfl rfl (hV6.1.k 42 rfl) rfl rfl rfl ⟨by omega, by omega⟩ rfl (fun τ7 hV7 hD7 hU7 => ?_)
  refine aw_aload_n rfl rfl rfl ?_
  refine aw_iconst rfl rfl ?_
  refine aw_fw (58) hV7 rfl rfl (hV7.1.k 42 rfl) rfl rfl rfl ⟨by omega, by omega⟩ rfl (fun τ8 hV8 hD8 hU8 => ?_)
  refine aw_aload_n rfl rfl rfl ?_
  refine aw_iconst rfl rfl ?_
  refine aw_fw (60) hV8 rfl rfl (hV8.1.k 42 rfl) rfl rfl rfl ⟨by omega, by omega⟩ rfl (fun τ9 hV9 hD9 hU9 => ?_)
  refine aw_aload_n rfl rfl rfl ?_
  refine aw_iconst rfl rfl ?_
  refine aw_fw (63) hV9 rfl rfl (hV9.1.k 42 rfl) rfl rfl rfl ⟨by omega, by omega⟩ rfl (fun τ10 hV10 hD10 hU10 => ?_)
  refine aw_aload_n rfl rfl rfl ?_
  refine aw_iconst rfl rfl ?_
  refine aw_fw (78) hV10 rfl rfl (hV10.1.k 42 rfl) rfl rfl rfl ⟨by omega, by omega⟩ rfl (fun τ11 hV11 hD11 hU11 => ?_)
  have g41 : zx τ11 42 41 = A 42 40 := by rw [hU11, if_neg (by decide), hU10, if_neg (by decide), hU9, if_neg (by decide), hU8, if_neg (by decide), hU7, if_neg (by decide), hU6, if_neg (by decide), hU5, if_neg (by decide), hU4, if_neg (by decide), hU3, if_neg (by decide), hU2, if_neg (by decide), hU1, if_pos rfl]
  have g42 : zx τ11 42 42 = 0 := by rw [hU11, if_neg (by decide), hU10, if_neg (by decide), hU9, if_neg (by decide), hU8, if_neg (by decide), hU7, if_neg (by decide), hU6, if_neg (by decide), hU5, if_neg (by decide), hU4, if_neg (by decide), hU3, if_pos rfl]
  have g46 : zx τ11 42 46 = 0 := by rw [hU11, if_neg (by decide), hU10, if_neg (by decide), hU9, if_neg (by decide), hU8, if_neg (by decide), hU7, if_neg (by decide), hU6, if_neg (by decide), hU5, if_neg (by decide), hU4, if_pos rfl]
  have g47 : zx τ11 42 47 = -1 := by rw [hU11, if_neg (by decide), hU10, if_neg (by decide), hU9, if_neg (by decide), hU8, if_neg (by decide), hU7, if_neg (by decide), hU6, if_neg (by decide), hU5, if_pos rfl]
  have g50 : zx τ11 42 50 = 0 := by rw [hU11, if_neg (by decide), hU10, if_neg (by decide), hU9, if_neg (by decide), hU8, if_neg (by decide), hU7, if_neg (by decide), hU6, if_pos rfl]
  have g51 : zx τ11 42 51 = 0 := by rw [hU11, if_neg (by decide), hU10, if_neg (by decide), hU9, if_neg (by decide), hU8, if_neg (by decide), hU7, if_pos rfl]
  have g58 : zx τ11 42 58 = 0 := by rw [hU11, if_neg (by decide), hU10, if_neg (by decide), hU9, if_neg (by decide), hU8, if_pos rfl]
  have g60 : zx τ11 42 60 = 0 := by rw [hU11, if_neg (by decide), hU10, if_neg (by decide), hU9, if_pos rfl]
  have g63 : zx τ11 42 63 = 0 := by rw [hU11, if_neg (by decide), hU10, if_pos rfl]
  have g78 : zx τ11 42 78 = 4 := by rw [hU11, if_pos rfl]
  have hD : Mod σ τ11 [42] := ((((((((((hD1.tr hD2).tr hD3).tr hD4).tr hD5).tr hD6).tr hD7).tr hD8).tr hD9).tr hD10).tr hD11)
  have q0 := (hTN.2.2 0 (by omega) hTN.2.1.1).1
  have qe : E (0 - 1) = 0 := hTN.1
  rw [qe] at q0
  refine aw_aload_n rfl rfl rfl ?_
  refine aw_calc (m_next (d := d + 4) hV11 hI1 hN.1 hN.2 g41 g42 (by omega) q0) rfl rfl rfl (Nat.le_of_ble_eq_true rfl) (Or.inr ⟨_, rfl, (hV11.1.k 42 rfl)⟩) rfl ?_
  rintro _ τ' ⟨rfl, hV, hD', hU, h42, h43, h44, h45⟩
  change aw _ _ _ _ 62 [some (.ref 42), none] [] _
  have hMC : MC sz (up A 42 40 0) K V S E (A 42 40) σ τ' (CT0 0 []) := by
    refine ⟨hV, (hD.tr hD').su rfl, ⟨?_, h42, h43, h44, h45⟩, ⟨?_, ?_, ?_, ?_, ?_, ?_, ?_, ?_⟩, trivial, trivial, trivial⟩
    · rw [hU 41 (by decide) (by decide) (by decide) (by decide)]; exact g41
    · rw [hU 46 (by decide) (by decide) (by decide) (by decide)]; exact g46
    · rw [hU 47 (by decide) (by decide) (by decide) (by decide)]; exact g47
    · rw [hU 50 (by decide) (by decide) (by decide) (by decide)]; exact g50
    · rw [hU 51 (by decide) (by decide) (by decide) (by decide)]; exact g51
    · rw [hU 58 (by decide) (by decide) (by decide) (by decide)]; exact g58
    · rw [hU 60 (by decide) (by decide) (by decide) (by decide)]; exact g60
    · rw [hU 63 (by decide) (by decide) (by decide) (by decide)]; exact g63
    · rw [hU 78 (by decide) (by decide) (by decide) (by decide)]; exact g78
  have hCI : CI T (CT0 0 []) := ⟨Or.inl ⟨rfl, rfl, rfl, rfl, ⟨by decide, by decide⟩, by decide, hTN.2.1.1⟩, by show (0 : Int) + 0 + 0 ≤ 2 * 0 + 1; decide⟩
  exact x_loop hI1 hN hTN hfin (fun τ hM2 hw hC2 => x_end hTN hM2 Mod.rf hw hC2) k (CT0 0 []) τ' hk hMC hCI (by decide)
