section AzSim2
variable {p : Program} {l : Launch} {e : Env} {R : Room} {s : State} {m : MethodId} {args : Array Value} {below : List Frame} {meth : Method} {c : Code} {Q : State → Prop} {cc : ByteArray} {own : String}
variable {D : va_G} {cA : Nat → ClassId} {base : Nat} {cs : Nat → Nat} {nL n0 s0 : Nat}
theorem az_same {args : Array Value} {s : State} {own : String} {i : Nat} {q : vw_C} {k : Nat} (hts : ∀ w ∈ az_G, w.before args s = true) (hN : ∀ w ∈ lw_tbl, az_isN w = true → va_Nw w s) (h : az_fl own i q k) :
    (∃ ref, (Cond.fieldLink own i ref (q.2.1 k).2.1 (q.2.1 k).2.2.1).before args s = true ∧ ∀ x, s.fieldFound? (q.2.1 k).1 (q.2.1 k).2.1 (q.2.1 k).2.2.1 = some x → s.fieldFound? ref (q.2.1 k).2.1 (q.2.1 k).2.2.1 = some x) ∨
    (∃ ref host, (Cond.fieldLinkNest own i ref (q.2.1 k).2.1 (q.2.1 k).2.2.1 host).before args s = true ∧ ∀ x, s.fieldFound? (q.2.1 k).1 (q.2.1 k).2.1 (q.2.1 k).2.2.1 = some x → s.fieldFound? ref (q.2.1 k).2.1 (q.2.1 k).2.2.1 = some x) := by
  rcases h with h | ⟨host, h⟩ | ⟨ref, h1, h2⟩
  · exact Or.inl ⟨_, hts _ h, fun _ h9 => h9⟩
  · exact Or.inr ⟨_, host, va_Nw.use rfl (hN _ h rfl), fun _ h9 => h9⟩
  · exact Or.inl ⟨ref, hts _ h1, fun x hx => u_same (hts _ h2) x hx⟩
/-- a field is read -/
theorem az_sim_get {pc len i : Nat} {aux : List Nat} {nm : String} {L : az_V} {st : List Value} {σ : az_S} {F : az_F} {H : Heap} {locs : List Loc} {ls : Array Slot} (hC : az_Cx D cA base cs p s m args c cc own) (hn : az_next pc len (.getfield i) aux L st σ F) (hd : decode cc pc = .ok (.getfield i, len)) (hil : len = 3) (hl : az_link own nm (.getfield i) aux)
    (hR : az_Rl D cA base cs s nL n0 s0 σ L H locs ls)
    (kk : ∀ (ls' : Array Slot), az_Rl D cA base cs s nL n0 s0 F.2.2.2 F.2.1 H locs ls' → W p l e R s m args below meth c H locs (az_n F.2.2.2 - n0) (az_sl F.2.2.2 - s0) Q (F0 m F.1 ls' (F.2.2.1.map (az_tr (az_ad base cs))))) :
    W p l e R s m args below meth c H locs (az_n σ - n0) (az_sl σ - s0) Q (F0 m pc ls (st.map (az_tr (az_ad base cs)))) := by
  obtain ⟨hx, hb, hown, hts, hKx, hbase⟩ := hC
  obtain ⟨hP, hsz, hS, hok, hCc, hlv, hn0, hs0⟩ := id hR
  subst hil
  obtain ⟨ci, k, a, r, rfl, rfl, hk, rfl⟩ := hn
  rcases hl with ⟨ci', k', q, hax, hq, hkN, hfl⟩ | ⟨hax, hlk⟩ | ⟨hax, hlk⟩
  · cases hax
    have hci : ci < 14 := by
      have := (List.getElem?_eq_some_iff.mp hq).1
      simpa [vwCl] using this
    obtain ⟨ha, ha6⟩ := hok.lt (a := a) (by rw [hk]; omega)
    have hg : (az_ws cA (az_ad base cs) σ)[a]? = some (az_ad base cs a, .inr (ci, (List.range (az_nf ci)).map (fun k => az_tr (az_ad base cs) (az_fv σ a k (az_ft ci k))))) := by rw [az_ws_get ha, az_E_obj hk hci]
    have hv : ((List.range (az_nf ci)).map (fun k => az_tr (az_ad base cs) (az_fv σ a k (az_ft ci k))))[k]? = some (az_tr (az_ad base cs) (az_fv σ a k (az_ft ci k))) := by
      have : k < az_nf ci := by rw [az_cnf ci q hq]; exact hkN
      simp [this]
    rcases az_same (args := args) hts hKx.2.1 hfl with ⟨ref, h1, h2⟩ | ⟨ref, host, h1, h2⟩
    · exact va_get (D := D) (ci := ci) (C := q.1) (T := q.2.1) (N := q.2.2) hx hb hts (az_cin ci q hq) hown hKx.1 hP a hg hq k hkN h1 h2 hv hd (kk ls hR)
    · exact va_getN (D := D) (ci := ci) (C := q.1) (T := q.2.1) (N := q.2.2) hx hb hts (az_cin ci q hq) hown hKx.1 hP a hg hq k hkN h1 h2 hv hd (kk ls hR)
  · cases hax
    have hg := hok.ge (a := a) (by omega)
    have := (hCc.2.2.2.1 a hk).1
    rw [← az_ad_ge (base := base) (cs := cs) hg] at this
    exact vk_getf hx hb this hS hown (hts _ hlk) (fun _ h => h) hd (kk ls hR)
  · cases hax
    have hg := hok.ge (a := a) (by omega)
    have := (hCc.2.2.2.1 a hk).2.1
    rw [← az_ad_ge (base := base) (cs := cs) hg] at this
    exact vk_getf hx hb this hS hown (hts _ hlk) (fun _ h => h) hd (kk ls hR)
theorem az_sized {H : Heap} {locs : List Loc} {cells slots : Nat} {g : JFrame} (h : H.size ≤ s.heap.size + cells → W p l e R s m args below meth c H locs cells slots Q g) : W p l e R s m args below meth c H locs cells slots Q g := fun T hT X => h (by rw [← hT]; exact X.heapSize) T hT X
theorem az_size {σ : az_S} {H : Heap} {locs : List Loc} (hP : va_P D vwCl (az_ws cA (az_ad base cs) σ) H) (hS : va_S (fun q => base ≤ q) s.heap H locs) (hn : az_n σ ≤ 1000000) (hn0 : n0 ≤ az_n σ) (hb : s.heap.size = base + n0) (hz : H.size ≤ s.heap.size + (az_n σ - n0)) : H.size = base + az_n σ := by
  have h1 : base + az_n σ ≤ H.size := by
    by_cases h0 : az_n σ = 0
    · have := hS.1
      omega
    · have hl : az_n σ - 1 < az_n σ := by omega
      have := (hP (az_n σ - 1) _ (az_ws_get hl)).lt
      simp only at this
      rw [az_ad_lt (by omega)] at this
      omega
  omega
/-- a cell of the world is written -/
theorem az_Rl.set {σ τ : az_S} {L : az_V} {H H1 : Heap} {locs locs1 : List Loc} {ls : Array Slot} {a : Nat} (hR : az_Rl D cA base cs s nL n0 s0 σ L H locs ls) (hn : az_n τ = az_n σ) (hsl : az_sl τ = az_sl σ) (hz : H1.size ≤ s.heap.size + (az_n σ - n0)) (hb : s.heap.size = base + n0) (hP : va_P D vwCl ((az_ws cA (az_ad base cs) σ).set a (az_ad base cs a, az_E cA (az_ad base cs) τ a)) H1) (he : ∀ b, b ≠ a → az_E cA (az_ad base cs) τ b = az_E cA (az_ad base cs) σ b) (hS : va_S (fun q => base ≤ q) s.heap H1 locs1) (hok : az_ok τ) (hC : az_C base cs τ s) : az_Rl D cA base cs s nL n0 s0 τ L H1 locs1 ls := by
  obtain ⟨-, hsz, -, -, -, hlv, hn0, hs0⟩ := hR
  have hP1 : va_P D vwCl (az_ws cA (az_ad base cs) τ) H1 := by rw [az_ws_set hn he]; exact hP
  exact ⟨hP1, az_size hP1 hS hok.2.1 (by rw [hn]; exact hn0) hb (by rw [hn]; exact hz), hS, hok, hC, hlv, by rw [hn]; exact hn0, by rw [hsl]; exact hs0⟩
/-- a cell comes -/
theorem az_Rl.push {σ : az_S} {kd mm : Nat} {L : az_V} {H H1 : Heap} {locs locs1 : List Loc} {ls : Array Slot} {q : Nat} {E : va_E} (hR : az_Rl D cA base cs s nL n0 s0 σ L H locs ls) (hlt : az_n σ < 1000000) (hkd : kd < 110) (hz : H1.size ≤ s.heap.size + (az_n σ - n0 + 1)) (hb : s.heap.size = base + n0) (hP : va_P D vwCl (az_ws cA (az_ad base cs) σ ++ [(q, E)]) H1) (hD : va_D (fun q => base ≤ q) (az_ws cA (az_ad base cs) σ ++ [(q, E)])) (hE : az_E cA (az_ad base cs) (az_nw σ kd mm) (az_n σ) = E) (hS : va_S (fun q => base ≤ q) s.heap H1 locs1) : q = az_ad base cs (az_n σ) ∧ az_Rl D cA base cs s nL n0 s0 (az_nw σ kd mm) L H1 locs1 ls := by
  obtain ⟨-, hsz, -, hok, hC, hlv, hn0, hs0⟩ := hR
  have hlen : (az_ws cA (az_ad base cs) σ).length = az_n σ := by simp [az_ws]
  have hgq : (az_ws cA (az_ad base cs) σ ++ [(q, E)])[az_n σ]? = some (q, E) := by rw [List.getElem?_append_right (by omega), hlen, Nat.sub_self]; rfl
  have hq1 := (hP _ _ hgq).lt
  have hq2 : base ≤ q := hD.2 _ _ hgq
  have hq3 : ∀ i, i < az_n σ → q ≠ base + i := by
    intro i hi e
    have hgi : (az_ws cA (az_ad base cs) σ ++ [(q, E)])[i]? = some (az_ad base cs i, az_E cA (az_ad base cs) σ i) := by rw [List.getElem?_append_left (by omega), az_ws_get hi]
    have := hD.1 (az_n σ) i _ _ hgq hgi (by simp only; rw [az_ad_lt (by omega)]; exact e)
    omega
  have hq : q = base + az_n σ := by
    simp only at hq1
    by_cases h : q < base + az_n σ
    · exact absurd (show q = base + (q - base) by omega) (hq3 (q - base) (by omega))
    · omega
  have hq' : q = az_ad base cs (az_n σ) := by rw [az_ad_lt hlt]; exact hq
  refine ⟨hq', ?_⟩
  have hP1 : va_P D vwCl (az_ws cA (az_ad base cs) (az_nw σ kd mm)) H1 := by
    rw [az_ws_push (σ := σ) rfl (fun b hb => az_E_nw hb), hE, ← hq']
    exact hP
  have hok1 : az_ok (az_nw σ kd mm) := hok.nw hlt hkd
  refine ⟨hP1, az_size (n0 := n0) hP1 hS hok1.2.1 (Nat.le_succ_of_le hn0) hb ?_, hS, hok1, hC.nw hok hlt hkd, hlv, Nat.le_succ_of_le hn0, Nat.le_trans hs0 (Nat.le_add_right _ _)⟩
  show H1.size ≤ s.heap.size + (az_n σ + 1 - n0)
  omega
set_option maxHeartbeats 4000000 in
/-- a field is written -/
theorem az_sim_put {pc len i : Nat} {aux : List Nat} {L : az_V} {st : List Value} {σ : az_S} {F : az_F} {H : Heap} {locs : List Loc} {ls : Array Slot} (hC : az_Cx D cA base cs p s m args c cc own) (hb0 : s.heap.size = base + n0) (hn : az_next pc len (.putfield i) aux L st σ F) (hd : decode cc pc = .ok (.putfield i, len)) (hil : len = 3) (hl : az_link own meth.name (.putfield i) aux)
    (hR : az_Rl D cA base cs s nL n0 s0 σ L H locs ls)
    (kk : ∀ (H' : Heap) (locs' : List Loc) (ls' : Array Slot), az_Rl D cA base cs s nL n0 s0 F.2.2.2 F.2.1 H' locs' ls' → W p l e R s m args below meth c H' locs' (az_n F.2.2.2 - n0) (az_sl F.2.2.2 - s0) Q (F0 m F.1 ls' (F.2.2.1.map (az_tr (az_ad base cs))))) :
    W p l e R s m args below meth c H locs (az_n σ - n0) (az_sl σ - s0) Q (F0 m pc ls (st.map (az_tr (az_ad base cs)))) := by
  obtain ⟨hx, hb, hown, hts, hKx, hbase⟩ := hC
  obtain ⟨hP, hsz, hS, hok, hCc, hlv, hn0, hs0⟩ := id hR
  subst hil
  obtain ⟨ci, k, a, rfl, hk, hcase⟩ := hn
  obtain ⟨ci', k', q, hax, hq, hkN, hfin⟩ := hl
  cases hax
  have hci : ci < 14 := by
    have := (List.getElem?_eq_some_iff.mp hq).1
    simpa [vwCl] using this
  have hk110 : (az_sh σ a).1 < 110 := by rw [hk]; omega
  obtain ⟨ha, ha6⟩ := hok.lt (a := a) hk110
  have hD := az_D (cA := cA) (base := base) (cs := cs) hok.2.1
  have hnf : az_nf ci = q.2.2 := az_cnf ci q hq
  have hg : (az_ws cA (az_ad base cs) σ)[a]? = some (az_ad base cs a, .inr (ci, (List.range (az_nf ci)).map (fun k => az_tr (az_ad base cs) (az_fv σ a k (az_ft ci k))))) := by rw [az_ws_get ha, az_E_obj hk hci]
  have hty := az_cty ci q hq k hkN
  have htk := az_ctk ci q hq k hkN
  have hlen : k < ((List.range (az_nf ci)).map (fun k => az_tr (az_ad base cs) (az_fv σ a k (az_ft ci k)))).length := by simp [hnf, hkN]
  -- the write itself, of a value that fits
  have main : ∀ (v : Value) (r : List Value) (τ : az_S), narrow (az_tyc ci k) v = v → fits (az_tyc ci k) v = true → (∀ H1 locs1, H1.size ≤ s.heap.size + (az_n σ - n0) → va_P D vwCl ((az_ws cA (az_ad base cs) σ).set a (az_ad base cs a, .inr (ci, ((List.range (az_nf ci)).map (fun k => az_tr (az_ad base cs) (az_fv σ a k (az_ft ci k)))).set k v))) H1 → va_S (fun q => base ≤ q) s.heap H1 locs1 → W p l e R s m args below meth c H1 locs1 (az_n σ - n0) (az_sl σ - s0) Q (F0 m (pc + 3) ls r)) → W p l e R s m args below meth c H locs (az_n σ - n0) (az_sl σ - s0) Q (F0 m pc ls (v :: .ref (az_ad base cs a) :: r)) := by
    intro v r τ hnr hft k9
    rcases hfin with ⟨hf, hfl⟩ | ⟨hf, hnm, hdecl, hlk⟩
    · rcases az_same (args := args) hts hKx.2.1 hfl with ⟨ref, h1, h2⟩ | ⟨ref, host, h1, h2⟩
      · exact va_put (D := D) (ci := ci) (C := q.1) (T := q.2.1) (N := q.2.2) hx hb hts (az_cin ci q hq) (az_tyc ci) (az_cty ci q hq) (az_cnm ci q hq) hown hKx.1 hP hD hS a hg hq k hkN h1 h2 hf hty hnr hft hlen hd (fun H1 locs1 hP1 _ hS1 => az_sized (fun hz => k9 H1 locs1 hz hP1 hS1))
      · exact va_putN (D := D) (ci := ci) (C := q.1) (T := q.2.1) (N := q.2.2) hx hb hts (az_cin ci q hq) (az_tyc ci) (az_cty ci q hq) (az_cnm ci q hq) hown hKx.1 hP hD hS a hg hq k hkN h1 h2 hf hty hnr hft hlen hd (fun H1 locs1 hP1 _ hS1 => az_sized (fun hz => k9 H1 locs1 hz hP1 hS1))
    · exact va_putF (D := D) (ci := ci) (C := q.1) (T := q.2.1) (N := q.2.2) hx hb hts (az_cin ci q hq) (az_tyc ci) (az_cty ci q hq) (az_cnm ci q hq) hown hKx.1 hP hD hS a hg hq k hkN (hts _ hlk) (fun _ h9 => h9) hf hnm hdecl hty hnr hft hlen hd (fun H1 locs1 hP1 _ hS1 => az_sized (fun hz => k9 H1 locs1 hz hP1 hS1))
  rcases hcase with ⟨hft, v, r, rfl, rfl⟩ | ⟨hft, v, r, rfl, rfl⟩ | ⟨hft, v, r, rfl, rfl⟩
  · have hT : az_tyc ci k = .int := by rw [hft] at htk; exact of_decide_eq_true htk
    refine main (.int v) (r.map (az_tr (az_ad base cs))) (az_pi σ a k v) (by rw [hT]; rfl) (by rw [hT]; rfl) (fun H1 locs1 hz hP1 hS1 => kk H1 locs1 ls (hR.set (τ := az_pi σ a k v) rfl rfl hz hb0 ?_ (fun b hb => az_E_pi hb) hS1 hok.pi (hCc.pi hk110)))
    rw [az_E_obj (σ := az_pi σ a k v) hk hci, az_fs_pi hft]
    exact hP1
  · have hT : az_tyc ci k = .long := by rw [hft] at htk; exact of_decide_eq_true htk
    refine main (.long v) (r.map (az_tr (az_ad base cs))) (az_pl σ a k v) (by rw [hT]; rfl) (by rw [hT]; rfl) (fun H1 locs1 hz hP1 hS1 => kk H1 locs1 ls (hR.set (τ := az_pl σ a k v) rfl rfl hz hb0 ?_ (fun b hb => az_E_pl hb) hS1 hok.pl hCc.pl))
    rw [az_E_obj (σ := az_pl σ a k v) hk hci, az_fs_pl hft]
    exact hP1
  · have hT : az_tk 2 (az_tyc ci k) = true := by rw [hft] at htk; exact htk
    have e : (va_rf v :: .ref a :: r).map (az_tr (az_ad base cs)) = va_rf (v.map (az_ad base cs)) :: .ref (az_ad base cs a) :: r.map (az_tr (az_ad base cs)) := by simp only [List.map_cons, az_tr_rf]; rfl
    rw [e]
    obtain ⟨g1, g2⟩ := az_narrow_ref hT (v.map (az_ad base cs))
    refine main (va_rf (v.map (az_ad base cs))) (r.map (az_tr (az_ad base cs))) (az_pr σ a k v) g1 g2 (fun H1 locs1 hz hP1 hS1 => kk H1 locs1 ls (hR.set (τ := az_pr σ a k v) rfl rfl hz hb0 ?_ (fun b hb => az_E_pr hb) hS1 hok.pr (hCc.pr hk110)))
    rw [az_E_obj (σ := az_pr σ a k v) hk hci, az_fs_pr hft]
    exact hP1
end AzSim2
