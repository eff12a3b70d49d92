/-! THE CLASS'S STATE over the table A: g says where the persons, things, grants, stalls lie -/
def gP (g : Nat → Nat) (j : Int) : Nat := g (200 + j.toNat)
def gT (g : Nat → Nat) (t : Int) : Nat := g (300 + 4 * t.toNat)
def gTd (g : Nat → Nat) (t : Int) : Nat := g (301 + 4 * t.toNat)
def gTh (g : Nat → Nat) (t : Int) : Nat := g (302 + 4 * t.toNat)
def gTt (g : Nat → Nat) (t : Int) : Nat := g (303 + 4 * t.toNat)
def gG (g : Nat → Nat) (j : Int) : Nat := g (400 + j.toNat)
def gS (g : Nat → Nat) (j : Int) : Nat := g (500 + 2 * j.toNat)
def gSp (g : Nat → Nat) (j : Int) : Nat := g (501 + 2 * j.toNat)
def live (A : Nat → Int → Int) (c : Nat) : Prop := (200 ≤ c ∧ c < 200 + (A 42 9).toNat) ∨ (300 ≤ c ∧ c < 300 + 4 * (A 42 12).toNat) ∨ (400 ≤ c ∧ c < 400 + (A 42 27).toNat) ∨ (500 ≤ c ∧ c < 500 + 2 * (A 42 66).toNat)
/-- a list of n at a, its row at q -/
def cLS (σ : az_S) (a : Nat) (n : Int) (q : Nat) (el : Int → Nat) : Prop := zx σ a 2 = n ∧ az_r σ a 1 = some q ∧ ((n = 0 ∧ q = 1000001) ∨ (103 ≤ q ∧ q < az_n σ ∧ ∃ cap : Nat, az_sh σ q = (104, cap) ∧ n ≤ cap ∧ (1 ≤ cap ∧ cap ≤ 200) ∧ ∀ j : Int, 0 ≤ j → j < n → az_r σ q j.toNat = some (el j)))
def CP (A : Nat → Int → Int) (g : Nat → Nat) (σ : az_S) (j : Int) : Prop := az_sh σ (gP g j) = (4, 2) ∧ zx σ (gP g j) 0 = A 47 j ∧ (0 ≤ A 47 j → zx σ (gP g j) 1 = A 48 j)
def CT (A : Nat → Int → Int) (g : Nat → Nat) (σ : az_S) (t : Int) : Prop := (az_sh σ (gT g t) = (11, 14) ∧ az_sh σ (gTd g t) = (100, 41) ∧ az_sh σ (gTh g t) = (100, 41) ∧ az_sh σ (gTt g t) = (100, 41)) ∧ (az_r σ (gT g t) 7 = some (gTd g t) ∧ az_r σ (gT g t) 8 = some (gTh g t) ∧ az_r σ (gT g t) 9 = some (gTt g t)) ∧ (zx σ (gT g t) 0 = A 49 t ∧ zx σ (gT g t) 1 = A 50 t ∧ zx σ (gT g t) 2 = A 51 t ∧ zx σ (gT g t) 3 = A 52 t ∧ zx σ (gT g t) 4 = A 53 t ∧ zx σ (gT g t) 5 = A 54 t ∧ zx σ (gT g t) 6 = A 55 t ∧ zx σ (gT g t) 10 = A 56 t ∧ zx σ (gT g t) 11 = A 60 t ∧ (0 ≤ A 60 t → zx σ (gT g t) 12 = A 61 t) ∧ zx σ (gT g t) 13 = A 62 t) ∧ ∀ i : Int, 0 ≤ i → i < A 56 t → zx σ (gTd g t) i = A 57 (41 * t + i) ∧ zx σ (gTh g t) i = A 58 (41 * t + i) ∧ zx σ (gTt g t) i = A 59 (41 * t + i)
def CG (A : Nat → Int → Int) (g : Nat → Nat) (σ : az_S) (j : Int) : Prop := az_sh σ (gG g j) = (1, 12) ∧ az_r σ (gG g j) 1 = some (gP g (A 63 j)) ∧ zx σ (gG g j) 0 = A 63 j ∧ zx σ (gG g j) 2 = A 64 j ∧ zx σ (gG g j) 3 = A 65 j ∧ zx σ (gG g j) 4 = A 72 j ∧ zx σ (gG g j) 5 = A 73 j ∧ zx σ (gG g j) 6 = A 66 j ∧ zx σ (gG g j) 7 = A 67 j ∧ zx σ (gG g j) 8 = A 68 j ∧ zx σ (gG g j) 9 = A 69 j ∧ zx σ (gG g j) 10 = A 70 j ∧ zx σ (gG g j) 11 = A 71 j
def CS (A : Nat → Int → Int) (g : Nat → Nat) (σ : az_S) (j : Int) : Prop := az_sh σ (gS g j) = (8, 3) ∧ az_sh σ (gSp g j) = (100, 12) ∧ az_r σ (gS g j) 2 = some (gSp g j) ∧ zx σ (gS g j) 0 = A 85 j ∧ zx σ (gS g j) 1 = A 86 j ∧ ∀ h : Int, 0 ≤ h → h < 12 → zx σ (gSp g j) h = A 87 (12 * j + h)
def CR (sz : Nat) (κ : Nat × (Nat → Int32) × Option Nat) (A : Nat → Int → Int) (g : Nat → Nat) (σ : az_S) : Prop := (FX sz σ) ∧ (∀ a : Nat, 1000000 ≤ a → az_sh σ a = az_sh0 κ.1 a ∧ az_i σ a = az_i0 κ.2.1 a ∧ az_r σ a = az_r0 κ.2.2 a) ∧ (103 ≤ az_n σ) ∧ (zx σ 0 15 = A 42 3) ∧ (zx σ 28 0 = A 42 0 ∧ zx σ 28 1 = A 42 1 ∧ zx σ 28 2 = A 42 2) ∧ (zx σ 1 3 = A 42 6) ∧ (∀ j : Int, 0 ≤ j → j < 144 → zx σ 2 j = A 43 j ∧ zx σ 3 j = A 44 j) ∧ (∀ j : Int, 0 ≤ j → j < A 42 6 → zx σ 4 j = 12 * A 45 j + A 46 j) ∧ (zx σ 0 16 = A 42 48 ∧ zx σ 0 17 = A 42 49) ∧ (zx σ 9 1 = A 42 40 ∧ ∀ j : Int, 0 ≤ j → j < A 42 40 → zx σ 10 j = A 74 j % 256) ∧ (zx σ 33 7 = A 42 85 ∧ zq σ 33 8 = (if 0 < A 42 85 then A 42 86 else -1) ∧ ∀ j : Int, 0 ≤ j → j < A 42 85 → zx σ 34 j = A 101 j) ∧ ((g 701 = 0 ∨ g 701 = 1) ∧ az_r σ 33 3 = some (36 + g 701) ∧ az_r σ 33 4 = some (37 - g 701) ∧ az_r σ 33 5 = some (38 + g 701) ∧ az_r σ 33 6 = some (39 - g 701)) ∧ ((g 700 = 16 ∨ g 700 = 22) ∧ az_r σ 0 13 = some (g 700) ∧ az_r σ 0 14 = some (38 - g 700)) ∧ (cLS σ 5 (A 42 9) (g 600) (gP g)) ∧ (cLS σ 6 (A 42 12) (g 601) (gT g)) ∧ (cLS σ 7 (A 42 27) (g 602) (gG g)) ∧ (cLS σ 8 (A 42 66) (g 603) (gS g)) ∧ (∀ c : Nat, live A c → 103 ≤ g c ∧ g c < az_n σ) ∧ (∀ c c' : Nat, live A c → live A c' → g c = g c' → c = c') ∧ (∀ c c' : Nat, 600 ≤ c → c < 604 → 600 ≤ c' → c' < 604 → g c = g c' → g c < 1000000 → c = c') ∧ (∀ j : Int, 0 ≤ j → j < A 42 9 → CP A g σ j) ∧ (∀ t : Int, 0 ≤ t → t < A 42 12 → CT A g σ t) ∧ (∀ j : Int, 0 ≤ j → j < A 42 27 → CG A g σ j) ∧ (∀ j : Int, 0 ≤ j → j < A 42 66 → CS A g σ j) ∧ (az_n σ ≤ 900000)
theorem CR.f {sz : Nat} {κ : Nat × (Nat → Int32) × Option Nat} {A : Nat → Int → Int} {g : Nat → Nat} {σ : az_S} (h : CR sz κ A g σ) : FX sz σ := h.1
theorem CR.k {sz : Nat} {κ : Nat × (Nat → Int32) × Option Nat} {A : Nat → Int → Int} {g : Nat → Nat} {σ : az_S} (h : CR sz κ A g σ) : ∀ a : Nat, 1000000 ≤ a → az_sh σ a = az_sh0 κ.1 a ∧ az_i σ a = az_i0 κ.2.1 a ∧ az_r σ a = az_r0 κ.2.2 a := h.2.1
theorem CR.n {sz : Nat} {κ : Nat × (Nat → Int32) × Option Nat} {A : Nat → Int → Int} {g : Nat → Nat} {σ : az_S} (h : CR sz κ A g σ) : 103 ≤ az_n σ := h.2.2.1
theorem CR.today {sz : Nat} {κ : Nat × (Nat → Int32) × Option Nat} {A : Nat → Int → Int} {g : Nat → Nat} {σ : az_S} (h : CR sz κ A g σ) : zx σ 0 15 = A 42 3 := h.2.2.2.1
theorem CR.ground {sz : Nat} {κ : Nat × (Nat → Int32) × Option Nat} {A : Nat → Int → Int} {g : Nat → Nat} {σ : az_S} (h : CR sz κ A g σ) : zx σ 28 0 = A 42 0 ∧ zx σ 28 1 = A 42 1 ∧ zx σ 28 2 = A 42 2 := h.2.2.2.2.1
theorem CR.clouds {sz : Nat} {κ : Nat × (Nat → Int32) × Option Nat} {A : Nat → Int → Int} {g : Nat → Nat} {σ : az_S} (h : CR sz κ A g σ) : zx σ 1 3 = A 42 6 := h.2.2.2.2.2.1
theorem CR.sun {sz : Nat} {κ : Nat × (Nat → Int32) × Option Nat} {A : Nat → Int → Int} {g : Nat → Nat} {σ : az_S} (h : CR sz κ A g σ) : ∀ j : Int, 0 ≤ j → j < 144 → zx σ 2 j = A 43 j ∧ zx σ 3 j = A 44 j := h.2.2.2.2.2.2.1
theorem CR.cld {sz : Nat} {κ : Nat × (Nat → Int32) × Option Nat} {A : Nat → Int → Int} {g : Nat → Nat} {σ : az_S} (h : CR sz κ A g σ) : ∀ j : Int, 0 ≤ j → j < A 42 6 → zx σ 4 j = 12 * A 45 j + A 46 j := h.2.2.2.2.2.2.2.1
theorem CR.fault {sz : Nat} {κ : Nat × (Nat → Int32) × Option Nat} {A : Nat → Int → Int} {g : Nat → Nat} {σ : az_S} (h : CR sz κ A g σ) : zx σ 0 16 = A 42 48 ∧ zx σ 0 17 = A 42 49 := h.2.2.2.2.2.2.2.2.1
theorem CR.tape {sz : Nat} {κ : Nat × (Nat → Int32) × Option Nat} {A : Nat → Int → Int} {g : Nat → Nat} {σ : az_S} (h : CR sz κ A g σ) : zx σ 9 1 = A 42 40 ∧ ∀ j : Int, 0 ≤ j → j < A 42 40 → zx σ 10 j = A 74 j % 256 := h.2.2.2.2.2.2.2.2.2.1
theorem CR.path {sz : Nat} {κ : Nat × (Nat → Int32) × Option Nat} {A : Nat → Int → Int} {g : Nat → Nat} {σ : az_S} (h : CR sz κ A g σ) : zx σ 33 7 = A 42 85 ∧ zq σ 33 8 = (if 0 < A 42 85 then A 42 86 else -1) ∧ ∀ j : Int, 0 ≤ j → j < A 42 85 → zx σ 34 j = A 101 j := h.2.2.2.2.2.2.2.2.2.2.1
theorem CR.route {sz : Nat} {κ : Nat × (Nat → Int32) × Option Nat} {A : Nat → Int → Int} {g : Nat → Nat} {σ : az_S} (h : CR sz κ A g σ) : (g 701 = 0 ∨ g 701 = 1) ∧ az_r σ 33 3 = some (36 + g 701) ∧ az_r σ 33 4 = some (37 - g 701) ∧ az_r σ 33 5 = some (38 + g 701) ∧ az_r σ 33 6 = some (39 - g 701) := h.2.2.2.2.2.2.2.2.2.2.2.1
theorem CR.force {sz : Nat} {κ : Nat × (Nat → Int32) × Option Nat} {A : Nat → Int → Int} {g : Nat → Nat} {σ : az_S} (h : CR sz κ A g σ) : (g 700 = 16 ∨ g 700 = 22) ∧ az_r σ 0 13 = some (g 700) ∧ az_r σ 0 14 = some (38 - g 700) := h.2.2.2.2.2.2.2.2.2.2.2.2.1
theorem CR.lP {sz : Nat} {κ : Nat × (Nat → Int32) × Option Nat} {A : Nat → Int → Int} {g : Nat → Nat} {σ : az_S} (h : CR sz κ A g σ) : cLS σ 5 (A 42 9) (g 600) (gP g) := h.2.2.2.2.2.2.2.2.2.2.2.2.2.1
theorem CR.lT {sz : Nat} {κ : Nat × (Nat → Int32) × Option Nat} {A : Nat → Int → Int} {g : Nat → Nat} {σ : az_S} (h : CR sz κ A g σ) : cLS σ 6 (A 42 12) (g 601) (gT g) := h.2.2.2.2.2.2.2.2.2.2.2.2.2.2.1
theorem CR.lG {sz : Nat} {κ : Nat × (Nat → Int32) × Option Nat} {A : Nat → Int → Int} {g : Nat → Nat} {σ : az_S} (h : CR sz κ A g σ) : cLS σ 7 (A 42 27) (g 602) (gG g) := h.2.2.2.2.2.2.2.2.2.2.2.2.2.2.2.1
theorem CR.lS {sz : Nat} {κ : Nat × (Nat → Int32) × Option Nat} {A : Nat → Int → Int} {g : Nat → Nat} {σ : az_S} (h : CR sz κ A g σ) : cLS σ 8 (A 42 66) (g 603) (gS g) := h.2.2.2.2.2.2.2.2.2.2.2.2.2.2.2.2.1
theorem CR.pl {sz : Nat} {κ : Nat × (Nat → Int32) × Option Nat} {A : Nat → Int → Int} {g : Nat → Nat} {σ : az_S} (h : CR sz κ A g σ) : ∀ c : Nat, live A c → 103 ≤ g c ∧ g c < az_n σ := h.2.2.2.2.2.2.2.2.2.2.2.2.2.2.2.2.2.1
theorem CR.inj {sz : Nat} {κ : Nat × (Nat → Int32) × Option Nat} {A : Nat → Int → Int} {g : Nat → Nat} {σ : az_S} (h : CR sz κ A g σ) : ∀ c c' : Nat, live A c → live A c' → g c = g c' → c = c' := h.2.2.2.2.2.2.2.2.2.2.2.2.2.2.2.2.2.2.1
theorem CR.inq {sz : Nat} {κ : Nat × (Nat → Int32) × Option Nat} {A : Nat → Int → Int} {g : Nat → Nat} {σ : az_S} (h : CR sz κ A g σ) : ∀ c c' : Nat, 600 ≤ c → c < 604 → 600 ≤ c' → c' < 604 → g c = g c' → g c < 1000000 → c = c' := h.2.2.2.2.2.2.2.2.2.2.2.2.2.2.2.2.2.2.2.1
theorem CR.person {sz : Nat} {κ : Nat × (Nat → Int32) × Option Nat} {A : Nat → Int → Int} {g : Nat → Nat} {σ : az_S} (h : CR sz κ A g σ) : ∀ j : Int, 0 ≤ j → j < A 42 9 → CP A g σ j := h.2.2.2.2.2.2.2.2.2.2.2.2.2.2.2.2.2.2.2.2.1
theorem CR.thing {sz : Nat} {κ : Nat × (Nat → Int32) × Option Nat} {A : Nat → Int → Int} {g : Nat → Nat} {σ : az_S} (h : CR sz κ A g σ) : ∀ t : Int, 0 ≤ t → t < A 42 12 → CT A g σ t := h.2.2.2.2.2.2.2.2.2.2.2.2.2.2.2.2.2.2.2.2.2.1
theorem CR.grant {sz : Nat} {κ : Nat × (Nat → Int32) × Option Nat} {A : Nat → Int → Int} {g : Nat → Nat} {σ : az_S} (h : CR sz κ A g σ) : ∀ j : Int, 0 ≤ j → j < A 42 27 → CG A g σ j := h.2.2.2.2.2.2.2.2.2.2.2.2.2.2.2.2.2.2.2.2.2.2.1
theorem CR.stall {sz : Nat} {κ : Nat × (Nat → Int32) × Option Nat} {A : Nat → Int → Int} {g : Nat → Nat} {σ : az_S} (h : CR sz κ A g σ) : ∀ j : Int, 0 ≤ j → j < A 42 66 → CS A g σ j := h.2.2.2.2.2.2.2.2.2.2.2.2.2.2.2.2.2.2.2.2.2.2.2.1
theorem CR.lim {sz : Nat} {κ : Nat × (Nat → Int32) × Option Nat} {A : Nat → Int → Int} {g : Nat → Nat} {σ : az_S} (h : CR sz κ A g σ) : az_n σ ≤ 900000 := h.2.2.2.2.2.2.2.2.2.2.2.2.2.2.2.2.2.2.2.2.2.2.2.2
/-- the class's scratch, and all that is the reference's -/
def ca (a : Nat) : Bool := [11, 12, 13, 14, 15, 21, 27, 29, 30, 31, 32, 35, 36, 37, 38, 39, 40, 41].contains a || (Nat.ble 42 a && Nat.ble a 102)
theorem ca_lt {a : Nat} (h : ca a = true) : a < 103 := by
  unfold ca at h
  rw [Bool.or_eq_true, Bool.and_eq_true] at h
  rcases h with h | ⟨h, k⟩
  · have := List.contains_iff_mem.mp h
    simp at this
    omega
  · have := Nat.le_of_ble_eq_true k
    omega
theorem Mod.nz {σ τ : az_S} {S : List Nat} (h : Mod σ τ S) {a : Nat} (ha : a ∉ S) : zx τ a = zx σ a := by
  funext w
  unfold zx zi
  rw [h.2.2.2.2.1 a ha]
theorem cLS.mod {σ τ : az_S} {a : Nat} {n : Int} {q : Nat} {el : Int → Nat} (k : cLS σ a n q el) (h1 : zx τ a = zx σ a) (h2 : az_r τ = az_r σ) (h3 : az_sh τ = az_sh σ) (h4 : τ.1 = σ.1) : cLS τ a n q el := by
  obtain ⟨k1, k2, k3⟩ := k
  refine ⟨by rw [h1]; exact k1, by rw [h2]; exact k2, ?_⟩
  rcases k3 with k3 | ⟨k3, k4, cap, k5, k6, k7, k8⟩
  · exact Or.inl k3
  · exact Or.inr ⟨k3, by rw [az_n, h4]; exact k4, cap, by rw [h3]; exact k5, k6, k7, fun j a b => by rw [h2]; exact k8 j a b⟩
set_option maxHeartbeats 1000000 in
theorem CR.mod {sz : Nat} {κ : Nat × (Nat → Int32) × Option Nat} {A : Nat → Int → Int} {g : Nat → Nat} {σ : az_S} {τ : az_S} {S : List Nat} (h : CR sz κ A g σ) (hI : MI sz A) (hd : Mod σ τ S) (hs : S.all ca = true) : CR sz κ A g τ := by
  have hlo : ∀ a, a ∈ S → ca a = true := fun a ha => List.all_eq_true.mp hs a ha
  have hfx : ∀ a, ca a = false → a ∉ S := fun a ha q => by rw [hlo a q] at ha; cases ha
  have hbig : ∀ a, 103 ≤ a → a ∉ S := fun a ha q => by have := ca_lt (hlo a q); omega
  have e0 := hd.nz (hfx 0 rfl)
  have e1 := hd.nz (hfx 1 rfl)
  have e2 := hd.nz (hfx 2 rfl)
  have e3 := hd.nz (hfx 3 rfl)
  have e4 := hd.nz (hfx 4 rfl)
  have e5 := hd.nz (hfx 5 rfl)
  have e6 := hd.nz (hfx 6 rfl)
  have e7 := hd.nz (hfx 7 rfl)
  have e8 := hd.nz (hfx 8 rfl)
  have e9 := hd.nz (hfx 9 rfl)
  have e10 := hd.nz (hfx 10 rfl)
  have e28 := hd.nz (hfx 28 rfl)
  have e33 := hd.nz (hfx 33 rfl)
  have e34 := hd.nz (hfx 34 rfl)
  have q33 : zq τ 33 = zq σ 33 := by
    funext w
    unfold zq
    rw [hd.2.2.2.2.2 33 (hfx 33 rfl)]
  have en : az_n τ = az_n σ := hd.1
  have er := hd.2.2.2.1
  have es := hd.2.2.1
  have hth := hI.things
  have hpe := hI.people
  have hgr := hI.grants
  have hst := hI.stalls
  have zP : ∀ j : Int, 0 ≤ j → j < A 42 9 → zx τ (gP g j) = zx σ (gP g j) := fun j h0 h1 => hd.nz (hbig _ (h.pl (200 + j.toNat) (by unfold live; omega)).1)
  have zT : ∀ j : Int, 0 ≤ j → j < A 42 12 → zx τ (gT g j) = zx σ (gT g j) := fun j h0 h1 => hd.nz (hbig _ (h.pl (300 + 4 * j.toNat) (by unfold live; omega)).1)
  have zTd : ∀ j : Int, 0 ≤ j → j < A 42 12 → zx τ (gTd g j) = zx σ (gTd g j) := fun j h0 h1 => hd.nz (hbig _ (h.pl (301 + 4 * j.toNat) (by unfold live; omega)).1)
  have zTh : ∀ j : Int, 0 ≤ j → j < A 42 12 → zx τ (gTh g j) = zx σ (gTh g j) := fun j h0 h1 => hd.nz (hbig _ (h.pl (302 + 4 * j.toNat) (by unfold live; omega)).1)
  have zTt : ∀ j : Int, 0 ≤ j → j < A 42 12 → zx τ (gTt g j) = zx σ (gTt g j) := fun j h0 h1 => hd.nz (hbig _ (h.pl (303 + 4 * j.toNat) (by unfold live; omega)).1)
  have zG : ∀ j : Int, 0 ≤ j → j < A 42 27 → zx τ (gG g j) = zx σ (gG g j) := fun j h0 h1 => hd.nz (hbig _ (h.pl (400 + j.toNat) (by unfold live; omega)).1)
  have zS : ∀ j : Int, 0 ≤ j → j < A 42 66 → zx τ (gS g j) = zx σ (gS g j) := fun j h0 h1 => hd.nz (hbig _ (h.pl (500 + 2 * j.toNat) (by unfold live; omega)).1)
  have zSp : ∀ j : Int, 0 ≤ j → j < A 42 66 → zx τ (gSp g j) = zx σ (gSp g j) := fun j h0 h1 => hd.nz (hbig _ (h.pl (501 + 2 * j.toNat) (by unfold live; omega)).1)
  refine ⟨hd.fx h.f, ?_, ?_, ?_, ?_, ?_, ?_, ?_, ?_, ?_, ?_, ?_, ?_, h.lP.mod e5 er es hd.1, h.lT.mod e6 er es hd.1, h.lG.mod e7 er es hd.1, h.lS.mod e8 er es hd.1, ?_, h.inj, h.inq, ?_, ?_, ?_, ?_, ?_⟩
  · intro a ha
    rw [es, er, hd.2.2.2.2.1 a (hbig a (by omega))]
    exact h.k a ha
  · rw [en]; exact h.n
  · rw [e0]; exact h.today
  · rw [e28]; exact h.ground
  · rw [e1]; exact h.clouds
  · rw [e2, e3]; exact h.sun
  · rw [e4]; exact h.cld
  · rw [e0]; exact h.fault
  · rw [e9, e10]; exact h.tape
  · rw [e33, q33, e34]; exact h.path
  · rw [er]; exact h.route
  · rw [er]; exact h.force
  · rw [en]; exact h.pl
  · intro j h0 h1; unfold CP; rw [es, zP j h0 h1]; exact h.person j h0 h1
  · intro j h0 h1; unfold CT; rw [es, er, zT j h0 h1, zTd j h0 h1, zTh j h0 h1, zTt j h0 h1]; exact h.thing j h0 h1
  · intro j h0 h1; unfold CG; rw [es, er, zG j h0 h1]; exact h.grant j h0 h1
  · intro j h0 h1; unfold CS; rw [es, er, zS j h0 h1, zSp j h0 h1]; exact h.stall j h0 h1
  · rw [en]; exact h.lim
section AwRules6
variable {d : Nat} {cd : List az_I} {rt : Option FieldType} {P : Option Value → az_S → Prop} {pc p' : Nat} {L : az_V} {st : List Value} {σ : az_S} {sz : Nat} {κ : Nat × (Nat → Int32) × Option Nat} {A : Nat → Int → Int} {g : Nat → Nat}
/-- a field whose value is known -/
theorem aw_gk {i ci k a : Nat} {v : Int} (j : Int) (hf : az_fetch cd pc = some (3, .getfield i, [ci, k])) (hk : az_ft ci k = 0) (hs : (az_sh σ a).1 = ci) (hj : zx σ a j = zi σ a k) (hv : zx σ a j = v) (hp : pc + 3 = p') (h : -2147483648 ≤ v → v < 2147483648 → aw d cd rt P p' L (.int (iI v) :: st) σ) : aw d cd rt P pc L (.ref a :: st) σ := by
  subst hv
  exact aw_gs j hf hk hs hj hp h
theorem aw_glk {i ci k a : Nat} {v : Int} (j : Int) (hf : az_fetch cd pc = some (3, .getfield i, [ci, k])) (hk : az_ft ci k = 1) (hs : (az_sh σ a).1 = ci) (hj : zq σ a j = (az_l σ a k).toInt) (hv : zq σ a j = v) (hp : pc + 3 = p') (h : -9223372036854775808 ≤ v → v < 9223372036854775808 → aw d cd rt P p' L (.long (lI v) :: st) σ) : aw d cd rt P pc L (.ref a :: st) σ := by
  subst hv
  exact aw_gl j hf hk hs hj hp h
/-- an element whose value is known -/
theorem aw_ak {a N : Nat} {z v : Int} (hf : az_fetch cd pc = some (1, .iaload, [])) (hs : az_sh σ a = (100, N)) (hN : N ≤ 10000) (h0 : 0 ≤ z) (hj : z < N) (hv : zx σ a z = v) (hp : pc + 1 = p') (h : -2147483648 ≤ v → v < 2147483648 → aw d cd rt P p' L (.int (iI v) :: st) σ) : aw d cd rt P pc L (.int (iI z) :: .ref a :: st) σ := by
  subst hv
  exact aw_as hf hs hN h0 hj hp h
theorem aw_bk {a N : Nat} {z v : Int} {kd : Nat} (hf : az_fetch cd pc = some (1, .baload, [])) (hs : az_sh σ a = (kd, N)) (hkd : kd = 101 ∨ kd = 102 ∨ kd = 112) (hN : N ≤ 10000) (h0 : 0 ≤ z) (hj : z < N) (hv : zx σ a z = v) (hp : pc + 1 = p') (h : -2147483648 ≤ v → v < 2147483648 → aw d cd rt P p' L (.int (iI v) :: st) σ) : aw d cd rt P pc L (.int (iI z) :: .ref a :: st) σ := by
  subst hv
  exact aw_bs hf hs hkd hN h0 hj hp h
theorem aw_cast {i ci a : Nat} (hf : az_fetch cd pc = some (3, .checkcast i, [ci])) (hc : Nat.ble (ci + 1) 14 = true) (hs : (az_sh σ a).1 = ci) (hp : pc + 3 = p') (h : aw d cd rt P p' L (.ref a :: st) σ) : aw d cd rt P pc L (.ref a :: st) σ := by
  subst hp
  exact aw_nx hf (Nat.le_of_ble_eq_true rfl) ⟨ci, a, st, rfl, Nat.le_of_ble_eq_true hc, rfl, hs, rfl⟩ h
theorem aw_ifnn {off : Int} {a : Nat} (hf : az_fetch cd pc = some (3, .ifnull off, [])) (hp : pc + 3 = p') (h : aw d cd rt P p' L st σ) : aw d cd rt P pc L (.ref a :: st) σ := by
  subst hp
  exact aw_nx hf (Nat.le_of_ble_eq_true rfl) ⟨some a, st, rfl, Or.inr ⟨by simp, rfl⟩⟩ h
theorem aw_aaload {a N b : Nat} {z : Int} (hf : az_fetch cd pc = some (1, .aaload, [])) (hs : az_sh σ a = (104, N)) (hN : N ≤ 10000) (h0 : 0 ≤ z) (hj : z < N) (hv : az_r σ a z.toNat = some b) (hp : pc + 1 = p') (h : aw d cd rt P p' L (.ref b :: st) σ) : aw d cd rt P pc L (.int (iI z) :: .ref a :: st) σ := by
  subst hp
  refine aw_nx hf (Nat.le_of_ble_eq_true rfl) ⟨_, a, st, rfl, by rw [hs], by rw [hs]; exact iI_in (by omega) (by omega) hN, rfl⟩ ?_
  show aw d cd rt P (pc + 1) L (va_rf (az_r σ a (iI z).toNatClampNeg) :: st) σ
  rw [iI_clamp (by omega) (by omega), hv]
  exact h
theorem aw_gstr {i k b : Nat} (hf : az_fetch cd pc = some (3, .getstatic i, [k, 2])) (hv : az_r σ 1000007 k = some b) (hp : pc + 3 = p') (h : aw d cd rt P p' L (.ref b :: st) σ) : aw d cd rt P pc L st σ := by
  subst hp
  refine aw_nx hf (Nat.le_of_ble_eq_true rfl) ⟨k, 2, rfl, rfl⟩ ?_
  show aw d cd rt P (pc + 3) L (va_rf (az_r σ 1000007 k) :: st) σ
  rw [hv]
  exact h
theorem aw_gsti {i k : Nat} {v : Int} (hf : az_fetch cd pc = some (3, .getstatic i, [k, 0])) (hv : az_i σ 1000007 k = iI v) (hp : pc + 3 = p') (h : aw d cd rt P p' L (.int (iI v) :: st) σ) : aw d cd rt P pc L st σ := by
  subst hp
  refine aw_nx hf (Nat.le_of_ble_eq_true rfl) ⟨k, 0, rfl, rfl⟩ ?_
  show aw d cd rt P (pc + 3) L (.int (az_i σ 1000007 k) :: st) σ
  rw [hv]
  exact h
/-- a store into the class's scratch -/
theorem aw_cs {a N : Nat} {z x : Int} (hC : CR sz κ A g σ) (hI : MI sz A) (hf : az_fetch cd pc = some (1, .iastore, [])) (hs : az_sh σ a = (100, N)) (hN : N ≤ 10000) (hq : [a].all ca = true) (h0 : 0 ≤ z) (hj : z < N) (hx : inI x) (hp : pc + 1 = p') (h : ∀ τ, CR sz κ A g τ → Mod σ τ [a] → (∀ w, zx τ a w = if w = z then x else zx σ a w) → aw d cd rt P p' L st τ) : aw d cd rt P pc L (.int (iI x) :: .int (iI z) :: .ref a :: st) σ := by
  have hd : Mod σ (az_pi σ a z.toNat (iI x)) [a] := Mod_pi (by simp)
  refine aw_sz hf hs hN h0 hj hp (h _ (hC.mod hI hd hq) hd (fun w => ?_))
  rw [zx_pi h0 hx]
  simp
theorem aw_cb {a N : Nat} {z x : Int} (hC : CR sz κ A g σ) (hI : MI sz A) (hf : az_fetch cd pc = some (1, .bastore, [])) (hs : az_sh σ a = (101, N)) (hN : N ≤ 10000) (hq : [a].all ca = true) (h0 : 0 ≤ z) (hj : z < N) (hx : x = 0 ∨ x = 1) (hp : pc + 1 = p') (h : ∀ τ, CR sz κ A g τ → Mod σ τ [a] → (∀ w, zx τ a w = if w = z then x else zx σ a w) → aw d cd rt P p' L st τ) : aw d cd rt P pc L (.int (iI x) :: .int (iI z) :: .ref a :: st) σ := by
  have hd : Mod σ (az_pi σ a z.toNat (iI x)) [a] := Mod_pi (by simp)
  refine aw_bastore hf hs hN h0 hj hx hp (h _ (hC.mod hI hd hq) hd (fun w => ?_))
  rw [zx_pi h0 (by rcases hx with rfl | rfl <;> exact ⟨by decide, by decide⟩)]
  simp
theorem aw_cl {a N : Nat} {z x : Int} (hC : CR sz κ A g σ) (hI : MI sz A) (hf : az_fetch cd pc = some (1, .lastore, [])) (hs : az_sh σ a = (103, N)) (hN : N ≤ 10000) (hq : [a].all ca = true) (h0 : 0 ≤ z) (hj : z < N) (hx1 : -9223372036854775808 ≤ x) (hx2 : x < 9223372036854775808) (hp : pc + 1 = p') (h : ∀ τ, CR sz κ A g τ → Mod σ τ [a] → (∀ w, zq τ a w = if w = z then x else zq σ a w) → aw d cd rt P p' L st τ) : aw d cd rt P pc L (.long (lI x) :: .int (iI z) :: .ref a :: st) σ := by
  have hd : Mod σ (az_pl σ a z.toNat (lI x)) [a] := Mod_pl (by simp)
  refine aw_lastore hf hs hN h0 hj hp (h _ (hC.mod hI hd hq) hd (fun w => ?_))
  rw [zq_pl h0 hx1 hx2]
  simp
theorem aw_cf {i ci k a : Nat} {x : Int} (j : Int) (hC : CR sz κ A g σ) (hI : MI sz A) (hf : az_fetch cd pc = some (3, .putfield i, [ci, k])) (hk : az_ft ci k = 0) (hs : (az_sh σ a).1 = ci) (hj : j = (k : Int)) (hq : [a].all ca = true) (hx : inI x) (hp : pc + 3 = p') (h : ∀ τ, CR sz κ A g τ → Mod σ τ [a] → (∀ w, zx τ a w = if w = j then x else zx σ a w) → aw d cd rt P p' L st τ) : aw d cd rt P pc L (.int (iI x) :: .ref a :: st) σ :=
  aw_fs j hf hk hs hj hx hp (fun τ hd hz _ => h τ (hC.mod hI hd hq) hd hz)
end AwRules6
