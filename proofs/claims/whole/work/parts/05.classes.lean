/-! WHAT THE TABLES SAY OF THE CLASSES whose objects the world holds -/
def az_G : List Cond := lw_tbl.filter goodWord
theorem az_Gof {i : Nat} {w : Cond} (h : lw_tbl[i]? = some w) (g : goodWord w = true) : w ∈ az_G := List.mem_filter.mpr ⟨List.mem_of_getElem? h, g⟩
theorem az_Gin {ws : List Cond} (ps : List Nat) (hp : ws = ps.filterMap (fun i => lw_tbl[i]?)) (hg : ws.all goodWord = true) : ∀ w ∈ ws, w ∈ az_G := by
  intro w hw
  have g := List.all_eq_true.mp hg w hw
  rw [hp] at hw
  obtain ⟨i, -, hi⟩ := List.mem_filterMap.mp hw
  exact az_Gof hi g
abbrev vwCl : List vw_C := [(RJx4a65c, TJx4a65c, 3), (RX0, TX0, 12), (RX1, TX1, 3), (RX2, TX2, 6), (RX3, TX3, 2), (RX4, TX4, 9), (RX5, TX5, 7), (RX6, TX6, 4), (RX7, TX7, 3), (RX8, TX8, 6), (RX9, TX9, 7), (RX10, TX10, 14), (RX11, TX11, 18), (RX12, TX12, 90)]
def az_tyc (ci : Nat) (k : Nat) : FieldType := match ci with
  | 0 => tyJx4a65c k
  | 1 => tyX0 k
  | 2 => tyX1 k
  | 3 => tyX2 k
  | 4 => tyX3 k
  | 5 => tyX4 k
  | 6 => tyX5 k
  | 7 => tyX6 k
  | 8 => tyX7 k
  | 9 => tyX8 k
  | 10 => tyX9 k
  | 11 => tyX10 k
  | 12 => tyX11 k
  | 13 => tyX12 k
  | _ => .int
/-- a field's type by its kind -/
def az_tk (kd : Nat) (ty : FieldType) : Bool := match kd with
  | 0 => decide (ty = .int)
  | 1 => decide (ty = .long)
  | _ => match ty with
    | .object _ => true
    | .array _ => true
    | _ => false

set_option maxRecDepth 20000 in
theorem az_in0 : ∀ w ∈ u_ws RJx4a65c TJx4a65c 3, w ∈ az_G := az_Gin [176, 172, 174] (by decide +kernel) (by decide +kernel)
theorem az_tyk0 : ∀ k, k < 3 → az_tk (az_ft 0 k) (tyJx4a65c k) = true := by decide +kernel
set_option maxRecDepth 20000 in
theorem az_in1 : ∀ w ∈ u_ws RX0 TX0 12, w ∈ az_G := az_Gin [766, 768, 770, 772, 774, 776, 778, 780, 782, 784, 786, 788] (by decide +kernel) (by decide +kernel)
theorem az_tyk1 : ∀ k, k < 12 → az_tk (az_ft 1 k) (tyX0 k) = true := by decide +kernel
set_option maxRecDepth 20000 in
theorem az_in2 : ∀ w ∈ u_ws RX1 TX1 3, w ∈ az_G := az_Gin [258, 260, 262] (by decide +kernel) (by decide +kernel)
theorem az_tyk2 : ∀ k, k < 3 → az_tk (az_ft 2 k) (tyX1 k) = true := by decide +kernel
set_option maxRecDepth 20000 in
theorem az_in3 : ∀ w ∈ u_ws RX2 TX2 6, w ∈ az_G := az_Gin [344, 346, 348, 350, 352, 354] (by decide +kernel) (by decide +kernel)
theorem az_tyk3 : ∀ k, k < 6 → az_tk (az_ft 3 k) (tyX2 k) = true := by decide +kernel
set_option maxRecDepth 20000 in
theorem az_in4 : ∀ w ∈ u_ws RX3 TX3 2, w ∈ az_G := az_Gin [463, 465] (by decide +kernel) (by decide +kernel)
theorem az_tyk4 : ∀ k, k < 2 → az_tk (az_ft 4 k) (tyX3 k) = true := by decide +kernel
set_option maxRecDepth 20000 in
theorem az_in5 : ∀ w ∈ u_ws RX4 TX4 9, w ∈ az_G := az_Gin [311, 313, 315, 317, 319, 321, 323, 325, 327] (by decide +kernel) (by decide +kernel)
theorem az_tyk5 : ∀ k, k < 9 → az_tk (az_ft 5 k) (tyX4 k) = true := by decide +kernel
set_option maxRecDepth 20000 in
theorem az_in6 : ∀ w ∈ u_ws RX5 TX5 7, w ∈ az_G := az_Gin [279, 281, 283, 285, 287, 289, 291] (by decide +kernel) (by decide +kernel)
theorem az_tyk6 : ∀ k, k < 7 → az_tk (az_ft 6 k) (tyX5 k) = true := by decide +kernel
set_option maxRecDepth 20000 in
theorem az_in7 : ∀ w ∈ u_ws RX6 TX6 4, w ∈ az_G := az_Gin [143, 145, 147, 149] (by decide +kernel) (by decide +kernel)
theorem az_tyk7 : ∀ k, k < 4 → az_tk (az_ft 7 k) (tyX6 k) = true := by decide +kernel
set_option maxRecDepth 20000 in
theorem az_in8 : ∀ w ∈ u_ws RX7 TX7 3, w ∈ az_G := az_Gin [1167, 1169, 1171] (by decide +kernel) (by decide +kernel)
theorem az_tyk8 : ∀ k, k < 3 → az_tk (az_ft 8 k) (tyX7 k) = true := by decide +kernel
set_option maxRecDepth 20000 in
theorem az_in9 : ∀ w ∈ u_ws RX8 TX8 6, w ∈ az_G := az_Gin [192, 194, 196, 198, 200, 202] (by decide +kernel) (by decide +kernel)
theorem az_tyk9 : ∀ k, k < 6 → az_tk (az_ft 9 k) (tyX8 k) = true := by decide +kernel
set_option maxRecDepth 20000 in
theorem az_in10 : ∀ w ∈ u_ws RX9 TX9 7, w ∈ az_G := az_Gin [220, 222, 224, 226, 228, 230, 232] (by decide +kernel) (by decide +kernel)
theorem az_tyk10 : ∀ k, k < 7 → az_tk (az_ft 10 k) (tyX9 k) = true := by decide +kernel
set_option maxRecDepth 20000 in
theorem az_in11 : ∀ w ∈ u_ws RX10 TX10 14, w ∈ az_G := az_Gin [607, 609, 611, 613, 615, 617, 619, 621, 623, 625, 627, 629, 631, 633] (by decide +kernel) (by decide +kernel)
theorem az_tyk11 : ∀ k, k < 14 → az_tk (az_ft 11 k) (tyX10 k) = true := by decide +kernel
set_option maxRecDepth 20000 in
theorem az_in12 : ∀ w ∈ u_ws RX11 TX11 18, w ∈ az_G := az_Gin [375, 377, 379, 381, 383, 385, 387, 389, 391, 393, 395, 397, 399, 401, 403, 405, 407, 409] (by decide +kernel) (by decide +kernel)
theorem az_tyk12 : ∀ k, k < 18 → az_tk (az_ft 12 k) (tyX11 k) = true := by decide +kernel
set_option maxRecDepth 20000 in
theorem az_in13 : ∀ w ∈ u_ws RX12 TX12 90, w ∈ az_G := az_Gin [1422, 1424, 1426, 1428, 1430, 1432, 1434, 1436, 1438, 1440, 1442, 1444, 1446, 1448, 1450, 1452, 1454, 1456, 1458, 1460, 1462, 1464, 1466, 1468, 1470, 1472, 1474, 1476, 1478, 1480, 1482, 1484, 1486, 1488, 1490, 1492, 1494, 1496, 1498, 1500, 1502, 1504, 1506, 1508, 1510, 1512, 1514, 1516, 1518, 1520, 1522, 1524, 1526, 1528, 1530, 1532, 1534, 1536, 1538, 1540, 1542, 1544, 1546, 1548, 1550, 1552, 1554, 1556, 1558, 1560, 1562, 1564, 1566, 1568, 1570, 1572, 1574, 1576, 1578, 1580, 1582, 1584, 1586, 1588, 1590, 1592, 1594, 1596, 1598, 1600] (by decide +kernel) (by decide +kernel)
theorem az_tyk13 : ∀ k, k < 90 → az_tk (az_ft 13 k) (tyX12 k) = true := by decide +kernel
theorem az_cin : ∀ (ci : Nat) (q : vw_C), vwCl[ci]? = some q → ∀ w ∈ u_ws q.1 q.2.1 q.2.2, w ∈ az_G := by
  intro ci q hq
  match ci, hq with
  | 0, hq => cases hq; exact az_in0
  | 1, hq => cases hq; exact az_in1
  | 2, hq => cases hq; exact az_in2
  | 3, hq => cases hq; exact az_in3
  | 4, hq => cases hq; exact az_in4
  | 5, hq => cases hq; exact az_in5
  | 6, hq => cases hq; exact az_in6
  | 7, hq => cases hq; exact az_in7
  | 8, hq => cases hq; exact az_in8
  | 9, hq => cases hq; exact az_in9
  | 10, hq => cases hq; exact az_in10
  | 11, hq => cases hq; exact az_in11
  | 12, hq => cases hq; exact az_in12
  | 13, hq => cases hq; exact az_in13
  | k + 14, hq => simp [vwCl] at hq

theorem az_cty : ∀ (ci : Nat) (q : vw_C), vwCl[ci]? = some q → ∀ k, k < q.2.2 → parseFieldDescriptor (q.2.1 k).2.2.1 = some (az_tyc ci k) := by
  intro ci q hq
  match ci, hq with
  | 0, hq => cases hq; exact tyJx4a65c_ok
  | 1, hq => cases hq; exact tyX0_ok
  | 2, hq => cases hq; exact tyX1_ok
  | 3, hq => cases hq; exact tyX2_ok
  | 4, hq => cases hq; exact tyX3_ok
  | 5, hq => cases hq; exact tyX4_ok
  | 6, hq => cases hq; exact tyX5_ok
  | 7, hq => cases hq; exact tyX6_ok
  | 8, hq => cases hq; exact tyX7_ok
  | 9, hq => cases hq; exact tyX8_ok
  | 10, hq => cases hq; exact tyX9_ok
  | 11, hq => cases hq; exact tyX10_ok
  | 12, hq => cases hq; exact tyX11_ok
  | 13, hq => cases hq; exact tyX12_ok
  | k + 14, hq => simp [vwCl] at hq

theorem az_cnm : ∀ (ci : Nat) (q : vw_C), vwCl[ci]? = some q → ∀ a, a < q.2.2 → ∀ b, b < q.2.2 → a ≠ b → (q.2.1 a).2.1 ≠ (q.2.1 b).2.1 := by
  intro ci q hq
  match ci, hq with
  | 0, hq => cases hq; exact nmJx4a65c
  | 1, hq => cases hq; exact nmX0
  | 2, hq => cases hq; exact nmX1
  | 3, hq => cases hq; exact nmX2
  | 4, hq => cases hq; exact nmX3
  | 5, hq => cases hq; exact nmX4
  | 6, hq => cases hq; exact nmX5
  | 7, hq => cases hq; exact nmX6
  | 8, hq => cases hq; exact nmX7
  | 9, hq => cases hq; exact nmX8
  | 10, hq => cases hq; exact nmX9
  | 11, hq => cases hq; exact nmX10
  | 12, hq => cases hq; exact nmX11
  | 13, hq => cases hq; exact nmX12
  | k + 14, hq => simp [vwCl] at hq

theorem az_ctk : ∀ (ci : Nat) (q : vw_C), vwCl[ci]? = some q → ∀ k, k < q.2.2 → az_tk (az_ft ci k) (az_tyc ci k) = true := by
  intro ci q hq
  match ci, hq with
  | 0, hq => cases hq; exact az_tyk0
  | 1, hq => cases hq; exact az_tyk1
  | 2, hq => cases hq; exact az_tyk2
  | 3, hq => cases hq; exact az_tyk3
  | 4, hq => cases hq; exact az_tyk4
  | 5, hq => cases hq; exact az_tyk5
  | 6, hq => cases hq; exact az_tyk6
  | 7, hq => cases hq; exact az_tyk7
  | 8, hq => cases hq; exact az_tyk8
  | 9, hq => cases hq; exact az_tyk9
  | 10, hq => cases hq; exact az_tyk10
  | 11, hq => cases hq; exact az_tyk11
  | 12, hq => cases hq; exact az_tyk12
  | 13, hq => cases hq; exact az_tyk13
  | k + 14, hq => simp [vwCl] at hq

theorem az_cnf : ∀ (ci : Nat) (q : vw_C), vwCl[ci]? = some q → az_nf ci = q.2.2 := by
  intro ci q hq
  match ci, hq with
  | 0, hq => cases hq; exact rfl
  | 1, hq => cases hq; exact rfl
  | 2, hq => cases hq; exact rfl
  | 3, hq => cases hq; exact rfl
  | 4, hq => cases hq; exact rfl
  | 5, hq => cases hq; exact rfl
  | 6, hq => cases hq; exact rfl
  | 7, hq => cases hq; exact rfl
  | 8, hq => cases hq; exact rfl
  | 9, hq => cases hq; exact rfl
  | 10, hq => cases hq; exact rfl
  | 11, hq => cases hq; exact rfl
  | 12, hq => cases hq; exact rfl
  | 13, hq => cases hq; exact rfl
  | k + 14, hq => simp [vwCl] at hq

theorem az_clt : ∀ ci, ci < 14 → ∃ q, vwCl[ci]? = some q := by
  intro ci h
  exact ⟨_, List.getElem?_eq_getElem (by simpa [vwCl] using h)⟩

theorem az_cast0 : Cond.castable RJx4a65c "java/lang/Object" ∈ lw_tbl := List.mem_of_getElem? (i := 2009) (by decide +kernel)
theorem az_cast1 : Cond.castable RX0 "java/lang/Object" ∈ lw_tbl := List.mem_of_getElem? (i := 2019) (by decide +kernel)
theorem az_cast2 : Cond.castable RX1 "java/lang/Object" ∈ lw_tbl := List.mem_of_getElem? (i := 2012) (by decide +kernel)
theorem az_cast3 : Cond.castable RX2 "java/lang/Object" ∈ lw_tbl := List.mem_of_getElem? (i := 2015) (by decide +kernel)
theorem az_cast4 : Cond.castable RX3 "java/lang/Object" ∈ lw_tbl := List.mem_of_getElem? (i := 2017) (by decide +kernel)
theorem az_cast5 : Cond.castable RX4 "java/lang/Object" ∈ lw_tbl := List.mem_of_getElem? (i := 2014) (by decide +kernel)
theorem az_cast6 : Cond.castable RX5 "java/lang/Object" ∈ lw_tbl := List.mem_of_getElem? (i := 2013) (by decide +kernel)
theorem az_cast7 : Cond.castable RX6 "java/lang/Object" ∈ lw_tbl := List.mem_of_getElem? (i := 2008) (by decide +kernel)
theorem az_cast8 : Cond.castable RX7 "java/lang/Object" ∈ lw_tbl := List.mem_of_getElem? (i := 2020) (by decide +kernel)
theorem az_cast9 : Cond.castable RX8 "java/lang/Object" ∈ lw_tbl := List.mem_of_getElem? (i := 2010) (by decide +kernel)
theorem az_cast10 : Cond.castable RX9 "java/lang/Object" ∈ lw_tbl := List.mem_of_getElem? (i := 2011) (by decide +kernel)
theorem az_cast11 : Cond.castable RX10 "java/lang/Object" ∈ lw_tbl := List.mem_of_getElem? (i := 2018) (by decide +kernel)
theorem az_cast12 : Cond.castable RX11 "java/lang/Object" ∈ lw_tbl := List.mem_of_getElem? (i := 2007) (by decide +kernel)
theorem az_cast13 : Cond.castable RX12 "java/lang/Object" ∈ lw_tbl := List.mem_of_getElem? (i := 2016) (by decide +kernel)
theorem az_ccast : ∀ (ci : Nat) (q : vw_C), vwCl[ci]? = some q → Cond.castable q.1 "java/lang/Object" ∈ lw_tbl := by
  intro ci q hq
  match ci, hq with
  | 0, hq => cases hq; exact az_cast0
  | 1, hq => cases hq; exact az_cast1
  | 2, hq => cases hq; exact az_cast2
  | 3, hq => cases hq; exact az_cast3
  | 4, hq => cases hq; exact az_cast4
  | 5, hq => cases hq; exact az_cast5
  | 6, hq => cases hq; exact az_cast6
  | 7, hq => cases hq; exact az_cast7
  | 8, hq => cases hq; exact az_cast8
  | 9, hq => cases hq; exact az_cast9
  | 10, hq => cases hq; exact az_cast10
  | 11, hq => cases hq; exact az_cast11
  | 12, hq => cases hq; exact az_cast12
  | 13, hq => cases hq; exact az_cast13
  | k + 14, hq => simp [vwCl] at hq

