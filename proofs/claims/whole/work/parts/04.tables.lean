/-! families of objects, their numbers in the order in which they are made; which words stand in the tables -/
def TB : List Cond := lw_tbl.filter goodWord
theorem tb_of {w : Cond} (i : Nat) (h : tables_1[i]? = some w) (g : goodWord w = true) : w ∈ TB := List.mem_filter.mpr ⟨List.mem_append_right _ (List.mem_of_getElem? h), g⟩
theorem tb_sel {w : Cond} (i : Nat) (h : (k2_sels lw_privs)[i]? = some w) (g : goodWord w = true) : w ∈ TB := List.mem_filter.mpr ⟨List.mem_append_left _ (List.mem_of_getElem? h), g⟩
theorem tb_ws (ws : List Cond) (ps : List Nat) (hp : ws = ps.filterMap (fun i => tables_1[i]?)) (h : ws.all goodWord = true) : ∀ w ∈ ws, w ∈ TB := by
  intro w hw
  have h1 := List.all_eq_true.mp h w hw
  rw [hp] at hw
  obtain ⟨i, -, hi⟩ := List.mem_filterMap.mp hw
  exact tb_of i hi h1
theorem tb_good : ∀ w ∈ TB, (w.onTables && w.keeps) = true ∨ ∃ ty, w = .arrayClass ty := fun w h => good_of_word (List.mem_filter.mp h).2
theorem tb_in : ∀ w ∈ TB, w ∈ lw_tbl := fun w h => (List.mem_filter.mp h).1
def kdT : List (Nat × Nat) := [(0, 9), (0, 3), (0, 5), (0, 6), (0, 4), (0, 2), (0, 0), (0, 8), (0, 1), (0, 7), (0, 10), (2, 900), (5, 12), (1, 48), (4, 48), (1, 48), (4, 200), (1, 25), (4, 400), (4, 288), (1, 12), (0, 99), (0, 99), (0, 99), (0, 99), (0, 99), (0, 99), (0, 99), (0, 99), (0, 99), (2, 900), (0, 99), (0, 99), (1, 901), (1, 901), (4, 901), (0, 99), (0, 99), (0, 99), (4, 12), (1, 12), (3, 12), (3, 12), (4, 12), (1, 13), (1, 13), (0, 99), (1, 900), (4, 900), (0, 99), (1, 120), (4, 120), (0, 99), (1, 901), (1, 901), (3, 901), (0, 99), (1, 64), (1, 64), (1, 64), (0, 99), (0, 99), (0, 99), (4, 12), (3, 12), (3, 12), (4, 12), (4, 12), (1, 13), (1, 900), (4, 900), (1, 12), (1, 300), (4, 2400), (0, 99), (1, 100), (1, 100), (1, 100), (0, 99), (1, 100), (1, 100), (1, 100), (4, 100), (0, 99), (0, 99), (0, 99), (1, 12), (1, 12), (1, 12), (1, 12), (1, 12), (1, 12), (4, 480), (0, 99), (0, 99), (0, 99)]
def tyT : List (List Nat) := [[501, 502, 507, 14, 14], [511, 0], [503, 16, 0, 0, 0], [501, 0, 0, 0, 1], [712, 0], [706, 716, 717, 1, 1, 2, 2, 1, 0], [713, 714, 715, 0], [508, 608, 509, 1, 609, 14, 519, 0, 0, 520, 0, 2], [718, 0], [1, 1], [530, 0, 0, 533, 534, 535, 0, 0, 0, 539, 540, 541, 542, 543, 544, 545, 0, 547, 548, 0, 550, 551, 0, 553, 554, 555, 0, 557, 558, 559, 0, 0, 0, 563, 564, 565, 566, 567, 568, 569, 570, 571, 572, 573, 0, 575, 576, 577, 0, 579, 580, 581, 582, 0, 0, 0, 586, 587, 588, 589, 590, 591, 592, 1, 1, 1], [], [], [], [], [], [], [], [], [], [], [], [], [], [], [], [], [], [], [], [], [], [], [], [], [], [], [], [], [], [], [], [], [], [], [], [], [], [], [], [], [], [], [], [], [], [], [], [], [], [], [], [], [], [], [], [], [], [], [], [], [], [], [], [], [], [], [], [], [], [], [], [], [], [], [], [], [], [], [], [], [], [], [], [], []]
def numT : List (List Nat) := [[0], [1], [3], [4], [5, 91], [7, 14, 21, 28, 35, 42, 49, 56, 63, 70, 77, 84, 93, 100, 107, 114, 121, 128, 135, 142, 149, 156, 163, 170], [8, 15, 22, 29, 36, 43, 50, 57, 64, 71, 78, 85, 94, 101, 108, 115, 122, 129, 136, 143, 150, 157, 164, 171], [177], [178, 180], [182, 183], [186], [2], [6, 92], [9, 16, 23, 30, 37, 44, 51, 58, 65, 72, 79, 86, 95, 102, 109, 116, 123, 130, 137, 144, 151, 158, 165, 172], [10, 17, 24, 31, 38, 45, 52, 59, 66, 73, 80, 87, 96, 103, 110, 117, 124, 131, 138, 145, 152, 159, 166, 173], [11, 18, 25, 32, 39, 46, 53, 60, 67, 74, 81, 88, 97, 104, 111, 118, 125, 132, 139, 146, 153, 160, 167, 174], [12, 19, 26, 33, 40, 47, 54, 61, 68, 75, 82, 89, 98, 105, 112, 119, 126, 133, 140, 147, 154, 161, 168, 175], [13, 20, 27, 34, 41, 48, 55, 62, 69, 76, 83, 90, 99, 106, 113, 120, 127, 134, 141, 148, 155, 162, 169, 176], [179, 181], [184], [185], [], [], [], [], [], [], [], [], [], [187], [], [], [188], [189], [190], [], [], [], [191], [192], [193], [194], [195], [196], [197], [], [198], [199], [], [200], [201], [], [202], [203], [204], [], [205], [206], [207], [], [], [], [208], [209], [210], [211], [212], [213], [214], [215], [216], [217], [218], [], [219], [220], [221], [], [222], [223], [224], [225], [], [], [], [226], [227], [228], [229], [230], [231], [232], [], [], []]
def ALL : List (Nat × Nat) := [(0, 0), (1, 0), (11, 0), (2, 0), (3, 0), (4, 0), (12, 0), (5, 0), (6, 0), (13, 0), (14, 0), (15, 0), (16, 0), (17, 0), (5, 1), (6, 1), (13, 1), (14, 1), (15, 1), (16, 1), (17, 1), (5, 2), (6, 2), (13, 2), (14, 2), (15, 2), (16, 2), (17, 2), (5, 3), (6, 3), (13, 3), (14, 3), (15, 3), (16, 3), (17, 3), (5, 4), (6, 4), (13, 4), (14, 4), (15, 4), (16, 4), (17, 4), (5, 5), (6, 5), (13, 5), (14, 5), (15, 5), (16, 5), (17, 5), (5, 6), (6, 6), (13, 6), (14, 6), (15, 6), (16, 6), (17, 6), (5, 7), (6, 7), (13, 7), (14, 7), (15, 7), (16, 7), (17, 7), (5, 8), (6, 8), (13, 8), (14, 8), (15, 8), (16, 8), (17, 8), (5, 9), (6, 9), (13, 9), (14, 9), (15, 9), (16, 9), (17, 9), (5, 10), (6, 10), (13, 10), (14, 10), (15, 10), (16, 10), (17, 10), (5, 11), (6, 11), (13, 11), (14, 11), (15, 11), (16, 11), (17, 11), (4, 1), (12, 1), (5, 12), (6, 12), (13, 12), (14, 12), (15, 12), (16, 12), (17, 12), (5, 13), (6, 13), (13, 13), (14, 13), (15, 13), (16, 13), (17, 13), (5, 14), (6, 14), (13, 14), (14, 14), (15, 14), (16, 14), (17, 14), (5, 15), (6, 15), (13, 15), (14, 15), (15, 15), (16, 15), (17, 15), (5, 16), (6, 16), (13, 16), (14, 16), (15, 16), (16, 16), (17, 16), (5, 17), (6, 17), (13, 17), (14, 17), (15, 17), (16, 17), (17, 17), (5, 18), (6, 18), (13, 18), (14, 18), (15, 18), (16, 18), (17, 18), (5, 19), (6, 19), (13, 19), (14, 19), (15, 19), (16, 19), (17, 19), (5, 20), (6, 20), (13, 20), (14, 20), (15, 20), (16, 20), (17, 20), (5, 21), (6, 21), (13, 21), (14, 21), (15, 21), (16, 21), (17, 21), (5, 22), (6, 22), (13, 22), (14, 22), (15, 22), (16, 22), (17, 22), (5, 23), (6, 23), (13, 23), (14, 23), (15, 23), (16, 23), (17, 23), (7, 0), (8, 0), (18, 0), (8, 1), (18, 1), (9, 0), (9, 1), (19, 0), (20, 0), (10, 0), (30, 0), (33, 0), (34, 0), (35, 0), (39, 0), (40, 0), (41, 0), (42, 0), (43, 0), (44, 0), (45, 0), (47, 0), (48, 0), (50, 0), (51, 0), (53, 0), (54, 0), (55, 0), (57, 0), (58, 0), (59, 0), (63, 0), (64, 0), (65, 0), (66, 0), (67, 0), (68, 0), (69, 0), (70, 0), (71, 0), (72, 0), (73, 0), (75, 0), (76, 0), (77, 0), (79, 0), (80, 0), (81, 0), (82, 0), (86, 0), (87, 0), (88, 0), (89, 0), (90, 0), (91, 0), (92, 0)]
abbrev NALL : Nat := 233
abbrev N1 : Nat := 186
def kd (f : Nat) : Nat × Nat := kdT.getD f (0, 99)
def cnt (f : Nat) : Nat := (numT.getD f []).length
def num (f k : Nat) : Nat := (numT.getD f []).getD k 0
def tyf (f j : Nat) : Nat := (tyT.getD f []).getD j 0
theorem numT_len : numT.length = 96 := by decide +kernel
theorem all_len : ALL.length = NALL := by decide +kernel
theorem all_num0 : (List.range 96).all (fun f => (List.range (cnt f)).all (fun k => ALL[num f k]? == some (f, k))) = true := by decide +kernel
theorem all_inv0 : (List.range NALL).all (fun i => match ALL[i]? with | some q => (num q.1 q.2 == i && decide (q.2 < cnt q.1)) | none => true) = true := by decide +kernel
theorem all_num {f k : Nat} (h : k < cnt f) : ALL[num f k]? = some (f, k) := by
  have hf : f < 96 := by
    rcases Nat.lt_or_ge f 96 with q | q
    · exact q
    · exfalso
      have e : numT.getD f [] = [] := by rw [List.getD_eq_getElem?_getD, List.getElem?_eq_none (by rw [numT_len]; exact q)]; rfl
      unfold cnt at h
      rw [e] at h
      exact absurd h (Nat.not_lt_zero _)
  have h1 := List.all_eq_true.mp (List.all_eq_true.mp all_num0 f (List.mem_range.mpr hf)) k (List.mem_range.mpr h)
  exact eq_of_beq h1
theorem all_inv {i : Nat} {q : Nat × Nat} (h : ALL[i]? = some q) : num q.1 q.2 = i ∧ q.2 < cnt q.1 := by
  have hi : i < NALL := by rw [← all_len]; exact (List.getElem?_eq_some_iff.mp h).1
  have h1 := List.all_eq_true.mp all_inv0 i (List.mem_range.mpr hi)
  rw [h] at h1
  simp only [Bool.and_eq_true, beq_iff_eq, decide_eq_true_eq] at h1
  exact h1
def okc (code : Nat) (ty : FieldType) : Prop := (code = 0 ∧ ty = .int) ∨ (code = 1 ∧ ty = .long) ∨ (code = 2 ∧ ty = .boolean) ∨ (3 ≤ code ∧ ∀ a : Nat, narrow ty (.ref a) = .ref a ∧ fits ty (.ref a) = true ∧ narrow ty .null = .null ∧ fits ty .null = true)
def Cl (f ci : Nat) (Cn : String) (T : u_T) (N : Nat) (ty : Nat → FieldType) : Prop := kd f = (0, ci) ∧ vwCl[ci]? = some (Cn, T, N) ∧ (∀ w ∈ u_ws Cn T N, w ∈ TB) ∧ (∀ k, k < N → parseFieldDescriptor (T k).2.2.1 = some (ty k)) ∧ (∀ a, a < N → ∀ b, b < N → a ≠ b → (T a).2.1 ≠ (T b).2.1) ∧ (tyT.getD f []).length = N ∧ (∀ k, k < N → okc (tyf f k) (ty k)) ∧ (∀ k, k < N → (T k).1 = Cn)
/-- a field's link: class of the code, place in its pool, family, field, code of its type, final -/
def Fl (own : String) (idx f j code : Nat) (fin : Bool) : Prop := ∃ (ci : Nat) (Cn : String) (T : u_T) (N : Nat) (ty : Nat → FieldType), Cl f ci Cn T N ty ∧ j < N ∧ tyf f j = code ∧ Cond.fieldLink own idx Cn (T j).2.1 (T j).2.2.1 ∈ TB ∧ (T j).2.2.2 = fin
theorem okc_obj (C : String) (code : Nat) (h : 3 ≤ code) : okc code (.object C) := Or.inr (Or.inr (Or.inr ⟨h, fun a => ⟨rfl, rfl, rfl, rfl⟩⟩))
theorem okc_arr (t : FieldType) (code : Nat) (h : 3 ≤ code) : okc code (.array t) := Or.inr (Or.inr (Or.inr ⟨h, fun a => ⟨rfl, rfl, rfl, rfl⟩⟩))
theorem okc_int : okc 0 .int := Or.inl ⟨rfl, rfl⟩
theorem okc_long : okc 1 .long := Or.inr (Or.inl ⟨rfl, rfl⟩)
theorem okc_bool : okc 2 .boolean := Or.inr (Or.inr (Or.inl ⟨rfl, rfl⟩))
set_option maxRecDepth 20000 in
theorem inT_9 : ∀ w ∈ u_ws RX9 TX9 5, w ∈ TB := tb_ws _ [257, 259, 261, 263, 265] (by decide +kernel) (by decide +kernel)
theorem ok_9 : ∀ k, k < 5 → okc (tyf 0 k) (tyX9 k) := fun k h => match k, h with | 0, _ => okc_obj _ _ (by decide) | 1, _ => okc_obj _ _ (by decide) | 2, _ => okc_obj _ _ (by decide) | 3, _ => okc_obj _ _ (by decide) | 4, _ => okc_obj _ _ (by decide) | k + 5, h => absurd h (by omega)
set_option maxRecDepth 20000 in
theorem cl_9 : Cl 0 9 RX9 TX9 5 tyX9 := ⟨by decide +kernel, rfl, inT_9, tyX9_ok, nmX9, by decide +kernel, ok_9, by decide +kernel⟩
set_option maxRecDepth 20000 in
theorem inT_3 : ∀ w ∈ u_ws RX3 TX3 2, w ∈ TB := tb_ws _ [30, 32] (by decide +kernel) (by decide +kernel)
theorem ok_3 : ∀ k, k < 2 → okc (tyf 1 k) (tyX3 k) := fun k h => match k, h with | 0, _ => okc_arr _ _ (by decide) | 1, _ => okc_int | k + 2, h => absurd h (by omega)
set_option maxRecDepth 20000 in
theorem cl_3 : Cl 1 3 RX3 TX3 2 tyX3 := ⟨by decide +kernel, rfl, inT_3, tyX3_ok, nmX3, by decide +kernel, ok_3, by decide +kernel⟩
set_option maxRecDepth 20000 in
theorem inT_5 : ∀ w ∈ u_ws RX5 TX5 5, w ∈ TB := tb_ws _ [72, 74, 76, 78, 80] (by decide +kernel) (by decide +kernel)
theorem ok_5 : ∀ k, k < 5 → okc (tyf 2 k) (tyX5 k) := fun k h => match k, h with | 0, _ => okc_obj _ _ (by decide) | 1, _ => okc_obj _ _ (by decide) | 2, _ => okc_int | 3, _ => okc_int | 4, _ => okc_int | k + 5, h => absurd h (by omega)
set_option maxRecDepth 20000 in
theorem cl_5 : Cl 2 5 RX5 TX5 5 tyX5 := ⟨by decide +kernel, rfl, inT_5, tyX5_ok, nmX5, by decide +kernel, ok_5, by decide +kernel⟩
set_option maxRecDepth 20000 in
theorem inT_6 : ∀ w ∈ u_ws RX6 TX6 5, w ∈ TB := tb_ws _ [56, 58, 60, 62, 64] (by decide +kernel) (by decide +kernel)
theorem ok_6 : ∀ k, k < 5 → okc (tyf 3 k) (tyX6 k) := fun k h => match k, h with | 0, _ => okc_obj _ _ (by decide) | 1, _ => okc_int | 2, _ => okc_int | 3, _ => okc_int | 4, _ => okc_long | k + 5, h => absurd h (by omega)
set_option maxRecDepth 20000 in
theorem cl_6 : Cl 3 6 RX6 TX6 5 tyX6 := ⟨by decide +kernel, rfl, inT_6, tyX6_ok, nmX6, by decide +kernel, ok_6, by decide +kernel⟩
set_option maxRecDepth 20000 in
theorem inT_4 : ∀ w ∈ u_ws RX4 TX4 2, w ∈ TB := tb_ws _ [173, 175] (by decide +kernel) (by decide +kernel)
theorem ok_4 : ∀ k, k < 2 → okc (tyf 4 k) (tyX4 k) := fun k h => match k, h with | 0, _ => okc_arr _ _ (by decide) | 1, _ => okc_int | k + 2, h => absurd h (by omega)
set_option maxRecDepth 20000 in
theorem cl_4 : Cl 4 4 RX4 TX4 2 tyX4 := ⟨by decide +kernel, rfl, inT_4, tyX4_ok, nmX4, by decide +kernel, ok_4, by decide +kernel⟩
set_option maxRecDepth 20000 in
theorem inT_2 : ∀ w ∈ u_ws RX2 TX2 9, w ∈ TB := tb_ws _ [150, 152, 154, 156, 158, 160, 162, 164, 166] (by decide +kernel) (by decide +kernel)
theorem ok_2 : ∀ k, k < 9 → okc (tyf 5 k) (tyX2 k) := fun k h => match k, h with | 0, _ => okc_obj _ _ (by decide) | 1, _ => okc_arr _ _ (by decide) | 2, _ => okc_arr _ _ (by decide) | 3, _ => okc_long | 4, _ => okc_long | 5, _ => okc_bool | 6, _ => okc_bool | 7, _ => okc_long | 8, _ => okc_int | k + 9, h => absurd h (by omega)
set_option maxRecDepth 20000 in
theorem cl_2 : Cl 5 2 RX2 TX2 9 tyX2 := ⟨by decide +kernel, rfl, inT_2, tyX2_ok, nmX2, by decide +kernel, ok_2, by decide +kernel⟩
set_option maxRecDepth 20000 in
theorem inT_0 : ∀ w ∈ u_ws RX0 TX0 4, w ∈ TB := tb_ws _ [108, 110, 112, 114] (by decide +kernel) (by decide +kernel)
theorem ok_0 : ∀ k, k < 4 → okc (tyf 6 k) (tyX0 k) := fun k h => match k, h with | 0, _ => okc_arr _ _ (by decide) | 1, _ => okc_arr _ _ (by decide) | 2, _ => okc_arr _ _ (by decide) | 3, _ => okc_int | k + 4, h => absurd h (by omega)
set_option maxRecDepth 20000 in
theorem cl_0 : Cl 6 0 RX0 TX0 4 tyX0 := ⟨by decide +kernel, rfl, inT_0, tyX0_ok, nmX0, by decide +kernel, ok_0, by decide +kernel⟩
set_option maxRecDepth 20000 in
theorem inT_8 : ∀ w ∈ u_ws RX8 TX8 12, w ∈ TB := tb_ws _ [227, 229, 231, 233, 235, 237, 239, 241, 243, 245, 247, 249] (by decide +kernel) (by decide +kernel)
theorem ok_8 : ∀ k, k < 12 → okc (tyf 7 k) (tyX8 k) := fun k h => match k, h with | 0, _ => okc_obj _ _ (by decide) | 1, _ => okc_obj _ _ (by decide) | 2, _ => okc_obj _ _ (by decide) | 3, _ => okc_long | 4, _ => okc_obj _ _ (by decide) | 5, _ => okc_obj _ _ (by decide) | 6, _ => okc_arr _ _ (by decide) | 7, _ => okc_int | 8, _ => okc_int | 9, _ => okc_arr _ _ (by decide) | 10, _ => okc_int | 11, _ => okc_bool | k + 12, h => absurd h (by omega)
set_option maxRecDepth 20000 in
theorem cl_8 : Cl 7 8 RX8 TX8 12 tyX8 := ⟨by decide +kernel, rfl, inT_8, tyX8_ok, nmX8, by decide +kernel, ok_8, by decide +kernel⟩
set_option maxRecDepth 20000 in
theorem inT_1 : ∀ w ∈ u_ws RX1 TX1 2, w ∈ TB := tb_ws _ [193, 195] (by decide +kernel) (by decide +kernel)
theorem ok_1 : ∀ k, k < 2 → okc (tyf 8 k) (tyX1 k) := fun k h => match k, h with | 0, _ => okc_arr _ _ (by decide) | 1, _ => okc_int | k + 2, h => absurd h (by omega)
set_option maxRecDepth 20000 in
theorem cl_1 : Cl 8 1 RX1 TX1 2 tyX1 := ⟨by decide +kernel, rfl, inT_1, tyX1_ok, nmX1, by decide +kernel, ok_1, by decide +kernel⟩
set_option maxRecDepth 20000 in
theorem inT_7 : ∀ w ∈ u_ws RX7 TX7 2, w ∈ TB := tb_ws _ [206, 208] (by decide +kernel) (by decide +kernel)
theorem ok_7 : ∀ k, k < 2 → okc (tyf 9 k) (tyX7 k) := fun k h => match k, h with | 0, _ => okc_long | 1, _ => okc_long | k + 2, h => absurd h (by omega)
set_option maxRecDepth 20000 in
theorem cl_7 : Cl 9 7 RX7 TX7 2 tyX7 := ⟨by decide +kernel, rfl, inT_7, tyX7_ok, nmX7, by decide +kernel, ok_7, by decide +kernel⟩
set_option maxRecDepth 20000 in
theorem inT_10 : ∀ w ∈ u_ws RX10 TX10 66, w ∈ TB := tb_ws _ [810, 812, 814, 816, 818, 820, 822, 824, 826, 828, 830, 832, 834, 836, 838, 840, 842, 844, 846, 848, 850, 852, 854, 856, 858, 860, 862, 864, 866, 868, 870, 872, 874, 876, 878, 880, 882, 884, 886, 888, 890, 892, 894, 896, 898, 900, 902, 904, 906, 908, 910, 912, 914, 916, 918, 920, 922, 924, 926, 928, 930, 932, 934, 936, 938, 940] (by decide +kernel) (by decide +kernel)
theorem ok_10 : ∀ k, k < 66 → okc (tyf 10 k) (tyX10 k) := fun k h => match k, h with | 0, _ => okc_arr _ _ (by decide) | 1, _ => okc_int | 2, _ => okc_int | 3, _ => okc_arr _ _ (by decide) | 4, _ => okc_arr _ _ (by decide) | 5, _ => okc_arr _ _ (by decide) | 6, _ => okc_int | 7, _ => okc_int | 8, _ => okc_int | 9, _ => okc_arr _ _ (by decide) | 10, _ => okc_arr _ _ (by decide) | 11, _ => okc_arr _ _ (by decide) | 12, _ => okc_arr _ _ (by decide) | 13, _ => okc_arr _ _ (by decide) | 14, _ => okc_arr _ _ (by decide) | 15, _ => okc_arr _ _ (by decide) | 16, _ => okc_int | 17, _ => okc_arr _ _ (by decide) | 18, _ => okc_arr _ _ (by decide) | 19, _ => okc_int | 20, _ => okc_arr _ _ (by decide) | 21, _ => okc_arr _ _ (by decide) | 22, _ => okc_int | 23, _ => okc_arr _ _ (by decide) | 24, _ => okc_arr _ _ (by decide) | 25, _ => okc_arr _ _ (by decide) | 26, _ => okc_int | 27, _ => okc_arr _ _ (by decide) | 28, _ => okc_arr _ _ (by decide) | 29, _ => okc_arr _ _ (by decide) | 30, _ => okc_int | 31, _ => okc_int | 32, _ => okc_int | 33, _ => okc_arr _ _ (by decide) | 34, _ => okc_arr _ _ (by decide) | 35, _ => okc_arr _ _ (by decide) | 36, _ => okc_arr _ _ (by decide) | 37, _ => okc_arr _ _ (by decide) | 38, _ => okc_arr _ _ (by decide) | 39, _ => okc_arr _ _ (by decide) | 40, _ => okc_arr _ _ (by decide) | 41, _ => okc_arr _ _ (by decide) | 42, _ => okc_arr _ _ (by decide) | 43, _ => okc_arr _ _ (by decide) | 44, _ => okc_int | 45, _ => okc_arr _ _ (by decide) | 46, _ => okc_arr _ _ (by decide) | 47, _ => okc_arr _ _ (by decide) | 48, _ => okc_int | 49, _ => okc_arr _ _ (by decide) | 50, _ => okc_arr _ _ (by decide) | 51, _ => okc_arr _ _ (by decide) | 52, _ => okc_arr _ _ (by decide) | 53, _ => okc_int | 54, _ => okc_int | 55, _ => okc_int | 56, _ => okc_arr _ _ (by decide) | 57, _ => okc_arr _ _ (by decide) | 58, _ => okc_arr _ _ (by decide) | 59, _ => okc_arr _ _ (by decide) | 60, _ => okc_arr _ _ (by decide) | 61, _ => okc_arr _ _ (by decide) | 62, _ => okc_arr _ _ (by decide) | 63, _ => okc_long | 64, _ => okc_long | 65, _ => okc_long | k + 66, h => absurd h (by omega)
set_option maxRecDepth 20000 in
theorem cl_10 : Cl 10 10 RX10 TX10 66 tyX10 := ⟨by decide +kernel, rfl, inT_10, tyX10_ok, nmX10, by decide +kernel, ok_10, by decide +kernel⟩
theorem fl_3_9 : Fl RX3 9 1 0 511 true := ⟨_, _, _, _, _, cl_3, by decide, rfl, tb_of 27 (by decide +kernel) rfl, rfl⟩
theorem fl_3_15 : Fl RX3 15 1 1 0 false := ⟨_, _, _, _, _, cl_3, by decide, rfl, tb_of 28 (by decide +kernel) rfl, rfl⟩
theorem fl_9_48 : Fl RX9 48 1 1 0 false := ⟨_, _, _, _, _, cl_3, by decide, rfl, tb_of 29 (by decide +kernel) rfl, rfl⟩
theorem fl_6_9 : Fl RX6 9 3 0 501 true := ⟨_, _, _, _, _, cl_6, by decide, rfl, tb_of 48 (by decide +kernel) rfl, rfl⟩
theorem fl_6_15 : Fl RX6 15 3 1 0 false := ⟨_, _, _, _, _, cl_6, by decide, rfl, tb_of 49 (by decide +kernel) rfl, rfl⟩
theorem fl_6_19 : Fl RX6 19 3 2 0 false := ⟨_, _, _, _, _, cl_6, by decide, rfl, tb_of 50 (by decide +kernel) rfl, rfl⟩
theorem fl_5_50 : Fl RX5 50 3 2 0 false := ⟨_, _, _, _, _, cl_6, by decide, rfl, tb_of 51 (by decide +kernel) rfl, rfl⟩
theorem fl_6_22 : Fl RX6 22 3 3 0 false := ⟨_, _, _, _, _, cl_6, by decide, rfl, tb_of 52 (by decide +kernel) rfl, rfl⟩
theorem fl_5_53 : Fl RX5 53 3 3 0 false := ⟨_, _, _, _, _, cl_6, by decide, rfl, tb_of 53 (by decide +kernel) rfl, rfl⟩
theorem fl_6_25 : Fl RX6 25 3 4 1 false := ⟨_, _, _, _, _, cl_6, by decide, rfl, tb_of 54 (by decide +kernel) rfl, rfl⟩
theorem fl_5_71 : Fl RX5 71 3 4 1 false := ⟨_, _, _, _, _, cl_6, by decide, rfl, tb_of 55 (by decide +kernel) rfl, rfl⟩
theorem fl_5_14 : Fl RX5 14 2 0 503 true := ⟨_, _, _, _, _, cl_5, by decide, rfl, tb_of 67 (by decide +kernel) rfl, rfl⟩
theorem fl_5_20 : Fl RX5 20 2 1 16 false := ⟨_, _, _, _, _, cl_5, by decide, rfl, tb_of 68 (by decide +kernel) rfl, rfl⟩
theorem fl_5_24 : Fl RX5 24 2 2 0 false := ⟨_, _, _, _, _, cl_5, by decide, rfl, tb_of 69 (by decide +kernel) rfl, rfl⟩
theorem fl_5_28 : Fl RX5 28 2 3 0 false := ⟨_, _, _, _, _, cl_5, by decide, rfl, tb_of 70 (by decide +kernel) rfl, rfl⟩
theorem fl_5_31 : Fl RX5 31 2 4 0 false := ⟨_, _, _, _, _, cl_5, by decide, rfl, tb_of 71 (by decide +kernel) rfl, rfl⟩
theorem fl_0_9 : Fl RX0 9 6 0 713 true := ⟨_, _, _, _, _, cl_0, by decide, rfl, tb_of 102 (by decide +kernel) rfl, rfl⟩
theorem fl_0_15 : Fl RX0 15 6 1 714 true := ⟨_, _, _, _, _, cl_0, by decide, rfl, tb_of 103 (by decide +kernel) rfl, rfl⟩
theorem fl_0_19 : Fl RX0 19 6 2 715 true := ⟨_, _, _, _, _, cl_0, by decide, rfl, tb_of 104 (by decide +kernel) rfl, rfl⟩
theorem fl_0_22 : Fl RX0 22 6 3 0 false := ⟨_, _, _, _, _, cl_0, by decide, rfl, tb_of 105 (by decide +kernel) rfl, rfl⟩
theorem fl_8_193 : Fl RX8 193 6 3 0 false := ⟨_, _, _, _, _, cl_0, by decide, rfl, tb_of 106 (by decide +kernel) rfl, rfl⟩
theorem fl_5_153 : Fl RX5 153 6 3 0 false := ⟨_, _, _, _, _, cl_0, by decide, rfl, tb_of 107 (by decide +kernel) rfl, rfl⟩
theorem fl_2_12 : Fl RX2 12 5 0 706 true := ⟨_, _, _, _, _, cl_2, by decide, rfl, tb_of 119 (by decide +kernel) rfl, rfl⟩
theorem fl_5_88 : Fl RX5 88 5 0 706 true := ⟨_, _, _, _, _, cl_2, by decide, rfl, tb_of 120 (by decide +kernel) rfl, rfl⟩
theorem fl_8_178 : Fl RX8 178 5 0 706 true := ⟨_, _, _, _, _, cl_2, by decide, rfl, tb_of 121 (by decide +kernel) rfl, rfl⟩
theorem fl_9_159 : Fl RX9 159 5 0 706 true := ⟨_, _, _, _, _, cl_2, by decide, rfl, tb_of 122 (by decide +kernel) rfl, rfl⟩
theorem fl_2_18 : Fl RX2 18 5 1 716 true := ⟨_, _, _, _, _, cl_2, by decide, rfl, tb_of 123 (by decide +kernel) rfl, rfl⟩
theorem fl_8_113 : Fl RX8 113 5 1 716 true := ⟨_, _, _, _, _, cl_2, by decide, rfl, tb_of 124 (by decide +kernel) rfl, rfl⟩
theorem fl_2_22 : Fl RX2 22 5 2 717 true := ⟨_, _, _, _, _, cl_2, by decide, rfl, tb_of 125 (by decide +kernel) rfl, rfl⟩
theorem fl_9_93 : Fl RX9 93 5 2 717 true := ⟨_, _, _, _, _, cl_2, by decide, rfl, tb_of 126 (by decide +kernel) rfl, rfl⟩
theorem fl_8_110 : Fl RX8 110 5 2 717 true := ⟨_, _, _, _, _, cl_2, by decide, rfl, tb_of 127 (by decide +kernel) rfl, rfl⟩
theorem fl_2_26 : Fl RX2 26 5 3 1 false := ⟨_, _, _, _, _, cl_2, by decide, rfl, tb_of 128 (by decide +kernel) rfl, rfl⟩
theorem fl_4_26 : Fl RX4 26 5 3 1 false := ⟨_, _, _, _, _, cl_2, by decide, rfl, tb_of 129 (by decide +kernel) rfl, rfl⟩
theorem fl_5_83 : Fl RX5 83 5 3 1 false := ⟨_, _, _, _, _, cl_2, by decide, rfl, tb_of 130 (by decide +kernel) rfl, rfl⟩
theorem fl_2_30 : Fl RX2 30 5 4 1 false := ⟨_, _, _, _, _, cl_2, by decide, rfl, tb_of 131 (by decide +kernel) rfl, rfl⟩
theorem fl_4_33 : Fl RX4 33 5 4 1 false := ⟨_, _, _, _, _, cl_2, by decide, rfl, tb_of 132 (by decide +kernel) rfl, rfl⟩
theorem fl_9_76 : Fl RX9 76 5 4 1 false := ⟨_, _, _, _, _, cl_2, by decide, rfl, tb_of 133 (by decide +kernel) rfl, rfl⟩
theorem fl_5_111 : Fl RX5 111 5 4 1 false := ⟨_, _, _, _, _, cl_2, by decide, rfl, tb_of 134 (by decide +kernel) rfl, rfl⟩
theorem fl_8_146 : Fl RX8 146 5 4 1 false := ⟨_, _, _, _, _, cl_2, by decide, rfl, tb_of 135 (by decide +kernel) rfl, rfl⟩
theorem fl_2_33 : Fl RX2 33 5 5 2 false := ⟨_, _, _, _, _, cl_2, by decide, rfl, tb_of 136 (by decide +kernel) rfl, rfl⟩
theorem fl_9_85 : Fl RX9 85 5 5 2 false := ⟨_, _, _, _, _, cl_2, by decide, rfl, tb_of 137 (by decide +kernel) rfl, rfl⟩
theorem fl_8_103 : Fl RX8 103 5 5 2 false := ⟨_, _, _, _, _, cl_2, by decide, rfl, tb_of 138 (by decide +kernel) rfl, rfl⟩
theorem fl_5_118 : Fl RX5 118 5 5 2 false := ⟨_, _, _, _, _, cl_2, by decide, rfl, tb_of 139 (by decide +kernel) rfl, rfl⟩
theorem fl_2_37 : Fl RX2 37 5 6 2 false := ⟨_, _, _, _, _, cl_2, by decide, rfl, tb_of 140 (by decide +kernel) rfl, rfl⟩
theorem fl_5_122 : Fl RX5 122 5 6 2 false := ⟨_, _, _, _, _, cl_2, by decide, rfl, tb_of 141 (by decide +kernel) rfl, rfl⟩
theorem fl_8_157 : Fl RX8 157 5 6 2 false := ⟨_, _, _, _, _, cl_2, by decide, rfl, tb_of 142 (by decide +kernel) rfl, rfl⟩
theorem fl_2_40 : Fl RX2 40 5 7 1 false := ⟨_, _, _, _, _, cl_2, by decide, rfl, tb_of 143 (by decide +kernel) rfl, rfl⟩
theorem fl_5_125 : Fl RX5 125 5 7 1 false := ⟨_, _, _, _, _, cl_2, by decide, rfl, tb_of 144 (by decide +kernel) rfl, rfl⟩
theorem fl_8_163 : Fl RX8 163 5 7 1 false := ⟨_, _, _, _, _, cl_2, by decide, rfl, tb_of 145 (by decide +kernel) rfl, rfl⟩
theorem fl_2_43 : Fl RX2 43 5 8 0 false := ⟨_, _, _, _, _, cl_2, by decide, rfl, tb_of 146 (by decide +kernel) rfl, rfl⟩
theorem fl_9_82 : Fl RX9 82 5 8 0 false := ⟨_, _, _, _, _, cl_2, by decide, rfl, tb_of 147 (by decide +kernel) rfl, rfl⟩
theorem fl_4_39 : Fl RX4 39 5 8 0 false := ⟨_, _, _, _, _, cl_2, by decide, rfl, tb_of 148 (by decide +kernel) rfl, rfl⟩
theorem fl_8_100 : Fl RX8 100 5 8 0 false := ⟨_, _, _, _, _, cl_2, by decide, rfl, tb_of 149 (by decide +kernel) rfl, rfl⟩
theorem fl_4_11 : Fl RX4 11 4 0 712 true := ⟨_, _, _, _, _, cl_4, by decide, rfl, tb_of 169 (by decide +kernel) rfl, rfl⟩
theorem fl_4_18 : Fl RX4 18 4 1 0 false := ⟨_, _, _, _, _, cl_4, by decide, rfl, tb_of 170 (by decide +kernel) rfl, rfl⟩
theorem fl_5_34 : Fl RX5 34 4 1 0 false := ⟨_, _, _, _, _, cl_4, by decide, rfl, tb_of 171 (by decide +kernel) rfl, rfl⟩
theorem fl_9_65 : Fl RX9 65 4 1 0 false := ⟨_, _, _, _, _, cl_4, by decide, rfl, tb_of 172 (by decide +kernel) rfl, rfl⟩
theorem fl_1_11 : Fl RX1 11 8 0 718 true := ⟨_, _, _, _, _, cl_1, by decide, rfl, tb_of 190 (by decide +kernel) rfl, rfl⟩
theorem fl_1_15 : Fl RX1 15 8 1 0 false := ⟨_, _, _, _, _, cl_1, by decide, rfl, tb_of 191 (by decide +kernel) rfl, rfl⟩
theorem fl_9_144 : Fl RX9 144 8 1 0 false := ⟨_, _, _, _, _, cl_1, by decide, rfl, tb_of 192 (by decide +kernel) rfl, rfl⟩
theorem fl_7_7 : Fl RX7 7 9 0 1 false := ⟨_, _, _, _, _, cl_7, by decide, rfl, tb_of 204 (by decide +kernel) rfl, rfl⟩
theorem fl_7_13 : Fl RX7 13 9 1 1 false := ⟨_, _, _, _, _, cl_7, by decide, rfl, tb_of 205 (by decide +kernel) rfl, rfl⟩
theorem fl_8_12 : Fl RX8 12 7 0 508 true := ⟨_, _, _, _, _, cl_8, by decide, rfl, tb_of 211 (by decide +kernel) rfl, rfl⟩
theorem fl_9_140 : Fl RX9 140 7 0 508 true := ⟨_, _, _, _, _, cl_8, by decide, rfl, tb_of 212 (by decide +kernel) rfl, rfl⟩
theorem fl_8_18 : Fl RX8 18 7 1 608 true := ⟨_, _, _, _, _, cl_8, by decide, rfl, tb_of 213 (by decide +kernel) rfl, rfl⟩
theorem fl_9_156 : Fl RX9 156 7 1 608 true := ⟨_, _, _, _, _, cl_8, by decide, rfl, tb_of 214 (by decide +kernel) rfl, rfl⟩
theorem fl_8_24 : Fl RX8 24 7 2 509 true := ⟨_, _, _, _, _, cl_8, by decide, rfl, tb_of 215 (by decide +kernel) rfl, rfl⟩
theorem fl_9_125 : Fl RX9 125 7 2 509 true := ⟨_, _, _, _, _, cl_8, by decide, rfl, tb_of 216 (by decide +kernel) rfl, rfl⟩
theorem fl_8_28 : Fl RX8 28 7 3 1 false := ⟨_, _, _, _, _, cl_8, by decide, rfl, tb_of 217 (by decide +kernel) rfl, rfl⟩
theorem fl_9_108 : Fl RX9 108 7 3 1 false := ⟨_, _, _, _, _, cl_8, by decide, rfl, tb_of 218 (by decide +kernel) rfl, rfl⟩
theorem fl_8_32 : Fl RX8 32 7 4 609 true := ⟨_, _, _, _, _, cl_8, by decide, rfl, tb_of 219 (by decide +kernel) rfl, rfl⟩
theorem fl_8_35 : Fl RX8 35 7 5 14 false := ⟨_, _, _, _, _, cl_8, by decide, rfl, tb_of 220 (by decide +kernel) rfl, rfl⟩
theorem fl_8_39 : Fl RX8 39 7 6 519 true := ⟨_, _, _, _, _, cl_8, by decide, rfl, tb_of 221 (by decide +kernel) rfl, rfl⟩
theorem fl_8_43 : Fl RX8 43 7 7 0 false := ⟨_, _, _, _, _, cl_8, by decide, rfl, tb_of 222 (by decide +kernel) rfl, rfl⟩
theorem fl_8_47 : Fl RX8 47 7 8 0 false := ⟨_, _, _, _, _, cl_8, by decide, rfl, tb_of 223 (by decide +kernel) rfl, rfl⟩
theorem fl_8_50 : Fl RX8 50 7 9 520 true := ⟨_, _, _, _, _, cl_8, by decide, rfl, tb_of 224 (by decide +kernel) rfl, rfl⟩
theorem fl_8_54 : Fl RX8 54 7 10 0 false := ⟨_, _, _, _, _, cl_8, by decide, rfl, tb_of 225 (by decide +kernel) rfl, rfl⟩
theorem fl_8_57 : Fl RX8 57 7 11 2 false := ⟨_, _, _, _, _, cl_8, by decide, rfl, tb_of 226 (by decide +kernel) rfl, rfl⟩
theorem fl_9_12 : Fl RX9 12 0 0 501 true := ⟨_, _, _, _, _, cl_9, by decide, rfl, tb_of 252 (by decide +kernel) rfl, rfl⟩
theorem fl_9_21 : Fl RX9 21 0 1 502 true := ⟨_, _, _, _, _, cl_9, by decide, rfl, tb_of 253 (by decide +kernel) rfl, rfl⟩
theorem fl_9_40 : Fl RX9 40 0 2 507 true := ⟨_, _, _, _, _, cl_9, by decide, rfl, tb_of 254 (by decide +kernel) rfl, rfl⟩
theorem fl_9_28 : Fl RX9 28 0 3 14 false := ⟨_, _, _, _, _, cl_9, by decide, rfl, tb_of 255 (by decide +kernel) rfl, rfl⟩
theorem fl_9_32 : Fl RX9 32 0 4 14 false := ⟨_, _, _, _, _, cl_9, by decide, rfl, tb_of 256 (by decide +kernel) rfl, rfl⟩
theorem fl_10_7 : Fl RX10 7 10 0 530 true := ⟨_, _, _, _, _, cl_10, by decide, rfl, tb_of 744 (by decide +kernel) rfl, rfl⟩
theorem fl_10_153 : Fl RX10 153 10 1 0 false := ⟨_, _, _, _, _, cl_10, by decide, rfl, tb_of 745 (by decide +kernel) rfl, rfl⟩
theorem fl_10_167 : Fl RX10 167 10 2 0 false := ⟨_, _, _, _, _, cl_10, by decide, rfl, tb_of 746 (by decide +kernel) rfl, rfl⟩
theorem fl_10_13 : Fl RX10 13 10 3 533 true := ⟨_, _, _, _, _, cl_10, by decide, rfl, tb_of 747 (by decide +kernel) rfl, rfl⟩
theorem fl_10_17 : Fl RX10 17 10 4 534 true := ⟨_, _, _, _, _, cl_10, by decide, rfl, tb_of 748 (by decide +kernel) rfl, rfl⟩
theorem fl_10_20 : Fl RX10 20 10 5 535 true := ⟨_, _, _, _, _, cl_10, by decide, rfl, tb_of 749 (by decide +kernel) rfl, rfl⟩
theorem fl_10_199 : Fl RX10 199 10 6 0 false := ⟨_, _, _, _, _, cl_10, by decide, rfl, tb_of 750 (by decide +kernel) rfl, rfl⟩
theorem fl_10_196 : Fl RX10 196 10 7 0 false := ⟨_, _, _, _, _, cl_10, by decide, rfl, tb_of 751 (by decide +kernel) rfl, rfl⟩
theorem fl_10_212 : Fl RX10 212 10 8 0 false := ⟨_, _, _, _, _, cl_10, by decide, rfl, tb_of 752 (by decide +kernel) rfl, rfl⟩
theorem fl_10_24 : Fl RX10 24 10 9 539 true := ⟨_, _, _, _, _, cl_10, by decide, rfl, tb_of 753 (by decide +kernel) rfl, rfl⟩
theorem fl_10_27 : Fl RX10 27 10 10 540 true := ⟨_, _, _, _, _, cl_10, by decide, rfl, tb_of 754 (by decide +kernel) rfl, rfl⟩
theorem fl_10_30 : Fl RX10 30 10 11 541 true := ⟨_, _, _, _, _, cl_10, by decide, rfl, tb_of 755 (by decide +kernel) rfl, rfl⟩
theorem fl_10_34 : Fl RX10 34 10 12 542 true := ⟨_, _, _, _, _, cl_10, by decide, rfl, tb_of 756 (by decide +kernel) rfl, rfl⟩
theorem fl_10_37 : Fl RX10 37 10 13 543 true := ⟨_, _, _, _, _, cl_10, by decide, rfl, tb_of 757 (by decide +kernel) rfl, rfl⟩
theorem fl_10_40 : Fl RX10 40 10 14 544 true := ⟨_, _, _, _, _, cl_10, by decide, rfl, tb_of 758 (by decide +kernel) rfl, rfl⟩
theorem fl_10_43 : Fl RX10 43 10 15 545 true := ⟨_, _, _, _, _, cl_10, by decide, rfl, tb_of 759 (by decide +kernel) rfl, rfl⟩
theorem fl_10_206 : Fl RX10 206 10 16 0 false := ⟨_, _, _, _, _, cl_10, by decide, rfl, tb_of 760 (by decide +kernel) rfl, rfl⟩
theorem fl_10_46 : Fl RX10 46 10 17 547 true := ⟨_, _, _, _, _, cl_10, by decide, rfl, tb_of 761 (by decide +kernel) rfl, rfl⟩
theorem fl_10_49 : Fl RX10 49 10 18 548 true := ⟨_, _, _, _, _, cl_10, by decide, rfl, tb_of 762 (by decide +kernel) rfl, rfl⟩
theorem fl_10_215 : Fl RX10 215 10 19 0 false := ⟨_, _, _, _, _, cl_10, by decide, rfl, tb_of 763 (by decide +kernel) rfl, rfl⟩
theorem fl_10_52 : Fl RX10 52 10 20 550 true := ⟨_, _, _, _, _, cl_10, by decide, rfl, tb_of 764 (by decide +kernel) rfl, rfl⟩
theorem fl_10_55 : Fl RX10 55 10 21 551 true := ⟨_, _, _, _, _, cl_10, by decide, rfl, tb_of 765 (by decide +kernel) rfl, rfl⟩
theorem fl_10_209 : Fl RX10 209 10 22 0 false := ⟨_, _, _, _, _, cl_10, by decide, rfl, tb_of 766 (by decide +kernel) rfl, rfl⟩
theorem fl_10_58 : Fl RX10 58 10 23 553 true := ⟨_, _, _, _, _, cl_10, by decide, rfl, tb_of 767 (by decide +kernel) rfl, rfl⟩
theorem fl_10_61 : Fl RX10 61 10 24 554 true := ⟨_, _, _, _, _, cl_10, by decide, rfl, tb_of 768 (by decide +kernel) rfl, rfl⟩
theorem fl_10_64 : Fl RX10 64 10 25 555 true := ⟨_, _, _, _, _, cl_10, by decide, rfl, tb_of 769 (by decide +kernel) rfl, rfl⟩
theorem fl_10_224 : Fl RX10 224 10 26 0 false := ⟨_, _, _, _, _, cl_10, by decide, rfl, tb_of 770 (by decide +kernel) rfl, rfl⟩
theorem fl_10_67 : Fl RX10 67 10 27 557 true := ⟨_, _, _, _, _, cl_10, by decide, rfl, tb_of 771 (by decide +kernel) rfl, rfl⟩
theorem fl_10_70 : Fl RX10 70 10 28 558 true := ⟨_, _, _, _, _, cl_10, by decide, rfl, tb_of 772 (by decide +kernel) rfl, rfl⟩
theorem fl_10_73 : Fl RX10 73 10 29 559 true := ⟨_, _, _, _, _, cl_10, by decide, rfl, tb_of 773 (by decide +kernel) rfl, rfl⟩
theorem fl_10_227 : Fl RX10 227 10 30 0 false := ⟨_, _, _, _, _, cl_10, by decide, rfl, tb_of 774 (by decide +kernel) rfl, rfl⟩
theorem fl_10_230 : Fl RX10 230 10 31 0 false := ⟨_, _, _, _, _, cl_10, by decide, rfl, tb_of 775 (by decide +kernel) rfl, rfl⟩
theorem fl_10_289 : Fl RX10 289 10 32 0 false := ⟨_, _, _, _, _, cl_10, by decide, rfl, tb_of 776 (by decide +kernel) rfl, rfl⟩
theorem fl_10_76 : Fl RX10 76 10 33 563 true := ⟨_, _, _, _, _, cl_10, by decide, rfl, tb_of 777 (by decide +kernel) rfl, rfl⟩
theorem fl_10_79 : Fl RX10 79 10 34 564 true := ⟨_, _, _, _, _, cl_10, by decide, rfl, tb_of 778 (by decide +kernel) rfl, rfl⟩
theorem fl_10_82 : Fl RX10 82 10 35 565 true := ⟨_, _, _, _, _, cl_10, by decide, rfl, tb_of 779 (by decide +kernel) rfl, rfl⟩
theorem fl_10_85 : Fl RX10 85 10 36 566 true := ⟨_, _, _, _, _, cl_10, by decide, rfl, tb_of 780 (by decide +kernel) rfl, rfl⟩
theorem fl_10_88 : Fl RX10 88 10 37 567 true := ⟨_, _, _, _, _, cl_10, by decide, rfl, tb_of 781 (by decide +kernel) rfl, rfl⟩
theorem fl_10_91 : Fl RX10 91 10 38 568 true := ⟨_, _, _, _, _, cl_10, by decide, rfl, tb_of 782 (by decide +kernel) rfl, rfl⟩
theorem fl_10_94 : Fl RX10 94 10 39 569 true := ⟨_, _, _, _, _, cl_10, by decide, rfl, tb_of 783 (by decide +kernel) rfl, rfl⟩
theorem fl_10_97 : Fl RX10 97 10 40 570 true := ⟨_, _, _, _, _, cl_10, by decide, rfl, tb_of 784 (by decide +kernel) rfl, rfl⟩
theorem fl_10_100 : Fl RX10 100 10 41 571 true := ⟨_, _, _, _, _, cl_10, by decide, rfl, tb_of 785 (by decide +kernel) rfl, rfl⟩
theorem fl_10_103 : Fl RX10 103 10 42 572 true := ⟨_, _, _, _, _, cl_10, by decide, rfl, tb_of 786 (by decide +kernel) rfl, rfl⟩
theorem fl_10_106 : Fl RX10 106 10 43 573 true := ⟨_, _, _, _, _, cl_10, by decide, rfl, tb_of 787 (by decide +kernel) rfl, rfl⟩
theorem fl_10_296 : Fl RX10 296 10 44 0 false := ⟨_, _, _, _, _, cl_10, by decide, rfl, tb_of 788 (by decide +kernel) rfl, rfl⟩
theorem fl_10_109 : Fl RX10 109 10 45 575 true := ⟨_, _, _, _, _, cl_10, by decide, rfl, tb_of 789 (by decide +kernel) rfl, rfl⟩
theorem fl_10_112 : Fl RX10 112 10 46 576 true := ⟨_, _, _, _, _, cl_10, by decide, rfl, tb_of 790 (by decide +kernel) rfl, rfl⟩
theorem fl_10_115 : Fl RX10 115 10 47 577 true := ⟨_, _, _, _, _, cl_10, by decide, rfl, tb_of 791 (by decide +kernel) rfl, rfl⟩
theorem fl_10_299 : Fl RX10 299 10 48 0 false := ⟨_, _, _, _, _, cl_10, by decide, rfl, tb_of 792 (by decide +kernel) rfl, rfl⟩
theorem fl_10_118 : Fl RX10 118 10 49 579 true := ⟨_, _, _, _, _, cl_10, by decide, rfl, tb_of 793 (by decide +kernel) rfl, rfl⟩
theorem fl_10_121 : Fl RX10 121 10 50 580 true := ⟨_, _, _, _, _, cl_10, by decide, rfl, tb_of 794 (by decide +kernel) rfl, rfl⟩
theorem fl_10_124 : Fl RX10 124 10 51 581 true := ⟨_, _, _, _, _, cl_10, by decide, rfl, tb_of 795 (by decide +kernel) rfl, rfl⟩
theorem fl_10_127 : Fl RX10 127 10 52 582 true := ⟨_, _, _, _, _, cl_10, by decide, rfl, tb_of 796 (by decide +kernel) rfl, rfl⟩
theorem fl_10_302 : Fl RX10 302 10 53 0 false := ⟨_, _, _, _, _, cl_10, by decide, rfl, tb_of 797 (by decide +kernel) rfl, rfl⟩
theorem fl_10_336 : Fl RX10 336 10 54 0 false := ⟨_, _, _, _, _, cl_10, by decide, rfl, tb_of 798 (by decide +kernel) rfl, rfl⟩
theorem fl_10_315 : Fl RX10 315 10 55 0 false := ⟨_, _, _, _, _, cl_10, by decide, rfl, tb_of 799 (by decide +kernel) rfl, rfl⟩
theorem fl_10_130 : Fl RX10 130 10 56 586 true := ⟨_, _, _, _, _, cl_10, by decide, rfl, tb_of 800 (by decide +kernel) rfl, rfl⟩
theorem fl_10_133 : Fl RX10 133 10 57 587 true := ⟨_, _, _, _, _, cl_10, by decide, rfl, tb_of 801 (by decide +kernel) rfl, rfl⟩
theorem fl_10_136 : Fl RX10 136 10 58 588 true := ⟨_, _, _, _, _, cl_10, by decide, rfl, tb_of 802 (by decide +kernel) rfl, rfl⟩
theorem fl_10_139 : Fl RX10 139 10 59 589 true := ⟨_, _, _, _, _, cl_10, by decide, rfl, tb_of 803 (by decide +kernel) rfl, rfl⟩
theorem fl_10_142 : Fl RX10 142 10 60 590 true := ⟨_, _, _, _, _, cl_10, by decide, rfl, tb_of 804 (by decide +kernel) rfl, rfl⟩
theorem fl_10_145 : Fl RX10 145 10 61 591 true := ⟨_, _, _, _, _, cl_10, by decide, rfl, tb_of 805 (by decide +kernel) rfl, rfl⟩
theorem fl_10_148 : Fl RX10 148 10 62 592 true := ⟨_, _, _, _, _, cl_10, by decide, rfl, tb_of 806 (by decide +kernel) rfl, rfl⟩
theorem fl_10_328 : Fl RX10 328 10 63 1 false := ⟨_, _, _, _, _, cl_10, by decide, rfl, tb_of 807 (by decide +kernel) rfl, rfl⟩
theorem fl_10_354 : Fl RX10 354 10 64 1 false := ⟨_, _, _, _, _, cl_10, by decide, rfl, tb_of 808 (by decide +kernel) rfl, rfl⟩
theorem fl_10_349 : Fl RX10 349 10 65 1 false := ⟨_, _, _, _, _, cl_10, by decide, rfl, tb_of 809 (by decide +kernel) rfl, rfl⟩
abbrev Mt : Type := MethodName × ByteArray × Nat × Option FieldType × Nat
/-- what every call needs of a method -/
def Mk (M : Mt) : Prop := Cond.code M.1 M.2.1 M.2.2.1 M.2.2.2.1 ∈ TB ∧ Cond.initialized M.1.cls ∈ TB ∧ (M.1.cls ≠ "java/lang/invoke/MethodHandle" ∧ M.1.cls ≠ "java/lang/invoke/VarHandle" ∧ (parseMethodDescriptor M.1.desc).map (fun d => d.parameters.length) = some M.2.2.2.2) ∧ M.2.2.1 ≤ 40
def MkV (M : Mt) : Prop := Mk M ∧ Cond.instanceMethod M.1 ∈ TB ∧ Cond.selects M.1.cls M.1 M.1 ∈ TB
def MkS (M : Mt) : Prop := Mk M ∧ Cond.static M.1 ∈ TB
def MkI (M : Mt) : Prop := Mk M ∧ Cond.instanceMethod M.1 ∈ TB ∧ M.1.name = "<init>" ∧ M.2.2.2.1 = none
def Lk (own : String) (idx : Nat) (M : Mt) : Prop := Cond.methodLink own idx M.1 ∈ TB
def nestL : List Cond := [.methodLinkNest "OfficeTables$Formula" (26 : Nat) ({ cls := "OfficeTables", name := "put", desc := "([III)V" } : Jvm.MethodName) "OfficeTables", .methodLinkNest "OfficeTables$Formula" (30 : Nat) ({ cls := "OfficeTables", name := "put", desc := "([JIJ)V" } : Jvm.MethodName) "OfficeTables", .methodLinkNest "OfficeTables$Formula" (33 : Nat) ({ cls := "OfficeTables", name := "at", desc := "([II)I" } : Jvm.MethodName) "OfficeTables", .methodLinkNest "OfficeTables$Formula" (37 : Nat) ({ cls := "OfficeTables", name := "at", desc := "([JI)J" } : Jvm.MethodName) "OfficeTables", .methodLinkNest "OfficeTables$Workshop" (170 : Nat) ({ cls := "OfficeTables", name := "put", desc := "([III)V" } : Jvm.MethodName) "OfficeTables", .methodLinkNest "OfficeTables$Log" (19 : Nat) ({ cls := "OfficeTables", name := "put", desc := "([JIJ)V" } : Jvm.MethodName) "OfficeTables", .methodLinkNest "OfficeTables$Workshop" (190 : Nat) ({ cls := "OfficeTables", name := "put", desc := "([JIJ)V" } : Jvm.MethodName) "OfficeTables", .methodLinkNest "OfficeTables$Workshop" (116 : Nat) ({ cls := "OfficeTables", name := "at", desc := "([JI)J" } : Jvm.MethodName) "OfficeTables", .methodLinkNest "OfficeTables$Workshop" (67 : Nat) ({ cls := "OfficeTables", name := "at", desc := "([II)I" } : Jvm.MethodName) "OfficeTables", .methodLinkNest "OfficeTables$Log" (23 : Nat) ({ cls := "OfficeTables", name := "at", desc := "([JI)J" } : Jvm.MethodName) "OfficeTables", .methodLinkNest "OfficeTables$Table" (68 : Nat) ({ cls := "OfficeTables", name := "at", desc := "([II)I" } : Jvm.MethodName) "OfficeTables"]
def LkN (own : String) (idx : Nat) (M : Mt) (host : String) : Prop := Cond.methodLinkNest own idx M.1 host ∈ nestL
abbrev mX0_init : Mt := (yX0_init, cX0_init, 1, none, 0)
set_option maxRecDepth 100000 in
theorem kX0_init : Mk mX0_init := ⟨tb_of 100 rfl rfl, tb_of 7 (by decide +kernel) rfl, by decide +kernel, by decide⟩
theorem kIX0_init : MkI mX0_init := ⟨kX0_init, tb_of 99 (by decide +kernel) rfl, rfl, rfl⟩
abbrev mX0_clear : Mt := (yX0_clear, cX0_clear, 1, none, 0)
set_option maxRecDepth 100000 in
theorem kX0_clear : Mk mX0_clear := ⟨tb_of 363 rfl rfl, tb_of 7 (by decide +kernel) rfl, by decide +kernel, by decide⟩
theorem kVX0_clear : MkV mX0_clear := ⟨kX0_clear, tb_of 361 (by decide +kernel) rfl, tb_of 362 (by decide +kernel) rfl⟩
abbrev mX0_add : Mt := (yX0_add, cX0_add, 5, none, 3)
set_option maxRecDepth 100000 in
theorem kX0_add : Mk mX0_add := ⟨tb_of 403 rfl rfl, tb_of 7 (by decide +kernel) rfl, by decide +kernel, by decide⟩
theorem kVX0_add : MkV mX0_add := ⟨kX0_add, tb_of 401 (by decide +kernel) rfl, tb_of 402 (by decide +kernel) rfl⟩
abbrev mX0_skipToHere : Mt := (yX0_skipToHere, cX0_skipToHere, 2, none, 1)
set_option maxRecDepth 100000 in
theorem kX0_skipToHere : Mk mX0_skipToHere := ⟨tb_of 425 rfl rfl, tb_of 7 (by decide +kernel) rfl, by decide +kernel, by decide⟩
theorem kVX0_skipToHere : MkV mX0_skipToHere := ⟨kX0_skipToHere, tb_of 423 (by decide +kernel) rfl, tb_of 424 (by decide +kernel) rfl⟩
abbrev mX0_stepAt : Mt := (yX0_stepAt, cX0_stepAt, 2, (some .int), 1)
set_option maxRecDepth 100000 in
theorem kX0_stepAt : Mk mX0_stepAt := ⟨tb_of 587 rfl rfl, tb_of 7 (by decide +kernel) rfl, by decide +kernel, by decide⟩
theorem kVX0_stepAt : MkV mX0_stepAt := ⟨kX0_stepAt, tb_of 585 (by decide +kernel) rfl, tb_of 586 (by decide +kernel) rfl⟩
abbrev mX0_withAt : Mt := (yX0_withAt, cX0_withAt, 2, (some .long), 1)
set_option maxRecDepth 100000 in
theorem kX0_withAt : Mk mX0_withAt := ⟨tb_of 451 rfl rfl, tb_of 7 (by decide +kernel) rfl, by decide +kernel, by decide⟩
theorem kVX0_withAt : MkV mX0_withAt := ⟨kX0_withAt, tb_of 449 (by decide +kernel) rfl, tb_of 450 (by decide +kernel) rfl⟩
abbrev mX0_skipAt : Mt := (yX0_skipAt, cX0_skipAt, 2, (some .int), 1)
set_option maxRecDepth 100000 in
theorem kX0_skipAt : Mk mX0_skipAt := ⟨tb_of 603 rfl rfl, tb_of 7 (by decide +kernel) rfl, by decide +kernel, by decide⟩
theorem kVX0_skipAt : MkV mX0_skipAt := ⟨kX0_skipAt, tb_of 601 (by decide +kernel) rfl, tb_of 602 (by decide +kernel) rfl⟩
abbrev mX0_isNameAt : Mt := (yX0_isNameAt, cX0_isNameAt, 3, (some .boolean), 1)
set_option maxRecDepth 100000 in
theorem kX0_isNameAt : Mk mX0_isNameAt := ⟨tb_of 444 rfl rfl, tb_of 7 (by decide +kernel) rfl, by decide +kernel, by decide⟩
theorem kVX0_isNameAt : MkV mX0_isNameAt := ⟨kX0_isNameAt, tb_of 442 (by decide +kernel) rfl, tb_of 443 (by decide +kernel) rfl⟩
abbrev mX0_placeAt : Mt := (yX0_placeAt, cX0_placeAt, 2, (some .int), 1)
set_option maxRecDepth 100000 in
theorem kX0_placeAt : Mk mX0_placeAt := ⟨tb_of 458 rfl rfl, tb_of 7 (by decide +kernel) rfl, by decide +kernel, by decide⟩
theorem kVX0_placeAt : MkV mX0_placeAt := ⟨kX0_placeAt, tb_of 456 (by decide +kernel) rfl, tb_of 457 (by decide +kernel) rfl⟩
abbrev mX0_resolve : Mt := (yX0_resolve, cX0_resolve, 3, none, 2)
set_option maxRecDepth 100000 in
theorem kX0_resolve : Mk mX0_resolve := ⟨tb_of 462 rfl rfl, tb_of 7 (by decide +kernel) rfl, by decide +kernel, by decide⟩
theorem kVX0_resolve : MkV mX0_resolve := ⟨kX0_resolve, tb_of 460 (by decide +kernel) rfl, tb_of 461 (by decide +kernel) rfl⟩
abbrev mX0_names : Mt := (yX0_names, cX0_names, 3, (some .boolean), 1)
set_option maxRecDepth 100000 in
theorem kX0_names : Mk mX0_names := ⟨tb_of 718 rfl rfl, tb_of 7 (by decide +kernel) rfl, by decide +kernel, by decide⟩
theorem kVX0_names : MkV mX0_names := ⟨kX0_names, tb_of 716 (by decide +kernel) rfl, tb_of 717 (by decide +kernel) rfl⟩
abbrev mX1_init : Mt := (yX1_init, cX1_init, 1, none, 0)
set_option maxRecDepth 100000 in
theorem kX1_init : Mk mX1_init := ⟨tb_of 188 rfl rfl, tb_of 9 (by decide +kernel) rfl, by decide +kernel, by decide⟩
theorem kIX1_init : MkI mX1_init := ⟨kX1_init, tb_of 187 (by decide +kernel) rfl, rfl, rfl⟩
abbrev mX1_clear : Mt := (yX1_clear, cX1_clear, 1, none, 0)
set_option maxRecDepth 100000 in
theorem kX1_clear : Mk mX1_clear := ⟨tb_of 478 rfl rfl, tb_of 9 (by decide +kernel) rfl, by decide +kernel, by decide⟩
theorem kVX1_clear : MkV mX1_clear := ⟨kX1_clear, tb_of 476 (by decide +kernel) rfl, tb_of 477 (by decide +kernel) rfl⟩
abbrev mX1_note : Mt := (yX1_note, cX1_note, 9, none, 4)
set_option maxRecDepth 100000 in
theorem kX1_note : Mk mX1_note := ⟨tb_of 560 rfl rfl, tb_of 9 (by decide +kernel) rfl, by decide +kernel, by decide⟩
theorem kVX1_note : MkV mX1_note := ⟨kX1_note, tb_of 558 (by decide +kernel) rfl, tb_of 559 (by decide +kernel) rfl⟩
abbrev mX1_keeps : Mt := (yX1_keeps, cX1_keeps, 2, (some .boolean), 1)
set_option maxRecDepth 100000 in
theorem kX1_keeps : Mk mX1_keeps := ⟨tb_of 697 rfl rfl, tb_of 9 (by decide +kernel) rfl, by decide +kernel, by decide⟩
theorem kVX1_keeps : MkV mX1_keeps := ⟨kX1_keeps, tb_of 695 (by decide +kernel) rfl, tb_of 696 (by decide +kernel) rfl⟩
abbrev mX1_told : Mt := (yX1_told, cX1_told, 3, (some .long), 2)
set_option maxRecDepth 100000 in
theorem kX1_told : Mk mX1_told := ⟨tb_of 701 rfl rfl, tb_of 9 (by decide +kernel) rfl, by decide +kernel, by decide⟩
theorem kVX1_told : MkV mX1_told := ⟨kX1_told, tb_of 699 (by decide +kernel) rfl, tb_of 700 (by decide +kernel) rfl⟩
abbrev mX2_init : Mt := (yX2_init, cX2_init, 1, none, 0)
set_option maxRecDepth 100000 in
theorem kX2_init : Mk mX2_init := ⟨tb_of 94 rfl rfl, tb_of 6 (by decide +kernel) rfl, by decide +kernel, by decide⟩
theorem kIX2_init : MkI mX2_init := ⟨kX2_init, tb_of 93 (by decide +kernel) rfl, rfl, rfl⟩
abbrev mX2_putToSleep : Mt := (yX2_putToSleep, cX2_putToSleep, 2, none, 0)
set_option maxRecDepth 100000 in
theorem kX2_putToSleep : Mk mX2_putToSleep := ⟨tb_of 470 rfl rfl, tb_of 6 (by decide +kernel) rfl, by decide +kernel, by decide⟩
theorem kVX2_putToSleep : MkV mX2_putToSleep := ⟨kX2_putToSleep, tb_of 468 (by decide +kernel) rfl, tb_of 469 (by decide +kernel) rfl⟩
abbrev mX2_entriesInAll : Mt := (yX2_entriesInAll, cX2_entriesInAll, 1, (some .int), 0)
set_option maxRecDepth 100000 in
theorem kX2_entriesInAll : Mk mX2_entriesInAll := ⟨tb_of 516 rfl rfl, tb_of 6 (by decide +kernel) rfl, by decide +kernel, by decide⟩
theorem kVX2_entriesInAll : MkV mX2_entriesInAll := ⟨kX2_entriesInAll, tb_of 514 (by decide +kernel) rfl, tb_of 515 (by decide +kernel) rfl⟩
abbrev mX2_rowsInAll : Mt := (yX2_rowsInAll, cX2_rowsInAll, 1, (some .int), 0)
set_option maxRecDepth 100000 in
theorem kX2_rowsInAll : Mk mX2_rowsInAll := ⟨tb_of 512 rfl rfl, tb_of 6 (by decide +kernel) rfl, by decide +kernel, by decide⟩
theorem kVX2_rowsInAll : MkV mX2_rowsInAll := ⟨kX2_rowsInAll, tb_of 510 (by decide +kernel) rfl, tb_of 511 (by decide +kernel) rfl⟩
abbrev mX2_endOfRow : Mt := (yX2_endOfRow, cX2_endOfRow, 2, (some .int), 1)
set_option maxRecDepth 100000 in
theorem kX2_endOfRow : Mk mX2_endOfRow := ⟨tb_of 619 rfl rfl, tb_of 6 (by decide +kernel) rfl, by decide +kernel, by decide⟩
theorem kVX2_endOfRow : MkV mX2_endOfRow := ⟨kX2_endOfRow, tb_of 617 (by decide +kernel) rfl, tb_of 618 (by decide +kernel) rfl⟩
abbrev mX2_clearEntries : Mt := (yX2_clearEntries, cX2_clearEntries, 2, none, 0)
set_option maxRecDepth 100000 in
theorem kX2_clearEntries : Mk mX2_clearEntries := ⟨tb_of 570 rfl rfl, tb_of 6 (by decide +kernel) rfl, by decide +kernel, by decide⟩
theorem kVX2_clearEntries : MkV mX2_clearEntries := ⟨kX2_clearEntries, tb_of 568 (by decide +kernel) rfl, tb_of 569 (by decide +kernel) rfl⟩
abbrev mX2_readyEntries : Mt := (yX2_readyEntries, cX2_readyEntries, 3, (some .int), 0)
set_option maxRecDepth 100000 in
theorem kX2_readyEntries : Mk mX2_readyEntries := ⟨tb_of 734 rfl rfl, tb_of 6 (by decide +kernel) rfl, by decide +kernel, by decide⟩
theorem kVX2_readyEntries : MkV mX2_readyEntries := ⟨kX2_readyEntries, tb_of 732 (by decide +kernel) rfl, tb_of 733 (by decide +kernel) rfl⟩
abbrev mX3_init : Mt := (yX3_init, cX3_init, 1, none, 0)
set_option maxRecDepth 100000 in
theorem kX3_init : Mk mX3_init := ⟨tb_of 25 rfl rfl, tb_of 2 (by decide +kernel) rfl, by decide +kernel, by decide⟩
theorem kIX3_init : MkI mX3_init := ⟨kX3_init, tb_of 24 (by decide +kernel) rfl, rfl, rfl⟩
abbrev mX3_append : Mt := (yX3_append, cX3_append, 5, (some .boolean), 1)
set_option maxRecDepth 100000 in
theorem kX3_append : Mk mX3_append := ⟨tb_of 275 rfl rfl, tb_of 2 (by decide +kernel) rfl, by decide +kernel, by decide⟩
theorem kVX3_append : MkV mX3_append := ⟨kX3_append, tb_of 273 (by decide +kernel) rfl, tb_of 274 (by decide +kernel) rfl⟩
abbrev mX3_bytesIn : Mt := (yX3_bytesIn, cX3_bytesIn, 3, (some .int), 1)
set_option maxRecDepth 100000 in
theorem kX3_bytesIn : Mk mX3_bytesIn := ⟨tb_of 278 rfl rfl, tb_of 2 (by decide +kernel) rfl, by decide +kernel, by decide⟩
theorem kSX3_bytesIn : MkS mX3_bytesIn := ⟨kX3_bytesIn, tb_of 277 (by decide +kernel) rfl⟩
abbrev mX3_putByte : Mt := (yX3_putByte, cX3_putByte, 3, none, 2)
set_option maxRecDepth 100000 in
theorem kX3_putByte : Mk mX3_putByte := ⟨tb_of 283 rfl rfl, tb_of 2 (by decide +kernel) rfl, by decide +kernel, by decide⟩
theorem kVX3_putByte : MkV mX3_putByte := ⟨kX3_putByte, tb_of 282 (by decide +kernel) rfl, tb_sel 0 (by decide +kernel) rfl⟩
abbrev mX3_byteAt : Mt := (yX3_byteAt, cX3_byteAt, 2, (some .int), 1)
set_option maxRecDepth 100000 in
theorem kX3_byteAt : Mk mX3_byteAt := ⟨tb_of 307 rfl rfl, tb_of 2 (by decide +kernel) rfl, by decide +kernel, by decide⟩
theorem kVX3_byteAt : MkV mX3_byteAt := ⟨kX3_byteAt, tb_of 305 (by decide +kernel) rfl, tb_of 306 (by decide +kernel) rfl⟩
abbrev mX3_empty : Mt := (yX3_empty, cX3_empty, 1, none, 0)
set_option maxRecDepth 100000 in
theorem kX3_empty : Mk mX3_empty := ⟨tb_of 486 rfl rfl, tb_of 2 (by decide +kernel) rfl, by decide +kernel, by decide⟩
theorem kVX3_empty : MkV mX3_empty := ⟨kX3_empty, tb_of 484 (by decide +kernel) rfl, tb_of 485 (by decide +kernel) rfl⟩
abbrev mX4_init : Mt := (yX4_init, cX4_init, 2, none, 0)
set_option maxRecDepth 100000 in
theorem kX4_init : Mk mX4_init := ⟨tb_of 87 rfl rfl, tb_of 5 (by decide +kernel) rfl, by decide +kernel, by decide⟩
theorem kIX4_init : MkI mX4_init := ⟨kX4_init, tb_of 86 (by decide +kernel) rfl, rfl, rfl⟩
abbrev mX4_slotAt : Mt := (yX4_slotAt, cX4_slotAt, 2, (some (.object "OfficeTables$Table")), 1)
set_option maxRecDepth 100000 in
theorem kX4_slotAt : Mk mX4_slotAt := ⟨tb_of 337 rfl rfl, tb_of 5 (by decide +kernel) rfl, by decide +kernel, by decide⟩
theorem kVX4_slotAt : MkV mX4_slotAt := ⟨kX4_slotAt, tb_of 335 (by decide +kernel) rfl, tb_of 336 (by decide +kernel) rfl⟩
abbrev mX4_tableAt : Mt := (yX4_tableAt, cX4_tableAt, 2, (some (.object "OfficeTables$Table")), 1)
set_option maxRecDepth 100000 in
theorem kX4_tableAt : Mk mX4_tableAt := ⟨tb_of 379 rfl rfl, tb_of 5 (by decide +kernel) rfl, by decide +kernel, by decide⟩
theorem kVX4_tableAt : MkV mX4_tableAt := ⟨kX4_tableAt, tb_of 377 (by decide +kernel) rfl, tb_of 378 (by decide +kernel) rfl⟩
abbrev mX4_numberOf : Mt := (yX4_numberOf, cX4_numberOf, 5, (some .int), 1)
set_option maxRecDepth 100000 in
theorem kX4_numberOf : Mk mX4_numberOf := ⟨tb_of 354 rfl rfl, tb_of 5 (by decide +kernel) rfl, by decide +kernel, by decide⟩
theorem kVX4_numberOf : MkV mX4_numberOf := ⟨kX4_numberOf, tb_of 352 (by decide +kernel) rfl, tb_of 353 (by decide +kernel) rfl⟩
abbrev mX4_sizeOf : Mt := (yX4_sizeOf, cX4_sizeOf, 3, (some .long), 1)
set_option maxRecDepth 100000 in
theorem kX4_sizeOf : Mk mX4_sizeOf := ⟨tb_of 375 rfl rfl, tb_of 5 (by decide +kernel) rfl, by decide +kernel, by decide⟩
theorem kVX4_sizeOf : MkV mX4_sizeOf := ⟨kX4_sizeOf, tb_of 373 (by decide +kernel) rfl, tb_of 374 (by decide +kernel) rfl⟩
abbrev mX4_putToSleep : Mt := (yX4_putToSleep, cX4_putToSleep, 3, none, 0)
set_option maxRecDepth 100000 in
theorem kX4_putToSleep : Mk mX4_putToSleep := ⟨tb_of 466 rfl rfl, tb_of 5 (by decide +kernel) rfl, by decide +kernel, by decide⟩
theorem kVX4_putToSleep : MkV mX4_putToSleep := ⟨kX4_putToSleep, tb_of 464 (by decide +kernel) rfl, tb_of 465 (by decide +kernel) rfl⟩
abbrev mX4_howManyAre : Mt := (yX4_howManyAre, cX4_howManyAre, 5, (some .int), 1)
set_option maxRecDepth 100000 in
theorem kX4_howManyAre : Mk mX4_howManyAre := ⟨tb_of 726 rfl rfl, tb_of 5 (by decide +kernel) rfl, by decide +kernel, by decide⟩
theorem kVX4_howManyAre : MkV mX4_howManyAre := ⟨kX4_howManyAre, tb_of 724 (by decide +kernel) rfl, tb_of 725 (by decide +kernel) rfl⟩
abbrev mX4_readyEntries : Mt := (yX4_readyEntries, cX4_readyEntries, 4, (some .int), 0)
set_option maxRecDepth 100000 in
theorem kX4_readyEntries : Mk mX4_readyEntries := ⟨tb_of 730 rfl rfl, tb_of 5 (by decide +kernel) rfl, by decide +kernel, by decide⟩
theorem kVX4_readyEntries : MkV mX4_readyEntries := ⟨kX4_readyEntries, tb_of 728 (by decide +kernel) rfl, tb_of 729 (by decide +kernel) rfl⟩
abbrev mX5_init : Mt := (yX5_init, cX5_init, 2, none, 1)
set_option maxRecDepth 100000 in
theorem kX5_init : Mk mX5_init := ⟨tb_of 40 rfl rfl, tb_of 3 (by decide +kernel) rfl, by decide +kernel, by decide⟩
theorem kIX5_init : MkI mX5_init := ⟨kX5_init, tb_of 39 (by decide +kernel) rfl, rfl, rfl⟩
abbrev mX5_parse : Mt := (yX5_parse, cX5_parse, 5, (some .int), 1)
set_option maxRecDepth 100000 in
theorem kX5_parse : Mk mX5_parse := ⟨tb_of 291 rfl rfl, tb_of 3 (by decide +kernel) rfl, by decide +kernel, by decide⟩
theorem kVX5_parse : MkV mX5_parse := ⟨kX5_parse, tb_of 289 (by decide +kernel) rfl, tb_of 290 (by decide +kernel) rfl⟩
abbrev mX5_faultHere : Mt := (yX5_faultHere, cX5_faultHere, 1, (some .boolean), 0)
set_option maxRecDepth 100000 in
theorem kX5_faultHere : Mk mX5_faultHere := ⟨tb_of 349 rfl rfl, tb_of 3 (by decide +kernel) rfl, by decide +kernel, by decide⟩
theorem kVX5_faultHere : MkV mX5_faultHere := ⟨kX5_faultHere, tb_of 348 (by decide +kernel) rfl, tb_sel 6 (by decide +kernel) rfl⟩
abbrev mX5_noteNameFault : Mt := (yX5_noteNameFault, cX5_noteNameFault, 2, none, 1)
set_option maxRecDepth 100000 in
theorem kX5_noteNameFault : Mk mX5_noteNameFault := ⟨tb_of 359 rfl rfl, tb_of 3 (by decide +kernel) rfl, by decide +kernel, by decide⟩
theorem kVX5_noteNameFault : MkV mX5_noteNameFault := ⟨kX5_noteNameFault, tb_of 358 (by decide +kernel) rfl, tb_sel 7 (by decide +kernel) rfl⟩
abbrev mX5_expect : Mt := (yX5_expect, cX5_expect, 2, (some .boolean), 1)
set_option maxRecDepth 100000 in
theorem kX5_expect : Mk mX5_expect := ⟨tb_of 345 rfl rfl, tb_of 3 (by decide +kernel) rfl, by decide +kernel, by decide⟩
theorem kVX5_expect : MkV mX5_expect := ⟨kX5_expect, tb_of 344 (by decide +kernel) rfl, tb_sel 5 (by decide +kernel) rfl⟩
abbrev mX5_takeTable : Mt := (yX5_takeTable, cX5_takeTable, 3, (some .boolean), 2)
set_option maxRecDepth 100000 in
theorem kX5_takeTable : Mk mX5_takeTable := ⟨tb_of 341 rfl rfl, tb_of 3 (by decide +kernel) rfl, by decide +kernel, by decide⟩
theorem kVX5_takeTable : MkV mX5_takeTable := ⟨kX5_takeTable, tb_of 340 (by decide +kernel) rfl, tb_sel 4 (by decide +kernel) rfl⟩
abbrev mX5_takeSize : Mt := (yX5_takeSize, cX5_takeSize, 10, (some .boolean), 2)
set_option maxRecDepth 100000 in
theorem kX5_takeSize : Mk mX5_takeSize := ⟨tb_of 367 rfl rfl, tb_of 3 (by decide +kernel) rfl, by decide +kernel, by decide⟩
theorem kVX5_takeSize : MkV mX5_takeSize := ⟨kX5_takeSize, tb_of 366 (by decide +kernel) rfl, tb_sel 8 (by decide +kernel) rfl⟩
abbrev mX5_sizeToldAhead : Mt := (yX5_sizeToldAhead, cX5_sizeToldAhead, 3, (some .long), 1)
set_option maxRecDepth 100000 in
theorem kX5_sizeToldAhead : Mk mX5_sizeToldAhead := ⟨tb_of 371 rfl rfl, tb_of 3 (by decide +kernel) rfl, by decide +kernel, by decide⟩
theorem kVX5_sizeToldAhead : MkV mX5_sizeToldAhead := ⟨kX5_sizeToldAhead, tb_of 370 (by decide +kernel) rfl, tb_sel 9 (by decide +kernel) rfl⟩
abbrev mX5_takeManner : Mt := (yX5_takeManner, cX5_takeManner, 2, (some .boolean), 1)
set_option maxRecDepth 100000 in
theorem kX5_takeManner : Mk mX5_takeManner := ⟨tb_of 383 rfl rfl, tb_of 3 (by decide +kernel) rfl, by decide +kernel, by decide⟩
theorem kVX5_takeManner : MkV mX5_takeManner := ⟨kX5_takeManner, tb_of 382 (by decide +kernel) rfl, tb_sel 10 (by decide +kernel) rfl⟩
abbrev mX5_takeEnd : Mt := (yX5_takeEnd, cX5_takeEnd, 3, (some .boolean), 1)
set_option maxRecDepth 100000 in
theorem kX5_takeEnd : Mk mX5_takeEnd := ⟨tb_of 432 rfl rfl, tb_of 3 (by decide +kernel) rfl, by decide +kernel, by decide⟩
theorem kVX5_takeEnd : MkV mX5_takeEnd := ⟨kX5_takeEnd, tb_of 431 (by decide +kernel) rfl, tb_sel 18 (by decide +kernel) rfl⟩
abbrev mX5_addStep : Mt := (yX5_addStep, cX5_addStep, 5, none, 3)
set_option maxRecDepth 100000 in
theorem kX5_addStep : Mk mX5_addStep := ⟨tb_of 399 rfl rfl, tb_of 3 (by decide +kernel) rfl, by decide +kernel, by decide⟩
theorem kVX5_addStep : MkV mX5_addStep := ⟨kX5_addStep, tb_of 398 (by decide +kernel) rfl, tb_sel 14 (by decide +kernel) rfl⟩
abbrev mX5_takeSum : Mt := (yX5_takeSum, cX5_takeSum, 4, (some .boolean), 1)
set_option maxRecDepth 100000 in
theorem kX5_takeSum : Mk mX5_takeSum := ⟨tb_of 387 rfl rfl, tb_of 3 (by decide +kernel) rfl, by decide +kernel, by decide⟩
theorem kVX5_takeSum : MkV mX5_takeSum := ⟨kX5_takeSum, tb_of 386 (by decide +kernel) rfl, tb_sel 11 (by decide +kernel) rfl⟩
abbrev mX5_takeProduct : Mt := (yX5_takeProduct, cX5_takeProduct, 4, (some .boolean), 1)
set_option maxRecDepth 100000 in
theorem kX5_takeProduct : Mk mX5_takeProduct := ⟨tb_of 391 rfl rfl, tb_of 3 (by decide +kernel) rfl, by decide +kernel, by decide⟩
theorem kVX5_takeProduct : MkV mX5_takeProduct := ⟨kX5_takeProduct, tb_of 390 (by decide +kernel) rfl, tb_sel 12 (by decide +kernel) rfl⟩
abbrev mX5_isProductSign : Mt := (yX5_isProductSign, cX5_isProductSign, 1, (some .boolean), 1)
set_option maxRecDepth 100000 in
theorem kX5_isProductSign : Mk mX5_isProductSign := ⟨tb_of 428 rfl rfl, tb_of 3 (by decide +kernel) rfl, by decide +kernel, by decide⟩
theorem kSX5_isProductSign : MkS mX5_isProductSign := ⟨kX5_isProductSign, tb_of 427 (by decide +kernel) rfl⟩
abbrev mX5_takeUnit : Mt := (yX5_takeUnit, cX5_takeUnit, 2, (some .boolean), 1)
set_option maxRecDepth 100000 in
theorem kX5_takeUnit : Mk mX5_takeUnit := ⟨tb_of 395 rfl rfl, tb_of 3 (by decide +kernel) rfl, by decide +kernel, by decide⟩
theorem kVX5_takeUnit : MkV mX5_takeUnit := ⟨kX5_takeUnit, tb_of 394 (by decide +kernel) rfl, tb_sel 13 (by decide +kernel) rfl⟩
abbrev mX5_takeEntry : Mt := (yX5_takeEntry, cX5_takeEntry, 5, (some .boolean), 1)
set_option maxRecDepth 100000 in
theorem kX5_takeEntry : Mk mX5_takeEntry := ⟨tb_of 413 rfl rfl, tb_of 3 (by decide +kernel) rfl, by decide +kernel, by decide⟩
theorem kVX5_takeEntry : MkV mX5_takeEntry := ⟨kX5_takeEntry, tb_of 412 (by decide +kernel) rfl, tb_sel 15 (by decide +kernel) rfl⟩
abbrev mX5_takeGroup : Mt := (yX5_takeGroup, cX5_takeGroup, 2, (some .boolean), 1)
set_option maxRecDepth 100000 in
theorem kX5_takeGroup : Mk mX5_takeGroup := ⟨tb_of 417 rfl rfl, tb_of 3 (by decide +kernel) rfl, by decide +kernel, by decide⟩
theorem kVX5_takeGroup : MkV mX5_takeGroup := ⟨kX5_takeGroup, tb_of 416 (by decide +kernel) rfl, tb_sel 16 (by decide +kernel) rfl⟩
abbrev mX5_takeChoice : Mt := (yX5_takeChoice, cX5_takeChoice, 4, (some .boolean), 1)
set_option maxRecDepth 100000 in
theorem kX5_takeChoice : Mk mX5_takeChoice := ⟨tb_of 421 rfl rfl, tb_of 3 (by decide +kernel) rfl, by decide +kernel, by decide⟩
theorem kVX5_takeChoice : MkV mX5_takeChoice := ⟨kX5_takeChoice, tb_of 420 (by decide +kernel) rfl, tb_sel 17 (by decide +kernel) rfl⟩
abbrev mX5_resolveNames : Mt := (yX5_resolveNames, cX5_resolveNames, 4, none, 1)
set_option maxRecDepth 100000 in
theorem kX5_resolveNames : Mk mX5_resolveNames := ⟨tb_of 436 rfl rfl, tb_of 3 (by decide +kernel) rfl, by decide +kernel, by decide⟩
theorem kVX5_resolveNames : MkV mX5_resolveNames := ⟨kX5_resolveNames, tb_of 435 (by decide +kernel) rfl, tb_sel 19 (by decide +kernel) rfl⟩
abbrev mX5_resolveNamesIn : Mt := (yX5_resolveNamesIn, cX5_resolveNamesIn, 5, none, 2)
set_option maxRecDepth 100000 in
theorem kX5_resolveNamesIn : Mk mX5_resolveNamesIn := ⟨tb_of 440 rfl rfl, tb_of 3 (by decide +kernel) rfl, by decide +kernel, by decide⟩
theorem kVX5_resolveNamesIn : MkV mX5_resolveNamesIn := ⟨kX5_resolveNamesIn, tb_of 439 (by decide +kernel) rfl, tb_sel 20 (by decide +kernel) rfl⟩
abbrev mX6_init : Mt := (yX6_init, cX6_init, 2, none, 1)
set_option maxRecDepth 100000 in
theorem kX6_init : Mk mX6_init := ⟨tb_of 46 rfl rfl, tb_of 4 (by decide +kernel) rfl, by decide +kernel, by decide⟩
theorem kIX6_init : MkI mX6_init := ⟨kX6_init, tb_of 45 (by decide +kernel) rfl, rfl, rfl⟩
abbrev mX6_start : Mt := (yX6_start, cX6_start, 1, none, 0)
set_option maxRecDepth 100000 in
theorem kX6_start : Mk mX6_start := ⟨tb_of 295 rfl rfl, tb_of 4 (by decide +kernel) rfl, by decide +kernel, by decide⟩
theorem kVX6_start : MkV mX6_start := ⟨kX6_start, tb_of 293 (by decide +kernel) rfl, tb_of 294 (by decide +kernel) rfl⟩
abbrev mX6_advance : Mt := (yX6_advance, cX6_advance, 2, none, 0)
set_option maxRecDepth 100000 in
theorem kX6_advance : Mk mX6_advance := ⟨tb_of 299 rfl rfl, tb_of 4 (by decide +kernel) rfl, by decide +kernel, by decide⟩
theorem kVX6_advance : MkV mX6_advance := ⟨kX6_advance, tb_of 297 (by decide +kernel) rfl, tb_of 298 (by decide +kernel) rfl⟩
abbrev mX6_skipBlanks : Mt := (yX6_skipBlanks, cX6_skipBlanks, 1, none, 0)
set_option maxRecDepth 100000 in
theorem kX6_skipBlanks : Mk mX6_skipBlanks := ⟨tb_of 303 rfl rfl, tb_of 4 (by decide +kernel) rfl, by decide +kernel, by decide⟩
theorem kVX6_skipBlanks : MkV mX6_skipBlanks := ⟨kX6_skipBlanks, tb_of 302 (by decide +kernel) rfl, tb_sel 1 (by decide +kernel) rfl⟩
abbrev mX6_takeDigits : Mt := (yX6_takeDigits, cX6_takeDigits, 2, (some .int), 0)
set_option maxRecDepth 100000 in
theorem kX6_takeDigits : Mk mX6_takeDigits := ⟨tb_of 314 rfl rfl, tb_of 4 (by decide +kernel) rfl, by decide +kernel, by decide⟩
theorem kVX6_takeDigits : MkV mX6_takeDigits := ⟨kX6_takeDigits, tb_of 313 (by decide +kernel) rfl, tb_sel 2 (by decide +kernel) rfl⟩
abbrev mX6_takeLetters : Mt := (yX6_takeLetters, cX6_takeLetters, 2, (some .int), 0)
set_option maxRecDepth 100000 in
theorem kX6_takeLetters : Mk mX6_takeLetters := ⟨tb_of 322 rfl rfl, tb_of 4 (by decide +kernel) rfl, by decide +kernel, by decide⟩
theorem kVX6_takeLetters : MkV mX6_takeLetters := ⟨kX6_takeLetters, tb_of 321 (by decide +kernel) rfl, tb_sel 3 (by decide +kernel) rfl⟩
abbrev mX6_isDigit : Mt := (yX6_isDigit, cX6_isDigit, 1, (some .boolean), 1)
set_option maxRecDepth 100000 in
theorem kX6_isDigit : Mk mX6_isDigit := ⟨tb_of 310 rfl rfl, tb_of 4 (by decide +kernel) rfl, by decide +kernel, by decide⟩
theorem kSX6_isDigit : MkS mX6_isDigit := ⟨kX6_isDigit, tb_of 309 (by decide +kernel) rfl⟩
abbrev mX6_isLetter : Mt := (yX6_isLetter, cX6_isLetter, 1, (some .boolean), 1)
set_option maxRecDepth 100000 in
theorem kX6_isLetter : Mk mX6_isLetter := ⟨tb_of 318 rfl rfl, tb_of 4 (by decide +kernel) rfl, by decide +kernel, by decide⟩
theorem kSX6_isLetter : MkS mX6_isLetter := ⟨kX6_isLetter, tb_of 317 (by decide +kernel) rfl⟩
abbrev mX6_isSign : Mt := (yX6_isSign, cX6_isSign, 1, (some .boolean), 1)
set_option maxRecDepth 100000 in
theorem kX6_isSign : Mk mX6_isSign := ⟨tb_of 333 rfl rfl, tb_of 4 (by decide +kernel) rfl, by decide +kernel, by decide⟩
theorem kSX6_isSign : MkS mX6_isSign := ⟨kX6_isSign, tb_of 332 (by decide +kernel) rfl⟩
abbrev mX6_kindOfWord : Mt := (yX6_kindOfWord, cX6_kindOfWord, 2, (some .int), 1)
set_option maxRecDepth 100000 in
theorem kX6_kindOfWord : Mk mX6_kindOfWord := ⟨tb_of 325 rfl rfl, tb_of 4 (by decide +kernel) rfl, by decide +kernel, by decide⟩
theorem kSX6_kindOfWord : MkS mX6_kindOfWord := ⟨kX6_kindOfWord, tb_of 324 (by decide +kernel) rfl⟩
abbrev mX7_init : Mt := (yX7_init, cX7_init, 1, none, 0)
set_option maxRecDepth 100000 in
theorem kX7_init : Mk mX7_init := ⟨tb_of 202 rfl rfl, tb_of 10 (by decide +kernel) rfl, by decide +kernel, by decide⟩
theorem kIX7_init : MkI mX7_init := ⟨kX7_init, tb_of 201 (by decide +kernel) rfl, rfl, rfl⟩
abbrev mX7_clear : Mt := (yX7_clear, cX7_clear, 1, none, 0)
set_option maxRecDepth 100000 in
theorem kX7_clear : Mk mX7_clear := ⟨tb_of 634 rfl rfl, tb_of 10 (by decide +kernel) rfl, by decide +kernel, by decide⟩
theorem kVX7_clear : MkV mX7_clear := ⟨kX7_clear, tb_of 632 (by decide +kernel) rfl, tb_of 633 (by decide +kernel) rfl⟩
abbrev mX7_add : Mt := (yX7_add, cX7_add, 7, none, 1)
set_option maxRecDepth 100000 in
theorem kX7_add : Mk mX7_add := ⟨tb_of 638 rfl rfl, tb_of 10 (by decide +kernel) rfl, by decide +kernel, by decide⟩
theorem kVX7_add : MkV mX7_add := ⟨kX7_add, tb_of 636 (by decide +kernel) rfl, tb_of 637 (by decide +kernel) rfl⟩
abbrev mX7_is : Mt := (yX7_is, cX7_is, 3, (some .boolean), 1)
set_option maxRecDepth 100000 in
theorem kX7_is : Mk mX7_is := ⟨tb_of 643 rfl rfl, tb_of 10 (by decide +kernel) rfl, by decide +kernel, by decide⟩
theorem kVX7_is : MkV mX7_is := ⟨kX7_is, tb_of 641 (by decide +kernel) rfl, tb_of 642 (by decide +kernel) rfl⟩
abbrev mX7_part : Mt := (yX7_part, cX7_part, 4, (some .long), 1)
set_option maxRecDepth 100000 in
theorem kX7_part : Mk mX7_part := ⟨tb_of 671 rfl rfl, tb_of 10 (by decide +kernel) rfl, by decide +kernel, by decide⟩
theorem kVX7_part : MkV mX7_part := ⟨kX7_part, tb_of 669 (by decide +kernel) rfl, tb_of 670 (by decide +kernel) rfl⟩
abbrev mX8_init : Mt := (yX8_init, cX8_init, 2, none, 1)
set_option maxRecDepth 100000 in
theorem kX8_init : Mk mX8_init := ⟨tb_of 182 rfl rfl, tb_of 8 (by decide +kernel) rfl, by decide +kernel, by decide⟩
theorem kIX8_init : MkI mX8_init := ⟨kX8_init, tb_of 181 (by decide +kernel) rfl, rfl, rfl⟩
abbrev mX8_open : Mt := (yX8_open, cX8_open, 2, none, 1)
set_option maxRecDepth 100000 in
theorem kX8_open : Mk mX8_open := ⟨tb_of 474 rfl rfl, tb_of 8 (by decide +kernel) rfl, by decide +kernel, by decide⟩
theorem kVX8_open : MkV mX8_open := ⟨kX8_open, tb_of 472 (by decide +kernel) rfl, tb_of 473 (by decide +kernel) rfl⟩
abbrev mX8_startCall : Mt := (yX8_startCall, cX8_startCall, 1, none, 0)
set_option maxRecDepth 100000 in
theorem kX8_startCall : Mk mX8_startCall := ⟨tb_of 482 rfl rfl, tb_of 8 (by decide +kernel) rfl, by decide +kernel, by decide⟩
theorem kVX8_startCall : MkV mX8_startCall := ⟨kX8_startCall, tb_of 480 (by decide +kernel) rfl, tb_of 481 (by decide +kernel) rfl⟩
abbrev mX8_reasonAt : Mt := (yX8_reasonAt, cX8_reasonAt, 2, (some .int), 1)
set_option maxRecDepth 100000 in
theorem kX8_reasonAt : Mk mX8_reasonAt := ⟨tb_of 656 rfl rfl, tb_of 8 (by decide +kernel) rfl, by decide +kernel, by decide⟩
theorem kVX8_reasonAt : MkV mX8_reasonAt := ⟨kX8_reasonAt, tb_of 654 (by decide +kernel) rfl, tb_of 655 (by decide +kernel) rfl⟩
abbrev mX8_askFor : Mt := (yX8_askFor, cX8_askFor, 4, (some .boolean), 2)
set_option maxRecDepth 100000 in
theorem kX8_askFor : Mk mX8_askFor := ⟨tb_of 533 rfl rfl, tb_of 8 (by decide +kernel) rfl, by decide +kernel, by decide⟩
theorem kVX8_askFor : MkV mX8_askFor := ⟨kX8_askFor, tb_of 531 (by decide +kernel) rfl, tb_of 532 (by decide +kernel) rfl⟩
abbrev mX8_addUp : Mt := (yX8_addUp, cX8_addUp, 6, (some .boolean), 3)
set_option maxRecDepth 100000 in
theorem kX8_addUp : Mk mX8_addUp := ⟨tb_of 667 rfl rfl, tb_of 8 (by decide +kernel) rfl, by decide +kernel, by decide⟩
theorem kVX8_addUp : MkV mX8_addUp := ⟨kX8_addUp, tb_of 665 (by decide +kernel) rfl, tb_of 666 (by decide +kernel) rfl⟩
abbrev mX8_search : Mt := (yX8_search, cX8_search, 6, (some .int), 2)
set_option maxRecDepth 100000 in
theorem kX8_search : Mk mX8_search := ⟨tb_of 680 rfl rfl, tb_of 8 (by decide +kernel) rfl, by decide +kernel, by decide⟩
theorem kVX8_search : MkV mX8_search := ⟨kX8_search, tb_of 678 (by decide +kernel) rfl, tb_of 679 (by decide +kernel) rfl⟩
abbrev mX8_ask : Mt := (yX8_ask, cX8_ask, 9, (some .boolean), 3)
set_option maxRecDepth 100000 in
theorem kX8_ask : Mk mX8_ask := ⟨tb_of 537 rfl rfl, tb_of 8 (by decide +kernel) rfl, by decide +kernel, by decide⟩
theorem kVX8_ask : MkV mX8_ask := ⟨kX8_ask, tb_of 536 (by decide +kernel) rfl, tb_sel 21 (by decide +kernel) rfl⟩
abbrev mX8_awaken : Mt := (yX8_awaken, cX8_awaken, 4, (some .boolean), 3)
set_option maxRecDepth 100000 in
theorem kX8_awaken : Mk mX8_awaken := ⟨tb_of 542 rfl rfl, tb_of 8 (by decide +kernel) rfl, by decide +kernel, by decide⟩
theorem kVX8_awaken : MkV mX8_awaken := ⟨kX8_awaken, tb_of 541 (by decide +kernel) rfl, tb_sel 22 (by decide +kernel) rfl⟩
abbrev mX8_awakenRow : Mt := (yX8_awakenRow, cX8_awakenRow, 6, (some .boolean), 4)
set_option maxRecDepth 100000 in
theorem kX8_awakenRow : Mk mX8_awakenRow := ⟨tb_of 647 rfl rfl, tb_of 8 (by decide +kernel) rfl, by decide +kernel, by decide⟩
theorem kVX8_awakenRow : MkV mX8_awakenRow := ⟨kX8_awakenRow, tb_of 646 (by decide +kernel) rfl, tb_sel 36 (by decide +kernel) rfl⟩
abbrev mX8_wake : Mt := (yX8_wake, cX8_wake, 5, (some .boolean), 3)
set_option maxRecDepth 100000 in
theorem kX8_wake : Mk mX8_wake := ⟨tb_of 555 rfl rfl, tb_of 8 (by decide +kernel) rfl, by decide +kernel, by decide⟩
theorem kVX8_wake : MkV mX8_wake := ⟨kX8_wake, tb_of 554 (by decide +kernel) rfl, tb_sel 25 (by decide +kernel) rfl⟩
abbrev mX8_layOut : Mt := (yX8_layOut, cX8_layOut, 2, (some .boolean), 1)
set_option maxRecDepth 100000 in
theorem kX8_layOut : Mk mX8_layOut := ⟨tb_of 565 rfl rfl, tb_of 8 (by decide +kernel) rfl, by decide +kernel, by decide⟩
theorem kVX8_layOut : MkV mX8_layOut := ⟨kX8_layOut, tb_of 564 (by decide +kernel) rfl, tb_sel 26 (by decide +kernel) rfl⟩
abbrev mX8_fill : Mt := (yX8_fill, cX8_fill, 4, (some .boolean), 2)
set_option maxRecDepth 100000 in
theorem kX8_fill : Mk mX8_fill := ⟨tb_of 574 rfl rfl, tb_of 8 (by decide +kernel) rfl, by decide +kernel, by decide⟩
theorem kVX8_fill : MkV mX8_fill := ⟨kX8_fill, tb_of 573 (by decide +kernel) rfl, tb_sel 27 (by decide +kernel) rfl⟩
abbrev mX8_keepsPromise : Mt := (yX8_keepsPromise, cX8_keepsPromise, 3, (some .boolean), 1)
set_option maxRecDepth 100000 in
theorem kX8_keepsPromise : Mk mX8_keepsPromise := ⟨tb_of 630 rfl rfl, tb_of 8 (by decide +kernel) rfl, by decide +kernel, by decide⟩
theorem kVX8_keepsPromise : MkV mX8_keepsPromise := ⟨kX8_keepsPromise, tb_of 629 (by decide +kernel) rfl, tb_sel 35 (by decide +kernel) rfl⟩
abbrev mX8_makeRow : Mt := (yX8_makeRow, cX8_makeRow, 6, (some .boolean), 4)
set_option maxRecDepth 100000 in
theorem kX8_makeRow : Mk mX8_makeRow := ⟨tb_of 615 rfl rfl, tb_of 8 (by decide +kernel) rfl, by decide +kernel, by decide⟩
theorem kVX8_makeRow : MkV mX8_makeRow := ⟨kX8_makeRow, tb_of 614 (by decide +kernel) rfl, tb_sel 33 (by decide +kernel) rfl⟩
abbrev mX8_makeEntries : Mt := (yX8_makeEntries, cX8_makeEntries, 6, (some .boolean), 4)
set_option maxRecDepth 100000 in
theorem kX8_makeEntries : Mk mX8_makeEntries := ⟨tb_of 579 rfl rfl, tb_of 8 (by decide +kernel) rfl, by decide +kernel, by decide⟩
theorem kVX8_makeEntries : MkV mX8_makeEntries := ⟨kX8_makeEntries, tb_of 578 (by decide +kernel) rfl, tb_sel 28 (by decide +kernel) rfl⟩
abbrev mX8_workOut : Mt := (yX8_workOut, cX8_workOut, 6, (some .boolean), 3)
set_option maxRecDepth 100000 in
theorem kX8_workOut : Mk mX8_workOut := ⟨tb_of 583 rfl rfl, tb_of 8 (by decide +kernel) rfl, by decide +kernel, by decide⟩
theorem kVX8_workOut : MkV mX8_workOut := ⟨kX8_workOut, tb_of 582 (by decide +kernel) rfl, tb_sel 29 (by decide +kernel) rfl⟩
abbrev mX8_workOutPair : Mt := (yX8_workOutPair, cX8_workOutPair, 6, (some .boolean), 1)
set_option maxRecDepth 100000 in
theorem kX8_workOutPair : Mk mX8_workOutPair := ⟨tb_of 610 rfl rfl, tb_of 8 (by decide +kernel) rfl, by decide +kernel, by decide⟩
theorem kVX8_workOutPair : MkV mX8_workOutPair := ⟨kX8_workOutPair, tb_of 609 (by decide +kernel) rfl, tb_sel 32 (by decide +kernel) rfl⟩
abbrev mX8_push : Mt := (yX8_push, cX8_push, 3, none, 1)
set_option maxRecDepth 100000 in
theorem kX8_push : Mk mX8_push := ⟨tb_of 592 rfl rfl, tb_of 8 (by decide +kernel) rfl, by decide +kernel, by decide⟩
theorem kVX8_push : MkV mX8_push := ⟨kX8_push, tb_of 591 (by decide +kernel) rfl, tb_sel 30 (by decide +kernel) rfl⟩
abbrev mX8_pop : Mt := (yX8_pop, cX8_pop, 1, (some .long), 0)
set_option maxRecDepth 100000 in
theorem kX8_pop : Mk mX8_pop := ⟨tb_of 598 rfl rfl, tb_of 8 (by decide +kernel) rfl, by decide +kernel, by decide⟩
theorem kVX8_pop : MkV mX8_pop := ⟨kX8_pop, tb_of 597 (by decide +kernel) rfl, tb_sel 31 (by decide +kernel) rfl⟩
abbrev mX8_fail : Mt := (yX8_fail, cX8_fail, 2, (some .boolean), 1)
set_option maxRecDepth 100000 in
theorem kX8_fail : Mk mX8_fail := ⟨tb_of 546 rfl rfl, tb_of 8 (by decide +kernel) rfl, by decide +kernel, by decide⟩
theorem kVX8_fail : MkV mX8_fail := ⟨kX8_fail, tb_of 545 (by decide +kernel) rfl, tb_sel 23 (by decide +kernel) rfl⟩
abbrev mX8_failWithReason : Mt := (yX8_failWithReason, cX8_failWithReason, 1, (some .boolean), 0)
set_option maxRecDepth 100000 in
theorem kX8_failWithReason : Mk mX8_failWithReason := ⟨tb_of 626 rfl rfl, tb_of 8 (by decide +kernel) rfl, by decide +kernel, by decide⟩
theorem kVX8_failWithReason : MkV mX8_failWithReason := ⟨kX8_failWithReason, tb_of 625 (by decide +kernel) rfl, tb_sel 34 (by decide +kernel) rfl⟩
abbrev mX8_addReason : Mt := (yX8_addReason, cX8_addReason, 2, none, 1)
set_option maxRecDepth 100000 in
theorem kX8_addReason : Mk mX8_addReason := ⟨tb_of 550 rfl rfl, tb_of 8 (by decide +kernel) rfl, by decide +kernel, by decide⟩
theorem kVX8_addReason : MkV mX8_addReason := ⟨kX8_addReason, tb_of 549 (by decide +kernel) rfl, tb_sel 24 (by decide +kernel) rfl⟩
abbrev mX9_init : Mt := (yX9_init, cX9_init, 1, none, 0)
set_option maxRecDepth 100000 in
theorem kX9_init : Mk mX9_init := ⟨tb_of 17 rfl rfl, tb_of 1 (by decide +kernel) rfl, by decide +kernel, by decide⟩
theorem kIX9_init : MkI mX9_init := ⟨kX9_init, tb_of 16 (by decide +kernel) rfl, rfl, rfl⟩
abbrev mX9_feed : Mt := (yX9_feed, cX9_feed, 3, (some .int), 1)
set_option maxRecDepth 100000 in
theorem kX9_feed : Mk mX9_feed := ⟨tb_of 271 rfl rfl, tb_of 1 (by decide +kernel) rfl, by decide +kernel, by decide⟩
theorem kVX9_feed : MkV mX9_feed := ⟨kX9_feed, tb_of 269 (by decide +kernel) rfl, tb_of 270 (by decide +kernel) rfl⟩
abbrev mX9_read : Mt := (yX9_read, cX9_read, 3, (some .int), 0)
set_option maxRecDepth 100000 in
theorem kX9_read : Mk mX9_read := ⟨tb_of 287 rfl rfl, tb_of 1 (by decide +kernel) rfl, by decide +kernel, by decide⟩
theorem kVX9_read : MkV mX9_read := ⟨kX9_read, tb_of 285 (by decide +kernel) rfl, tb_of 286 (by decide +kernel) rfl⟩
abbrev mX9_cut : Mt := (yX9_cut, cX9_cut, 2, (some .int), 0)
set_option maxRecDepth 100000 in
theorem kX9_cut : Mk mX9_cut := ⟨tb_of 490 rfl rfl, tb_of 1 (by decide +kernel) rfl, by decide +kernel, by decide⟩
theorem kVX9_cut : MkV mX9_cut := ⟨kX9_cut, tb_of 488 (by decide +kernel) rfl, tb_of 489 (by decide +kernel) rfl⟩
abbrev mX9_named : Mt := (yX9_named, cX9_named, 3, (some .int), 1)
set_option maxRecDepth 100000 in
theorem kX9_named : Mk mX9_named := ⟨tb_of 494 rfl rfl, tb_of 1 (by decide +kernel) rfl, by decide +kernel, by decide⟩
theorem kVX9_named : MkV mX9_named := ⟨kX9_named, tb_of 492 (by decide +kernel) rfl, tb_of 493 (by decide +kernel) rfl⟩
abbrev mX9_size : Mt := (yX9_size, cX9_size, 3, (some .int), 1)
set_option maxRecDepth 100000 in
theorem kX9_size : Mk mX9_size := ⟨tb_of 499 rfl rfl, tb_of 1 (by decide +kernel) rfl, by decide +kernel, by decide⟩
theorem kVX9_size : MkV mX9_size := ⟨kX9_size, tb_of 497 (by decide +kernel) rfl, tb_of 498 (by decide +kernel) rfl⟩
abbrev mX9_state : Mt := (yX9_state, cX9_state, 3, (some .int), 1)
set_option maxRecDepth 100000 in
theorem kX9_state : Mk mX9_state := ⟨tb_of 504 rfl rfl, tb_of 1 (by decide +kernel) rfl, by decide +kernel, by decide⟩
theorem kVX9_state : MkV mX9_state := ⟨kX9_state, tb_of 502 (by decide +kernel) rfl, tb_of 503 (by decide +kernel) rfl⟩
abbrev mX9_row : Mt := (yX9_row, cX9_row, 4, (some .int), 2)
set_option maxRecDepth 100000 in
theorem kX9_row : Mk mX9_row := ⟨tb_of 508 rfl rfl, tb_of 1 (by decide +kernel) rfl, by decide +kernel, by decide⟩
theorem kVX9_row : MkV mX9_row := ⟨kX9_row, tb_of 506 (by decide +kernel) rfl, tb_of 507 (by decide +kernel) rfl⟩
abbrev mX9_entry : Mt := (yX9_entry, cX9_entry, 3, (some .long), 2)
set_option maxRecDepth 100000 in
theorem kX9_entry : Mk mX9_entry := ⟨tb_of 528 rfl rfl, tb_of 1 (by decide +kernel) rfl, by decide +kernel, by decide⟩
theorem kVX9_entry : MkV mX9_entry := ⟨kX9_entry, tb_of 526 (by decide +kernel) rfl, tb_of 527 (by decide +kernel) rfl⟩
abbrev mX9_reason : Mt := (yX9_reason, cX9_reason, 2, (some .int), 1)
set_option maxRecDepth 100000 in
theorem kX9_reason : Mk mX9_reason := ⟨tb_of 652 rfl rfl, tb_of 1 (by decide +kernel) rfl, by decide +kernel, by decide⟩
theorem kVX9_reason : MkV mX9_reason := ⟨kX9_reason, tb_of 650 (by decide +kernel) rfl, tb_of 651 (by decide +kernel) rfl⟩
abbrev mX9_sum : Mt := (yX9_sum, cX9_sum, 7, (some .long), 4)
set_option maxRecDepth 100000 in
theorem kX9_sum : Mk mX9_sum := ⟨tb_of 660 rfl rfl, tb_of 1 (by decide +kernel) rfl, by decide +kernel, by decide⟩
theorem kVX9_sum : MkV mX9_sum := ⟨kX9_sum, tb_of 658 (by decide +kernel) rfl, tb_of 659 (by decide +kernel) rfl⟩
abbrev mX9_find : Mt := (yX9_find, cX9_find, 4, (some .int), 2)
set_option maxRecDepth 100000 in
theorem kX9_find : Mk mX9_find := ⟨tb_of 676 rfl rfl, tb_of 1 (by decide +kernel) rfl, by decide +kernel, by decide⟩
theorem kVX9_find : MkV mX9_find := ⟨kX9_find, tb_of 674 (by decide +kernel) rfl, tb_of 675 (by decide +kernel) rfl⟩
abbrev mX9_drop : Mt := (yX9_drop, cX9_drop, 3, (some .int), 1)
set_option maxRecDepth 100000 in
theorem kX9_drop : Mk mX9_drop := ⟨tb_of 684 rfl rfl, tb_of 1 (by decide +kernel) rfl, by decide +kernel, by decide⟩
theorem kVX9_drop : MkV mX9_drop := ⟨kX9_drop, tb_of 682 (by decide +kernel) rfl, tb_of 683 (by decide +kernel) rfl⟩
abbrev mX9_builds : Mt := (yX9_builds, cX9_builds, 1, (some .int), 0)
set_option maxRecDepth 100000 in
theorem kX9_builds : Mk mX9_builds := ⟨tb_of 689 rfl rfl, tb_of 1 (by decide +kernel) rfl, by decide +kernel, by decide⟩
theorem kVX9_builds : MkV mX9_builds := ⟨kX9_builds, tb_of 687 (by decide +kernel) rfl, tb_of 688 (by decide +kernel) rfl⟩
abbrev mX9_build : Mt := (yX9_build, cX9_build, 4, (some .int), 2)
set_option maxRecDepth 100000 in
theorem kX9_build : Mk mX9_build := ⟨tb_of 693 rfl rfl, tb_of 1 (by decide +kernel) rfl, by decide +kernel, by decide⟩
theorem kVX9_build : MkV mX9_build := ⟨kX9_build, tb_of 691 (by decide +kernel) rfl, tb_of 692 (by decide +kernel) rfl⟩
abbrev mX9_halves : Mt := (yX9_halves, cX9_halves, 1, (some .int), 0)
set_option maxRecDepth 100000 in
theorem kX9_halves : Mk mX9_halves := ⟨tb_of 706 rfl rfl, tb_of 1 (by decide +kernel) rfl, by decide +kernel, by decide⟩
theorem kVX9_halves : MkV mX9_halves := ⟨kX9_halves, tb_of 704 (by decide +kernel) rfl, tb_of 705 (by decide +kernel) rfl⟩
abbrev mX9_half : Mt := (yX9_half, cX9_half, 4, (some .long), 2)
set_option maxRecDepth 100000 in
theorem kX9_half : Mk mX9_half := ⟨tb_of 710 rfl rfl, tb_of 1 (by decide +kernel) rfl, by decide +kernel, by decide⟩
theorem kVX9_half : MkV mX9_half := ⟨kX9_half, tb_of 708 (by decide +kernel) rfl, tb_of 709 (by decide +kernel) rfl⟩
abbrev mX9_reads : Mt := (yX9_reads, cX9_reads, 4, (some .int), 2)
set_option maxRecDepth 100000 in
theorem kX9_reads : Mk mX9_reads := ⟨tb_of 714 rfl rfl, tb_of 1 (by decide +kernel) rfl, by decide +kernel, by decide⟩
theorem kVX9_reads : MkV mX9_reads := ⟨kX9_reads, tb_of 712 (by decide +kernel) rfl, tb_of 713 (by decide +kernel) rfl⟩
abbrev mX9_count : Mt := (yX9_count, cX9_count, 2, (some .int), 1)
set_option maxRecDepth 100000 in
theorem kX9_count : Mk mX9_count := ⟨tb_of 722 rfl rfl, tb_of 1 (by decide +kernel) rfl, by decide +kernel, by decide⟩
theorem kVX9_count : MkV mX9_count := ⟨kX9_count, tb_of 720 (by decide +kernel) rfl, tb_of 721 (by decide +kernel) rfl⟩
abbrev mX9_at : Mt := (yX9_at, cX9_at, 2, (some .int), 2)
set_option maxRecDepth 100000 in
theorem kX9_at : Mk mX9_at := ⟨tb_of 447 rfl rfl, tb_of 1 (by decide +kernel) rfl, by decide +kernel, by decide⟩
theorem kSX9_at : MkS mX9_at := ⟨kX9_at, tb_of 446 (by decide +kernel) rfl⟩
abbrev mX9_at_ : Mt := (yX9_at_, cX9_at_, 2, (some .long), 2)
set_option maxRecDepth 100000 in
theorem kX9_at_ : Mk mX9_at_ := ⟨tb_of 454 rfl rfl, tb_of 1 (by decide +kernel) rfl, by decide +kernel, by decide⟩
theorem kSX9_at_ : MkS mX9_at_ := ⟨kX9_at_, tb_of 453 (by decide +kernel) rfl⟩
abbrev mX9_put : Mt := (yX9_put, cX9_put, 3, none, 3)
set_option maxRecDepth 100000 in
theorem kX9_put : Mk mX9_put := ⟨tb_of 406 rfl rfl, tb_of 1 (by decide +kernel) rfl, by decide +kernel, by decide⟩
theorem kSX9_put : MkS mX9_put := ⟨kX9_put, tb_of 405 (by decide +kernel) rfl⟩
abbrev mX9_put_ : Mt := (yX9_put_, cX9_put_, 4, none, 3)
set_option maxRecDepth 100000 in
theorem kX9_put_ : Mk mX9_put_ := ⟨tb_of 409 rfl rfl, tb_of 1 (by decide +kernel) rfl, by decide +kernel, by decide⟩
theorem kSX9_put_ : MkS mX9_put_ := ⟨kX9_put_, tb_of 408 (by decide +kernel) rfl⟩
abbrev mX10_init : Mt := (yX10_init, cX10_init, 1, none, 0)
set_option maxRecDepth 100000 in
theorem kX10_init : Mk mX10_init := ⟨tb_of 742 rfl rfl, tb_of 11 (by decide +kernel) rfl, by decide +kernel, by decide⟩
theorem kIX10_init : MkI mX10_init := ⟨kX10_init, tb_of 741 (by decide +kernel) rfl, rfl, rfl⟩
abbrev mX10_in : Mt := (yX10_in, cX10_in, 6, (some .boolean), 3)
set_option maxRecDepth 100000 in
theorem kX10_in : Mk mX10_in := ⟨tb_of 1078 rfl rfl, tb_of 11 (by decide +kernel) rfl, by decide +kernel, by decide⟩
theorem kSX10_in : MkS mX10_in := ⟨kX10_in, tb_of 1077 (by decide +kernel) rfl⟩
abbrev mX10_feed : Mt := (yX10_feed, cX10_feed, 5, (some .int), 1)
set_option maxRecDepth 100000 in
theorem kX10_feed : Mk mX10_feed := ⟨tb_of 947 rfl rfl, tb_of 11 (by decide +kernel) rfl, by decide +kernel, by decide⟩
theorem kVX10_feed : MkV mX10_feed := ⟨kX10_feed, tb_of 945 (by decide +kernel) rfl, tb_of 946 (by decide +kernel) rfl⟩
abbrev mX10_cut : Mt := (yX10_cut, cX10_cut, 2, (some .int), 0)
set_option maxRecDepth 100000 in
theorem kX10_cut : Mk mX10_cut := ⟨tb_of 952 rfl rfl, tb_of 11 (by decide +kernel) rfl, by decide +kernel, by decide⟩
theorem kVX10_cut : MkV mX10_cut := ⟨kX10_cut, tb_of 950 (by decide +kernel) rfl, tb_of 951 (by decide +kernel) rfl⟩
abbrev mX10_at : Mt := (yX10_at, cX10_at, 2, (some .int), 1)
set_option maxRecDepth 100000 in
theorem kX10_at : Mk mX10_at := ⟨tb_of 964 rfl rfl, tb_of 11 (by decide +kernel) rfl, by decide +kernel, by decide⟩
theorem kVX10_at : MkV mX10_at := ⟨kX10_at, tb_of 963 (by decide +kernel) rfl, tb_sel 38 (by decide +kernel) rfl⟩
abbrev mX10_isLetter : Mt := (yX10_isLetter, cX10_isLetter, 1, (some .boolean), 1)
set_option maxRecDepth 100000 in
theorem kX10_isLetter : Mk mX10_isLetter := ⟨tb_of 967 rfl rfl, tb_of 11 (by decide +kernel) rfl, by decide +kernel, by decide⟩
theorem kSX10_isLetter : MkS mX10_isLetter := ⟨kX10_isLetter, tb_of 966 (by decide +kernel) rfl⟩
abbrev mX10_isDigit : Mt := (yX10_isDigit, cX10_isDigit, 1, (some .boolean), 1)
set_option maxRecDepth 100000 in
theorem kX10_isDigit : Mk mX10_isDigit := ⟨tb_of 982 rfl rfl, tb_of 11 (by decide +kernel) rfl, by decide +kernel, by decide⟩
theorem kSX10_isDigit : MkS mX10_isDigit := ⟨kX10_isDigit, tb_of 981 (by decide +kernel) rfl⟩
abbrev mX10_isSign : Mt := (yX10_isSign, cX10_isSign, 1, (some .boolean), 1)
set_option maxRecDepth 100000 in
theorem kX10_isSign : Mk mX10_isSign := ⟨tb_of 987 rfl rfl, tb_of 11 (by decide +kernel) rfl, by decide +kernel, by decide⟩
theorem kSX10_isSign : MkS mX10_isSign := ⟨kX10_isSign, tb_of 986 (by decide +kernel) rfl⟩
abbrev mX10_wordSort : Mt := (yX10_wordSort, cX10_wordSort, 2, (some .int), 1)
set_option maxRecDepth 100000 in
theorem kX10_wordSort : Mk mX10_wordSort := ⟨tb_of 970 rfl rfl, tb_of 11 (by decide +kernel) rfl, by decide +kernel, by decide⟩
theorem kSX10_wordSort : MkS mX10_wordSort := ⟨kX10_wordSort, tb_of 969 (by decide +kernel) rfl⟩
abbrev mX10_addToken : Mt := (yX10_addToken, cX10_addToken, 5, none, 3)
set_option maxRecDepth 100000 in
theorem kX10_addToken : Mk mX10_addToken := ⟨tb_of 979 rfl rfl, tb_of 11 (by decide +kernel) rfl, by decide +kernel, by decide⟩
theorem kVX10_addToken : MkV mX10_addToken := ⟨kX10_addToken, tb_of 978 (by decide +kernel) rfl, tb_sel 39 (by decide +kernel) rfl⟩
abbrev mX10_cutUp : Mt := (yX10_cutUp, cX10_cutUp, 6, none, 0)
set_option maxRecDepth 100000 in
theorem kX10_cutUp : Mk mX10_cutUp := ⟨tb_of 960 rfl rfl, tb_of 11 (by decide +kernel) rfl, by decide +kernel, by decide⟩
theorem kVX10_cutUp : MkV mX10_cutUp := ⟨kX10_cutUp, tb_of 959 (by decide +kernel) rfl, tb_sel 37 (by decide +kernel) rfl⟩
abbrev mX10_must : Mt := (yX10_must, cX10_must, 2, (some .boolean), 1)
set_option maxRecDepth 100000 in
theorem kX10_must : Mk mX10_must := ⟨tb_of 995 rfl rfl, tb_of 11 (by decide +kernel) rfl, by decide +kernel, by decide⟩
theorem kVX10_must : MkV mX10_must := ⟨kX10_must, tb_of 994 (by decide +kernel) rfl, tb_sel 41 (by decide +kernel) rfl⟩
abbrev mX10_take : Mt := (yX10_take, cX10_take, 2, (some .boolean), 1)
set_option maxRecDepth 100000 in
theorem kX10_take : Mk mX10_take := ⟨tb_of 999 rfl rfl, tb_of 11 (by decide +kernel) rfl, by decide +kernel, by decide⟩
theorem kVX10_take : MkV mX10_take := ⟨kX10_take, tb_of 998 (by decide +kernel) rfl, tb_sel 42 (by decide +kernel) rfl⟩
abbrev mX10_emit : Mt := (yX10_emit, cX10_emit, 4, none, 2)
set_option maxRecDepth 100000 in
theorem kX10_emit : Mk mX10_emit := ⟨tb_of 1020 rfl rfl, tb_of 11 (by decide +kernel) rfl, by decide +kernel, by decide⟩
theorem kVX10_emit : MkV mX10_emit := ⟨kX10_emit, tb_of 1019 (by decide +kernel) rfl, tb_sel 47 (by decide +kernel) rfl⟩
abbrev mX10_use : Mt := (yX10_use, cX10_use, 2, none, 1)
set_option maxRecDepth 100000 in
theorem kX10_use : Mk mX10_use := ⟨tb_of 1007 rfl rfl, tb_of 11 (by decide +kernel) rfl, by decide +kernel, by decide⟩
theorem kVX10_use : MkV mX10_use := ⟨kX10_use, tb_of 1006 (by decide +kernel) rfl, tb_sel 44 (by decide +kernel) rfl⟩
abbrev mX10_readSize : Mt := (yX10_readSize, cX10_readSize, 4, none, 0)
set_option maxRecDepth 100000 in
theorem kX10_readSize : Mk mX10_readSize := ⟨tb_of 1003 rfl rfl, tb_of 11 (by decide +kernel) rfl, by decide +kernel, by decide⟩
theorem kVX10_readSize : MkV mX10_readSize := ⟨kX10_readSize, tb_of 1002 (by decide +kernel) rfl, tb_sel 43 (by decide +kernel) rfl⟩
abbrev mX10_push : Mt := (yX10_push, cX10_push, 3, none, 2)
set_option maxRecDepth 100000 in
theorem kX10_push : Mk mX10_push := ⟨tb_of 1024 rfl rfl, tb_of 11 (by decide +kernel) rfl, by decide +kernel, by decide⟩
theorem kVX10_push : MkV mX10_push := ⟨kX10_push, tb_of 1023 (by decide +kernel) rfl, tb_sel 48 (by decide +kernel) rfl⟩
abbrev mX10_top : Mt := (yX10_top, cX10_top, 1, (some .int), 0)
set_option maxRecDepth 100000 in
theorem kX10_top : Mk mX10_top := ⟨tb_of 1032 rfl rfl, tb_of 11 (by decide +kernel) rfl, by decide +kernel, by decide⟩
theorem kVX10_top : MkV mX10_top := ⟨kX10_top, tb_of 1031 (by decide +kernel) rfl, tb_sel 50 (by decide +kernel) rfl⟩
abbrev mX10_readUnit : Mt := (yX10_readUnit, cX10_readUnit, 3, none, 0)
set_option maxRecDepth 100000 in
theorem kX10_readUnit : Mk mX10_readUnit := ⟨tb_of 1016 rfl rfl, tb_of 11 (by decide +kernel) rfl, by decide +kernel, by decide⟩
theorem kVX10_readUnit : MkV mX10_readUnit := ⟨kX10_readUnit, tb_of 1015 (by decide +kernel) rfl, tb_sel 46 (by decide +kernel) rfl⟩
abbrev mX10_actOf : Mt := (yX10_actOf, cX10_actOf, 1, (some .int), 1)
set_option maxRecDepth 100000 in
theorem kX10_actOf : Mk mX10_actOf := ⟨tb_of 1039 rfl rfl, tb_of 11 (by decide +kernel) rfl, by decide +kernel, by decide⟩
theorem kSX10_actOf : MkS mX10_actOf := ⟨kX10_actOf, tb_of 1038 (by decide +kernel) rfl⟩
abbrev mX10_isLow : Mt := (yX10_isLow, cX10_isLow, 2, (some .boolean), 1)
set_option maxRecDepth 100000 in
theorem kX10_isLow : Mk mX10_isLow := ⟨tb_of 1047 rfl rfl, tb_of 11 (by decide +kernel) rfl, by decide +kernel, by decide⟩
theorem kVX10_isLow : MkV mX10_isLow := ⟨kX10_isLow, tb_of 1046 (by decide +kernel) rfl, tb_sel 53 (by decide +kernel) rfl⟩
abbrev mX10_isHigh : Mt := (yX10_isHigh, cX10_isHigh, 2, (some .boolean), 1)
set_option maxRecDepth 100000 in
theorem kX10_isHigh : Mk mX10_isHigh := ⟨tb_of 1036 rfl rfl, tb_of 11 (by decide +kernel) rfl, by decide +kernel, by decide⟩
theorem kVX10_isHigh : MkV mX10_isHigh := ⟨kX10_isHigh, tb_of 1035 (by decide +kernel) rfl, tb_sel 51 (by decide +kernel) rfl⟩
abbrev mX10_endUnit : Mt := (yX10_endUnit, cX10_endUnit, 1, none, 0)
set_option maxRecDepth 100000 in
theorem kX10_endUnit : Mk mX10_endUnit := ⟨tb_of 1028 rfl rfl, tb_of 11 (by decide +kernel) rfl, by decide +kernel, by decide⟩
theorem kVX10_endUnit : MkV mX10_endUnit := ⟨kX10_endUnit, tb_of 1027 (by decide +kernel) rfl, tb_sel 49 (by decide +kernel) rfl⟩
abbrev mX10_endLow : Mt := (yX10_endLow, cX10_endLow, 1, none, 0)
set_option maxRecDepth 100000 in
theorem kX10_endLow : Mk mX10_endLow := ⟨tb_of 1051 rfl rfl, tb_of 11 (by decide +kernel) rfl, by decide +kernel, by decide⟩
theorem kVX10_endLow : MkV mX10_endLow := ⟨kX10_endLow, tb_of 1050 (by decide +kernel) rfl, tb_sel 54 (by decide +kernel) rfl⟩
abbrev mX10_goOn : Mt := (yX10_goOn, cX10_goOn, 4, (some .boolean), 0)
set_option maxRecDepth 100000 in
theorem kX10_goOn : Mk mX10_goOn := ⟨tb_of 1043 rfl rfl, tb_of 11 (by decide +kernel) rfl, by decide +kernel, by decide⟩
theorem kVX10_goOn : MkV mX10_goOn := ⟨kX10_goOn, tb_of 1042 (by decide +kernel) rfl, tb_sel 52 (by decide +kernel) rfl⟩
abbrev mX10_readSum : Mt := (yX10_readSum, cX10_readSum, 2, none, 0)
set_option maxRecDepth 100000 in
theorem kX10_readSum : Mk mX10_readSum := ⟨tb_of 1012 rfl rfl, tb_of 11 (by decide +kernel) rfl, by decide +kernel, by decide⟩
theorem kVX10_readSum : MkV mX10_readSum := ⟨kX10_readSum, tb_of 1011 (by decide +kernel) rfl, tb_sel 45 (by decide +kernel) rfl⟩
abbrev mX10_readTable : Mt := (yX10_readTable, cX10_readTable, 2, none, 0)
set_option maxRecDepth 100000 in
theorem kX10_readTable : Mk mX10_readTable := ⟨tb_of 991 rfl rfl, tb_of 11 (by decide +kernel) rfl, by decide +kernel, by decide⟩
theorem kVX10_readTable : MkV mX10_readTable := ⟨kX10_readTable, tb_of 990 (by decide +kernel) rfl, tb_sel 40 (by decide +kernel) rfl⟩
abbrev mX10_tableOf : Mt := (yX10_tableOf, cX10_tableOf, 5, (some .int), 2)
set_option maxRecDepth 100000 in
theorem kX10_tableOf : Mk mX10_tableOf := ⟨tb_of 1059 rfl rfl, tb_of 11 (by decide +kernel) rfl, by decide +kernel, by decide⟩
theorem kVX10_tableOf : MkV mX10_tableOf := ⟨kX10_tableOf, tb_of 1058 (by decide +kernel) rfl, tb_sel 56 (by decide +kernel) rfl⟩
abbrev mX10_checkNames : Mt := (yX10_checkNames, cX10_checkNames, 4, none, 0)
set_option maxRecDepth 100000 in
theorem kX10_checkNames : Mk mX10_checkNames := ⟨tb_of 1055 rfl rfl, tb_of 11 (by decide +kernel) rfl, by decide +kernel, by decide⟩
theorem kVX10_checkNames : MkV mX10_checkNames := ⟨kX10_checkNames, tb_of 1054 (by decide +kernel) rfl, tb_sel 55 (by decide +kernel) rfl⟩
abbrev mX10_read : Mt := (yX10_read, cX10_read, 4, (some .int), 0)
set_option maxRecDepth 100000 in
theorem kX10_read : Mk mX10_read := ⟨tb_of 956 rfl rfl, tb_of 11 (by decide +kernel) rfl, by decide +kernel, by decide⟩
theorem kVX10_read : MkV mX10_read := ⟨kX10_read, tb_of 954 (by decide +kernel) rfl, tb_of 955 (by decide +kernel) rfl⟩
abbrev mX10_sizeOf : Mt := (yX10_sizeOf, cX10_sizeOf, 7, (some .long), 1)
set_option maxRecDepth 100000 in
theorem kX10_sizeOf : Mk mX10_sizeOf := ⟨tb_of 1063 rfl rfl, tb_of 11 (by decide +kernel) rfl, by decide +kernel, by decide⟩
theorem kVX10_sizeOf : MkV mX10_sizeOf := ⟨kX10_sizeOf, tb_of 1062 (by decide +kernel) rfl, tb_sel 57 (by decide +kernel) rfl⟩
abbrev mX10_named : Mt := (yX10_named, cX10_named, 4, (some .int), 1)
set_option maxRecDepth 100000 in
theorem kX10_named : Mk mX10_named := ⟨tb_of 1067 rfl rfl, tb_of 11 (by decide +kernel) rfl, by decide +kernel, by decide⟩
theorem kVX10_named : MkV mX10_named := ⟨kX10_named, tb_of 1065 (by decide +kernel) rfl, tb_of 1066 (by decide +kernel) rfl⟩
abbrev mX10_isTable : Mt := (yX10_isTable, cX10_isTable, 2, (some .boolean), 1)
set_option maxRecDepth 100000 in
theorem kX10_isTable : Mk mX10_isTable := ⟨tb_of 1075 rfl rfl, tb_of 11 (by decide +kernel) rfl, by decide +kernel, by decide⟩
theorem kVX10_isTable : MkV mX10_isTable := ⟨kX10_isTable, tb_of 1074 (by decide +kernel) rfl, tb_sel 58 (by decide +kernel) rfl⟩
abbrev mX10_size : Mt := (yX10_size, cX10_size, 2, (some .int), 1)
set_option maxRecDepth 100000 in
theorem kX10_size : Mk mX10_size := ⟨tb_of 1071 rfl rfl, tb_of 11 (by decide +kernel) rfl, by decide +kernel, by decide⟩
theorem kVX10_size : MkV mX10_size := ⟨kX10_size, tb_of 1069 (by decide +kernel) rfl, tb_of 1070 (by decide +kernel) rfl⟩
abbrev mX10_state : Mt := (yX10_state, cX10_state, 2, (some .int), 1)
set_option maxRecDepth 100000 in
theorem kX10_state : Mk mX10_state := ⟨tb_of 1082 rfl rfl, tb_of 11 (by decide +kernel) rfl, by decide +kernel, by decide⟩
theorem kVX10_state : MkV mX10_state := ⟨kX10_state, tb_of 1080 (by decide +kernel) rfl, tb_of 1081 (by decide +kernel) rfl⟩
abbrev mX10_row : Mt := (yX10_row, cX10_row, 3, (some .int), 2)
set_option maxRecDepth 100000 in
theorem kX10_row : Mk mX10_row := ⟨tb_of 1086 rfl rfl, tb_of 11 (by decide +kernel) rfl, by decide +kernel, by decide⟩
theorem kVX10_row : MkV mX10_row := ⟨kX10_row, tb_of 1084 (by decide +kernel) rfl, tb_of 1085 (by decide +kernel) rfl⟩
abbrev mX10_rowsOf : Mt := (yX10_rowsOf, cX10_rowsOf, 2, (some .int), 1)
set_option maxRecDepth 100000 in
theorem kX10_rowsOf : Mk mX10_rowsOf := ⟨tb_of 1090 rfl rfl, tb_of 11 (by decide +kernel) rfl, by decide +kernel, by decide⟩
theorem kVX10_rowsOf : MkV mX10_rowsOf := ⟨kX10_rowsOf, tb_of 1089 (by decide +kernel) rfl, tb_sel 59 (by decide +kernel) rfl⟩
abbrev mX10_noteBuild : Mt := (yX10_noteBuild, cX10_noteBuild, 4, none, 3)
set_option maxRecDepth 100000 in
theorem kX10_noteBuild : Mk mX10_noteBuild := ⟨tb_of 1126 rfl rfl, tb_of 11 (by decide +kernel) rfl, by decide +kernel, by decide⟩
theorem kVX10_noteBuild : MkV mX10_noteBuild := ⟨kX10_noteBuild, tb_of 1125 (by decide +kernel) rfl, tb_sel 67 (by decide +kernel) rfl⟩
abbrev mX10_half : Mt := (yX10_half, cX10_half, 6, (some .long), 4)
set_option maxRecDepth 100000 in
theorem kX10_half : Mk mX10_half := ⟨tb_of 1131 rfl rfl, tb_of 11 (by decide +kernel) rfl, by decide +kernel, by decide⟩
theorem kVX10_half : MkV mX10_half := ⟨kX10_half, tb_of 1130 (by decide +kernel) rfl, tb_sel 68 (by decide +kernel) rfl⟩
abbrev mX10_begin : Mt := (yX10_begin, cX10_begin, 6, (some .int), 3)
set_option maxRecDepth 100000 in
theorem kX10_begin : Mk mX10_begin := ⟨tb_of 1122 rfl rfl, tb_of 11 (by decide +kernel) rfl, by decide +kernel, by decide⟩
theorem kVX10_begin : MkV mX10_begin := ⟨kX10_begin, tb_of 1121 (by decide +kernel) rfl, tb_sel 66 (by decide +kernel) rfl⟩
abbrev mX10_ask : Mt := (yX10_ask, cX10_ask, 8, (some .int), 4)
set_option maxRecDepth 100000 in
theorem kX10_ask : Mk mX10_ask := ⟨tb_of 1118 rfl rfl, tb_of 11 (by decide +kernel) rfl, by decide +kernel, by decide⟩
theorem kVX10_ask : MkV mX10_ask := ⟨kX10_ask, tb_of 1117 (by decide +kernel) rfl, tb_sel 65 (by decide +kernel) rfl⟩
abbrev mX10_failAll : Mt := (yX10_failAll, cX10_failAll, 4, none, 1)
set_option maxRecDepth 100000 in
theorem kX10_failAll : Mk mX10_failAll := ⟨tb_of 1140 rfl rfl, tb_of 11 (by decide +kernel) rfl, by decide +kernel, by decide⟩
theorem kVX10_failAll : MkV mX10_failAll := ⟨kX10_failAll, tb_of 1139 (by decide +kernel) rfl, tb_sel 70 (by decide +kernel) rfl⟩
abbrev mX10_takeTop : Mt := (yX10_takeTop, cX10_takeTop, 2, (some .long), 1)
set_option maxRecDepth 100000 in
theorem kX10_takeTop : Mk mX10_takeTop := ⟨tb_of 1114 rfl rfl, tb_of 11 (by decide +kernel) rfl, by decide +kernel, by decide⟩
theorem kVX10_takeTop : MkV mX10_takeTop := ⟨kX10_takeTop, tb_of 1113 (by decide +kernel) rfl, tb_sel 64 (by decide +kernel) rfl⟩
abbrev mX10_putTop : Mt := (yX10_putTop, cX10_putTop, 4, none, 2)
set_option maxRecDepth 100000 in
theorem kX10_putTop : Mk mX10_putTop := ⟨tb_of 1110 rfl rfl, tb_of 11 (by decide +kernel) rfl, by decide +kernel, by decide⟩
theorem kVX10_putTop : MkV mX10_putTop := ⟨kX10_putTop, tb_of 1109 (by decide +kernel) rfl, tb_sel 63 (by decide +kernel) rfl⟩
abbrev mX10_step : Mt := (yX10_step, cX10_step, 8, (some .int), 1)
set_option maxRecDepth 100000 in
theorem kX10_step : Mk mX10_step := ⟨tb_of 1106 rfl rfl, tb_of 11 (by decide +kernel) rfl, by decide +kernel, by decide⟩
theorem kVX10_step : MkV mX10_step := ⟨kX10_step, tb_of 1105 (by decide +kernel) rfl, tb_sel 62 (by decide +kernel) rfl⟩
abbrev mX10_add : Mt := (yX10_add, cX10_add, 3, none, 1)
set_option maxRecDepth 100000 in
theorem kX10_add : Mk mX10_add := ⟨tb_of 1135 rfl rfl, tb_of 11 (by decide +kernel) rfl, by decide +kernel, by decide⟩
theorem kVX10_add : MkV mX10_add := ⟨kX10_add, tb_of 1134 (by decide +kernel) rfl, tb_sel 69 (by decide +kernel) rfl⟩
abbrev mX10_goOne : Mt := (yX10_goOne, cX10_goOne, 4, (some .int), 0)
set_option maxRecDepth 100000 in
theorem kX10_goOne : Mk mX10_goOne := ⟨tb_of 1102 rfl rfl, tb_of 11 (by decide +kernel) rfl, by decide +kernel, by decide⟩
theorem kVX10_goOne : MkV mX10_goOne := ⟨kX10_goOne, tb_of 1101 (by decide +kernel) rfl, tb_sel 61 (by decide +kernel) rfl⟩
abbrev mX10_get : Mt := (yX10_get, cX10_get, 6, (some .boolean), 3)
set_option maxRecDepth 100000 in
theorem kX10_get : Mk mX10_get := ⟨tb_of 1098 rfl rfl, tb_of 11 (by decide +kernel) rfl, by decide +kernel, by decide⟩
theorem kVX10_get : MkV mX10_get := ⟨kX10_get, tb_of 1097 (by decide +kernel) rfl, tb_sel 60 (by decide +kernel) rfl⟩
abbrev mX10_isAnswered : Mt := (yX10_isAnswered, cX10_isAnswered, 6, (some .boolean), 3)
set_option maxRecDepth 100000 in
theorem kX10_isAnswered : Mk mX10_isAnswered := ⟨tb_of 1144 rfl rfl, tb_of 11 (by decide +kernel) rfl, by decide +kernel, by decide⟩
theorem kVX10_isAnswered : MkV mX10_isAnswered := ⟨kX10_isAnswered, tb_of 1143 (by decide +kernel) rfl, tb_sel 71 (by decide +kernel) rfl⟩
abbrev mX10_entry : Mt := (yX10_entry, cX10_entry, 3, (some .long), 2)
set_option maxRecDepth 100000 in
theorem kX10_entry : Mk mX10_entry := ⟨tb_of 1094 rfl rfl, tb_of 11 (by decide +kernel) rfl, by decide +kernel, by decide⟩
theorem kVX10_entry : MkV mX10_entry := ⟨kX10_entry, tb_of 1092 (by decide +kernel) rfl, tb_of 1093 (by decide +kernel) rfl⟩
abbrev mX10_reason : Mt := (yX10_reason, cX10_reason, 2, (some .int), 1)
set_option maxRecDepth 100000 in
theorem kX10_reason : Mk mX10_reason := ⟨tb_of 1148 rfl rfl, tb_of 11 (by decide +kernel) rfl, by decide +kernel, by decide⟩
theorem kVX10_reason : MkV mX10_reason := ⟨kX10_reason, tb_of 1146 (by decide +kernel) rfl, tb_of 1147 (by decide +kernel) rfl⟩
abbrev mX10_sum : Mt := (yX10_sum, cX10_sum, 11, (some .long), 4)
set_option maxRecDepth 100000 in
theorem kX10_sum : Mk mX10_sum := ⟨tb_of 1152 rfl rfl, tb_of 11 (by decide +kernel) rfl, by decide +kernel, by decide⟩
theorem kVX10_sum : MkV mX10_sum := ⟨kX10_sum, tb_of 1150 (by decide +kernel) rfl, tb_of 1151 (by decide +kernel) rfl⟩
abbrev mX10_find : Mt := (yX10_find, cX10_find, 5, (some .int), 2)
set_option maxRecDepth 100000 in
theorem kX10_find : Mk mX10_find := ⟨tb_of 1159 rfl rfl, tb_of 11 (by decide +kernel) rfl, by decide +kernel, by decide⟩
theorem kVX10_find : MkV mX10_find := ⟨kX10_find, tb_of 1157 (by decide +kernel) rfl, tb_of 1158 (by decide +kernel) rfl⟩
abbrev mX10_drop : Mt := (yX10_drop, cX10_drop, 2, (some .int), 1)
set_option maxRecDepth 100000 in
theorem kX10_drop : Mk mX10_drop := ⟨tb_of 1163 rfl rfl, tb_of 11 (by decide +kernel) rfl, by decide +kernel, by decide⟩
theorem kVX10_drop : MkV mX10_drop := ⟨kX10_drop, tb_of 1161 (by decide +kernel) rfl, tb_of 1162 (by decide +kernel) rfl⟩
abbrev mX10_builds : Mt := (yX10_builds, cX10_builds, 1, (some .int), 0)
set_option maxRecDepth 100000 in
theorem kX10_builds : Mk mX10_builds := ⟨tb_of 1167 rfl rfl, tb_of 11 (by decide +kernel) rfl, by decide +kernel, by decide⟩
theorem kVX10_builds : MkV mX10_builds := ⟨kX10_builds, tb_of 1165 (by decide +kernel) rfl, tb_of 1166 (by decide +kernel) rfl⟩
abbrev mX10_build : Mt := (yX10_build, cX10_build, 3, (some .int), 2)
set_option maxRecDepth 100000 in
theorem kX10_build : Mk mX10_build := ⟨tb_of 1171 rfl rfl, tb_of 11 (by decide +kernel) rfl, by decide +kernel, by decide⟩
theorem kVX10_build : MkV mX10_build := ⟨kX10_build, tb_of 1169 (by decide +kernel) rfl, tb_of 1170 (by decide +kernel) rfl⟩
abbrev mX10_halves : Mt := (yX10_halves, cX10_halves, 1, (some .int), 0)
set_option maxRecDepth 100000 in
theorem kX10_halves : Mk mX10_halves := ⟨tb_of 1175 rfl rfl, tb_of 11 (by decide +kernel) rfl, by decide +kernel, by decide⟩
theorem kVX10_halves : MkV mX10_halves := ⟨kX10_halves, tb_of 1173 (by decide +kernel) rfl, tb_of 1174 (by decide +kernel) rfl⟩
abbrev mX10_half_ : Mt := (yX10_half_, cX10_half_, 3, (some .long), 2)
set_option maxRecDepth 100000 in
theorem kX10_half_ : Mk mX10_half_ := ⟨tb_of 1179 rfl rfl, tb_of 11 (by decide +kernel) rfl, by decide +kernel, by decide⟩
theorem kVX10_half_ : MkV mX10_half_ := ⟨kX10_half_, tb_of 1177 (by decide +kernel) rfl, tb_of 1178 (by decide +kernel) rfl⟩
abbrev mX10_reads : Mt := (yX10_reads, cX10_reads, 5, (some .int), 2)
set_option maxRecDepth 100000 in
theorem kX10_reads : Mk mX10_reads := ⟨tb_of 1183 rfl rfl, tb_of 11 (by decide +kernel) rfl, by decide +kernel, by decide⟩
theorem kVX10_reads : MkV mX10_reads := ⟨kX10_reads, tb_of 1181 (by decide +kernel) rfl, tb_of 1182 (by decide +kernel) rfl⟩
abbrev mX10_count : Mt := (yX10_count, cX10_count, 5, (some .int), 1)
set_option maxRecDepth 100000 in
theorem kX10_count : Mk mX10_count := ⟨tb_of 1187 rfl rfl, tb_of 11 (by decide +kernel) rfl, by decide +kernel, by decide⟩
theorem kVX10_count : MkV mX10_count := ⟨kX10_count, tb_of 1185 (by decide +kernel) rfl, tb_of 1186 (by decide +kernel) rfl⟩
abbrev mJ9_max_f86c9 : Mt := (yJ9_max_f86c9, cJ9_max_f86c9, 4, (some .long), 2)
set_option maxRecDepth 100000 in
theorem kJ9_max_f86c9 : Mk mJ9_max_f86c9 := ⟨tb_of 523 rfl rfl, tb_of 12 (by decide +kernel) rfl, by decide +kernel, by decide⟩
theorem kSJ9_max_f86c9 : MkS mJ9_max_f86c9 := ⟨kJ9_max_f86c9, tb_of 522 (by decide +kernel) rfl⟩
abbrev mJ9_min_7cf53 : Mt := (yJ9_min_7cf53, cJ9_min_7cf53, 2, (some .int), 2)
set_option maxRecDepth 100000 in
theorem kJ9_min_7cf53 : Mk mJ9_min_7cf53 := ⟨tb_of 622 rfl rfl, tb_of 12 (by decide +kernel) rfl, by decide +kernel, by decide⟩
theorem kSJ9_min_7cf53 : MkS mJ9_min_7cf53 := ⟨kJ9_min_7cf53, tb_of 621 (by decide +kernel) rfl⟩
abbrev mJ9_min_f86c9 : Mt := (yJ9_min_f86c9, cJ9_min_f86c9, 4, (some .long), 2)
set_option maxRecDepth 100000 in
theorem kJ9_min_f86c9 : Mk mJ9_min_f86c9 := ⟨tb_of 520 rfl rfl, tb_of 12 (by decide +kernel) rfl, by decide +kernel, by decide⟩
theorem kSJ9_min_f86c9 : MkS mJ9_min_f86c9 := ⟨kJ9_min_f86c9, tb_of 519 (by decide +kernel) rfl⟩
theorem lkL_9 : Lk RL 9 mX9_init := tb_of 15 (by decide +kernel) rfl
theorem lkX9_3 : Cond.methodLink RX9 3 objectInit ∈ TB := tb_of 18 (by decide +kernel) rfl
theorem lkX9_11 : Lk RX9 11 mX3_init := tb_of 23 (by decide +kernel) rfl
theorem lkX3_3 : Cond.methodLink RX3 3 objectInit ∈ TB := tb_of 26 (by decide +kernel) rfl
theorem lkX9_18 : Lk RX9 18 mX5_init := tb_of 38 (by decide +kernel) rfl
theorem lkX5_3 : Cond.methodLink RX5 3 objectInit ∈ TB := tb_of 41 (by decide +kernel) rfl
theorem lkX5_11 : Lk RX5 11 mX6_init := tb_of 44 (by decide +kernel) rfl
theorem lkX6_3 : Cond.methodLink RX6 3 objectInit ∈ TB := tb_of 47 (by decide +kernel) rfl
theorem lkX9_27 : Lk RX9 27 mX4_init := tb_of 85 (by decide +kernel) rfl
theorem lkX4_3 : Cond.methodLink RX4 3 objectInit ∈ TB := tb_of 88 (by decide +kernel) rfl
theorem lkX4_17 : Lk RX4 17 mX2_init := tb_of 92 (by decide +kernel) rfl
theorem lkX2_3 : Cond.methodLink RX2 3 objectInit ∈ TB := tb_of 95 (by decide +kernel) rfl
theorem lkX2_11 : Lk RX2 11 mX0_init := tb_of 98 (by decide +kernel) rfl
theorem lkX0_3 : Cond.methodLink RX0 3 objectInit ∈ TB := tb_of 101 (by decide +kernel) rfl
theorem lkX9_37 : Lk RX9 37 mX8_init := tb_of 180 (by decide +kernel) rfl
theorem lkX8_3 : Cond.methodLink RX8 3 objectInit ∈ TB := tb_of 183 (by decide +kernel) rfl
theorem lkX8_11 : Lk RX8 11 mX1_init := tb_of 186 (by decide +kernel) rfl
theorem lkX1_3 : Cond.methodLink RX1 3 objectInit ∈ TB := tb_of 189 (by decide +kernel) rfl
theorem lkX8_23 : Lk RX8 23 mX7_init := tb_of 200 (by decide +kernel) rfl
theorem lkX7_1 : Cond.methodLink RX7 1 objectInit ∈ TB := tb_of 203 (by decide +kernel) rfl
theorem lkL_15 : Lk RL 15 mX9_feed := tb_of 268 (by decide +kernel) rfl
theorem lkX9_44 : Lk RX9 44 mX3_append := tb_of 272 (by decide +kernel) rfl
theorem lkX3_19 : Lk RX3 19 mX3_bytesIn := tb_of 276 (by decide +kernel) rfl
theorem lkX3_23 : Lk RX3 23 mX3_putByte := tb_of 280 (by decide +kernel) rfl
theorem lkL_20 : Lk RL 20 mX9_read := tb_of 284 (by decide +kernel) rfl
theorem lkX9_52 : Lk RX9 52 mX5_parse := tb_of 288 (by decide +kernel) rfl
theorem lkX5_39 : Lk RX5 39 mX6_start := tb_of 292 (by decide +kernel) rfl
theorem lkX6_29 : Lk RX6 29 mX6_advance := tb_of 296 (by decide +kernel) rfl
theorem lkX6_32 : Lk RX6 32 mX6_skipBlanks := tb_of 300 (by decide +kernel) rfl
theorem lkX6_35 : Lk RX6 35 mX3_byteAt := tb_of 304 (by decide +kernel) rfl
theorem lkX6_41 : Lk RX6 41 mX6_isDigit := tb_of 308 (by decide +kernel) rfl
theorem lkX6_45 : Lk RX6 45 mX6_takeDigits := tb_of 311 (by decide +kernel) rfl
theorem lkX6_49 : Lk RX6 49 mX6_isLetter := tb_of 316 (by decide +kernel) rfl
theorem lkX6_52 : Lk RX6 52 mX6_takeLetters := tb_of 319 (by decide +kernel) rfl
theorem lkX6_55 : Lk RX6 55 mX6_kindOfWord := tb_of 323 (by decide +kernel) rfl
theorem lkX6_59 : Lk RX6 59 mX6_isSign := tb_of 331 (by decide +kernel) rfl
theorem lkX5_42 : Lk RX5 42 mX4_slotAt := tb_of 334 (by decide +kernel) rfl
theorem lkX5_46 : Lk RX5 46 mX5_takeTable := tb_of 338 (by decide +kernel) rfl
theorem lkX5_67 : Lk RX5 67 mX5_expect := tb_of 342 (by decide +kernel) rfl
theorem lkX5_60 : Lk RX5 60 mX5_faultHere := tb_of 346 (by decide +kernel) rfl
theorem lkX5_64 : Lk RX5 64 mX6_advance := tb_of 350 (by decide +kernel) rfl
theorem lkX5_75 : Lk RX5 75 mX4_numberOf := tb_of 351 (by decide +kernel) rfl
theorem lkX4_22 : Lk RX4 22 mX4_slotAt := tb_of 355 (by decide +kernel) rfl
theorem lkX5_79 : Lk RX5 79 mX5_noteNameFault := tb_of 356 (by decide +kernel) rfl
theorem lkX5_89 : Lk RX5 89 mX0_clear := tb_of 360 (by decide +kernel) rfl
theorem lkX5_94 : Lk RX5 94 mX5_takeSize := tb_of 364 (by decide +kernel) rfl
theorem lkX5_107 : Lk RX5 107 mX5_sizeToldAhead := tb_of 368 (by decide +kernel) rfl
theorem lkX5_114 : Lk RX5 114 mX4_sizeOf := tb_of 372 (by decide +kernel) rfl
theorem lkX4_30 : Lk RX4 30 mX4_tableAt := tb_of 376 (by decide +kernel) rfl
theorem lkX5_97 : Lk RX5 97 mX5_takeManner := tb_of 380 (by decide +kernel) rfl
theorem lkX5_101 : Lk RX5 101 mX5_takeSum := tb_of 384 (by decide +kernel) rfl
theorem lkX5_132 : Lk RX5 132 mX5_takeProduct := tb_of 388 (by decide +kernel) rfl
theorem lkX5_138 : Lk RX5 138 mX5_takeUnit := tb_of 392 (by decide +kernel) rfl
theorem lkX5_135 : Lk RX5 135 mX5_addStep := tb_of 396 (by decide +kernel) rfl
theorem lkX5_128 : Lk RX5 128 mX0_add := tb_of 400 (by decide +kernel) rfl
theorem lkX5_144 : Lk RX5 144 mX5_takeEntry := tb_of 410 (by decide +kernel) rfl
theorem lkX5_147 : Lk RX5 147 mX5_takeGroup := tb_of 414 (by decide +kernel) rfl
theorem lkX5_150 : Lk RX5 150 mX5_takeChoice := tb_of 418 (by decide +kernel) rfl
theorem lkX5_156 : Lk RX5 156 mX0_skipToHere := tb_of 422 (by decide +kernel) rfl
theorem lkX5_141 : Lk RX5 141 mX5_isProductSign := tb_of 426 (by decide +kernel) rfl
theorem lkX5_104 : Lk RX5 104 mX5_takeEnd := tb_of 429 (by decide +kernel) rfl
theorem lkX5_56 : Lk RX5 56 mX5_resolveNames := tb_of 433 (by decide +kernel) rfl
theorem lkX5_159 : Lk RX5 159 mX5_resolveNamesIn := tb_of 437 (by decide +kernel) rfl
theorem lkX5_163 : Lk RX5 163 mX0_isNameAt := tb_of 441 (by decide +kernel) rfl
theorem lkX5_166 : Lk RX5 166 mX0_withAt := tb_of 448 (by decide +kernel) rfl
theorem lkX5_169 : Lk RX5 169 mX0_placeAt := tb_of 455 (by decide +kernel) rfl
theorem lkX5_173 : Lk RX5 173 mX0_resolve := tb_of 459 (by decide +kernel) rfl
theorem lkX9_56 : Lk RX9 56 mX4_putToSleep := tb_of 463 (by decide +kernel) rfl
theorem lkX4_36 : Lk RX4 36 mX2_putToSleep := tb_of 467 (by decide +kernel) rfl
theorem lkX9_59 : Lk RX9 59 mX8_open := tb_of 471 (by decide +kernel) rfl
theorem lkX8_61 : Lk RX8 61 mX1_clear := tb_of 475 (by decide +kernel) rfl
theorem lkX8_64 : Lk RX8 64 mX8_startCall := tb_of 479 (by decide +kernel) rfl
theorem lkX9_62 : Lk RX9 62 mX3_empty := tb_of 483 (by decide +kernel) rfl
theorem lkL_25 : Lk RL 25 mX9_cut := tb_of 487 (by decide +kernel) rfl
theorem lkL_29 : Lk RL 29 mX9_named := tb_of 491 (by decide +kernel) rfl
theorem lkX9_68 : Lk RX9 68 mX4_numberOf := tb_of 495 (by decide +kernel) rfl
theorem lkL_33 : Lk RL 33 mX9_size := tb_of 496 (by decide +kernel) rfl
theorem lkX9_72 : Lk RX9 72 mX4_tableAt := tb_of 500 (by decide +kernel) rfl
theorem lkL_38 : Lk RL 38 mX9_state := tb_of 501 (by decide +kernel) rfl
theorem lkL_42 : Lk RL 42 mX9_row := tb_of 505 (by decide +kernel) rfl
theorem lkX9_89 : Lk RX9 89 mX2_rowsInAll := tb_of 509 (by decide +kernel) rfl
theorem lkX2_58 : Lk RX2 58 mX2_entriesInAll := tb_of 513 (by decide +kernel) rfl
theorem lkX2_49 : Lk RX2 49 mJ9_min_f86c9 := tb_of 518 (by decide +kernel) rfl
theorem lkX2_55 : Lk RX2 55 mJ9_max_f86c9 := tb_of 521 (by decide +kernel) rfl
theorem lkX9_97 : Lk RX9 97 mX9_at := tb_of 524 (by decide +kernel) rfl
theorem lkL_47 : Lk RL 47 mX9_entry := tb_of 525 (by decide +kernel) rfl
theorem lkX9_101 : Lk RX9 101 mX8_startCall := tb_of 529 (by decide +kernel) rfl
theorem lkX9_104 : Lk RX9 104 mX8_askFor := tb_of 530 (by decide +kernel) rfl
theorem lkX8_71 : Lk RX8 71 mX8_ask := tb_of 534 (by decide +kernel) rfl
theorem lkX8_80 : Lk RX8 80 mX4_tableAt := tb_of 538 (by decide +kernel) rfl
theorem lkX8_86 : Lk RX8 86 mX8_awaken := tb_of 539 (by decide +kernel) rfl
theorem lkX8_96 : Lk RX8 96 mX8_fail := tb_of 543 (by decide +kernel) rfl
theorem lkX8_217 : Lk RX8 217 mX8_addReason := tb_of 547 (by decide +kernel) rfl
theorem lkX8_123 : Lk RX8 123 mX8_wake := tb_of 552 (by decide +kernel) rfl
theorem lkX8_119 : Lk RX8 119 mX1_note := tb_of 557 (by decide +kernel) rfl
theorem lkX8_131 : Lk RX8 131 mX8_layOut := tb_of 562 (by decide +kernel) rfl
theorem lkX8_151 : Lk RX8 151 mX2_clearEntries := tb_of 567 (by decide +kernel) rfl
theorem lkX8_135 : Lk RX8 135 mX8_fill := tb_of 571 (by decide +kernel) rfl
theorem lkX8_90 : Lk RX8 90 mX2_entriesInAll := tb_of 575 (by decide +kernel) rfl
theorem lkX8_154 : Lk RX8 154 mX8_makeEntries := tb_of 576 (by decide +kernel) rfl
theorem lkX8_182 : Lk RX8 182 mX8_workOut := tb_of 580 (by decide +kernel) rfl
theorem lkX8_198 : Lk RX8 198 mX0_stepAt := tb_of 584 (by decide +kernel) rfl
theorem lkX8_201 : Lk RX8 201 mX0_withAt := tb_of 588 (by decide +kernel) rfl
theorem lkX8_205 : Lk RX8 205 mX8_push := tb_of 589 (by decide +kernel) rfl
theorem lkX8_208 : Lk RX8 208 mX4_sizeOf := tb_of 594 (by decide +kernel) rfl
theorem lkX8_186 : Lk RX8 186 mX8_pop := tb_of 595 (by decide +kernel) rfl
theorem lkX8_211 : Lk RX8 211 mX0_skipAt := tb_of 600 (by decide +kernel) rfl
theorem lkX0_42 : Lk RX0 42 mJ9_min_f86c9 := tb_of 605 (by decide +kernel) rfl
theorem lkX0_48 : Lk RX0 48 mJ9_max_f86c9 := tb_of 606 (by decide +kernel) rfl
theorem lkX8_214 : Lk RX8 214 mX8_workOutPair := tb_of 607 (by decide +kernel) rfl
theorem lkX8_160 : Lk RX8 160 mX2_rowsInAll := tb_of 611 (by decide +kernel) rfl
theorem lkX8_126 : Lk RX8 126 mX8_makeRow := tb_of 612 (by decide +kernel) rfl
theorem lkX8_174 : Lk RX8 174 mX2_endOfRow := tb_of 616 (by decide +kernel) rfl
theorem lkX2_62 : Lk RX2 62 mJ9_min_7cf53 := tb_of 620 (by decide +kernel) rfl
theorem lkX8_142 : Lk RX8 142 mX8_failWithReason := tb_of 623 (by decide +kernel) rfl
theorem lkX8_139 : Lk RX8 139 mX8_keepsPromise := tb_of 627 (by decide +kernel) rfl
theorem lkX8_75 : Lk RX8 75 mX7_clear := tb_of 631 (by decide +kernel) rfl
theorem lkX8_76 : Lk RX8 76 mX7_add := tb_of 635 (by decide +kernel) rfl
theorem lkX8_166 : Lk RX8 166 mX7_is := tb_of 640 (by decide +kernel) rfl
theorem lkX8_106 : Lk RX8 106 mX8_awakenRow := tb_of 644 (by decide +kernel) rfl
theorem lkL_52 : Lk RL 52 mX9_reason := tb_of 649 (by decide +kernel) rfl
theorem lkX9_111 : Lk RX9 111 mX8_reasonAt := tb_of 653 (by decide +kernel) rfl
theorem lkL_56 : Lk RL 56 mX9_sum := tb_of 657 (by decide +kernel) rfl
theorem lkX9_121 : Lk RX9 121 mX8_addUp := tb_of 664 (by decide +kernel) rfl
theorem lkX9_129 : Lk RX9 129 mX7_part := tb_of 668 (by decide +kernel) rfl
theorem lkL_61 : Lk RL 61 mX9_find := tb_of 673 (by decide +kernel) rfl
theorem lkX9_135 : Lk RX9 135 mX8_search := tb_of 677 (by decide +kernel) rfl
theorem lkL_66 : Lk RL 66 mX9_drop := tb_of 681 (by decide +kernel) rfl
theorem lkX9_139 : Lk RX9 139 mX2_putToSleep := tb_of 685 (by decide +kernel) rfl
theorem lkL_70 : Lk RL 70 mX9_builds := tb_of 686 (by decide +kernel) rfl
theorem lkL_74 : Lk RL 74 mX9_build := tb_of 690 (by decide +kernel) rfl
theorem lkX9_149 : Lk RX9 149 mX1_keeps := tb_of 694 (by decide +kernel) rfl
theorem lkX9_153 : Lk RX9 153 mX1_told := tb_of 698 (by decide +kernel) rfl
theorem lkL_78 : Lk RL 78 mX9_halves := tb_of 703 (by decide +kernel) rfl
theorem lkL_82 : Lk RL 82 mX9_half := tb_of 707 (by decide +kernel) rfl
theorem lkL_86 : Lk RL 86 mX9_reads := tb_of 711 (by decide +kernel) rfl
theorem lkX9_163 : Lk RX9 163 mX0_names := tb_of 715 (by decide +kernel) rfl
theorem lkL_90 : Lk RL 90 mX9_count := tb_of 719 (by decide +kernel) rfl
theorem lkX9_168 : Lk RX9 168 mX4_howManyAre := tb_of 723 (by decide +kernel) rfl
theorem lkX9_171 : Lk RX9 171 mX4_readyEntries := tb_of 727 (by decide +kernel) rfl
theorem lkX4_42 : Lk RX4 42 mX2_readyEntries := tb_of 731 (by decide +kernel) rfl
theorem lkX2_65 : Lk RX2 65 mX2_rowsInAll := tb_of 735 (by decide +kernel) rfl
theorem lkX2_72 : Lk RX2 72 mX2_endOfRow := tb_of 737 (by decide +kernel) rfl
theorem lkL_12 : Lk RL 12 mX10_init := tb_of 740 (by decide +kernel) rfl
theorem lkX10_1 : Cond.methodLink RX10 1 objectInit ∈ TB := tb_of 743 (by decide +kernel) rfl
theorem lkL_19 : Lk RL 19 mX10_feed := tb_of 944 (by decide +kernel) rfl
theorem lkL_28 : Lk RL 28 mX10_cut := tb_of 949 (by decide +kernel) rfl
theorem lkL_24 : Lk RL 24 mX10_read := tb_of 953 (by decide +kernel) rfl
theorem lkX10_280 : Lk RX10 280 mX10_cutUp := tb_of 957 (by decide +kernel) rfl
theorem lkX10_170 : Lk RX10 170 mX10_at := tb_of 961 (by decide +kernel) rfl
theorem lkX10_174 : Lk RX10 174 mX10_isLetter := tb_of 965 (by decide +kernel) rfl
theorem lkX10_178 : Lk RX10 178 mX10_wordSort := tb_of 968 (by decide +kernel) rfl
theorem lkX10_182 : Lk RX10 182 mX10_addToken := tb_of 976 (by decide +kernel) rfl
theorem lkX10_186 : Lk RX10 186 mX10_isDigit := tb_of 980 (by decide +kernel) rfl
theorem lkX10_193 : Lk RX10 193 mX10_isSign := tb_of 985 (by decide +kernel) rfl
theorem lkX10_283 : Lk RX10 283 mX10_readTable := tb_of 988 (by decide +kernel) rfl
theorem lkX10_202 : Lk RX10 202 mX10_must := tb_of 992 (by decide +kernel) rfl
theorem lkX10_241 : Lk RX10 241 mX10_take := tb_of 996 (by decide +kernel) rfl
theorem lkX10_270 : Lk RX10 270 mX10_readSize := tb_of 1000 (by decide +kernel) rfl
theorem lkX10_218 : Lk RX10 218 mX10_use := tb_of 1004 (by decide +kernel) rfl
theorem lkX10_273 : Lk RX10 273 mX10_readSum := tb_of 1009 (by decide +kernel) rfl
theorem lkX10_257 : Lk RX10 257 mX10_readUnit := tb_of 1013 (by decide +kernel) rfl
theorem lkX10_233 : Lk RX10 233 mX10_emit := tb_of 1017 (by decide +kernel) rfl
theorem lkX10_237 : Lk RX10 237 mX10_push := tb_of 1021 (by decide +kernel) rfl
theorem lkX10_263 : Lk RX10 263 mX10_endUnit := tb_of 1025 (by decide +kernel) rfl
theorem lkX10_244 : Lk RX10 244 mX10_top := tb_of 1029 (by decide +kernel) rfl
theorem lkX10_248 : Lk RX10 248 mX10_isHigh := tb_of 1033 (by decide +kernel) rfl
theorem lkX10_251 : Lk RX10 251 mX10_actOf := tb_of 1037 (by decide +kernel) rfl
theorem lkX10_266 : Lk RX10 266 mX10_goOn := tb_of 1040 (by decide +kernel) rfl
theorem lkX10_254 : Lk RX10 254 mX10_isLow := tb_of 1044 (by decide +kernel) rfl
theorem lkX10_260 : Lk RX10 260 mX10_endLow := tb_of 1048 (by decide +kernel) rfl
theorem lkX10_286 : Lk RX10 286 mX10_checkNames := tb_of 1052 (by decide +kernel) rfl
theorem lkX10_276 : Lk RX10 276 mX10_tableOf := tb_of 1056 (by decide +kernel) rfl
theorem lkX10_292 : Lk RX10 292 mX10_sizeOf := tb_of 1060 (by decide +kernel) rfl
theorem lkL_32 : Lk RL 32 mX10_named := tb_of 1064 (by decide +kernel) rfl
theorem lkL_37 : Lk RL 37 mX10_size := tb_of 1068 (by decide +kernel) rfl
theorem lkX10_309 : Lk RX10 309 mX10_isTable := tb_of 1072 (by decide +kernel) rfl
theorem lkX10_305 : Lk RX10 305 mX10_in := tb_of 1076 (by decide +kernel) rfl
theorem lkL_41 : Lk RL 41 mX10_state := tb_of 1079 (by decide +kernel) rfl
theorem lkL_46 : Lk RL 46 mX10_row := tb_of 1083 (by decide +kernel) rfl
theorem lkX10_312 : Lk RX10 312 mX10_rowsOf := tb_of 1087 (by decide +kernel) rfl
theorem lkL_51 : Lk RL 51 mX10_entry := tb_of 1091 (by decide +kernel) rfl
theorem lkX10_375 : Lk RX10 375 mX10_get := tb_of 1095 (by decide +kernel) rfl
theorem lkX10_364 : Lk RX10 364 mX10_goOne := tb_of 1099 (by decide +kernel) rfl
theorem lkX10_357 : Lk RX10 357 mX10_step := tb_of 1103 (by decide +kernel) rfl
theorem lkX10_339 : Lk RX10 339 mX10_putTop := tb_of 1107 (by decide +kernel) rfl
theorem lkX10_342 : Lk RX10 342 mX10_takeTop := tb_of 1111 (by decide +kernel) rfl
theorem lkX10_345 : Lk RX10 345 mX10_ask := tb_of 1115 (by decide +kernel) rfl
theorem lkX10_324 : Lk RX10 324 mX10_begin := tb_of 1119 (by decide +kernel) rfl
theorem lkX10_318 : Lk RX10 318 mX10_noteBuild := tb_of 1123 (by decide +kernel) rfl
theorem lkX10_332 : Lk RX10 332 mX10_half := tb_of 1128 (by decide +kernel) rfl
theorem lkX10_360 : Lk RX10 360 mX10_add := tb_of 1132 (by decide +kernel) rfl
theorem lkX10_367 : Lk RX10 367 mX10_failAll := tb_of 1137 (by decide +kernel) rfl
theorem lkX10_371 : Lk RX10 371 mX10_isAnswered := tb_of 1141 (by decide +kernel) rfl
theorem lkL_55 : Lk RL 55 mX10_reason := tb_of 1145 (by decide +kernel) rfl
theorem lkL_60 : Lk RL 60 mX10_sum := tb_of 1149 (by decide +kernel) rfl
theorem lkL_65 : Lk RL 65 mX10_find := tb_of 1156 (by decide +kernel) rfl
theorem lkL_69 : Lk RL 69 mX10_drop := tb_of 1160 (by decide +kernel) rfl
theorem lkL_73 : Lk RL 73 mX10_builds := tb_of 1164 (by decide +kernel) rfl
theorem lkL_77 : Lk RL 77 mX10_build := tb_of 1168 (by decide +kernel) rfl
theorem lkL_81 : Lk RL 81 mX10_halves := tb_of 1172 (by decide +kernel) rfl
theorem lkL_85 : Lk RL 85 mX10_half_ := tb_of 1176 (by decide +kernel) rfl
theorem lkL_89 : Lk RL 89 mX10_reads := tb_of 1180 (by decide +kernel) rfl
theorem lkL_93 : Lk RL 93 mX10_count := tb_of 1184 (by decide +kernel) rfl
theorem lkNX0_26 : LkN RX0 26 mX9_put "OfficeTables" := List.mem_of_getElem? (i := 0) (by decide +kernel)
theorem lkNX0_30 : LkN RX0 30 mX9_put_ "OfficeTables" := List.mem_of_getElem? (i := 1) (by decide +kernel)
theorem lkNX0_33 : LkN RX0 33 mX9_at "OfficeTables" := List.mem_of_getElem? (i := 2) (by decide +kernel)
theorem lkNX0_37 : LkN RX0 37 mX9_at_ "OfficeTables" := List.mem_of_getElem? (i := 3) (by decide +kernel)
theorem lkNX8_170 : LkN RX8 170 mX9_put "OfficeTables" := List.mem_of_getElem? (i := 4) (by decide +kernel)
theorem lkNX1_19 : LkN RX1 19 mX9_put_ "OfficeTables" := List.mem_of_getElem? (i := 5) (by decide +kernel)
theorem lkNX8_190 : LkN RX8 190 mX9_put_ "OfficeTables" := List.mem_of_getElem? (i := 6) (by decide +kernel)
theorem lkNX8_116 : LkN RX8 116 mX9_at_ "OfficeTables" := List.mem_of_getElem? (i := 7) (by decide +kernel)
theorem lkNX8_67 : LkN RX8 67 mX9_at "OfficeTables" := List.mem_of_getElem? (i := 8) (by decide +kernel)
theorem lkNX1_23 : LkN RX1 23 mX9_at_ "OfficeTables" := List.mem_of_getElem? (i := 9) (by decide +kernel)
theorem lkNX2_68 : LkN RX2 68 mX9_at "OfficeTables" := List.mem_of_getElem? (i := 10) (by decide +kernel)
theorem nest_in : nestL = [404, 407, 445, 452, 551, 561, 593, 599, 648, 702, 736].filterMap (fun i => tables_1[i]?) := by decide +kernel
theorem nest_lw : ∀ w ∈ nestL, w ∈ lw_tbl := by
  intro w hw
  rw [nest_in] at hw
  obtain ⟨i, -, hi⟩ := List.mem_filterMap.mp hw
  exact List.mem_append_right _ (List.mem_of_getElem? hi)
theorem ckL_7 : Cond.classLink RL 7 RX9 ∈ TB := tb_of 13 (by decide +kernel) rfl
theorem ckX9_9 : Cond.classLink RX9 9 RX3 ∈ TB := tb_of 21 (by decide +kernel) rfl
theorem ckX9_16 : Cond.classLink RX9 16 RX5 ∈ TB := tb_of 36 (by decide +kernel) rfl
theorem ckX5_9 : Cond.classLink RX5 9 RX6 ∈ TB := tb_of 42 (by decide +kernel) rfl
theorem ckX9_25 : Cond.classLink RX9 25 RX4 ∈ TB := tb_of 83 (by decide +kernel) rfl
theorem ckX4_9 : Cond.classLink RX4 9 RX2 ∈ TB := tb_of 89 (by decide +kernel) rfl
theorem ckX2_9 : Cond.classLink RX2 9 RX0 ∈ TB := tb_of 96 (by decide +kernel) rfl
theorem ckX9_35 : Cond.classLink RX9 35 RX8 ∈ TB := tb_of 178 (by decide +kernel) rfl
theorem ckX8_9 : Cond.classLink RX8 9 RX1 ∈ TB := tb_of 184 (by decide +kernel) rfl
theorem ckX8_21 : Cond.classLink RX8 21 RX7 ∈ TB := tb_of 198 (by decide +kernel) rfl
theorem ckL_10 : Cond.classLink RL 10 RX10 ∈ TB := tb_of 738 (by decide +kernel) rfl
theorem in0 : Cond.instantiable RX0 4 ∈ TB := tb_of 97 (by decide +kernel) rfl
theorem iz0 : Cond.initialized RX0 ∈ TB := tb_of 7 (by decide +kernel) rfl
theorem in1 : Cond.instantiable RX1 2 ∈ TB := tb_of 185 (by decide +kernel) rfl
theorem iz1 : Cond.initialized RX1 ∈ TB := tb_of 9 (by decide +kernel) rfl
theorem in2 : Cond.instantiable RX2 9 ∈ TB := tb_of 91 (by decide +kernel) rfl
theorem iz2 : Cond.initialized RX2 ∈ TB := tb_of 6 (by decide +kernel) rfl
theorem in3 : Cond.instantiable RX3 2 ∈ TB := tb_of 22 (by decide +kernel) rfl
theorem iz3 : Cond.initialized RX3 ∈ TB := tb_of 2 (by decide +kernel) rfl
theorem in4 : Cond.instantiable RX4 2 ∈ TB := tb_of 84 (by decide +kernel) rfl
theorem iz4 : Cond.initialized RX4 ∈ TB := tb_of 5 (by decide +kernel) rfl
theorem in5 : Cond.instantiable RX5 5 ∈ TB := tb_of 37 (by decide +kernel) rfl
theorem iz5 : Cond.initialized RX5 ∈ TB := tb_of 3 (by decide +kernel) rfl
theorem in6 : Cond.instantiable RX6 5 ∈ TB := tb_of 43 (by decide +kernel) rfl
theorem iz6 : Cond.initialized RX6 ∈ TB := tb_of 4 (by decide +kernel) rfl
theorem in7 : Cond.instantiable RX7 2 ∈ TB := tb_of 199 (by decide +kernel) rfl
theorem iz7 : Cond.initialized RX7 ∈ TB := tb_of 10 (by decide +kernel) rfl
theorem in8 : Cond.instantiable RX8 12 ∈ TB := tb_of 179 (by decide +kernel) rfl
theorem iz8 : Cond.initialized RX8 ∈ TB := tb_of 8 (by decide +kernel) rfl
theorem in9 : Cond.instantiable RX9 5 ∈ TB := tb_of 14 (by decide +kernel) rfl
theorem iz9 : Cond.initialized RX9 ∈ TB := tb_of 1 (by decide +kernel) rfl
theorem in10 : Cond.instantiable RX10 66 ∈ TB := tb_of 739 (by decide +kernel) rfl
theorem iz10 : Cond.initialized RX10 ∈ TB := tb_of 11 (by decide +kernel) rfl
theorem klX3_27 : Cond.constantLong RX3 27 (255) ∈ TB := tb_of 279 (by decide +kernel) rfl
theorem klX6_62 : Cond.constantLong RX6 62 (10) ∈ TB := tb_of 315 (by decide +kernel) rfl
theorem klX6_64 : Cond.constantLong RX6 64 (435610083700) ∈ TB := tb_of 326 (by decide +kernel) rfl
theorem klX6_66 : Cond.constantLong RX6 66 (435610937463) ∈ TB := tb_of 327 (by decide +kernel) rfl
theorem klX6_68 : Cond.constantLong RX6 68 (1937207154) ∈ TB := tb_of 328 (by decide +kernel) rfl
theorem klX6_70 : Cond.constantLong RX6 70 (7173491) ∈ TB := tb_of 329 (by decide +kernel) rfl
theorem klX6_72 : Cond.constantLong RX6 72 (105) ∈ TB := tb_of 330 (by decide +kernel) rfl
theorem klX2_47 : Cond.constantLong RX2 47 (200) ∈ TB := tb_of 517 (by decide +kernel) rfl
theorem klX8_129 : Cond.constantLong RX8 129 (-9) ∈ TB := tb_of 556 (by decide +kernel) rfl
theorem klX8_149 : Cond.constantLong RX8 149 (200) ∈ TB := tb_of 566 (by decide +kernel) rfl
theorem klX0_40 : Cond.constantLong RX0 40 (48) ∈ TB := tb_of 604 (by decide +kernel) rfl
theorem klX7_16 : Cond.constantLong RX7 16 (-1) ∈ TB := tb_of 639 (by decide +kernel) rfl
theorem klX9_115 : Cond.constantLong RX9 115 (-1) ∈ TB := tb_of 661 (by decide +kernel) rfl
theorem klX9_117 : Cond.constantLong RX9 117 (1000) ∈ TB := tb_of 662 (by decide +kernel) rfl
theorem klX9_119 : Cond.constantLong RX9 119 (-2) ∈ TB := tb_of 663 (by decide +kernel) rfl
theorem klX7_18 : Cond.constantLong RX7 18 (4294967295) ∈ TB := tb_of 672 (by decide +kernel) rfl
theorem klX10_151 : Cond.constantLong RX10 151 (255) ∈ TB := tb_of 948 (by decide +kernel) rfl
theorem klX10_157 : Cond.constantLong RX10 157 (105) ∈ TB := tb_of 971 (by decide +kernel) rfl
theorem klX10_159 : Cond.constantLong RX10 159 (7173491) ∈ TB := tb_of 972 (by decide +kernel) rfl
theorem klX10_161 : Cond.constantLong RX10 161 (1937207154) ∈ TB := tb_of 973 (by decide +kernel) rfl
theorem klX10_163 : Cond.constantLong RX10 163 (435610937463) ∈ TB := tb_of 974 (by decide +kernel) rfl
theorem klX10_165 : Cond.constantLong RX10 165 (435610083700) ∈ TB := tb_of 975 (by decide +kernel) rfl
theorem klX10_189 : Cond.constantLong RX10 189 (10) ∈ TB := tb_of 983 (by decide +kernel) rfl
theorem klX10_191 : Cond.constantLong RX10 191 (48) ∈ TB := tb_of 984 (by decide +kernel) rfl
theorem klX10_222 : Cond.constantLong RX10 222 (-1) ∈ TB := tb_of 1008 (by decide +kernel) rfl
theorem klX10_322 : Cond.constantLong RX10 322 (200) ∈ TB := tb_of 1127 (by decide +kernel) rfl
theorem klX10_352 : Cond.constantLong RX10 352 (4294967295) ∈ TB := tb_of 1136 (by decide +kernel) rfl
theorem klX10_378 : Cond.constantLong RX10 378 (2) ∈ TB := tb_of 1153 (by decide +kernel) rfl
theorem klX10_380 : Cond.constantLong RX10 380 (1000) ∈ TB := tb_of 1154 (by decide +kernel) rfl
theorem klX10_382 : Cond.constantLong RX10 382 (-2) ∈ TB := tb_of 1155 (by decide +kernel) rfl
theorem klL_13 : Cond.constantLong RL 13 (4294967295) ∈ TB := tb_of 1188 (by decide +kernel) rfl
theorem ak_byte : Cond.arrayClass .byte ∈ TB := tb_of 35 (by decide +kernel) rfl
theorem ak_boolean : Cond.arrayClass .boolean ∈ TB := tb_of 943 (by decide +kernel) rfl
theorem ak_int : Cond.arrayClass .int ∈ TB := tb_of 117 (by decide +kernel) rfl
theorem ak_long : Cond.arrayClass .long ∈ TB := tb_of 118 (by decide +kernel) rfl
theorem ao_tb : Cond.arrayOver (.object RX2) ∈ lw_tbl := List.mem_append_right _ (List.mem_of_getElem? (i := 90) (by decide +kernel))
theorem oi_tb : Cond.instanceMethod objectInit ∈ TB := tb_of 19 (by decide +kernel) rfl
set_option maxRecDepth 100000 in
theorem oc_tb : Cond.code objectInit ⟨#[0xb1]⟩ 1 none ∈ TB := tb_of 20 rfl rfl
