/-! rows of X: arithmetic, branches -/
def w64 (x : Int) : Int := (Int64.ofInt x).toInt
def w32 (x : Int) : Int := (Int32.ofInt x).toInt
theorem w64_id {x : Int} (h : -9223372036854775808 ≤ x ∧ x < 9223372036854775808) : w64 x = x := Int64.toInt_ofInt_of_le (by omega) (by omega)
theorem w32_id {x : Int} (h : -2147483648 ≤ x ∧ x < 2147483648) : w32 x = x := Int32.toInt_ofInt_of_le (by omega) (by omega)
theorem w64_range (x : Int) : -9223372036854775808 ≤ w64 x ∧ w64 x < 9223372036854775808 := by
  have h1 := Int64.le_toInt (Int64.ofInt x)
  have h2 := Int64.toInt_lt (Int64.ofInt x)
  unfold w64
  omega
theorem of_w64 (x : Int) : Int64.ofInt (w64 x) = Int64.ofInt x := Int64.ofInt_toInt _
theorem of_w32 (x : Int) : Int32.ofInt (w32 x) = Int32.ofInt x := Int32.ofInt_toInt _
theorem i32_eq {x y : Int} (hx : -2147483648 ≤ x ∧ x < 2147483648) (hy : -2147483648 ≤ y ∧ y < 2147483648) : Int32.ofInt x = Int32.ofInt y ↔ x = y := by
  rw [← Int32.toInt_inj, Int32.toInt_ofInt_of_le (by omega) (by omega), Int32.toInt_ofInt_of_le (by omega) (by omega)]
theorem i32_lt {x y : Int} (hx : -2147483648 ≤ x ∧ x < 2147483648) (hy : -2147483648 ≤ y ∧ y < 2147483648) : Int32.ofInt x < Int32.ofInt y ↔ x < y := by
  rw [Int32.lt_iff_toInt_lt, Int32.toInt_ofInt_of_le (by omega) (by omega), Int32.toInt_ofInt_of_le (by omega) (by omega)]
theorem i32_le {x y : Int} (hx : -2147483648 ≤ x ∧ x < 2147483648) (hy : -2147483648 ≤ y ∧ y < 2147483648) : Int32.ofInt x ≤ Int32.ofInt y ↔ x ≤ y := by
  rw [Int32.le_iff_toInt_le, Int32.toInt_ofInt_of_le (by omega) (by omega), Int32.toInt_ofInt_of_le (by omega) (by omega)]
theorem i64_eq {x y : Int} (hx : -9223372036854775808 ≤ x ∧ x < 9223372036854775808) (hy : -9223372036854775808 ≤ y ∧ y < 9223372036854775808) : Int64.ofInt x = Int64.ofInt y ↔ x = y := by
  rw [← Int64.toInt_inj, Int64.toInt_ofInt_of_le (by omega) (by omega), Int64.toInt_ofInt_of_le (by omega) (by omega)]
theorem i64_lt {x y : Int} (hx : -9223372036854775808 ≤ x ∧ x < 9223372036854775808) (hy : -9223372036854775808 ≤ y ∧ y < 9223372036854775808) : Int64.ofInt x < Int64.ofInt y ↔ x < y := by
  rw [Int64.lt_iff_toInt_lt, Int64.toInt_ofInt_of_le (by omega) (by omega), Int64.toInt_ofInt_of_le (by omega) (by omega)]
theorem i32_0 : (0 : Int32) = Int32.ofInt 0 := by decide
theorem i64_0 : (0 : Int64) = Int64.ofInt 0 := by decide
def cmpI (a b : Int) : Int := if b < a then 1 else if a = b then 0 else -1
def andI (a b : Int) : Int := (Int32.ofInt a &&& Int32.ofInt b).toInt
def andL (a b : Int) : Int := (Int64.ofInt a &&& Int64.ofInt b).toInt
def orL (a b : Int) : Int := (Int64.ofInt a ||| Int64.ofInt b).toInt
def xorL (a b : Int) : Int := (Int64.ofInt a ^^^ Int64.ofInt b).toInt
def shlL (a b : Int) : Int := (Int64.ofInt a <<< ((Int32.ofInt b).toInt64 &&& 63)).toInt
def shrL (a b : Int) : Int := (Int64.ofInt a >>> ((Int32.ofInt b).toInt64 &&& 63)).toInt
def ushrL (a b : Int) : Int := ((Int64.ofInt a).toUInt64 >>> ((Int32.ofInt b).toInt64.toUInt64 &&& Int64.toUInt64 63)).toInt64.toInt
def w8 (x : Int) : Int := (Int32.ofInt x).toInt8.toInt
section ROWS2
variable {C : Cx} {own : String} {cc : ByteArray} {nL d ph pc n nc ns : Nat} {ls : List (Nat × PV)} {st : List PV} {σ : Mm}
theorem x_iadd (h : Ok C own cc nL d) {a b : Int} (hd : decode cc pc = .ok (.iadd, 1)) (k : X C ph (pc + 1) ls (vI (a + b) :: st) n σ nc ns) : X C ph pc ls (vI b :: vI a :: st) n σ nc ns := by
  obtain ⟨p, l, e, R, s, m, args, below, meth, c, Q, D, ca, bs⟩ := C
  intro H locs lm hR hm
  refine lv_iadd h.1 h.2.1 hd ?_
  rw [← Int32.ofInt_add]
  exact k H locs lm hR hm
theorem x_isub (h : Ok C own cc nL d) {a b : Int} (hd : decode cc pc = .ok (.isub, 1)) (k : X C ph (pc + 1) ls (vI (a - b) :: st) n σ nc ns) : X C ph pc ls (vI b :: vI a :: st) n σ nc ns := by
  obtain ⟨p, l, e, R, s, m, args, below, meth, c, Q, D, ca, bs⟩ := C
  intro H locs lm hR hm
  refine lv_isub h.1 h.2.1 hd ?_
  rw [← Int32.ofInt_sub]
  exact k H locs lm hR hm
theorem x_imul (h : Ok C own cc nL d) {a b : Int} (hd : decode cc pc = .ok (.imul, 1)) (k : X C ph (pc + 1) ls (vI (a * b) :: st) n σ nc ns) : X C ph pc ls (vI b :: vI a :: st) n σ nc ns := by
  obtain ⟨p, l, e, R, s, m, args, below, meth, c, Q, D, ca, bs⟩ := C
  intro H locs lm hR hm
  refine lv_imul h.1 h.2.1 hd ?_
  rw [← Int32.ofInt_mul]
  exact k H locs lm hR hm
theorem x_ladd (h : Ok C own cc nL d) {a b : Int} (hd : decode cc pc = .ok (.ladd, 1)) (k : X C ph (pc + 1) ls (vL (a + b) :: st) n σ nc ns) : X C ph pc ls (vL b :: vL a :: st) n σ nc ns := by
  obtain ⟨p, l, e, R, s, m, args, below, meth, c, Q, D, ca, bs⟩ := C
  intro H locs lm hR hm
  refine lv_ladd h.1 h.2.1 hd ?_
  rw [← Int64.ofInt_add]
  exact k H locs lm hR hm
theorem x_lsub (h : Ok C own cc nL d) {a b : Int} (hd : decode cc pc = .ok (.lsub, 1)) (k : X C ph (pc + 1) ls (vL (a - b) :: st) n σ nc ns) : X C ph pc ls (vL b :: vL a :: st) n σ nc ns := by
  obtain ⟨p, l, e, R, s, m, args, below, meth, c, Q, D, ca, bs⟩ := C
  intro H locs lm hR hm
  refine lv_lsub h.1 h.2.1 hd ?_
  rw [← Int64.ofInt_sub]
  exact k H locs lm hR hm
theorem x_lmul (h : Ok C own cc nL d) {a b : Int} (hd : decode cc pc = .ok (.lmul, 1)) (k : X C ph (pc + 1) ls (vL (a * b) :: st) n σ nc ns) : X C ph pc ls (vL b :: vL a :: st) n σ nc ns := by
  obtain ⟨p, l, e, R, s, m, args, below, meth, c, Q, D, ca, bs⟩ := C
  intro H locs lm hR hm
  refine lv_lmul h.1 h.2.1 hd ?_
  rw [← Int64.ofInt_mul]
  exact k H locs lm hR hm
theorem x_ineg (h : Ok C own cc nL d) {a : Int} (hd : decode cc pc = .ok (.ineg, 1)) (k : X C ph (pc + 1) ls (vI (-a) :: st) n σ nc ns) : X C ph pc ls (vI a :: st) n σ nc ns := by
  obtain ⟨p, l, e, R, s, m, args, below, meth, c, Q, D, ca, bs⟩ := C
  intro H locs lm hR hm
  refine lv_ineg h.1 h.2.1 hd ?_
  rw [← Int32.ofInt_neg]
  exact k H locs lm hR hm
theorem x_lneg (h : Ok C own cc nL d) {a : Int} (hd : decode cc pc = .ok (.lneg, 1)) (k : X C ph (pc + 1) ls (vL (-a) :: st) n σ nc ns) : X C ph pc ls (vL a :: st) n σ nc ns := by
  obtain ⟨p, l, e, R, s, m, args, below, meth, c, Q, D, ca, bs⟩ := C
  intro H locs lm hR hm
  refine lv_lneg h.1 h.2.1 hd ?_
  rw [← Int64.ofInt_neg]
  exact k H locs lm hR hm
theorem x_iand (h : Ok C own cc nL d) {a b : Int} (hd : decode cc pc = .ok (.iand, 1)) (k : X C ph (pc + 1) ls (vI (andI a b) :: st) n σ nc ns) : X C ph pc ls (vI b :: vI a :: st) n σ nc ns := by
  obtain ⟨p, l, e, R, s, m, args, below, meth, c, Q, D, ca, bs⟩ := C
  intro H locs lm hR hm
  refine lv_iand h.1 h.2.1 hd ?_
  rw [← Int32.ofInt_toInt (Int32.ofInt a &&& Int32.ofInt b)]
  exact k H locs lm hR hm
theorem x_land (h : Ok C own cc nL d) {a b : Int} (hd : decode cc pc = .ok (.land, 1)) (k : X C ph (pc + 1) ls (vL (andL a b) :: st) n σ nc ns) : X C ph pc ls (vL b :: vL a :: st) n σ nc ns := by
  obtain ⟨p, l, e, R, s, m, args, below, meth, c, Q, D, ca, bs⟩ := C
  intro H locs lm hR hm
  refine lv_land h.1 h.2.1 hd ?_
  rw [← Int64.ofInt_toInt (Int64.ofInt a &&& Int64.ofInt b)]
  exact k H locs lm hR hm
theorem x_lor (h : Ok C own cc nL d) {a b : Int} (hd : decode cc pc = .ok (.lor, 1)) (k : X C ph (pc + 1) ls (vL (orL a b) :: st) n σ nc ns) : X C ph pc ls (vL b :: vL a :: st) n σ nc ns := by
  obtain ⟨p, l, e, R, s, m, args, below, meth, c, Q, D, ca, bs⟩ := C
  intro H locs lm hR hm
  refine lv_lor h.1 h.2.1 hd ?_
  rw [← Int64.ofInt_toInt (Int64.ofInt a ||| Int64.ofInt b)]
  exact k H locs lm hR hm
theorem x_lxor (h : Ok C own cc nL d) {a b : Int} (hd : decode cc pc = .ok (.lxor, 1)) (k : X C ph (pc + 1) ls (vL (xorL a b) :: st) n σ nc ns) : X C ph pc ls (vL b :: vL a :: st) n σ nc ns := by
  obtain ⟨p, l, e, R, s, m, args, below, meth, c, Q, D, ca, bs⟩ := C
  intro H locs lm hR hm
  refine lv_lxor h.1 h.2.1 hd ?_
  rw [← Int64.ofInt_toInt (Int64.ofInt a ^^^ Int64.ofInt b)]
  exact k H locs lm hR hm
theorem x_lshl (h : Ok C own cc nL d) {a b : Int} (hd : decode cc pc = .ok (.lshl, 1)) (k : X C ph (pc + 1) ls (vL (shlL a b) :: st) n σ nc ns) : X C ph pc ls (vI b :: vL a :: st) n σ nc ns := by
  obtain ⟨p, l, e, R, s, m, args, below, meth, c, Q, D, ca, bs⟩ := C
  intro H locs lm hR hm
  exact lv_lshl h.1 h.2.1 hd (Int64.ofInt_toInt _).symm (k H locs lm hR hm)
theorem x_lshr (h : Ok C own cc nL d) {a b : Int} (hd : decode cc pc = .ok (.lshr, 1)) (k : X C ph (pc + 1) ls (vL (shrL a b) :: st) n σ nc ns) : X C ph pc ls (vI b :: vL a :: st) n σ nc ns := by
  obtain ⟨p, l, e, R, s, m, args, below, meth, c, Q, D, ca, bs⟩ := C
  intro H locs lm hR hm
  exact lv_lshr h.1 h.2.1 hd (Int64.ofInt_toInt _).symm (k H locs lm hR hm)
theorem x_lushr (h : Ok C own cc nL d) {a b : Int} (hd : decode cc pc = .ok (.lushr, 1)) (k : X C ph (pc + 1) ls (vL (ushrL a b) :: st) n σ nc ns) : X C ph pc ls (vI b :: vL a :: st) n σ nc ns := by
  obtain ⟨p, l, e, R, s, m, args, below, meth, c, Q, D, ca, bs⟩ := C
  intro H locs lm hR hm
  exact lv_lushr h.1 h.2.1 hd (Int64.ofInt_toInt _).symm (k H locs lm hR hm)
theorem x_i2l (h : Ok C own cc nL d) {a : Int} (hr : -2147483648 ≤ a ∧ a < 2147483648) (hd : decode cc pc = .ok (.i2l, 1)) (k : X C ph (pc + 1) ls (vL a :: st) n σ nc ns) : X C ph pc ls (vI a :: st) n σ nc ns := by
  obtain ⟨p, l, e, R, s, m, args, below, meth, c, Q, D, ca, bs⟩ := C
  intro H locs lm hR hm
  refine lv_i2l h.1 h.2.1 hd ?_ (k H locs lm hR hm)
  exact Int64.toInt_inj.mp (by rw [Int32.toInt_toInt64, Int32.toInt_ofInt_of_le (by omega) (by omega), Int64.toInt_ofInt_of_le (by omega) (by omega)])
theorem x_l2i (h : Ok C own cc nL d) {a : Int} (hd : decode cc pc = .ok (.l2i, 1)) (k : X C ph (pc + 1) ls (vI a :: st) n σ nc ns) : X C ph pc ls (vL a :: st) n σ nc ns := by
  obtain ⟨p, l, e, R, s, m, args, below, meth, c, Q, D, ca, bs⟩ := C
  intro H locs lm hR hm
  exact lv_l2i h.1 h.2.1 hd Int64.toInt32_ofInt (k H locs lm hR hm)
theorem x_i2b (h : Ok C own cc nL d) {a : Int} (hd : decode cc pc = .ok (.i2b, 1)) (k : X C ph (pc + 1) ls (vI (w8 a) :: st) n σ nc ns) : X C ph pc ls (vI a :: st) n σ nc ns := by
  obtain ⟨p, l, e, R, s, m, args, below, meth, c, Q, D, ca, bs⟩ := C
  intro H locs lm hR hm
  refine lv_i2b h.1 h.2.1 hd ?_ (k H locs lm hR hm)
  exact (Int32.ofInt_int8ToInt _).symm
theorem x_idivP (h : Ok C own cc nL d) {a b : Int} (hr : 0 ≤ a ∧ a < 2147483648 ∧ 0 < b ∧ b < 2147483648) (hd : decode cc pc = .ok (.idiv, 1)) (k : X C ph (pc + 1) ls (vI (a / b) :: st) n σ nc ns) : X C ph pc ls (vI b :: vI a :: st) n σ nc ns := by
  obtain ⟨p, l, e, R, s, m, args, below, meth, c, Q, D, ca, bs⟩ := C
  intro H locs lm hR hm
  refine lv_idiv h.1 h.2.1 hd ?_ ?_
  · rw [i32_0, i32_eq (by omega) (by omega)]; omega
  · have e : Int32.ofInt a / Int32.ofInt b = Int32.ofInt (a / b) := by
      rw [← Int.tdiv_eq_ediv_of_nonneg hr.1]
      have z1 : Int32.minValue.toInt = -2147483648 := by decide
      have z2 : Int32.maxValue.toInt = 2147483647 := by decide
      exact (Int32.ofInt_tdiv (by omega) (by omega) (by omega) (by omega)).symm
    rw [e]
    exact k H locs lm hR hm
theorem x_ldiv (h : Ok C own cc nL d) {a b : Int} (hr : -9223372036854775808 ≤ a ∧ a < 9223372036854775808 ∧ -9223372036854775808 ≤ b ∧ b < 9223372036854775808 ∧ b ≠ 0) (hd : decode cc pc = .ok (.ldiv, 1)) (k : X C ph (pc + 1) ls (vL (Int.tdiv a b) :: st) n σ nc ns) : X C ph pc ls (vL b :: vL a :: st) n σ nc ns := by
  obtain ⟨p, l, e, R, s, m, args, below, meth, c, Q, D, ca, bs⟩ := C
  intro H locs lm hR hm
  refine lv_ldiv h.1 h.2.1 hd ?_ ?_
  · rw [i64_0, i64_eq (by omega) (by omega)]; omega
  · have e : Int64.ofInt a / Int64.ofInt b = Int64.ofInt (Int.tdiv a b) := by
      have z1 : Int64.minValue.toInt = -9223372036854775808 := by decide
      have z2 : Int64.maxValue.toInt = 9223372036854775807 := by decide
      exact (Int64.ofInt_tdiv (by omega) (by omega) (by omega) (by omega)).symm
    rw [e]
    exact k H locs lm hR hm
theorem x_lrem (h : Ok C own cc nL d) {a b : Int} (hr : -9223372036854775808 ≤ a ∧ a < 9223372036854775808 ∧ -9223372036854775808 ≤ b ∧ b < 9223372036854775808 ∧ b ≠ 0) (hd : decode cc pc = .ok (.lrem, 1)) (k : X C ph (pc + 1) ls (vL (a - Int.tdiv a b * b) :: st) n σ nc ns) : X C ph pc ls (vL b :: vL a :: st) n σ nc ns := by
  obtain ⟨p, l, e, R, s, m, args, below, meth, c, Q, D, ca, bs⟩ := C
  intro H locs lm hR hm
  refine lv_lrem h.1 h.2.1 hd ?_ ?_
  · rw [i64_0, i64_eq (by omega) (by omega)]; omega
  · have e : Int64.ofInt a / Int64.ofInt b = Int64.ofInt (Int.tdiv a b) := by
      have z1 : Int64.minValue.toInt = -9223372036854775808 := by decide
      have z2 : Int64.maxValue.toInt = 9223372036854775807 := by decide
      exact (Int64.ofInt_tdiv (by omega) (by omega) (by omega) (by omega)).symm
    rw [e, ← Int64.ofInt_mul, ← Int64.ofInt_sub]
    exact k H locs lm hR hm
theorem x_lcmp (h : Ok C own cc nL d) {a b : Int} (hr : (-9223372036854775808 ≤ a ∧ a < 9223372036854775808) ∧ (-9223372036854775808 ≤ b ∧ b < 9223372036854775808)) (hd : decode cc pc = .ok (.lcmp, 1)) (k : X C ph (pc + 1) ls (vI (cmpI a b) :: st) n σ nc ns) : X C ph pc ls (vL b :: vL a :: st) n σ nc ns := by
  obtain ⟨p, l, e, R, s, m, args, below, meth, c, Q, D, ca, bs⟩ := C
  intro H locs lm hR hm
  refine W.lcmp h.1 h.2.1 hd ?_
  have e : lg_cmp (Int64.ofInt a) (Int64.ofInt b) = Int32.ofInt (cmpI a b) := by
    unfold lg_cmp cmpI
    simp only [gt_iff_lt, i64_lt hr.2 hr.1, i64_eq hr.1 hr.2]
    split
    · rfl
    · split <;> rfl
  rw [e]
  exact k H locs lm hR hm
theorem x_eqL {a b : Int} (hab : Int64.ofInt a = Int64.ofInt b) (k : X C ph pc ls (vL b :: st) n σ nc ns) : X C ph pc ls (vL a :: st) n σ nc ns := by
  obtain ⟨p, l, e, R, s, m, args, below, meth, c, Q, D, ca, bs⟩ := C
  intro H locs lm hR hm
  have e := k H locs lm hR hm
  simp only [List.map_cons, vv] at e ⊢
  rw [hab]
  exact e
theorem x_eqI {a b : Int} (hab : Int32.ofInt a = Int32.ofInt b) (k : X C ph pc ls (vI b :: st) n σ nc ns) : X C ph pc ls (vI a :: st) n σ nc ns := by
  obtain ⟨p, l, e, R, s, m, args, below, meth, c, Q, D, ca, bs⟩ := C
  intro H locs lm hR hm
  have e := k H locs lm hR hm
  simp only [List.map_cons, vv] at e ⊢
  rw [hab]
  exact e
theorem x_wL {a : Int} (k : X C ph pc ls (vL (w64 a) :: st) n σ nc ns) : X C ph pc ls (vL a :: st) n σ nc ns := x_eqL (of_w64 a).symm k
theorem x_dup (h : Ok C own cc nL d) {v : PV} (hd : decode cc pc = .ok (.dup, 1)) (hv : pcat v = 1) (k : X C ph (pc + 1) ls (v :: v :: st) n σ nc ns) : X C ph pc ls (v :: st) n σ nc ns := by
  obtain ⟨p, l, e, R, s, m, args, below, meth, c, Q, D, ca, bs⟩ := C
  intro H locs lm hR hm
  exact lv_dup h.1 h.2.1 hd ((vv_cat bs v).trans hv) (k H locs lm hR hm)
theorem x_pop (h : Ok C own cc nL d) {v : PV} (hd : decode cc pc = .ok (.pop, 1)) (hv : pcat v = 1) (k : X C ph (pc + 1) ls st n σ nc ns) : X C ph pc ls (v :: st) n σ nc ns := by
  obtain ⟨p, l, e, R, s, m, args, below, meth, c, Q, D, ca, bs⟩ := C
  intro H locs lm hR hm
  exact lv_pop h.1 h.2.1 hd ((vv_cat bs v).trans hv) (k H locs lm hR hm)
theorem x_dup2 (h : Ok C own cc nL d) {v u : PV} (hd : decode cc pc = .ok (.dup2, 1)) (hv : pcat v = 1) (hu : pcat u = 1) (k : X C ph (pc + 1) ls (v :: u :: v :: u :: st) n σ nc ns) : X C ph pc ls (v :: u :: st) n σ nc ns := by
  obtain ⟨p, l, e, R, s, m, args, below, meth, c, Q, D, ca, bs⟩ := C
  intro H locs lm hR hm
  exact lv_dup2_11 h.1 h.2.1 hd ((vv_cat bs v).trans hv) ((vv_cat bs u).trans hu) (k H locs lm hR hm)
theorem x_goto (h : Ok C own cc nL d) {off : Int} {tgt : Nat} (hd : decode cc pc = .ok (.goto off, 3)) (ht : (pc : Int) + off = (tgt : Int)) (k : X C ph tgt ls st n σ nc ns) : X C ph pc ls st n σ nc ns := by
  obtain ⟨p, l, e, R, s, m, args, below, meth, c, Q, D, ca, bs⟩ := C
  intro H locs lm hR hm
  exact lv_goto h.1 h.2.1 hd ht (k H locs lm hR hm)
theorem x_null (h : Ok C own cc nL d) (hd : decode cc pc = .ok (.aconst_null, 1)) (k : X C ph (pc + 1) ls (vN :: st) n σ nc ns) : X C ph pc ls st n σ nc ns := by
  obtain ⟨p, l, e, R, s, m, args, below, meth, c, Q, D, ca, bs⟩ := C
  intro H locs lm hR hm
  exact lv_null h.1 h.2.1 hd (k H locs lm hR hm)
theorem x_ifnull (h : Ok C own cc nL d) {f j : Nat} {off : Int} (hd : decode cc pc = .ok (.ifnull off, 3)) (k : X C ph (pc + 3) ls st n σ nc ns) : X C ph pc ls (vR f j :: st) n σ nc ns := by
  obtain ⟨p, l, e, R, s, m, args, below, meth, c, Q, D, ca, bs⟩ := C
  intro H locs lm hR hm
  exact lv_ifnull h.1 h.2.1 hd (k H locs lm hR hm)
theorem x_ifnonnull (h : Ok C own cc nL d) {f j : Nat} {off : Int} {tgt : Nat} (hd : decode cc pc = .ok (.ifnonnull off, 3)) (ht : (pc : Int) + off = (tgt : Int)) (k : X C ph tgt ls st n σ nc ns) : X C ph pc ls (vR f j :: st) n σ nc ns := by
  obtain ⟨p, l, e, R, s, m, args, below, meth, c, Q, D, ca, bs⟩ := C
  intro H locs lm hR hm
  exact lv_ifnonnull h.1 h.2.1 hd ht (k H locs lm hR hm)
theorem x_ifnullN (h : Ok C own cc nL d) {off : Int} {tgt : Nat} (hd : decode cc pc = .ok (.ifnull off, 3)) (ht : (pc : Int) + off = (tgt : Int)) (k : X C ph tgt ls st n σ nc ns) : X C ph pc ls (vN :: st) n σ nc ns := by
  obtain ⟨p, l, e, R, s, m, args, below, meth, c, Q, D, ca, bs⟩ := C
  intro H locs lm hR hm
  exact lv_ifnullN h.1 h.2.1 hd ht (k H locs lm hR hm)
theorem x_ifnonnullN (h : Ok C own cc nL d) {off : Int} (hd : decode cc pc = .ok (.ifnonnull off, 3)) (k : X C ph (pc + 3) ls st n σ nc ns) : X C ph pc ls (vN :: st) n σ nc ns := by
  obtain ⟨p, l, e, R, s, m, args, below, meth, c, Q, D, ca, bs⟩ := C
  intro H locs lm hR hm
  exact lv_ifnonnullN h.1 h.2.1 hd (k H locs lm hR hm)
theorem x_if_eq (h : Ok C own cc nL d) {x off : Int} {tgt : Nat} (hr : -2147483648 ≤ x ∧ x < 2147483648) (hd : decode cc pc = .ok (.ifCond .eq off, 3)) (ht : (pc : Int) + off = (tgt : Int)) (kt : x = 0 → X C ph tgt ls st n σ nc ns) (kf : ¬ (x = 0) → X C ph (pc + 3) ls st n σ nc ns) : X C ph pc ls (vI x :: st) n σ nc ns := by
  obtain ⟨p, l, e, R, s, m, args, below, meth, c, Q, D, ca, bs⟩ := C
  intro H locs lm hR hm
  have e1 := i32_eq hr (y := 0) (by omega)
  have e2 := i32_lt hr (y := 0) (by omega)
  have e3 := i32_le hr (y := 0) (by omega)
  have e4 := i32_lt (x := 0) (by omega) hr
  have e5 := i32_le (x := 0) (by omega) hr
  rw [← i32_0] at e1 e2 e3 e4 e5
  refine lv_if_eq h.1 h.2.1 hd ht (fun q => kt ?_ H locs lm hR hm) (fun q => kf ?_ H locs lm hR hm) <;> simp_all
theorem x_ic_eq (h : Ok C own cc nL d) {x y off : Int} {tgt : Nat} (hr : (-2147483648 ≤ x ∧ x < 2147483648) ∧ (-2147483648 ≤ y ∧ y < 2147483648)) (hd : decode cc pc = .ok (.if_icmp .eq off, 3)) (ht : (pc : Int) + off = (tgt : Int)) (kt : x = y → X C ph tgt ls st n σ nc ns) (kf : ¬ (x = y) → X C ph (pc + 3) ls st n σ nc ns) : X C ph pc ls (vI y :: vI x :: st) n σ nc ns := by
  obtain ⟨p, l, e, R, s, m, args, below, meth, c, Q, D, ca, bs⟩ := C
  intro H locs lm hR hm
  have e1 := i32_eq hr.1 hr.2
  have e2 := i32_lt hr.1 hr.2
  have e3 := i32_le hr.1 hr.2
  have e4 := i32_lt hr.2 hr.1
  have e5 := i32_le hr.2 hr.1
  refine lv_icmp_eq h.1 h.2.1 hd ht (fun q => kt ?_ H locs lm hR hm) (fun q => kf ?_ H locs lm hR hm) <;> simp_all
theorem x_if_eq_T (h : Ok C own cc nL d) {x off : Int} {tgt : Nat} (hr : -2147483648 ≤ x ∧ x < 2147483648) (hd : decode cc pc = .ok (.ifCond .eq off, 3)) (ht : (pc : Int) + off = (tgt : Int)) (hc : x = 0) (kt : X C ph tgt ls st n σ nc ns) : X C ph pc ls (vI x :: st) n σ nc ns := x_if_eq h hr hd ht (fun _ => kt) (fun q => absurd hc q)
theorem x_if_eq_F (h : Ok C own cc nL d) {x off : Int} {tgt : Nat} (hr : -2147483648 ≤ x ∧ x < 2147483648) (hd : decode cc pc = .ok (.ifCond .eq off, 3)) (ht : (pc : Int) + off = (tgt : Int)) (hc : ¬ (x = 0)) (kf : X C ph (pc + 3) ls st n σ nc ns) : X C ph pc ls (vI x :: st) n σ nc ns := x_if_eq h hr hd ht (fun q => absurd q hc) (fun _ => kf)
theorem x_ic_eq_T (h : Ok C own cc nL d) {x y off : Int} {tgt : Nat} (hr : (-2147483648 ≤ x ∧ x < 2147483648) ∧ (-2147483648 ≤ y ∧ y < 2147483648)) (hd : decode cc pc = .ok (.if_icmp .eq off, 3)) (ht : (pc : Int) + off = (tgt : Int)) (hc : x = y) (kt : X C ph tgt ls st n σ nc ns) : X C ph pc ls (vI y :: vI x :: st) n σ nc ns := x_ic_eq h hr hd ht (fun _ => kt) (fun q => absurd hc q)
theorem x_ic_eq_F (h : Ok C own cc nL d) {x y off : Int} {tgt : Nat} (hr : (-2147483648 ≤ x ∧ x < 2147483648) ∧ (-2147483648 ≤ y ∧ y < 2147483648)) (hd : decode cc pc = .ok (.if_icmp .eq off, 3)) (ht : (pc : Int) + off = (tgt : Int)) (hc : ¬ (x = y)) (kf : X C ph (pc + 3) ls st n σ nc ns) : X C ph pc ls (vI y :: vI x :: st) n σ nc ns := x_ic_eq h hr hd ht (fun q => absurd q hc) (fun _ => kf)
theorem x_lc_eq (h : Ok C own cc nL d) {a b off : Int} {tgt : Nat} (hr : (-9223372036854775808 ≤ a ∧ a < 9223372036854775808) ∧ (-9223372036854775808 ≤ b ∧ b < 9223372036854775808)) (hd : decode cc pc = .ok (.lcmp, 1)) (hd2 : decode cc (pc + 1) = .ok (.ifCond .eq off, 3)) (ht : ((pc + 1 : Nat) : Int) + off = (tgt : Int)) (kt : a = b → X C ph tgt ls st n σ nc ns) (kf : ¬ (a = b) → X C ph (pc + 1 + 3) ls st n σ nc ns) : X C ph pc ls (vL b :: vL a :: st) n σ nc ns := by
  refine x_lcmp h hr hd (x_if_eq h ?_ hd2 ht (fun q => kt ?_) (fun q => kf ?_))
  · unfold cmpI; split <;> (try split) <;> omega
  all_goals (revert q; unfold cmpI; split <;> (try split) <;> omega)
theorem x_if_ne (h : Ok C own cc nL d) {x off : Int} {tgt : Nat} (hr : -2147483648 ≤ x ∧ x < 2147483648) (hd : decode cc pc = .ok (.ifCond .ne off, 3)) (ht : (pc : Int) + off = (tgt : Int)) (kt : ¬ x = 0 → X C ph tgt ls st n σ nc ns) (kf : ¬ (¬ x = 0) → X C ph (pc + 3) ls st n σ nc ns) : X C ph pc ls (vI x :: st) n σ nc ns := by
  obtain ⟨p, l, e, R, s, m, args, below, meth, c, Q, D, ca, bs⟩ := C
  intro H locs lm hR hm
  have e1 := i32_eq hr (y := 0) (by omega)
  have e2 := i32_lt hr (y := 0) (by omega)
  have e3 := i32_le hr (y := 0) (by omega)
  have e4 := i32_lt (x := 0) (by omega) hr
  have e5 := i32_le (x := 0) (by omega) hr
  rw [← i32_0] at e1 e2 e3 e4 e5
  refine lv_if_ne h.1 h.2.1 hd ht (fun q => kt ?_ H locs lm hR hm) (fun q => kf ?_ H locs lm hR hm) <;> simp_all
theorem x_ic_ne (h : Ok C own cc nL d) {x y off : Int} {tgt : Nat} (hr : (-2147483648 ≤ x ∧ x < 2147483648) ∧ (-2147483648 ≤ y ∧ y < 2147483648)) (hd : decode cc pc = .ok (.if_icmp .ne off, 3)) (ht : (pc : Int) + off = (tgt : Int)) (kt : ¬ x = y → X C ph tgt ls st n σ nc ns) (kf : ¬ (¬ x = y) → X C ph (pc + 3) ls st n σ nc ns) : X C ph pc ls (vI y :: vI x :: st) n σ nc ns := by
  obtain ⟨p, l, e, R, s, m, args, below, meth, c, Q, D, ca, bs⟩ := C
  intro H locs lm hR hm
  have e1 := i32_eq hr.1 hr.2
  have e2 := i32_lt hr.1 hr.2
  have e3 := i32_le hr.1 hr.2
  have e4 := i32_lt hr.2 hr.1
  have e5 := i32_le hr.2 hr.1
  refine lv_icmp_ne h.1 h.2.1 hd ht (fun q => kt ?_ H locs lm hR hm) (fun q => kf ?_ H locs lm hR hm) <;> simp_all
theorem x_if_ne_T (h : Ok C own cc nL d) {x off : Int} {tgt : Nat} (hr : -2147483648 ≤ x ∧ x < 2147483648) (hd : decode cc pc = .ok (.ifCond .ne off, 3)) (ht : (pc : Int) + off = (tgt : Int)) (hc : ¬ x = 0) (kt : X C ph tgt ls st n σ nc ns) : X C ph pc ls (vI x :: st) n σ nc ns := x_if_ne h hr hd ht (fun _ => kt) (fun q => absurd hc q)
theorem x_if_ne_F (h : Ok C own cc nL d) {x off : Int} {tgt : Nat} (hr : -2147483648 ≤ x ∧ x < 2147483648) (hd : decode cc pc = .ok (.ifCond .ne off, 3)) (ht : (pc : Int) + off = (tgt : Int)) (hc : ¬ (¬ x = 0)) (kf : X C ph (pc + 3) ls st n σ nc ns) : X C ph pc ls (vI x :: st) n σ nc ns := x_if_ne h hr hd ht (fun q => absurd q hc) (fun _ => kf)
theorem x_ic_ne_T (h : Ok C own cc nL d) {x y off : Int} {tgt : Nat} (hr : (-2147483648 ≤ x ∧ x < 2147483648) ∧ (-2147483648 ≤ y ∧ y < 2147483648)) (hd : decode cc pc = .ok (.if_icmp .ne off, 3)) (ht : (pc : Int) + off = (tgt : Int)) (hc : ¬ x = y) (kt : X C ph tgt ls st n σ nc ns) : X C ph pc ls (vI y :: vI x :: st) n σ nc ns := x_ic_ne h hr hd ht (fun _ => kt) (fun q => absurd hc q)
theorem x_ic_ne_F (h : Ok C own cc nL d) {x y off : Int} {tgt : Nat} (hr : (-2147483648 ≤ x ∧ x < 2147483648) ∧ (-2147483648 ≤ y ∧ y < 2147483648)) (hd : decode cc pc = .ok (.if_icmp .ne off, 3)) (ht : (pc : Int) + off = (tgt : Int)) (hc : ¬ (¬ x = y)) (kf : X C ph (pc + 3) ls st n σ nc ns) : X C ph pc ls (vI y :: vI x :: st) n σ nc ns := x_ic_ne h hr hd ht (fun q => absurd q hc) (fun _ => kf)
theorem x_lc_ne (h : Ok C own cc nL d) {a b off : Int} {tgt : Nat} (hr : (-9223372036854775808 ≤ a ∧ a < 9223372036854775808) ∧ (-9223372036854775808 ≤ b ∧ b < 9223372036854775808)) (hd : decode cc pc = .ok (.lcmp, 1)) (hd2 : decode cc (pc + 1) = .ok (.ifCond .ne off, 3)) (ht : ((pc + 1 : Nat) : Int) + off = (tgt : Int)) (kt : ¬ a = b → X C ph tgt ls st n σ nc ns) (kf : ¬ (¬ a = b) → X C ph (pc + 1 + 3) ls st n σ nc ns) : X C ph pc ls (vL b :: vL a :: st) n σ nc ns := by
  refine x_lcmp h hr hd (x_if_ne h ?_ hd2 ht (fun q => kt ?_) (fun q => kf ?_))
  · unfold cmpI; split <;> (try split) <;> omega
  all_goals (revert q; unfold cmpI; split <;> (try split) <;> omega)
theorem x_if_lt (h : Ok C own cc nL d) {x off : Int} {tgt : Nat} (hr : -2147483648 ≤ x ∧ x < 2147483648) (hd : decode cc pc = .ok (.ifCond .lt off, 3)) (ht : (pc : Int) + off = (tgt : Int)) (kt : x < 0 → X C ph tgt ls st n σ nc ns) (kf : ¬ (x < 0) → X C ph (pc + 3) ls st n σ nc ns) : X C ph pc ls (vI x :: st) n σ nc ns := by
  obtain ⟨p, l, e, R, s, m, args, below, meth, c, Q, D, ca, bs⟩ := C
  intro H locs lm hR hm
  have e1 := i32_eq hr (y := 0) (by omega)
  have e2 := i32_lt hr (y := 0) (by omega)
  have e3 := i32_le hr (y := 0) (by omega)
  have e4 := i32_lt (x := 0) (by omega) hr
  have e5 := i32_le (x := 0) (by omega) hr
  rw [← i32_0] at e1 e2 e3 e4 e5
  refine lv_if_lt h.1 h.2.1 hd ht (fun q => kt ?_ H locs lm hR hm) (fun q => kf ?_ H locs lm hR hm) <;> simp_all
theorem x_ic_lt (h : Ok C own cc nL d) {x y off : Int} {tgt : Nat} (hr : (-2147483648 ≤ x ∧ x < 2147483648) ∧ (-2147483648 ≤ y ∧ y < 2147483648)) (hd : decode cc pc = .ok (.if_icmp .lt off, 3)) (ht : (pc : Int) + off = (tgt : Int)) (kt : x < y → X C ph tgt ls st n σ nc ns) (kf : ¬ (x < y) → X C ph (pc + 3) ls st n σ nc ns) : X C ph pc ls (vI y :: vI x :: st) n σ nc ns := by
  obtain ⟨p, l, e, R, s, m, args, below, meth, c, Q, D, ca, bs⟩ := C
  intro H locs lm hR hm
  have e1 := i32_eq hr.1 hr.2
  have e2 := i32_lt hr.1 hr.2
  have e3 := i32_le hr.1 hr.2
  have e4 := i32_lt hr.2 hr.1
  have e5 := i32_le hr.2 hr.1
  refine lv_icmp_lt h.1 h.2.1 hd ht (fun q => kt ?_ H locs lm hR hm) (fun q => kf ?_ H locs lm hR hm) <;> simp_all
theorem x_if_lt_T (h : Ok C own cc nL d) {x off : Int} {tgt : Nat} (hr : -2147483648 ≤ x ∧ x < 2147483648) (hd : decode cc pc = .ok (.ifCond .lt off, 3)) (ht : (pc : Int) + off = (tgt : Int)) (hc : x < 0) (kt : X C ph tgt ls st n σ nc ns) : X C ph pc ls (vI x :: st) n σ nc ns := x_if_lt h hr hd ht (fun _ => kt) (fun q => absurd hc q)
theorem x_if_lt_F (h : Ok C own cc nL d) {x off : Int} {tgt : Nat} (hr : -2147483648 ≤ x ∧ x < 2147483648) (hd : decode cc pc = .ok (.ifCond .lt off, 3)) (ht : (pc : Int) + off = (tgt : Int)) (hc : ¬ (x < 0)) (kf : X C ph (pc + 3) ls st n σ nc ns) : X C ph pc ls (vI x :: st) n σ nc ns := x_if_lt h hr hd ht (fun q => absurd q hc) (fun _ => kf)
theorem x_ic_lt_T (h : Ok C own cc nL d) {x y off : Int} {tgt : Nat} (hr : (-2147483648 ≤ x ∧ x < 2147483648) ∧ (-2147483648 ≤ y ∧ y < 2147483648)) (hd : decode cc pc = .ok (.if_icmp .lt off, 3)) (ht : (pc : Int) + off = (tgt : Int)) (hc : x < y) (kt : X C ph tgt ls st n σ nc ns) : X C ph pc ls (vI y :: vI x :: st) n σ nc ns := x_ic_lt h hr hd ht (fun _ => kt) (fun q => absurd hc q)
theorem x_ic_lt_F (h : Ok C own cc nL d) {x y off : Int} {tgt : Nat} (hr : (-2147483648 ≤ x ∧ x < 2147483648) ∧ (-2147483648 ≤ y ∧ y < 2147483648)) (hd : decode cc pc = .ok (.if_icmp .lt off, 3)) (ht : (pc : Int) + off = (tgt : Int)) (hc : ¬ (x < y)) (kf : X C ph (pc + 3) ls st n σ nc ns) : X C ph pc ls (vI y :: vI x :: st) n σ nc ns := x_ic_lt h hr hd ht (fun q => absurd q hc) (fun _ => kf)
theorem x_lc_lt (h : Ok C own cc nL d) {a b off : Int} {tgt : Nat} (hr : (-9223372036854775808 ≤ a ∧ a < 9223372036854775808) ∧ (-9223372036854775808 ≤ b ∧ b < 9223372036854775808)) (hd : decode cc pc = .ok (.lcmp, 1)) (hd2 : decode cc (pc + 1) = .ok (.ifCond .lt off, 3)) (ht : ((pc + 1 : Nat) : Int) + off = (tgt : Int)) (kt : a < b → X C ph tgt ls st n σ nc ns) (kf : ¬ (a < b) → X C ph (pc + 1 + 3) ls st n σ nc ns) : X C ph pc ls (vL b :: vL a :: st) n σ nc ns := by
  refine x_lcmp h hr hd (x_if_lt h ?_ hd2 ht (fun q => kt ?_) (fun q => kf ?_))
  · unfold cmpI; split <;> (try split) <;> omega
  all_goals (revert q; unfold cmpI; split <;> (try split) <;> omega)
theorem x_if_ge (h : Ok C own cc nL d) {x off : Int} {tgt : Nat} (hr : -2147483648 ≤ x ∧ x < 2147483648) (hd : decode cc pc = .ok (.ifCond .ge off, 3)) (ht : (pc : Int) + off = (tgt : Int)) (kt : 0 ≤ x → X C ph tgt ls st n σ nc ns) (kf : ¬ (0 ≤ x) → X C ph (pc + 3) ls st n σ nc ns) : X C ph pc ls (vI x :: st) n σ nc ns := by
  obtain ⟨p, l, e, R, s, m, args, below, meth, c, Q, D, ca, bs⟩ := C
  intro H locs lm hR hm
  have e1 := i32_eq hr (y := 0) (by omega)
  have e2 := i32_lt hr (y := 0) (by omega)
  have e3 := i32_le hr (y := 0) (by omega)
  have e4 := i32_lt (x := 0) (by omega) hr
  have e5 := i32_le (x := 0) (by omega) hr
  rw [← i32_0] at e1 e2 e3 e4 e5
  refine lv_if_ge h.1 h.2.1 hd ht (fun q => kt ?_ H locs lm hR hm) (fun q => kf ?_ H locs lm hR hm) <;> simp_all
theorem x_ic_ge (h : Ok C own cc nL d) {x y off : Int} {tgt : Nat} (hr : (-2147483648 ≤ x ∧ x < 2147483648) ∧ (-2147483648 ≤ y ∧ y < 2147483648)) (hd : decode cc pc = .ok (.if_icmp .ge off, 3)) (ht : (pc : Int) + off = (tgt : Int)) (kt : y ≤ x → X C ph tgt ls st n σ nc ns) (kf : ¬ (y ≤ x) → X C ph (pc + 3) ls st n σ nc ns) : X C ph pc ls (vI y :: vI x :: st) n σ nc ns := by
  obtain ⟨p, l, e, R, s, m, args, below, meth, c, Q, D, ca, bs⟩ := C
  intro H locs lm hR hm
  have e1 := i32_eq hr.1 hr.2
  have e2 := i32_lt hr.1 hr.2
  have e3 := i32_le hr.1 hr.2
  have e4 := i32_lt hr.2 hr.1
  have e5 := i32_le hr.2 hr.1
  refine lv_icmp_ge h.1 h.2.1 hd ht (fun q => kt ?_ H locs lm hR hm) (fun q => kf ?_ H locs lm hR hm) <;> simp_all
theorem x_if_ge_T (h : Ok C own cc nL d) {x off : Int} {tgt : Nat} (hr : -2147483648 ≤ x ∧ x < 2147483648) (hd : decode cc pc = .ok (.ifCond .ge off, 3)) (ht : (pc : Int) + off = (tgt : Int)) (hc : 0 ≤ x) (kt : X C ph tgt ls st n σ nc ns) : X C ph pc ls (vI x :: st) n σ nc ns := x_if_ge h hr hd ht (fun _ => kt) (fun q => absurd hc q)
theorem x_if_ge_F (h : Ok C own cc nL d) {x off : Int} {tgt : Nat} (hr : -2147483648 ≤ x ∧ x < 2147483648) (hd : decode cc pc = .ok (.ifCond .ge off, 3)) (ht : (pc : Int) + off = (tgt : Int)) (hc : ¬ (0 ≤ x)) (kf : X C ph (pc + 3) ls st n σ nc ns) : X C ph pc ls (vI x :: st) n σ nc ns := x_if_ge h hr hd ht (fun q => absurd q hc) (fun _ => kf)
theorem x_ic_ge_T (h : Ok C own cc nL d) {x y off : Int} {tgt : Nat} (hr : (-2147483648 ≤ x ∧ x < 2147483648) ∧ (-2147483648 ≤ y ∧ y < 2147483648)) (hd : decode cc pc = .ok (.if_icmp .ge off, 3)) (ht : (pc : Int) + off = (tgt : Int)) (hc : y ≤ x) (kt : X C ph tgt ls st n σ nc ns) : X C ph pc ls (vI y :: vI x :: st) n σ nc ns := x_ic_ge h hr hd ht (fun _ => kt) (fun q => absurd hc q)
theorem x_ic_ge_F (h : Ok C own cc nL d) {x y off : Int} {tgt : Nat} (hr : (-2147483648 ≤ x ∧ x < 2147483648) ∧ (-2147483648 ≤ y ∧ y < 2147483648)) (hd : decode cc pc = .ok (.if_icmp .ge off, 3)) (ht : (pc : Int) + off = (tgt : Int)) (hc : ¬ (y ≤ x)) (kf : X C ph (pc + 3) ls st n σ nc ns) : X C ph pc ls (vI y :: vI x :: st) n σ nc ns := x_ic_ge h hr hd ht (fun q => absurd q hc) (fun _ => kf)
theorem x_lc_ge (h : Ok C own cc nL d) {a b off : Int} {tgt : Nat} (hr : (-9223372036854775808 ≤ a ∧ a < 9223372036854775808) ∧ (-9223372036854775808 ≤ b ∧ b < 9223372036854775808)) (hd : decode cc pc = .ok (.lcmp, 1)) (hd2 : decode cc (pc + 1) = .ok (.ifCond .ge off, 3)) (ht : ((pc + 1 : Nat) : Int) + off = (tgt : Int)) (kt : b ≤ a → X C ph tgt ls st n σ nc ns) (kf : ¬ (b ≤ a) → X C ph (pc + 1 + 3) ls st n σ nc ns) : X C ph pc ls (vL b :: vL a :: st) n σ nc ns := by
  refine x_lcmp h hr hd (x_if_ge h ?_ hd2 ht (fun q => kt ?_) (fun q => kf ?_))
  · unfold cmpI; split <;> (try split) <;> omega
  all_goals (revert q; unfold cmpI; split <;> (try split) <;> omega)
theorem x_if_gt (h : Ok C own cc nL d) {x off : Int} {tgt : Nat} (hr : -2147483648 ≤ x ∧ x < 2147483648) (hd : decode cc pc = .ok (.ifCond .gt off, 3)) (ht : (pc : Int) + off = (tgt : Int)) (kt : 0 < x → X C ph tgt ls st n σ nc ns) (kf : ¬ (0 < x) → X C ph (pc + 3) ls st n σ nc ns) : X C ph pc ls (vI x :: st) n σ nc ns := by
  obtain ⟨p, l, e, R, s, m, args, below, meth, c, Q, D, ca, bs⟩ := C
  intro H locs lm hR hm
  have e1 := i32_eq hr (y := 0) (by omega)
  have e2 := i32_lt hr (y := 0) (by omega)
  have e3 := i32_le hr (y := 0) (by omega)
  have e4 := i32_lt (x := 0) (by omega) hr
  have e5 := i32_le (x := 0) (by omega) hr
  rw [← i32_0] at e1 e2 e3 e4 e5
  refine lv_if_gt h.1 h.2.1 hd ht (fun q => kt ?_ H locs lm hR hm) (fun q => kf ?_ H locs lm hR hm) <;> simp_all
theorem x_ic_gt (h : Ok C own cc nL d) {x y off : Int} {tgt : Nat} (hr : (-2147483648 ≤ x ∧ x < 2147483648) ∧ (-2147483648 ≤ y ∧ y < 2147483648)) (hd : decode cc pc = .ok (.if_icmp .gt off, 3)) (ht : (pc : Int) + off = (tgt : Int)) (kt : y < x → X C ph tgt ls st n σ nc ns) (kf : ¬ (y < x) → X C ph (pc + 3) ls st n σ nc ns) : X C ph pc ls (vI y :: vI x :: st) n σ nc ns := by
  obtain ⟨p, l, e, R, s, m, args, below, meth, c, Q, D, ca, bs⟩ := C
  intro H locs lm hR hm
  have e1 := i32_eq hr.1 hr.2
  have e2 := i32_lt hr.1 hr.2
  have e3 := i32_le hr.1 hr.2
  have e4 := i32_lt hr.2 hr.1
  have e5 := i32_le hr.2 hr.1
  refine lv_icmp_gt h.1 h.2.1 hd ht (fun q => kt ?_ H locs lm hR hm) (fun q => kf ?_ H locs lm hR hm) <;> simp_all
theorem x_if_gt_T (h : Ok C own cc nL d) {x off : Int} {tgt : Nat} (hr : -2147483648 ≤ x ∧ x < 2147483648) (hd : decode cc pc = .ok (.ifCond .gt off, 3)) (ht : (pc : Int) + off = (tgt : Int)) (hc : 0 < x) (kt : X C ph tgt ls st n σ nc ns) : X C ph pc ls (vI x :: st) n σ nc ns := x_if_gt h hr hd ht (fun _ => kt) (fun q => absurd hc q)
theorem x_if_gt_F (h : Ok C own cc nL d) {x off : Int} {tgt : Nat} (hr : -2147483648 ≤ x ∧ x < 2147483648) (hd : decode cc pc = .ok (.ifCond .gt off, 3)) (ht : (pc : Int) + off = (tgt : Int)) (hc : ¬ (0 < x)) (kf : X C ph (pc + 3) ls st n σ nc ns) : X C ph pc ls (vI x :: st) n σ nc ns := x_if_gt h hr hd ht (fun q => absurd q hc) (fun _ => kf)
theorem x_ic_gt_T (h : Ok C own cc nL d) {x y off : Int} {tgt : Nat} (hr : (-2147483648 ≤ x ∧ x < 2147483648) ∧ (-2147483648 ≤ y ∧ y < 2147483648)) (hd : decode cc pc = .ok (.if_icmp .gt off, 3)) (ht : (pc : Int) + off = (tgt : Int)) (hc : y < x) (kt : X C ph tgt ls st n σ nc ns) : X C ph pc ls (vI y :: vI x :: st) n σ nc ns := x_ic_gt h hr hd ht (fun _ => kt) (fun q => absurd hc q)
theorem x_ic_gt_F (h : Ok C own cc nL d) {x y off : Int} {tgt : Nat} (hr : (-2147483648 ≤ x ∧ x < 2147483648) ∧ (-2147483648 ≤ y ∧ y < 2147483648)) (hd : decode cc pc = .ok (.if_icmp .gt off, 3)) (ht : (pc : Int) + off = (tgt : Int)) (hc : ¬ (y < x)) (kf : X C ph (pc + 3) ls st n σ nc ns) : X C ph pc ls (vI y :: vI x :: st) n σ nc ns := x_ic_gt h hr hd ht (fun q => absurd q hc) (fun _ => kf)
theorem x_lc_gt (h : Ok C own cc nL d) {a b off : Int} {tgt : Nat} (hr : (-9223372036854775808 ≤ a ∧ a < 9223372036854775808) ∧ (-9223372036854775808 ≤ b ∧ b < 9223372036854775808)) (hd : decode cc pc = .ok (.lcmp, 1)) (hd2 : decode cc (pc + 1) = .ok (.ifCond .gt off, 3)) (ht : ((pc + 1 : Nat) : Int) + off = (tgt : Int)) (kt : b < a → X C ph tgt ls st n σ nc ns) (kf : ¬ (b < a) → X C ph (pc + 1 + 3) ls st n σ nc ns) : X C ph pc ls (vL b :: vL a :: st) n σ nc ns := by
  refine x_lcmp h hr hd (x_if_gt h ?_ hd2 ht (fun q => kt ?_) (fun q => kf ?_))
  · unfold cmpI; split <;> (try split) <;> omega
  all_goals (revert q; unfold cmpI; split <;> (try split) <;> omega)
theorem x_if_le (h : Ok C own cc nL d) {x off : Int} {tgt : Nat} (hr : -2147483648 ≤ x ∧ x < 2147483648) (hd : decode cc pc = .ok (.ifCond .le off, 3)) (ht : (pc : Int) + off = (tgt : Int)) (kt : x ≤ 0 → X C ph tgt ls st n σ nc ns) (kf : ¬ (x ≤ 0) → X C ph (pc + 3) ls st n σ nc ns) : X C ph pc ls (vI x :: st) n σ nc ns := by
  obtain ⟨p, l, e, R, s, m, args, below, meth, c, Q, D, ca, bs⟩ := C
  intro H locs lm hR hm
  have e1 := i32_eq hr (y := 0) (by omega)
  have e2 := i32_lt hr (y := 0) (by omega)
  have e3 := i32_le hr (y := 0) (by omega)
  have e4 := i32_lt (x := 0) (by omega) hr
  have e5 := i32_le (x := 0) (by omega) hr
  rw [← i32_0] at e1 e2 e3 e4 e5
  refine lv_if_le h.1 h.2.1 hd ht (fun q => kt ?_ H locs lm hR hm) (fun q => kf ?_ H locs lm hR hm) <;> simp_all
theorem x_ic_le (h : Ok C own cc nL d) {x y off : Int} {tgt : Nat} (hr : (-2147483648 ≤ x ∧ x < 2147483648) ∧ (-2147483648 ≤ y ∧ y < 2147483648)) (hd : decode cc pc = .ok (.if_icmp .le off, 3)) (ht : (pc : Int) + off = (tgt : Int)) (kt : x ≤ y → X C ph tgt ls st n σ nc ns) (kf : ¬ (x ≤ y) → X C ph (pc + 3) ls st n σ nc ns) : X C ph pc ls (vI y :: vI x :: st) n σ nc ns := by
  obtain ⟨p, l, e, R, s, m, args, below, meth, c, Q, D, ca, bs⟩ := C
  intro H locs lm hR hm
  have e1 := i32_eq hr.1 hr.2
  have e2 := i32_lt hr.1 hr.2
  have e3 := i32_le hr.1 hr.2
  have e4 := i32_lt hr.2 hr.1
  have e5 := i32_le hr.2 hr.1
  refine lv_icmp_le h.1 h.2.1 hd ht (fun q => kt ?_ H locs lm hR hm) (fun q => kf ?_ H locs lm hR hm) <;> simp_all
theorem x_if_le_T (h : Ok C own cc nL d) {x off : Int} {tgt : Nat} (hr : -2147483648 ≤ x ∧ x < 2147483648) (hd : decode cc pc = .ok (.ifCond .le off, 3)) (ht : (pc : Int) + off = (tgt : Int)) (hc : x ≤ 0) (kt : X C ph tgt ls st n σ nc ns) : X C ph pc ls (vI x :: st) n σ nc ns := x_if_le h hr hd ht (fun _ => kt) (fun q => absurd hc q)
theorem x_if_le_F (h : Ok C own cc nL d) {x off : Int} {tgt : Nat} (hr : -2147483648 ≤ x ∧ x < 2147483648) (hd : decode cc pc = .ok (.ifCond .le off, 3)) (ht : (pc : Int) + off = (tgt : Int)) (hc : ¬ (x ≤ 0)) (kf : X C ph (pc + 3) ls st n σ nc ns) : X C ph pc ls (vI x :: st) n σ nc ns := x_if_le h hr hd ht (fun q => absurd q hc) (fun _ => kf)
theorem x_ic_le_T (h : Ok C own cc nL d) {x y off : Int} {tgt : Nat} (hr : (-2147483648 ≤ x ∧ x < 2147483648) ∧ (-2147483648 ≤ y ∧ y < 2147483648)) (hd : decode cc pc = .ok (.if_icmp .le off, 3)) (ht : (pc : Int) + off = (tgt : Int)) (hc : x ≤ y) (kt : X C ph tgt ls st n σ nc ns) : X C ph pc ls (vI y :: vI x :: st) n σ nc ns := x_ic_le h hr hd ht (fun _ => kt) (fun q => absurd hc q)
theorem x_ic_le_F (h : Ok C own cc nL d) {x y off : Int} {tgt : Nat} (hr : (-2147483648 ≤ x ∧ x < 2147483648) ∧ (-2147483648 ≤ y ∧ y < 2147483648)) (hd : decode cc pc = .ok (.if_icmp .le off, 3)) (ht : (pc : Int) + off = (tgt : Int)) (hc : ¬ (x ≤ y)) (kf : X C ph (pc + 3) ls st n σ nc ns) : X C ph pc ls (vI y :: vI x :: st) n σ nc ns := x_ic_le h hr hd ht (fun q => absurd q hc) (fun _ => kf)
theorem x_lc_le (h : Ok C own cc nL d) {a b off : Int} {tgt : Nat} (hr : (-9223372036854775808 ≤ a ∧ a < 9223372036854775808) ∧ (-9223372036854775808 ≤ b ∧ b < 9223372036854775808)) (hd : decode cc pc = .ok (.lcmp, 1)) (hd2 : decode cc (pc + 1) = .ok (.ifCond .le off, 3)) (ht : ((pc + 1 : Nat) : Int) + off = (tgt : Int)) (kt : a ≤ b → X C ph tgt ls st n σ nc ns) (kf : ¬ (a ≤ b) → X C ph (pc + 1 + 3) ls st n σ nc ns) : X C ph pc ls (vL b :: vL a :: st) n σ nc ns := by
  refine x_lcmp h hr hd (x_if_le h ?_ hd2 ht (fun q => kt ?_) (fun q => kf ?_))
  · unfold cmpI; split <;> (try split) <;> omega
  all_goals (revert q; unfold cmpI; split <;> (try split) <;> omega)
end ROWS2
