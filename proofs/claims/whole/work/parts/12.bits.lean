/-! bits as arithmetic -/
theorem bv_ofInt64 (x : Int) : (Int64.ofInt x).toBitVec = BitVec.ofInt 64 x := rfl
theorem bv_ofInt32 (x : Int) : (Int32.ofInt x).toBitVec = BitVec.ofInt 32 x := rfl
theorem i64_small {b : BitVec 64} (h : b.toNat < 9223372036854775808) : (Int64.ofBitVec b).toInt = (b.toNat : Int) := by
  show b.toInt = _
  rw [BitVec.toInt_eq_toNat_of_lt (by omega)]
theorem ofInt_nat64 (x : Int) : ((BitVec.ofInt 64 x).toNat : Int) = x % 18446744073709551616 := by
  rw [BitVec.toNat_ofInt]
  have h : (0 : Int) ≤ x % 18446744073709551616 := Int.emod_nonneg _ (by decide)
  show ((x % 18446744073709551616).toNat : Int) = _
  omega
theorem ofInt_nat32 (x : Int) : ((BitVec.ofInt 32 x).toNat : Int) = x % 4294967296 := by
  rw [BitVec.toNat_ofInt]
  have h : (0 : Int) ≤ x % 4294967296 := Int.emod_nonneg _ (by decide)
  show ((x % 4294967296).toNat : Int) = _
  omega
theorem andL_mask (x : Int) (k : Nat) (hk : k ≤ 62) : andL x (2 ^ k - 1) = x % 2 ^ k := by
  unfold andL
  have hb : (Int64.ofInt x &&& Int64.ofInt (2 ^ k - 1)) = Int64.ofBitVec (BitVec.ofInt 64 x &&& BitVec.ofInt 64 (2 ^ k - 1)) := rfl
  rw [hb]
  have h2 : (2 : Nat) ^ k ≤ 2 ^ 62 := Nat.pow_le_pow_right (by decide) hk
  have h1 : 1 ≤ (2 : Nat) ^ k := Nat.one_le_two_pow
  have hm : (BitVec.ofInt 64 ((2 : Int) ^ k - 1)).toNat = 2 ^ k - 1 := by
    have e := ofInt_nat64 ((2 : Int) ^ k - 1)
    have e2 : ((2 : Int) ^ k) = ((2 ^ k : Nat) : Int) := by norm_cast
    rw [e2] at e ⊢
    rw [Int.emod_eq_of_lt (by omega) (by omega)] at e
    omega
  have hn : (BitVec.ofInt 64 x &&& BitVec.ofInt 64 ((2 : Int) ^ k - 1)).toNat = (BitVec.ofInt 64 x).toNat % 2 ^ k := by
    rw [BitVec.toNat_and, hm, Nat.and_two_pow_sub_one_eq_mod]
  have hlt : (BitVec.ofInt 64 x).toNat % 2 ^ k < 2 ^ k := Nat.mod_lt _ (by omega)
  rw [i64_small (by rw [hn]; omega), hn]
  push_cast
  rw [ofInt_nat64]
  rw [Int.emod_emod_of_dvd]
  exact ⟨2 ^ (64 - k), by rw [← Int.pow_add]; rw [show k + (64 - k) = 64 by omega]; rfl⟩
theorem andL_255 (x : Int) : andL x 255 = x % 256 := andL_mask x 8 (by decide)
theorem andL_32 (x : Int) : andL x 4294967295 = x % 4294967296 := andL_mask x 32 (by decide)
theorem andI_255 (x : Int) : andI x 255 = x % 256 := by
  unfold andI
  have hb : (Int32.ofInt x &&& Int32.ofInt 255).toInt = (BitVec.ofInt 32 x &&& 255#32).toInt := rfl
  rw [hb]
  have hn : (BitVec.ofInt 32 x &&& 255#32).toNat = (BitVec.ofInt 32 x).toNat % 2 ^ 8 := by
    rw [BitVec.toNat_and, show (255#32).toNat = 2 ^ 8 - 1 from rfl, Nat.and_two_pow_sub_one_eq_mod]
  have hlt : (BitVec.ofInt 32 x).toNat % 2 ^ 8 < 2 ^ 8 := Nat.mod_lt _ (by decide)
  rw [BitVec.toInt_eq_toNat_of_lt (by rw [hn]; omega), hn]
  have e := ofInt_nat32 x
  omega
theorem w8_spec (x : Int) : w8 x = Int.bmod x 256 := by
  unfold w8
  rw [Int32.toInt8_ofInt, Int8.toInt_ofInt]
theorem w8_r (x : Int) : -128 ≤ w8 x ∧ w8 x < 128 := by
  rw [w8_spec]
  have h1 := Int.le_bmod (x := x) (m := 256) (by decide)
  have h2 := Int.bmod_lt (x := x) (m := 256) (by decide)
  omega
theorem w8_mod (x : Int) : w8 x % 256 = x % 256 := by
  rw [w8_spec]
  exact Int.bmod_emod
theorem orL_r (a b : Int) : -9223372036854775808 ≤ orL a b ∧ orL a b < 9223372036854775808 := by
  have h1 := Int64.le_toInt (Int64.ofInt a ||| Int64.ofInt b)
  have h2 := Int64.toInt_lt (Int64.ofInt a ||| Int64.ofInt b)
  unfold orL
  omega
theorem w64_bmod (x : Int) : w64 x = Int.bmod x 18446744073709551616 := Int64.toInt_ofInt
theorem w64_mod (x : Int) : w64 x % 18446744073709551616 = x % 18446744073709551616 := by
  rw [w64_bmod]
  exact Int.bmod_emod
theorem w64_eq {x y : Int} (h : x % 18446744073709551616 = y % 18446744073709551616) : w64 x = w64 y := by
  rw [w64_bmod, w64_bmod, ← Int.emod_bmod (x := x), ← Int.emod_bmod (x := y)]
  exact congrArg (fun z => Int.bmod z 18446744073709551616) h
theorem ushrL_n {x : Int} {k : Nat} (h : ((Int32.ofInt (k : Int)).toInt64.toUInt64 &&& Int64.toUInt64 63).toBitVec.toNat % 64 = k) (hk : 1 ≤ k) : ushrL x k = x % 18446744073709551616 / 2 ^ k := by
  unfold ushrL
  have hb : ((Int64.ofInt x).toUInt64 >>> ((Int32.ofInt (k : Int)).toInt64.toUInt64 &&& Int64.toUInt64 63)).toInt64.toBitVec = BitVec.ofInt 64 x >>> k := by
    show BitVec.ofInt 64 x >>> (((Int32.ofInt (k : Int)).toInt64.toUInt64 &&& Int64.toUInt64 63).toBitVec % 64) = _
    rw [BitVec.ushiftRight_eq']
    congr 1
  have e2 : ((Int64.ofInt x).toUInt64 >>> ((Int32.ofInt (k : Int)).toInt64.toUInt64 &&& Int64.toUInt64 63)).toInt64.toInt = (BitVec.ofInt 64 x >>> k).toInt := by rw [← hb]; rfl
  rw [e2]
  have hn : (BitVec.ofInt 64 x >>> k).toNat = (BitVec.ofInt 64 x).toNat / 2 ^ k := by rw [BitVec.toNat_ushiftRight, Nat.shiftRight_eq_div_pow]
  have hlt : (BitVec.ofInt 64 x).toNat < 2 ^ 64 := (BitVec.ofInt 64 x).isLt
  have h2 : 2 ≤ 2 ^ k := by
    calc 2 = 2 ^ 1 := rfl
      _ ≤ 2 ^ k := Nat.pow_le_pow_right (by decide) hk
  have hq : (BitVec.ofInt 64 x).toNat / 2 ^ k < 9223372036854775808 := Nat.div_lt_of_lt_mul (by
    calc (BitVec.ofInt 64 x).toNat < 2 * 9223372036854775808 := by omega
      _ ≤ 2 ^ k * 9223372036854775808 := Nat.mul_le_mul_right _ h2)
  rw [BitVec.toInt_eq_toNat_of_lt (by rw [hn]; omega), hn]
  push_cast
  rw [ofInt_nat64]
theorem ushrL_32 (x : Int) : ushrL x 32 = x % 18446744073709551616 / 4294967296 := ushrL_n (k := 32) (by decide) (by decide)
theorem ushrL_63 (x : Int) : ushrL x 63 = x % 18446744073709551616 / 9223372036854775808 := ushrL_n (k := 63) (by decide) (by decide)
theorem shrL_n {x : Int} {k : Nat} (h : ((Int32.ofInt (k : Int)).toInt64 &&& 63).toBitVec.smod 64 = BitVec.ofNat 64 k) (hk : k < 64) : shrL x k = w64 x / 2 ^ k := by
  unfold shrL
  show ((Int64.ofInt x).toBitVec.sshiftRight' (((Int32.ofInt (k : Int)).toInt64 &&& 63).toBitVec.smod 64)).toInt = _
  rw [h, BitVec.sshiftRight_eq', BitVec.toInt_sshiftRight, Int.shiftRight_eq_div_pow, BitVec.toNat_ofNat, Nat.mod_eq_of_lt (by omega)]
  push_cast
  rfl
theorem shrL_32 (x : Int) : shrL x 32 = w64 x / 4294967296 := shrL_n (k := 32) (by decide) (by decide)
theorem shrL_63 (x : Int) : shrL x 63 = w64 x / 9223372036854775808 := shrL_n (k := 63) (by decide) (by decide)
/-- the carry of an addition, by the top bits -/
theorem carry_bit (a b : Int) : ushrL (orL (andL a b) (andL (orL a b) (xorL (w64 (a + b)) (-1)))) 63 = (a % 18446744073709551616 + b % 18446744073709551616) / 18446744073709551616 := by
  have key : ∀ A B : BitVec 64, (((A &&& B) ||| ((A ||| B) &&& ((A + B) ^^^ BitVec.ofInt 64 (-1)))).toNat / 9223372036854775808 : Nat) = (A.toNat + B.toNat) / 18446744073709551616 := by
    intro A B
    have hm : ∀ Z : BitVec 64, Z.toNat / 9223372036854775808 = if Z.msb then 1 else 0 := by
      intro Z
      rw [BitVec.msb_eq_decide]
      have := Z.isLt
      by_cases hz : 2 ^ (64 - 1) ≤ Z.toNat
      · simp [hz]; omega
      · simp [hz]; omega
    rw [hm, BitVec.msb_or, BitVec.msb_and, BitVec.msb_and, BitVec.msb_or, BitVec.msb_xor]
    have h1 : (BitVec.ofInt 64 (-1)).msb = true := by decide
    rw [h1]
    have ha := hm A
    have hb := hm B
    have hc := hm (A + B)
    rw [BitVec.toNat_add] at hc
    have l1 := A.isLt
    have l2 := B.isLt
    cases hA : A.msb <;> cases hB : B.msb <;> cases hC : (A + B).msb <;> rw [hA] at ha <;> rw [hB] at hb <;> rw [hC] at hc <;> simp at ha hb hc ⊢ <;> omega
  rw [ushrL_63]
  have e1 : ∀ x : Int, x % 18446744073709551616 = ((BitVec.ofInt 64 x).toNat : Int) := fun x => (ofInt_nat64 x).symm
  rw [e1, e1 a, e1 b]
  have e2 : BitVec.ofInt 64 (orL (andL a b) (andL (orL a b) (xorL (w64 (a + b)) (-1)))) = ((BitVec.ofInt 64 a &&& BitVec.ofInt 64 b) ||| ((BitVec.ofInt 64 a ||| BitVec.ofInt 64 b) &&& ((BitVec.ofInt 64 a + BitVec.ofInt 64 b) ^^^ BitVec.ofInt 64 (-1)))) := by
    unfold orL andL xorL w64
    rw [← bv_ofInt64]
    simp only [Int64.ofInt_toInt, Int64.ofInt_add]
    rfl
  rw [e2]
  have := key (BitVec.ofInt 64 a) (BitVec.ofInt 64 b)
  omega
