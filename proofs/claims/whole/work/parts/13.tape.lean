/-! Total, Tape -/
/-- the Total m holds S -/
def TotOk (σ : Mm) (m : Nat) (S : Int) : Prop := σ 9 m 0 = w64 S ∧ σ 9 m 1 = S / 18446744073709551616
theorem c_totclear {d : Nat} {σ : Mm} {m : Nat} (hm : m < 2) : Ct d mX7_clear 1 [vR 9 m] NALL σ none NALL (up3 (up3 σ 9 m 0 0) 9 m 1 0) 0 0 := by
  refine ct_of (by decide) (Nat.le_of_ble_eq_true rfl) (fun C h hr _ => ?_)
  have h : Ok C RX7 cX7_clear 1 _ := h
  refine x_aload_n h dX7_clear_0 rfl ?_
  refine x_lconst0 h dX7_clear_1 ?_
  refine x_put h fl_7_7 (lvm_9 (by omega)) dX7_clear_2 rfl (fun z => absurd z (by decide)) ?_
  refine x_aload_n h dX7_clear_5 rfl ?_
  refine x_lconst0 h dX7_clear_6 ?_
  refine x_put h fl_7_13 (lvm_9 (by omega)) dX7_clear_7 rfl (fun z => absurd z (by decide)) ?_
  exact x_return h hr dX7_clear_10 ⟨Nat.le_refl _, Nat.le_refl _⟩
def totS (σ : Mm) (m : Nat) (S : Int) : Mm := up3 (up3 σ 9 m 0 (w64 S)) 9 m 1 (S / 18446744073709551616)
theorem totS_ok (σ : Mm) (m : Nat) (S : Int) : TotOk (totS σ m S) m S := ⟨by simp [totS, up3], by simp [totS, up3]⟩
theorem totS_0 (σ : Mm) (m : Nat) : up3 (up3 σ 9 m 0 0) 9 m 1 0 = totS σ m 0 := rfl
theorem tot_step {S v : Int} (hv : -9223372036854775808 ≤ v ∧ v < 9223372036854775808) : S / 18446744073709551616 + (v / 9223372036854775808 + (S % 18446744073709551616 + v % 18446744073709551616) / 18446744073709551616) = (S + v) / 18446744073709551616 := by omega
theorem c_totadd {d : Nat} {σ : Mm} {m : Nat} {S v : Int} (hm : m < 2) (hS : TotOk σ m S) (hv : -9223372036854775808 ≤ v ∧ v < 9223372036854775808) : Ct d mX7_add 1 [vR 9 m, vL v] NALL σ none NALL (totS σ m (S + v)) 0 0 := by
  refine ct_of (by decide) (Nat.le_of_ble_eq_true rfl) (fun C h hr _ => ?_)
  have h : Ok C RX7 cX7_add 7 _ := h
  refine x_aload_n h dX7_add_0 rfl ?_
  refine x_get (q := vL (w64 S)) h fl_7_7 (lvm_9 (by omega)) dX7_add_1 (congrArg vL (by first | exact hS.1 | simp [up3, hS.1])) ?_
  refine x_lload_n h dX7_add_4 rfl ?_
  refine x_ladd h dX7_add_5 ?_
  refine x_wL ?_
  refine x_lstore_n h dX7_add_6 (by decide) ?_
  refine x_aload_n h dX7_add_7 rfl ?_
  refine x_get (q := vL (w64 S)) h fl_7_7 (lvm_9 (by omega)) dX7_add_8 (congrArg vL (by first | exact hS.1 | simp [up3, hS.1])) ?_
  refine x_lload_n h dX7_add_11 rfl ?_
  refine x_land h dX7_add_12 ?_
  refine x_aload_n h dX7_add_13 rfl ?_
  refine x_get (q := vL (w64 S)) h fl_7_7 (lvm_9 (by omega)) dX7_add_14 (congrArg vL (by first | exact hS.1 | simp [up3, hS.1])) ?_
  refine x_lload_n h dX7_add_17 rfl ?_
  refine x_lor h dX7_add_18 ?_
  refine x_lload_n h dX7_add_19 rfl ?_
  refine x_ldc2 (x := (-1)) h dX7_add_20 klX7_16 (by decide) ?_
  refine x_lxor h dX7_add_23 ?_
  refine x_land h dX7_add_24 ?_
  refine x_lor h dX7_add_25 ?_
  refine x_bipush h dX7_add_26 (by decide) ?_
  refine x_lushr h dX7_add_28 ?_
  refine x_lstore h dX7_add_29 (by decide) ?_
  refine x_aload_n h dX7_add_31 rfl ?_
  refine x_lload_n h dX7_add_32 rfl ?_
  refine x_put h fl_7_7 (lvm_9 (by omega)) dX7_add_33 rfl (fun z => absurd z (by decide)) ?_
  refine x_aload_n h dX7_add_36 rfl ?_
  refine x_dup h dX7_add_37 rfl ?_
  refine x_get (q := vL (S / 18446744073709551616)) h fl_7_13 (lvm_9 (by omega)) dX7_add_38 (congrArg vL (by first | exact hS.2 | simp [up3, hS.2])) ?_
  refine x_lload_n h dX7_add_41 rfl ?_
  refine x_bipush h dX7_add_42 (by decide) ?_
  refine x_lshr h dX7_add_44 ?_
  refine x_lload h dX7_add_45 rfl ?_
  refine x_ladd h dX7_add_47 ?_
  refine x_ladd h dX7_add_48 ?_
  refine x_put h fl_7_13 (lvm_9 (by omega)) dX7_add_49 rfl (fun z => absurd z (by decide)) ?_
  refine x_mem ?_ (?_ : X C 1 52 _ [] NALL (totS σ m (S + v)) 0 0)
  · have e1 : w64 (w64 S + v) = w64 (S + v) := w64_eq (by have := w64_mod S; omega)
    have e2 := carry_bit (w64 S) v
    rw [w64_mod] at e2
    have e3 := shrL_63 v
    rw [w64_id hv] at e3
    have e4 := tot_step (S := S) hv
    show up3 (up3 σ 9 m 0 (w64 (w64 S + v))) 9 m 1 (S / 18446744073709551616 + (shrL v 63 + ushrL (orL (andL (w64 S) v) (andL (orL (w64 S) v) (xorL (w64 (w64 S + v)) (-1)))) 63)) = _
    rw [e2, e3, e4, e1]
    rfl
  exact x_return h hr dX7_add_52 ⟨Nat.le_refl _, Nat.le_refl _⟩
theorem c_totis {d : Nat} {σ : Mm} {m : Nat} {S v : Int} (hm : m < 2) (hS : TotOk σ m S) (hS2 : -170141183460469231731687303715884105728 ≤ S ∧ S < 170141183460469231731687303715884105728) (hv : -9223372036854775808 ≤ v ∧ v < 9223372036854775808) : Ct d mX7_is 1 [vR 9 m, vL v] NALL σ (some (vI (if S = v then 1 else 0))) NALL σ 0 0 := by
  refine ct_of (by decide) (Nat.le_of_ble_eq_true rfl) (fun C h hr _ => ?_)
  have h : Ok C RX7 cX7_is 3 _ := h
  have e3 := shrL_63 v
  rw [w64_id hv] at e3
  have e4 : shrL v ((63 : Int)) = v / 9223372036854775808 := e3
  have r1 := w64_range S
  have r2 := w64_mod S
  refine x_aload_n h dX7_is_0 rfl ?_
  refine x_get (q := vL (w64 S)) h fl_7_7 (lvm_9 (by omega)) dX7_is_1 (congrArg vL (by first | exact hS.1 | simp [up3, hS.1])) ?_
  refine x_lload_n h dX7_is_4 rfl ?_
  refine x_lc_ne (tgt := 25) h (by omega) dX7_is_5 dX7_is_6 (by decide) (fun hc => ?_) (fun hc => ?_)
  · rw [if_neg (by intro z; subst z; exact hc (w64_id hv))] at hr
    refine x_iconst h dX7_is_25 ?_
    exact x_ireturn h hr dX7_is_26 (Or.inr ⟨rfl, by omega⟩) ⟨Nat.le_refl _, Nat.le_refl _⟩
  · refine x_aload_n h dX7_is_9 rfl ?_
    refine x_get (q := vL (S / 18446744073709551616)) h fl_7_13 (lvm_9 (by omega)) dX7_is_10 (congrArg vL (by first | exact hS.2 | simp [up3, hS.2])) ?_
    refine x_lload_n h dX7_is_13 rfl ?_
    refine x_bipush h dX7_is_14 (by decide) ?_
    refine x_lshr h dX7_is_16 ?_
    rw [e4]
    refine x_lc_ne (tgt := 25) h (by omega) dX7_is_17 dX7_is_18 (by decide) (fun hc => ?_) (fun hc => ?_)
    · rw [if_neg (by omega)] at hr
      refine x_iconst h dX7_is_25 ?_
      exact x_ireturn h hr dX7_is_26 (Or.inr ⟨rfl, by omega⟩) ⟨Nat.le_refl _, Nat.le_refl _⟩
    · rw [if_pos (by omega)] at hr
      refine x_iconst h dX7_is_21 ?_
      refine x_goto (tgt := 26) h dX7_is_22 (by decide) ?_
      exact x_ireturn h hr dX7_is_26 (Or.inr ⟨rfl, by omega⟩) ⟨Nat.le_refl _, Nat.le_refl _⟩
def partZ (S : Int) (k : Int) : Int := if k = 0 then S % 4294967296 else if k = 1 then S / 4294967296 % 4294967296 else S / 18446744073709551616 % 4294967296
theorem c_totpart {d : Nat} {σ : Mm} {m : Nat} {S : Int} {k : Int} (hm : m < 2) (hS : TotOk σ m S) (hk : 0 ≤ k ∧ k ≤ 2) : Ct d mX7_part 1 [vR 9 m, vI k] NALL σ (some (vL (partZ S k))) NALL σ 0 0 := by
  refine ct_of (by decide) (Nat.le_of_ble_eq_true rfl) (fun C h hr _ => ?_)
  have h : Ok C RX7 cX7_part 4 _ := h
  have r2 := w64_mod S
  have hm32 : ∀ x : Int, andL x (4294967295 : Int) = x % 4294967296 := andL_32
  refine x_iload_n h dX7_part_0 rfl ?_
  refine x_if_ne (tgt := 11) h (by omega) dX7_part_1 (by decide) (fun hk0 => ?_) (fun hk0 => ?_)
  · refine x_iload_n h dX7_part_11 rfl ?_
    refine x_iconst h dX7_part_12 ?_
    refine x_ic_ne (tgt := 26) h (by omega) dX7_part_13 (by decide) (fun hk1 => ?_) (fun hk1 => ?_)
    · refine x_aload_n h dX7_part_26 rfl ?_
      refine x_get (q := vL (S / 18446744073709551616)) h fl_7_13 (lvm_9 (by omega)) dX7_part_27 (congrArg vL (by first | exact hS.2 | simp [up3, hS.2])) ?_
      refine x_lstore_n h dX7_part_30 (by decide) ?_
      refine x_lload_n h dX7_part_31 rfl ?_
      refine x_ldc2 (x := 4294967295) h dX7_part_32 klX7_18 (by decide) ?_
      refine x_land h dX7_part_35 ?_
      rw [hm32]
      rw [show partZ S k = S / 18446744073709551616 % 4294967296 by unfold partZ; rw [if_neg hk0, if_neg (by omega)]] at hr
      exact x_lreturn h hr dX7_part_36 ⟨Nat.le_refl _, Nat.le_refl _⟩
    · refine x_aload_n h dX7_part_16 rfl ?_
      refine x_get (q := vL (w64 S)) h fl_7_7 (lvm_9 (by omega)) dX7_part_17 (congrArg vL (by first | exact hS.1 | simp [up3, hS.1])) ?_
      refine x_bipush h dX7_part_20 (by decide) ?_
      refine x_lushr h dX7_part_22 ?_
      refine x_goto (tgt := 30) h dX7_part_23 (by decide) ?_
      refine x_lstore_n h dX7_part_30 (by decide) ?_
      refine x_lload_n h dX7_part_31 rfl ?_
      refine x_ldc2 (x := 4294967295) h dX7_part_32 klX7_18 (by decide) ?_
      refine x_land h dX7_part_35 ?_
      rw [hm32, show ushrL (w64 S) ((32 : Int)) = _ from ushrL_32 (w64 S)]
      rw [show partZ S k = w64 S % 18446744073709551616 / 4294967296 % 4294967296 by unfold partZ; rw [if_neg hk0, if_pos (by omega)]; omega] at hr
      exact x_lreturn h hr dX7_part_36 ⟨Nat.le_refl _, Nat.le_refl _⟩
  · refine x_aload_n h dX7_part_4 rfl ?_
    refine x_get (q := vL (w64 S)) h fl_7_7 (lvm_9 (by omega)) dX7_part_5 (congrArg vL (by first | exact hS.1 | simp [up3, hS.1])) ?_
    refine x_goto (tgt := 30) h dX7_part_8 (by decide) ?_
    refine x_lstore_n h dX7_part_30 (by decide) ?_
    refine x_lload_n h dX7_part_31 rfl ?_
    refine x_ldc2 (x := 4294967295) h dX7_part_32 klX7_18 (by decide) ?_
    refine x_land h dX7_part_35 ?_
    rw [hm32]
    rw [show partZ S k = w64 S % 4294967296 by unfold partZ; rw [if_pos (by omega)]; omega] at hr
    exact x_lreturn h hr dX7_part_36 ⟨Nat.le_refl _, Nat.le_refl _⟩
/-- the bytes of a word ahead of its first 0 -/
def binR (w : Int) : Nat → Nat → Nat
  | 0, k => k
  | c + 1, k => if ushrL w (8 * k) % 256 = 0 then k else binR w c (k + 1)
def bin (w : Int) : Nat := binR w 8 0
theorem binR_r (w : Int) : ∀ c k : Nat, k ≤ binR w c k ∧ binR w c k ≤ k + c := by
  intro c
  induction c with
  | zero => intro k; exact ⟨Nat.le_refl _, Nat.le_refl _⟩
  | succ c ih =>
    intro k
    unfold binR
    split
    · omega
    · have := ih (k + 1); omega
theorem bin_r (w : Int) : bin w ≤ 8 := by have := binR_r w 8 0; unfold bin; omega
theorem binR_nz (w : Int) : ∀ c k j : Nat, k ≤ j → j < binR w c k → ushrL w (8 * j) % 256 ≠ 0 := by
  intro c
  induction c with
  | zero => intro k j h1 h2; unfold binR at h2; omega
  | succ c ih =>
    intro k j h1 h2
    unfold binR at h2
    split at h2
    · omega
    · next hne =>
      rcases Nat.lt_or_ge k j with q | q
      · exact ih (k + 1) j q h2
      · obtain rfl : j = k := by omega
        exact hne
theorem bin_nz (w : Int) (j : Nat) (h : j < bin w) : ushrL w (8 * j) % 256 ≠ 0 := binR_nz w 8 0 j (Nat.zero_le _) h
theorem ushrL_r (a b : Int) : -9223372036854775808 ≤ ushrL a b ∧ ushrL a b < 9223372036854775808 := by
  have h1 := Int64.le_toInt ((Int64.ofInt a).toUInt64 >>> ((Int32.ofInt b).toInt64.toUInt64 &&& Int64.toUInt64 63)).toInt64
  have h2 := Int64.toInt_lt ((Int64.ofInt a).toUInt64 >>> ((Int32.ofInt b).toInt64.toUInt64 &&& Int64.toUInt64 63)).toInt64
  unfold ushrL
  omega
theorem c_bytesIn {d : Nat} {σ : Mm} {w : Int} : Ct d mX3_bytesIn 1 [vL w] NALL σ (some (vI (bin w))) NALL σ 0 0 := by
  refine ct_of (by decide) (Nat.le_of_ble_eq_true rfl) (fun C h hr _ => ?_)
  have h : Ok C RX3 cX3_bytesIn 3 _ := h
  have loop : ∀ (c k : Nat) (ls : List (Nat × PV)), k + c = 8 → bin w = binR w c k → lsub [(0, vL w), (2, vI k)] ls → X C 1 2 ls [] NALL σ 0 0 := by
    intro c
    induction c with
    | zero =>
      intro k ls hk hv hls
      refine x_loc hls ?_
      rw [hv, binR] at hr
      refine x_iload_n h dX3_bytesIn_2 rfl ?_
      refine x_bipush h dX3_bytesIn_3 (by decide) ?_
      refine x_ic_ge_T (tgt := 29) h (by omega) dX3_bytesIn_5 (by decide) (by omega) ?_
      refine x_iload_n h dX3_bytesIn_29 rfl ?_
      exact x_ireturn h hr dX3_bytesIn_30 (Or.inl rfl) ⟨Nat.le_refl _, Nat.le_refl _⟩
    | succ c ih =>
      intro k ls hk hv hls
      refine x_loc hls ?_
      have hm : andL (ushrL w (8 * k)) (255 : Int) = ushrL w (8 * k) % 256 := andL_255 _
      refine x_iload_n h dX3_bytesIn_2 rfl ?_
      refine x_bipush h dX3_bytesIn_3 (by decide) ?_
      refine x_ic_ge_F (tgt := 29) h (by omega) dX3_bytesIn_5 (by decide) (by omega) ?_
      refine x_lload_n h dX3_bytesIn_8 rfl ?_
      refine x_bipush h dX3_bytesIn_9 (by decide) ?_
      refine x_iload_n h dX3_bytesIn_11 rfl ?_
      refine x_imul h dX3_bytesIn_12 ?_
      refine x_lushr h dX3_bytesIn_13 ?_
      refine x_ldc2 (x := 255) h dX3_bytesIn_14 klX3_27 (by decide) ?_
      refine x_land h dX3_bytesIn_17 ?_
      rw [hm]
      refine x_lconst0 h dX3_bytesIn_18 ?_
      refine x_lc_eq (tgt := 29) h (by omega) dX3_bytesIn_19 dX3_bytesIn_20 (by decide) (fun hc => ?_) (fun hc => ?_)
      · rw [hv, binR, if_pos hc] at hr
        refine x_iload_n h dX3_bytesIn_29 rfl ?_
        exact x_ireturn h hr dX3_bytesIn_30 (Or.inl rfl) ⟨Nat.le_refl _, Nat.le_refl _⟩
      · refine x_iinc h dX3_bytesIn_23 rfl (by decide) ?_
        refine x_goto (tgt := 2) h dX3_bytesIn_26 (by decide) ?_
        exact ih (k + 1) _ (by omega) (by rw [hv, binR, if_neg hc]) ⟨rfl, rfl, trivial⟩
  refine x_iconst h dX3_bytesIn_0 ?_
  refine x_istore_n h dX3_bytesIn_1 (by decide) ?_
  exact loop 8 0 _ rfl rfl ⟨rfl, rfl, trivial⟩
theorem c_putByte {d : Nat} {σ : Mm} {k : Nat} {x : Int} (hk : k < 900) (hx : -128 ≤ x ∧ x < 128) : Ct d mX3_putByte 1 [vR 1 0, vI k, vI x] NALL σ none NALL (up3 σ 11 0 k x) 0 0 := by
  refine ct_of (by decide) (Nat.le_of_ble_eq_true rfl) (fun C h hr _ => ?_)
  have h : Ok C RX3 cX3_putByte 3 _ := h
  refine x_iload_n h dX3_putByte_0 rfl ?_
  refine x_if_lt_F (tgt := 20) h (by omega) dX3_putByte_1 (by decide) (by omega) ?_
  refine x_iload_n h dX3_putByte_4 rfl ?_
  refine x_aload_n h dX3_putByte_5 rfl ?_
  refine x_get h fl_3_9 lvz_1 dX3_putByte_6 (pvf_511 _ _) ?_
  refine x_alen h kdf_11 (by decide) lvz_11 dX3_putByte_9 ?_
  refine x_ic_ge_F (tgt := 20) h (by omega) dX3_putByte_10 (by decide) (by omega) ?_
  refine x_aload_n h dX3_putByte_13 rfl ?_
  refine x_get h fl_3_9 lvz_1 dX3_putByte_14 (pvf_511 _ _) ?_
  refine x_iload_n h dX3_putByte_17 rfl ?_
  refine x_iload_n h dX3_putByte_18 rfl ?_
  refine x_bast h kdf_11 lvz_11 (by omega) dX3_putByte_19 rfl (by omega) ?_
  exact x_return h hr dX3_putByte_20 ⟨Nat.le_refl _, Nat.le_refl _⟩
/-- bytes L on hold the first k bytes of w -/
def apdS (σ : Mm) (f : Nat) (w : Int) (L : Nat) : Nat → Mm
  | 0 => σ
  | k + 1 => up3 (apdS σ f w L k) f 0 (L + k) (w8 (ushrL w (8 * k)))
theorem apdS_f (σ : Mm) (f : Nat) (w : Int) (L : Nat) {f' : Nat} (h : f' ≠ f) : ∀ n k j, apdS σ f w L n f' k j = σ f' k j := by
  intro n
  induction n with
  | zero => intro k j; rfl
  | succ n ih => intro k j; show up3 _ _ _ _ _ _ _ _ = _; rw [up3_f _ _ h, ih]
theorem apdS_in (σ : Mm) (f : Nat) (w : Int) (L : Nat) : ∀ n j : Nat, apdS σ f w L n f 0 j = if L ≤ j ∧ j < L + n then w8 (ushrL w (8 * ((j - L : Nat) : Int))) else σ f 0 j := by
  intro n
  induction n with
  | zero => intro j; rw [if_neg (by omega)]; rfl
  | succ n ih =>
    intro j
    show (if f = f ∧ 0 = 0 ∧ j = L + n then w8 (ushrL w (8 * n)) else apdS σ f w L n f 0 j) = _
    by_cases h : j = L + n
    · rw [if_pos ⟨rfl, rfl, h⟩, if_pos (by omega), show j - L = n by omega]
    · rw [if_neg (by omega), ih]
      by_cases h2 : L ≤ j ∧ j < L + n
      · rw [if_pos h2, if_pos (by omega)]
      · rw [if_neg h2, if_neg (by omega)]
theorem c_append {d : Nat} {σ : Mm} {w : Int} {L : Nat} (hL : σ 1 0 1 = L) (hL2 : L ≤ 900) (hfit : L + bin w ≤ 900) : Ct (d + 1) mX3_append 1 [vR 1 0, vL w] NALL σ (some (vI 1)) NALL (up3 (apdS σ 11 w L (bin w)) 1 0 1 (L + bin w)) 0 0 := by
  refine ct_of (by decide) (Nat.le_of_ble_eq_true rfl) (fun C h hr _ => ?_)
  have h : Ok C RX3 cX3_append 5 _ := h
  have hb := bin_r w
  have loop : ∀ (c k : Nat) (ls : List (Nat × PV)), k + c = bin w → lsub [(0, vR 1 0), (1, vL w), (3, vI (bin w)), (4, vI k)] ls → X C 1 22 ls [] NALL (apdS σ 11 w L k) 0 0 := by
    intro c
    induction c with
    | zero =>
      intro k ls hk hls
      refine x_loc hls ?_
      have hL' : apdS σ 11 w L k 1 0 1 = L := by rw [apdS_f _ _ _ _ (by decide)]; exact hL
      obtain rfl : k = bin w := by omega
      refine x_iload h dX3_append_22 rfl ?_
      refine x_iload_n h dX3_append_24 rfl ?_
      refine x_ic_ge_T (tgt := 54) h (by omega) dX3_append_25 (by decide) (by omega) ?_
      refine x_aload_n h dX3_append_54 rfl ?_
      refine x_dup h dX3_append_55 rfl ?_
      refine x_get (q := vI (L)) h fl_3_15 lvz_1 dX3_append_56 (congrArg vI (by first | exact hL' | simp [up3, hL'])) ?_
      refine x_iload_n h dX3_append_59 rfl ?_
      refine x_iadd h dX3_append_60 ?_
      refine x_put h fl_3_15 lvz_1 dX3_append_61 rfl (fun z => absurd z (by decide)) ?_
      refine x_iconst h dX3_append_64 ?_
      exact x_ireturn h hr dX3_append_65 (Or.inr ⟨rfl, by omega⟩) ⟨Nat.le_refl _, Nat.le_refl _⟩
    | succ c ih =>
      intro k ls hk hls
      refine x_loc hls ?_
      have hL' : apdS σ 11 w L k 1 0 1 = L := by rw [apdS_f _ _ _ _ (by decide)]; exact hL
      have hw := w8_r (ushrL w (8 * k))
      refine x_iload h dX3_append_22 rfl ?_
      refine x_iload_n h dX3_append_24 rfl ?_
      refine x_ic_ge_F (tgt := 54) h (by omega) dX3_append_25 (by decide) (by omega) ?_
      refine x_aload_n h dX3_append_28 rfl ?_
      refine x_aload_n h dX3_append_29 rfl ?_
      refine x_get (q := vI (L)) h fl_3_15 lvz_1 dX3_append_30 (congrArg vI (by first | exact hL' | simp [up3, hL'])) ?_
      refine x_iload h dX3_append_33 rfl ?_
      refine x_iadd h dX3_append_35 ?_
      refine x_lload_n h dX3_append_36 rfl ?_
      refine x_bipush h dX3_append_37 (by decide) ?_
      refine x_iload h dX3_append_39 rfl ?_
      refine x_imul h dX3_append_41 ?_
      refine x_lushr h dX3_append_42 ?_
      refine x_l2i h dX3_append_43 ?_
      refine x_i2b h dX3_append_44 ?_
      refine x_cV0 h kVX3_putByte lkX3_23 ⟨_, _, _, rfl, rfl⟩ dX3_append_45 (c_putByte (d := d) (k := L + k) (by omega) hw) lvz_1 rfl rfl (Nat.le_of_ble_eq_true rfl) (by omega) ?_
      refine x_iinc h dX3_append_48 rfl (by decide) ?_
      refine x_goto (tgt := 22) h dX3_append_51 (by decide) ?_
      exact ih (k + 1) _ (by omega) ⟨rfl, rfl, rfl, rfl, trivial⟩
  refine x_lload_n h dX3_append_0 rfl ?_
  refine x_cS1 h kSX3_bytesIn lkX3_19 dX3_append_1 (c_bytesIn (d := d)) rfl rfl (Nat.le_of_ble_eq_true rfl) (by omega) ?_
  refine x_istore_n h dX3_append_4 (by decide) ?_
  refine x_aload_n h dX3_append_5 rfl ?_
  refine x_get (q := vI (L)) h fl_3_15 lvz_1 dX3_append_6 (congrArg vI (by first | exact hL | simp [up3, hL])) ?_
  refine x_iload_n h dX3_append_9 rfl ?_
  refine x_iadd h dX3_append_10 ?_
  refine x_sipush h dX3_append_11 (by decide) ?_
  refine x_ic_le_T (tgt := 19) h (by omega) dX3_append_14 (by decide) (by omega) ?_
  refine x_iconst h dX3_append_19 ?_
  refine x_istore h dX3_append_20 (by decide) ?_
  exact loop (bin w) 0 _ (by omega) ⟨rfl, rfl, rfl, rfl, trivial⟩
theorem c_appendF {d : Nat} {σ : Mm} {w : Int} {L : Nat} (hL : σ 1 0 1 = L) (hL2 : L ≤ 900) (hfit : ¬ L + bin w ≤ 900) : Ct (d + 1) mX3_append 1 [vR 1 0, vL w] NALL σ (some (vI 0)) NALL σ 0 0 := by
  refine ct_of (by decide) (Nat.le_of_ble_eq_true rfl) (fun C h hr _ => ?_)
  have h : Ok C RX3 cX3_append 5 _ := h
  have hb := bin_r w
  refine x_lload_n h dX3_append_0 rfl ?_
  refine x_cS1 h kSX3_bytesIn lkX3_19 dX3_append_1 (c_bytesIn (d := d)) rfl rfl (Nat.le_of_ble_eq_true rfl) (by omega) ?_
  refine x_istore_n h dX3_append_4 (by decide) ?_
  refine x_aload_n h dX3_append_5 rfl ?_
  refine x_get (q := vI (L)) h fl_3_15 lvz_1 dX3_append_6 (congrArg vI (by first | exact hL | simp [up3, hL])) ?_
  refine x_iload_n h dX3_append_9 rfl ?_
  refine x_iadd h dX3_append_10 ?_
  refine x_sipush h dX3_append_11 (by decide) ?_
  refine x_ic_le_F (tgt := 19) h (by omega) dX3_append_14 (by decide) (by omega) ?_
  refine x_iconst h dX3_append_17 ?_
  exact x_ireturn h hr dX3_append_18 (Or.inr ⟨rfl, by omega⟩) ⟨Nat.le_refl _, Nat.le_refl _⟩
theorem c_empty {d : Nat} {σ : Mm} : Ct d mX3_empty 1 [vR 1 0] NALL σ none NALL (up3 σ 1 0 1 0) 0 0 := by
  refine ct_of (by decide) (Nat.le_of_ble_eq_true rfl) (fun C h hr _ => ?_)
  have h : Ok C RX3 cX3_empty 1 _ := h
  refine x_aload_n h dX3_empty_0 rfl ?_
  refine x_iconst h dX3_empty_1 ?_
  refine x_put h fl_3_15 lvz_1 dX3_empty_2 rfl (fun z => absurd z (by decide)) ?_
  exact x_return h hr dX3_empty_5 ⟨Nat.le_refl _, Nat.le_refl _⟩
/-- THE TAPE's bytes as 0 .. 255, 0 behind its end -/
def tB (σ : Mm) (f : Nat) (L : Nat) (j : Nat) : Int := if j < L then σ f 0 j % 256 else 0
theorem tB_r (σ : Mm) (f L j : Nat) : 0 ≤ tB σ f L j ∧ tB σ f L j ≤ 255 := by unfold tB; split <;> omega
theorem c_byteAt {d : Nat} {σ : Mm} {j L : Nat} (hL : σ 1 0 1 = L) (hL2 : L ≤ 900) (hj : j < 100000) : Ct d mX3_byteAt 1 [vR 1 0, vI j] NALL σ (some (vI (tB σ 11 L j))) NALL σ 0 0 := by
  refine ct_of (by decide) (Nat.le_of_ble_eq_true rfl) (fun C h hr _ => ?_)
  have h : Ok C RX3 cX3_byteAt 2 _ := h
  have hm : ∀ x : Int, andI x (255 : Int) = x % 256 := andI_255
  rcases Nat.lt_or_ge j L with hlt | hge
  · rw [show tB σ 11 L j = σ 11 0 j % 256 by unfold tB; rw [if_pos hlt]] at hr
    refine x_iload_n h dX3_byteAt_0 rfl ?_
    refine x_if_lt_F (tgt := 34) h (by omega) dX3_byteAt_1 (by decide) (by omega) ?_
    refine x_iload_n h dX3_byteAt_4 rfl ?_
    refine x_aload_n h dX3_byteAt_5 rfl ?_
    refine x_get (q := vI (L)) h fl_3_15 lvz_1 dX3_byteAt_6 (congrArg vI (by first | exact hL | simp [up3, hL])) ?_
    refine x_ic_ge_F (tgt := 34) h (by omega) dX3_byteAt_9 (by decide) (by omega) ?_
    refine x_iload_n h dX3_byteAt_12 rfl ?_
    refine x_aload_n h dX3_byteAt_13 rfl ?_
    refine x_get h fl_3_9 lvz_1 dX3_byteAt_14 (pvf_511 _ _) ?_
    refine x_alen h kdf_11 (by decide) lvz_11 dX3_byteAt_17 ?_
    refine x_ic_ge_F (tgt := 34) h (by omega) dX3_byteAt_18 (by decide) (by omega) ?_
    refine x_aload_n h dX3_byteAt_21 rfl ?_
    refine x_get h fl_3_9 lvz_1 dX3_byteAt_22 (pvf_511 _ _) ?_
    refine x_iload_n h dX3_byteAt_25 rfl ?_
    refine x_bald h kdf_11 lvz_11 dX3_byteAt_26 rfl (by omega) ?_
    refine x_sipush h dX3_byteAt_27 (by decide) ?_
    refine x_iand h dX3_byteAt_30 ?_
    rw [hm]
    refine x_goto (tgt := 35) h dX3_byteAt_31 (by decide) ?_
    exact x_ireturn h hr dX3_byteAt_35 (Or.inl rfl) ⟨Nat.le_refl _, Nat.le_refl _⟩
  · rw [show tB σ 11 L j = 0 by unfold tB; rw [if_neg (by omega)]] at hr
    refine x_iload_n h dX3_byteAt_0 rfl ?_
    refine x_if_lt_F (tgt := 34) h (by omega) dX3_byteAt_1 (by decide) (by omega) ?_
    refine x_iload_n h dX3_byteAt_4 rfl ?_
    refine x_aload_n h dX3_byteAt_5 rfl ?_
    refine x_get (q := vI (L)) h fl_3_15 lvz_1 dX3_byteAt_6 (congrArg vI (by first | exact hL | simp [up3, hL])) ?_
    refine x_ic_ge_T (tgt := 34) h (by omega) dX3_byteAt_9 (by decide) (by omega) ?_
    refine x_iconst h dX3_byteAt_34 ?_
    exact x_ireturn h hr dX3_byteAt_35 (Or.inl rfl) ⟨Nat.le_refl _, Nat.le_refl _⟩
