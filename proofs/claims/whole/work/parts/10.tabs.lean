/-! Log, Table, Text -/
theorem c_lclear {d : Nat} {σ : Mm} {m : Nat} (hm : m < 2) : Ct d mX1_clear 1 [vR 8 m] NALL σ none NALL (up3 σ 8 m 1 0) 0 0 := by
  refine ct_of (by decide) (Nat.le_of_ble_eq_true rfl) (fun C h hr _ => ?_)
  have h : Ok C RX1 cX1_clear 1 _ := h
  refine x_aload_n h dX1_clear_0 rfl ?_
  refine x_iconst h dX1_clear_1 ?_
  refine x_put h fl_1_15 (lvm_8 (by omega)) dX1_clear_2 rfl (fun z => absurd z (by decide)) ?_
  exact x_return h hr dX1_clear_5 ⟨Nat.le_refl _, Nat.le_refl _⟩
/-- something is noted behind b others -/
def noteS (σ : Mm) (m b : Nat) (x0 x1 x2 x3 : Int) : Mm := if b < 100 then up3 (up3 (up3 (up3 (up3 σ 18 m (4 * b) x0) 18 m (4 * b + 1) x1) 18 m (4 * b + 2) x2) 18 m (4 * b + 3) x3) 8 m 1 (b + 1) else up3 σ 8 m 1 (b + 1)
theorem c_note {d : Nat} {σ : Mm} {m b : Nat} {x0 x1 x2 x3 : Int} (hm : m < 2) (hb : σ 8 m 1 = b) (hb2 : b < 2147483648) : Ct (d + 1) mX1_note 1 [vR 8 m, vL x0, vL x1, vL x2, vL x3] NALL σ none NALL (noteS σ m b x0 x1 x2 x3) 0 0 := by
  refine ct_of (by decide) (Nat.le_of_ble_eq_true rfl) (fun C h hr _ => ?_)
  have h : Ok C RX1 cX1_note 9 _ := h
  rcases Nat.lt_or_ge b 100 with hlt | hge
  · unfold noteS at hr
    rw [if_pos hlt] at hr
    refine x_aload_n h dX1_note_0 rfl ?_
    refine x_get (q := vI (b)) h fl_1_15 (lvm_8 (by omega)) dX1_note_1 (congrArg vI (by first | exact hb | simp [up3, hb])) ?_
    refine x_if_lt_F (tgt := 80) h (by omega) dX1_note_4 (by decide) (by omega) ?_
    refine x_aload_n h dX1_note_7 rfl ?_
    refine x_get (q := vI (b)) h fl_1_15 (lvm_8 (by omega)) dX1_note_8 (congrArg vI (by first | exact hb | simp [up3, hb])) ?_
    refine x_bipush h dX1_note_11 (by decide) ?_
    refine x_ic_ge_F (tgt := 80) h (by omega) dX1_note_13 (by decide) (by omega) ?_
    refine x_aload_n h dX1_note_16 rfl ?_
    refine x_get h fl_1_11 (lvm_8 (by omega)) dX1_note_17 (pvf_718 _ _) ?_
    refine x_iconst h dX1_note_20 ?_
    refine x_aload_n h dX1_note_21 rfl ?_
    refine x_get (q := vI (b)) h fl_1_15 (lvm_8 (by omega)) dX1_note_22 (congrArg vI (by first | exact hb | simp [up3, hb])) ?_
    refine x_imul h dX1_note_25 ?_
    refine x_lload_n h dX1_note_26 rfl ?_
    refine x_cN0 h kSX9_put_ lkNX1_19 dX1_note_27 (c_putL (d := d) kdf_18 (lvm_18 hm) (k := 4 * b) (by omega)) rfl rfl (Nat.le_of_ble_eq_true rfl) (by omega) ?_
    refine x_aload_n h dX1_note_30 rfl ?_
    refine x_get h fl_1_11 (lvm_8 (by omega)) dX1_note_31 (pvf_718 _ _) ?_
    refine x_iconst h dX1_note_34 ?_
    refine x_aload_n h dX1_note_35 rfl ?_
    refine x_get (q := vI (b)) h fl_1_15 (lvm_8 (by omega)) dX1_note_36 (congrArg vI (by first | exact hb | simp [up3, hb])) ?_
    refine x_imul h dX1_note_39 ?_
    refine x_iconst h dX1_note_40 ?_
    refine x_iadd h dX1_note_41 ?_
    refine x_lload_n h dX1_note_42 rfl ?_
    refine x_cN0 h kSX9_put_ lkNX1_19 dX1_note_43 (c_putL (d := d) kdf_18 (lvm_18 hm) (k := 4 * b + 1) (by omega)) rfl rfl (Nat.le_of_ble_eq_true rfl) (by omega) ?_
    refine x_aload_n h dX1_note_46 rfl ?_
    refine x_get h fl_1_11 (lvm_8 (by omega)) dX1_note_47 (pvf_718 _ _) ?_
    refine x_iconst h dX1_note_50 ?_
    refine x_aload_n h dX1_note_51 rfl ?_
    refine x_get (q := vI (b)) h fl_1_15 (lvm_8 (by omega)) dX1_note_52 (congrArg vI (by first | exact hb | simp [up3, hb])) ?_
    refine x_imul h dX1_note_55 ?_
    refine x_iconst h dX1_note_56 ?_
    refine x_iadd h dX1_note_57 ?_
    refine x_lload h dX1_note_58 rfl ?_
    refine x_cN0 h kSX9_put_ lkNX1_19 dX1_note_60 (c_putL (d := d) kdf_18 (lvm_18 hm) (k := 4 * b + 2) (by omega)) rfl rfl (Nat.le_of_ble_eq_true rfl) (by omega) ?_
    refine x_aload_n h dX1_note_63 rfl ?_
    refine x_get h fl_1_11 (lvm_8 (by omega)) dX1_note_64 (pvf_718 _ _) ?_
    refine x_iconst h dX1_note_67 ?_
    refine x_aload_n h dX1_note_68 rfl ?_
    refine x_get (q := vI (b)) h fl_1_15 (lvm_8 (by omega)) dX1_note_69 (congrArg vI (by first | exact hb | simp [up3, hb])) ?_
    refine x_imul h dX1_note_72 ?_
    refine x_iconst h dX1_note_73 ?_
    refine x_iadd h dX1_note_74 ?_
    refine x_lload h dX1_note_75 rfl ?_
    refine x_cN0 h kSX9_put_ lkNX1_19 dX1_note_77 (c_putL (d := d) kdf_18 (lvm_18 hm) (k := 4 * b + 3) (by omega)) rfl rfl (Nat.le_of_ble_eq_true rfl) (by omega) ?_
    refine x_aload_n h dX1_note_80 rfl ?_
    refine x_dup h dX1_note_81 rfl ?_
    refine x_get (q := vI (b)) h fl_1_15 (lvm_8 (by omega)) dX1_note_82 (congrArg vI (by first | exact hb | simp [up3, hb])) ?_
    refine x_iconst h dX1_note_85 ?_
    refine x_iadd h dX1_note_86 ?_
    refine x_put h fl_1_15 (lvm_8 (by omega)) dX1_note_87 rfl (fun z => absurd z (by decide)) ?_
    exact x_return h hr dX1_note_90 ⟨Nat.le_refl _, Nat.le_refl _⟩
  · unfold noteS at hr
    rw [if_neg (by omega)] at hr
    refine x_aload_n h dX1_note_0 rfl ?_
    refine x_get (q := vI (b)) h fl_1_15 (lvm_8 (by omega)) dX1_note_1 (congrArg vI (by first | exact hb | simp [up3, hb])) ?_
    refine x_if_lt_F (tgt := 80) h (by omega) dX1_note_4 (by decide) (by omega) ?_
    refine x_aload_n h dX1_note_7 rfl ?_
    refine x_get (q := vI (b)) h fl_1_15 (lvm_8 (by omega)) dX1_note_8 (congrArg vI (by first | exact hb | simp [up3, hb])) ?_
    refine x_bipush h dX1_note_11 (by decide) ?_
    refine x_ic_ge_T (tgt := 80) h (by omega) dX1_note_13 (by decide) (by omega) ?_
    refine x_aload_n h dX1_note_80 rfl ?_
    refine x_dup h dX1_note_81 rfl ?_
    refine x_get (q := vI (b)) h fl_1_15 (lvm_8 (by omega)) dX1_note_82 (congrArg vI (by first | exact hb | simp [up3, hb])) ?_
    refine x_iconst h dX1_note_85 ?_
    refine x_iadd h dX1_note_86 ?_
    refine x_put h fl_1_15 (lvm_8 (by omega)) dX1_note_87 rfl (fun z => absurd z (by decide)) ?_
    exact x_return h hr dX1_note_90 ⟨Nat.le_refl _, Nat.le_refl _⟩
theorem c_keepsT {d : Nat} {σ : Mm} {m b i : Nat} (hm : m < 2) (hb : σ 8 m 1 = b) (hb2 : b < 2147483648) (h1 : i < b) (h2 : i < 100) : Ct d mX1_keeps 1 [vR 8 m, vI i] NALL σ (some (vI 1)) NALL σ 0 0 := by
  refine ct_of (by decide) (Nat.le_of_ble_eq_true rfl) (fun C h hr _ => ?_)
  have h : Ok C RX1 cX1_keeps 2 _ := h
  refine x_iload_n h dX1_keeps_0 rfl ?_
  refine x_if_lt_F (tgt := 22) h (by omega) dX1_keeps_1 (by decide) (by omega) ?_
  refine x_iload_n h dX1_keeps_4 rfl ?_
  refine x_aload_n h dX1_keeps_5 rfl ?_
  refine x_get (q := vI (b)) h fl_1_15 (lvm_8 (by omega)) dX1_keeps_6 (congrArg vI (by first | exact hb | simp [up3, hb])) ?_
  refine x_ic_ge_F (tgt := 22) h (by omega) dX1_keeps_9 (by decide) (by omega) ?_
  refine x_iload_n h dX1_keeps_12 rfl ?_
  refine x_bipush h dX1_keeps_13 (by decide) ?_
  refine x_ic_ge_F (tgt := 22) h (by omega) dX1_keeps_15 (by decide) (by omega) ?_
  refine x_iconst h dX1_keeps_18 ?_
  refine x_goto (tgt := 23) h dX1_keeps_19 (by decide) ?_
  exact x_ireturn h hr dX1_keeps_23 (Or.inr ⟨rfl, by omega⟩) ⟨Nat.le_refl _, Nat.le_refl _⟩
theorem c_keepsF {d : Nat} {σ : Mm} {m b : Nat} {i : Int} (hm : m < 2) (hb : σ 8 m 1 = b) (hb2 : b < 2147483648) (hi : -2147483648 ≤ i ∧ i < 2147483648) (h1 : i < 0 ∨ b ≤ i ∨ 100 ≤ i) : Ct d mX1_keeps 1 [vR 8 m, vI i] NALL σ (some (vI 0)) NALL σ 0 0 := by
  refine ct_of (by decide) (Nat.le_of_ble_eq_true rfl) (fun C h hr _ => ?_)
  have h : Ok C RX1 cX1_keeps 2 _ := h
  refine x_iload_n h dX1_keeps_0 rfl ?_
  refine x_if_lt (tgt := 22) h (by omega) dX1_keeps_1 (by decide) (fun hc => ?_) (fun hc => ?_)
  · refine x_iconst h dX1_keeps_22 ?_
    exact x_ireturn h hr dX1_keeps_23 (Or.inr ⟨rfl, by omega⟩) ⟨Nat.le_refl _, Nat.le_refl _⟩
  · refine x_iload_n h dX1_keeps_4 rfl ?_
    refine x_aload_n h dX1_keeps_5 rfl ?_
    refine x_get (q := vI (b)) h fl_1_15 (lvm_8 (by omega)) dX1_keeps_6 (congrArg vI (by first | exact hb | simp [up3, hb])) ?_
    refine x_ic_ge (tgt := 22) h (by omega) dX1_keeps_9 (by decide) (fun hc => ?_) (fun hc => ?_)
    · refine x_iconst h dX1_keeps_22 ?_
      exact x_ireturn h hr dX1_keeps_23 (Or.inr ⟨rfl, by omega⟩) ⟨Nat.le_refl _, Nat.le_refl _⟩
    · refine x_iload_n h dX1_keeps_12 rfl ?_
      refine x_bipush h dX1_keeps_13 (by decide) ?_
      refine x_ic_ge_T (tgt := 22) h (by omega) dX1_keeps_15 (by decide) (by omega) ?_
      refine x_iconst h dX1_keeps_22 ?_
      exact x_ireturn h hr dX1_keeps_23 (Or.inr ⟨rfl, by omega⟩) ⟨Nat.le_refl _, Nat.le_refl _⟩
theorem c_told {d : Nat} {σ : Mm} {m i c : Nat} (hm : m < 2) (hi : i < 100) (hc : c < 4) : Ct (d + 1) mX1_told 1 [vR 8 m, vI i, vI c] NALL σ (some (vL (σ 18 m (4 * i + c)))) NALL σ 0 0 := by
  refine ct_of (by decide) (Nat.le_of_ble_eq_true rfl) (fun C h hr _ => ?_)
  have h : Ok C RX1 cX1_told 3 _ := h
  refine x_aload_n h dX1_told_0 rfl ?_
  refine x_get h fl_1_11 (lvm_8 (by omega)) dX1_told_1 (pvf_718 _ _) ?_
  refine x_iconst h dX1_told_4 ?_
  refine x_iload_n h dX1_told_5 rfl ?_
  refine x_imul h dX1_told_6 ?_
  refine x_iload_n h dX1_told_7 rfl ?_
  refine x_iadd h dX1_told_8 ?_
  refine x_cN1 h kSX9_at_ lkNX1_23 dX1_told_9 (c_atL (d := d) kdf_18 (lvm_18 hm) (k := 4 * i + c) (by omega)) rfl rfl (Nat.le_of_ble_eq_true rfl) (by omega) ?_
  exact x_lreturn h hr dX1_told_12 ⟨Nat.le_refl _, Nat.le_refl _⟩
/-- TABLES' own numbers -/
def entsZ (s : Int) : Int := max 0 (min 200 s)
theorem c_entriesInAll {d : Nat} {σ : Mm} {m : Nat} (hm : m < 24) (hs : -9223372036854775808 ≤ σ 5 m 4 ∧ σ 5 m 4 < 9223372036854775808) : Ct (d + 1) mX2_entriesInAll 1 [vR 5 m] NALL σ (some (vI (entsZ (σ 5 m 4)))) NALL σ 0 0 := by
  refine ct_of (by decide) (Nat.le_of_ble_eq_true rfl) (fun C h hr _ => ?_)
  have h : Ok C RX2 cX2_entriesInAll 1 _ := h
  refine x_lconst0 h dX2_entriesInAll_0 ?_
  refine x_ldc2 (x := 200) h dX2_entriesInAll_1 klX2_47 (by decide) ?_
  refine x_aload_n h dX2_entriesInAll_4 rfl ?_
  refine x_get h fl_2_30 (lvm_5 (by omega)) dX2_entriesInAll_5 rfl ?_
  refine x_mathminL h (by omega) lkX2_49 (by omega) dX2_entriesInAll_8 (Nat.le_of_ble_eq_true rfl) ⟨Nat.zero_le _, Nat.zero_le _⟩ ?_
  refine x_mathmaxL h (by omega) lkX2_55 (by omega) dX2_entriesInAll_11 (Nat.le_of_ble_eq_true rfl) ⟨Nat.zero_le _, Nat.zero_le _⟩ ?_
  refine x_l2i h dX2_entriesInAll_14 ?_
  exact x_ireturn h hr dX2_entriesInAll_15 (Or.inl rfl) ⟨Nat.le_refl _, Nat.le_refl _⟩
theorem entsZ_r (s : Int) : 0 ≤ entsZ s ∧ entsZ s ≤ 200 := by unfold entsZ; omega
theorem c_rowsInAll {d : Nat} {σ : Mm} {m : Nat} (hm : m < 24) (hs : -9223372036854775808 ≤ σ 5 m 4 ∧ σ 5 m 4 < 9223372036854775808) : Ct (d + 2) mX2_rowsInAll 1 [vR 5 m] NALL σ (some (vI ((entsZ (σ 5 m 4) + 7) / 8))) NALL σ 0 0 := by
  refine ct_of (by decide) (Nat.le_of_ble_eq_true rfl) (fun C h hr _ => ?_)
  have h : Ok C RX2 cX2_rowsInAll 1 _ := h
  have e := entsZ_r (σ 5 m 4)
  refine x_aload_n h dX2_rowsInAll_0 rfl ?_
  refine x_cV1 h kVX2_entriesInAll lkX2_58 ⟨_, _, _, rfl, rfl⟩ dX2_rowsInAll_1 (c_entriesInAll (d := d) hm hs) (lvm_5 (by omega)) rfl rfl (Nat.le_of_ble_eq_true rfl) (by omega) ?_
  refine x_bipush h dX2_rowsInAll_4 (by decide) ?_
  refine x_iadd h dX2_rowsInAll_6 ?_
  refine x_iconst h dX2_rowsInAll_7 ?_
  refine x_isub h dX2_rowsInAll_8 ?_
  refine x_bipush h dX2_rowsInAll_9 (by decide) ?_
  refine x_idivP h (by omega) dX2_rowsInAll_11 ?_
  rw [show entsZ (σ 5 m 4) + 8 - 1 = entsZ (σ 5 m 4) + 7 by omega]
  exact x_ireturn h hr dX2_rowsInAll_12 (Or.inl rfl) ⟨Nat.le_refl _, Nat.le_refl _⟩
theorem c_endOfRow {d : Nat} {σ : Mm} {m : Nat} {r : Nat} (hm : m < 24) (hs : -9223372036854775808 ≤ σ 5 m 4 ∧ σ 5 m 4 < 9223372036854775808) (hr2 : r < 1000) : Ct (d + 2) mX2_endOfRow 1 [vR 5 m, vI r] NALL σ (some (vI (min (entsZ (σ 5 m 4)) (8 * r + 8)))) NALL σ 0 0 := by
  refine ct_of (by decide) (Nat.le_of_ble_eq_true rfl) (fun C h hr _ => ?_)
  have h : Ok C RX2 cX2_endOfRow 2 _ := h
  have e := entsZ_r (σ 5 m 4)
  refine x_aload_n h dX2_endOfRow_0 rfl ?_
  refine x_cV1 h kVX2_entriesInAll lkX2_58 ⟨_, _, _, rfl, rfl⟩ dX2_endOfRow_1 (c_entriesInAll (d := d) hm hs) (lvm_5 (by omega)) rfl rfl (Nat.le_of_ble_eq_true rfl) (by omega) ?_
  refine x_bipush h dX2_endOfRow_4 (by decide) ?_
  refine x_iload_n h dX2_endOfRow_6 rfl ?_
  refine x_imul h dX2_endOfRow_7 ?_
  refine x_bipush h dX2_endOfRow_8 (by decide) ?_
  refine x_iadd h dX2_endOfRow_10 ?_
  refine x_mathmin h (by omega) lkX2_62 (by omega) dX2_endOfRow_11 (Nat.le_of_ble_eq_true rfl) ⟨Nat.zero_le _, Nat.zero_le _⟩ ?_
  exact x_ireturn h hr dX2_endOfRow_14 (Or.inl rfl) ⟨Nat.le_refl _, Nat.le_refl _⟩
def zeroA (σ : Mm) (f m len : Nat) : Mm := fun f' k' j' => if f' = f ∧ k' = m ∧ j' < len then 0 else σ f' k' j'
theorem zeroA_0 (σ : Mm) (f m : Nat) : zeroA σ f m 0 = σ := by
  funext f' k' j'
  unfold zeroA
  rw [if_neg (by omega)]
theorem zeroA_s (σ : Mm) (f m len : Nat) : up3 (zeroA σ f m len) f m len 0 = zeroA σ f m (len + 1) := by
  funext f' k' j'
  show (if f' = f ∧ k' = m ∧ j' = len then (0 : Int) else (if f' = f ∧ k' = m ∧ j' < len then 0 else σ f' k' j')) = (if f' = f ∧ k' = m ∧ j' < len + 1 then 0 else σ f' k' j')
  by_cases h : f' = f ∧ k' = m ∧ j' = len
  · rw [if_pos h, if_pos ⟨h.1, h.2.1, by omega⟩]
  · rw [if_neg h]
    by_cases h2 : f' = f ∧ k' = m ∧ j' < len
    · rw [if_pos h2, if_pos ⟨h2.1, h2.2.1, by omega⟩]
    · rw [if_neg h2, if_neg (by omega)]
def sleepT (σ : Mm) (m : Nat) : Mm := zeroA (up3 σ 5 m 8 0) 17 m 25
theorem c_tsleep {d : Nat} {σ : Mm} {m : Nat} (hm : m < 24) : Ct d mX2_putToSleep 1 [vR 5 m] NALL σ none NALL (sleepT σ m) 0 0 := by
  refine ct_of (by decide) (Nat.le_of_ble_eq_true rfl) (fun C h hr _ => ?_)
  have h : Ok C RX2 cX2_putToSleep 2 _ := h
  have loop : ∀ (c k : Nat) (ls : List (Nat × PV)), k + c = 25 → lsub [(0, vR 5 m), (1, vI k)] ls → X C 1 7 ls [] NALL (zeroA (up3 σ 5 m 8 0) 17 m k) 0 0 := by
    intro c
    induction c with
    | zero =>
      intro k ls hk hls
      refine x_loc hls ?_
      obtain rfl : k = 25 := by omega
      refine x_iload_n h dX2_putToSleep_7 rfl ?_
      refine x_aload_n h dX2_putToSleep_8 rfl ?_
      refine x_get h fl_2_22 (lvm_5 (by omega)) dX2_putToSleep_9 (pvf_717 _ _) ?_
      refine x_alen h kdf_17 (by decide) (lvm_17 (by omega)) dX2_putToSleep_12 ?_
      refine x_ic_ge_T (tgt := 29) h (by omega) dX2_putToSleep_13 (by decide) (by omega) ?_
      exact x_return h hr dX2_putToSleep_29 ⟨Nat.le_refl _, Nat.le_refl _⟩
    | succ c ih =>
      intro k ls hk hls
      refine x_loc hls ?_
      refine x_iload_n h dX2_putToSleep_7 rfl ?_
      refine x_aload_n h dX2_putToSleep_8 rfl ?_
      refine x_get h fl_2_22 (lvm_5 (by omega)) dX2_putToSleep_9 (pvf_717 _ _) ?_
      refine x_alen h kdf_17 (by decide) (lvm_17 (by omega)) dX2_putToSleep_12 ?_
      refine x_ic_ge_F (tgt := 29) h (by omega) dX2_putToSleep_13 (by decide) (by omega) ?_
      refine x_aload_n h dX2_putToSleep_16 rfl ?_
      refine x_get h fl_2_22 (lvm_5 (by omega)) dX2_putToSleep_17 (pvf_717 _ _) ?_
      refine x_iload_n h dX2_putToSleep_20 rfl ?_
      refine x_iconst h dX2_putToSleep_21 ?_
      refine x_iast h kdf_17 (lvm_17 (by omega)) dX2_putToSleep_22 rfl (by omega) ?_
      rw [zeroA_s]
      refine x_iinc h dX2_putToSleep_23 rfl (by decide) ?_
      refine x_goto (tgt := 7) h dX2_putToSleep_26 (by decide) ?_
      exact ih (k + 1) _ (by omega) ⟨rfl, rfl, trivial⟩
  refine x_aload_n h dX2_putToSleep_0 rfl ?_
  refine x_iconst h dX2_putToSleep_1 ?_
  refine x_put h fl_2_43 (lvm_5 (by omega)) dX2_putToSleep_2 rfl (fun z => absurd z (by decide)) ?_
  refine x_iconst h dX2_putToSleep_5 ?_
  refine x_istore_n h dX2_putToSleep_6 (by decide) ?_
  refine x_mem (zeroA_0 _ 17 m).symm ?_
  exact loop 25 0 _ rfl ⟨rfl, rfl, trivial⟩
theorem c_tclear {d : Nat} {σ : Mm} {m : Nat} (hm : m < 24) : Ct d mX2_clearEntries 1 [vR 5 m] NALL σ none NALL (zeroA σ 16 m 200) 0 0 := by
  refine ct_of (by decide) (Nat.le_of_ble_eq_true rfl) (fun C h hr _ => ?_)
  have h : Ok C RX2 cX2_clearEntries 2 _ := h
  have loop : ∀ (c k : Nat) (ls : List (Nat × PV)), k + c = 200 → lsub [(0, vR 5 m), (1, vI k)] ls → X C 1 2 ls [] NALL (zeroA σ 16 m k) 0 0 := by
    intro c
    induction c with
    | zero =>
      intro k ls hk hls
      refine x_loc hls ?_
      obtain rfl : k = 200 := by omega
      refine x_iload_n h dX2_clearEntries_2 rfl ?_
      refine x_aload_n h dX2_clearEntries_3 rfl ?_
      refine x_get h fl_2_18 (lvm_5 (by omega)) dX2_clearEntries_4 (pvf_716 _ _) ?_
      refine x_alen h kdf_16 (by decide) (lvm_16 (by omega)) dX2_clearEntries_7 ?_
      refine x_ic_ge_T (tgt := 24) h (by omega) dX2_clearEntries_8 (by decide) (by omega) ?_
      exact x_return h hr dX2_clearEntries_24 ⟨Nat.le_refl _, Nat.le_refl _⟩
    | succ c ih =>
      intro k ls hk hls
      refine x_loc hls ?_
      refine x_iload_n h dX2_clearEntries_2 rfl ?_
      refine x_aload_n h dX2_clearEntries_3 rfl ?_
      refine x_get h fl_2_18 (lvm_5 (by omega)) dX2_clearEntries_4 (pvf_716 _ _) ?_
      refine x_alen h kdf_16 (by decide) (lvm_16 (by omega)) dX2_clearEntries_7 ?_
      refine x_ic_ge_F (tgt := 24) h (by omega) dX2_clearEntries_8 (by decide) (by omega) ?_
      refine x_aload_n h dX2_clearEntries_11 rfl ?_
      refine x_get h fl_2_18 (lvm_5 (by omega)) dX2_clearEntries_12 (pvf_716 _ _) ?_
      refine x_iload_n h dX2_clearEntries_15 rfl ?_
      refine x_lconst0 h dX2_clearEntries_16 ?_
      refine x_last h kdf_16 (lvm_16 (by omega)) dX2_clearEntries_17 rfl (by omega) ?_
      rw [zeroA_s]
      refine x_iinc h dX2_clearEntries_18 rfl (by decide) ?_
      refine x_goto (tgt := 2) h dX2_clearEntries_21 (by decide) ?_
      exact ih (k + 1) _ (by omega) ⟨rfl, rfl, trivial⟩
  refine x_iconst h dX2_clearEntries_0 ?_
  refine x_istore_n h dX2_clearEntries_1 (by decide) ?_
  refine x_mem (zeroA_0 σ 16 m).symm ?_
  exact loop 200 0 _ rfl ⟨rfl, rfl, trivial⟩
/-- how many entries of READY ROWS, of the first n -/
def rdySum (e : Int) (rc : Nat → Int) : Nat → Int
  | 0 => 0
  | r + 1 => rdySum e rc r + (if rc r = 2 then min e (8 * r + 8) - 8 * r else 0)
def rdyT (cond by_ size : Int) (rc : Nat → Int) : Int := if cond = 2 then (if by_ = 0 then entsZ size else rdySum (entsZ size) rc ((entsZ size + 7) / 8).toNat) else 0
theorem rdySum_r {e : Int} {rc : Nat → Int} (he : 0 ≤ e ∧ e ≤ 200) : ∀ n : Nat, (n : Int) ≤ (e + 7) / 8 → 0 ≤ rdySum e rc n ∧ rdySum e rc n ≤ 8 * n := by
  intro n
  induction n with
  | zero => intro _; exact ⟨Int.le_refl _, by show (0 : Int) ≤ _; omega⟩
  | succ n ih =>
    intro h
    have h1 := ih (by omega)
    unfold rdySum
    split <;> omega
theorem c_readyEntries {d : Nat} {σ : Mm} {m : Nat} (hm : m < 24) (hs : -9223372036854775808 ≤ σ 5 m 4 ∧ σ 5 m 4 < 9223372036854775808) (hc : 0 ≤ σ 5 m 8 ∧ σ 5 m 8 ≤ 3) (hb : 0 ≤ σ 5 m 5 ∧ σ 5 m 5 ≤ 1) (hrc : ∀ r, r < 25 → 0 ≤ σ 17 m r ∧ σ 17 m r ≤ 3) : Ct (d + 3) mX2_readyEntries 1 [vR 5 m] NALL σ (some (vI (rdyT (σ 5 m 8) (σ 5 m 5) (σ 5 m 4) (σ 17 m)))) NALL σ 0 0 := by
  refine ct_of (by decide) (Nat.le_of_ble_eq_true rfl) (fun C h hr _ => ?_)
  have h : Ok C RX2 cX2_readyEntries 3 _ := h
  have e := entsZ_r (σ 5 m 4)
  refine x_aload_n h dX2_readyEntries_0 rfl ?_
  refine x_get h fl_2_43 (lvm_5 (by omega)) dX2_readyEntries_1 rfl ?_
  refine x_iconst h dX2_readyEntries_4 ?_
  refine x_ic_eq (tgt := 10) h (by omega) dX2_readyEntries_5 (by decide) (fun hc2 => ?_) (fun hc2 => ?_)
  · refine x_aload_n h dX2_readyEntries_10 rfl ?_
    refine x_get h fl_2_33 (lvm_5 (by omega)) dX2_readyEntries_11 rfl ?_
    refine x_if_ne (tgt := 22) h (by omega) dX2_readyEntries_14 (by decide) (fun hb2 => ?_) (fun hb2 => ?_)
    · have loop : ∀ (c k : Nat) (ls : List (Nat × PV)), (k : Int) + c = (entsZ (σ 5 m 4) + 7) / 8 → lsub [(0, vR 5 m), (1, vI (rdySum (entsZ (σ 5 m 4)) (σ 17 m) k)), (2, vI k)] ls → X C 1 26 ls [] NALL σ 0 0 := by
        intro c
        induction c with
        | zero =>
          intro k ls hk hls
          refine x_loc hls ?_
          have hval : rdyT (σ 5 m 8) (σ 5 m 5) (σ 5 m 4) (σ 17 m) = rdySum (entsZ (σ 5 m 4)) (σ 17 m) k := by
            unfold rdyT
            rw [if_pos (by omega), if_neg (by omega), show ((entsZ (σ 5 m 4) + 7) / 8).toNat = k by omega]
          rw [hval] at hr
          refine x_iload_n h dX2_readyEntries_26 rfl ?_
          refine x_aload_n h dX2_readyEntries_27 rfl ?_
          refine x_cV1 h kVX2_rowsInAll lkX2_65 ⟨_, _, _, rfl, rfl⟩ dX2_readyEntries_28 (c_rowsInAll (d := d) hm hs) (lvm_5 (by omega)) rfl rfl (Nat.le_of_ble_eq_true rfl) (by omega) ?_
          refine x_ic_ge_T (tgt := 65) h (by omega) dX2_readyEntries_31 (by decide) (by omega) ?_
          refine x_iload_n h dX2_readyEntries_65 rfl ?_
          exact x_ireturn h hr dX2_readyEntries_66 (Or.inl rfl) ⟨Nat.le_refl _, Nat.le_refl _⟩
        | succ c ih =>
          intro k ls hk hls
          refine x_loc hls ?_
          have hrk := hrc k (by omega)
          have hs2 := rdySum_r (rc := σ 17 m) e k (by omega)
          refine x_iload_n h dX2_readyEntries_26 rfl ?_
          refine x_aload_n h dX2_readyEntries_27 rfl ?_
          refine x_cV1 h kVX2_rowsInAll lkX2_65 ⟨_, _, _, rfl, rfl⟩ dX2_readyEntries_28 (c_rowsInAll (d := d) hm hs) (lvm_5 (by omega)) rfl rfl (Nat.le_of_ble_eq_true rfl) (by omega) ?_
          refine x_ic_ge_F (tgt := 65) h (by omega) dX2_readyEntries_31 (by decide) (by omega) ?_
          refine x_aload_n h dX2_readyEntries_34 rfl ?_
          refine x_get h fl_2_22 (lvm_5 (by omega)) dX2_readyEntries_35 (pvf_717 _ _) ?_
          refine x_iload_n h dX2_readyEntries_38 rfl ?_
          refine x_cN1 h kSX9_at lkNX2_68 dX2_readyEntries_39 (c_at (d := d) (k := k) kdf_17 (lvm_17 hm) (by omega)) rfl rfl (Nat.le_of_ble_eq_true rfl) (by omega) ?_
          refine x_iconst h dX2_readyEntries_42 ?_
          refine x_ic_ne (tgt := 59) h (by omega) dX2_readyEntries_43 (by decide) (fun hq => ?_) (fun hq => ?_)
          · refine x_iinc h dX2_readyEntries_59 rfl (by decide) ?_
            refine x_goto (tgt := 26) h dX2_readyEntries_62 (by decide) ?_
            refine ih (k + 1) _ (by omega) ⟨rfl, ?_, rfl, trivial⟩
            show some (vI (rdySum (entsZ (σ 5 m 4)) (σ 17 m) k)) = some (vI (rdySum (entsZ (σ 5 m 4)) (σ 17 m) (k + 1)))
            rw [show rdySum (entsZ (σ 5 m 4)) (σ 17 m) (k + 1) = rdySum (entsZ (σ 5 m 4)) (σ 17 m) k by rw [rdySum, if_neg hq, Int.add_zero]]
          · refine x_iload_n h dX2_readyEntries_46 rfl ?_
            refine x_aload_n h dX2_readyEntries_47 rfl ?_
            refine x_iload_n h dX2_readyEntries_48 rfl ?_
            refine x_cV1 h kVX2_endOfRow lkX2_72 ⟨_, _, _, rfl, rfl⟩ dX2_readyEntries_49 (c_endOfRow (d := d) (r := k) hm hs (by omega)) (lvm_5 (by omega)) rfl rfl (Nat.le_of_ble_eq_true rfl) (by omega) ?_
            refine x_bipush h dX2_readyEntries_52 (by decide) ?_
            refine x_iload_n h dX2_readyEntries_54 rfl ?_
            refine x_imul h dX2_readyEntries_55 ?_
            refine x_isub h dX2_readyEntries_56 ?_
            refine x_iadd h dX2_readyEntries_57 ?_
            refine x_istore_n h dX2_readyEntries_58 (by decide) ?_
            refine x_iinc h dX2_readyEntries_59 rfl (by decide) ?_
            refine x_goto (tgt := 26) h dX2_readyEntries_62 (by decide) ?_
            refine ih (k + 1) _ (by omega) ⟨rfl, ?_, rfl, trivial⟩
            show some (vI (rdySum (entsZ (σ 5 m 4)) (σ 17 m) k + (min (entsZ (σ 5 m 4)) (8 * k + 8) - 8 * k))) = some (vI (rdySum (entsZ (σ 5 m 4)) (σ 17 m) (k + 1)))
            rw [show rdySum (entsZ (σ 5 m 4)) (σ 17 m) (k + 1) = rdySum (entsZ (σ 5 m 4)) (σ 17 m) k + (min (entsZ (σ 5 m 4)) (8 * k + 8) - 8 * k) by rw [rdySum, if_pos (by omega)]]
      refine x_iconst h dX2_readyEntries_22 ?_
      refine x_istore_n h dX2_readyEntries_23 (by decide) ?_
      refine x_iconst h dX2_readyEntries_24 ?_
      refine x_istore_n h dX2_readyEntries_25 (by decide) ?_
      exact loop ((entsZ (σ 5 m 4) + 7) / 8).toNat 0 _ (by omega) ⟨rfl, rfl, rfl, trivial⟩
    · have hval : rdyT (σ 5 m 8) (σ 5 m 5) (σ 5 m 4) (σ 17 m) = entsZ (σ 5 m 4) := by
        unfold rdyT
        rw [if_pos (by omega), if_pos (by omega)]
      rw [hval] at hr
      refine x_aload_n h dX2_readyEntries_17 rfl ?_
      refine x_cV1 h kVX2_entriesInAll lkX2_58 ⟨_, _, _, rfl, rfl⟩ dX2_readyEntries_18 (c_entriesInAll (d := d) hm hs) (lvm_5 (by omega)) rfl rfl (Nat.le_of_ble_eq_true rfl) (by omega) ?_
      exact x_ireturn h hr dX2_readyEntries_21 (Or.inl rfl) ⟨Nat.le_refl _, Nat.le_refl _⟩
  · have hval : rdyT (σ 5 m 8) (σ 5 m 5) (σ 5 m 4) (σ 17 m) = 0 := by
      unfold rdyT
      rw [if_neg hc2]
    rw [hval] at hr
    refine x_iconst h dX2_readyEntries_8 ?_
    exact x_ireturn h hr dX2_readyEntries_9 (Or.inl rfl) ⟨Nat.le_refl _, Nat.le_refl _⟩
