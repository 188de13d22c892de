/-! the reference's calls that only look -/
/-- the reference, at rest -/
def RI (n L : Nat) (B : Nat → Int) (S : Sd) (D : Mm) (q : Nat) (why : Int) (σ : Mm) : Prop := TapeM σ L ∧ tB σ 30 L = B ∧ SRl S n σ ∧ HR n S D σ ∧ σ 10 0 53 = (q : Int) ∧ (1 ≤ q → σ 10 0 54 = why)
section MO
variable {n L q d : Nat} {B : Nat → Int} {S : Sd} {D σ : Mm} {why : Int}
theorem m_isTable {x : Int} (hn : σ 10 0 32 = (n : Int)) (hn12 : n ≤ 12) (hx : i32 x) : Ct (d + 1) mX10_isTable 1 [vR 10 0, vI x] NALL σ (some (vI (if isT n x then 1 else 0))) NALL σ 0 0 := by
  unfold i32 at hx
  have hin := m_in (d := d) (σ := σ) (v := x) (a := 0) (b := (n : Int) - 1) ⟨by omega, by omega⟩ i64z ⟨by omega, by omega⟩
  have e : (if (0 : Int) ≤ x ∧ x ≤ (n : Int) - 1 then (1 : Int) else 0) = if isT n x then 1 else 0 := by
    by_cases c : isT n x
    · rw [if_pos c, if_pos ⟨c.1, by have := c.2; omega⟩]
    · rw [if_neg c, if_neg (fun y => c ⟨y.1, by omega⟩)]
  rw [e] at hin
  refine ct_of (by decide) (Nat.le_of_ble_eq_true rfl) (fun C h hr _ => ?_)
  have h : Ok C RX10 cX10_isTable 2 _ := h
  refine x_iload_n h dX10_isTable_0 rfl ?_
  refine x_i2l h (by omega) dX10_isTable_1 ?_
  refine x_lconst0 h dX10_isTable_2 ?_
  refine x_aload_n h dX10_isTable_3 rfl ?_
  refine x_get (q := vI (n)) h fl_10_289 lvz_10 dX10_isTable_4 (congrArg vI (by first | exact hn | simp [up3, hn])) ?_
  refine x_iconst h dX10_isTable_7 ?_
  refine x_isub h dX10_isTable_8 ?_
  refine x_i2l h (by omega) dX10_isTable_9 ?_
  refine x_cS1 h kSX10_in lkX10_305 dX10_isTable_10 (hin) rfl rfl (Nat.le_of_ble_eq_true rfl) (by omega) ?_
  exact x_ireturn h hr dX10_isTable_13 (Or.inr ⟨rfl, by omega⟩) ⟨Nat.le_refl _, Nat.le_refl _⟩
theorem isTable_y {x : Int} (hn : σ 10 0 32 = (n : Int)) (hn12 : n ≤ 12) (hx : i32 x) (h : isT n x) : Ct (d + 1) mX10_isTable 1 [vR 10 0, vI x] NALL σ (some (vI 1)) NALL σ 0 0 := by
  have g := m_isTable (d := d) hn hn12 hx
  rw [if_pos h] at g
  exact g
theorem isTable_n {x : Int} (hn : σ 10 0 32 = (n : Int)) (hn12 : n ≤ 12) (hx : i32 x) (h : ¬ isT n x) : Ct (d + 1) mX10_isTable 1 [vR 10 0, vI x] NALL σ (some (vI 0)) NALL σ 0 0 := by
  have g := m_isTable (d := d) hn hn12 hx
  rw [if_neg h] at g
  exact g
theorem m9_named {w : Int} (h12 : n ≤ 12) (hI : RI n L B S D q why σ) (hw : i64 w) (hg : ∀ k, k < n → i64 (S k).1) : Ct d mX10_named 1 [vR 10 0, vL w] NALL σ (some (vI (nof (fun k => (S k).1) w n))) NALL σ 0 0 := by
  obtain ⟨hw1, hw2⟩ := hw
  obtain ⟨-, -, ⟨h32, hst⟩, -⟩ := hI
  refine ct_of (by decide) (Nat.le_of_ble_eq_true rfl) (fun C h hr _ => ?_)
  have h : Ok C RX10 cX10_named 4 _ := h
  have loop : ∀ (c k : Nat) (ls : List (Nat × PV)), k + c = n → nof (fun k => (S k).1) w n = nofR (fun k => (S k).1) w c k → lsub [(0, vR 10 0), (1, vL w), (3, vI k)] ls → X C 1 2 ls [] NALL σ 0 0 := by
    intro c
    induction c with
    | zero =>
      intro k ls hk hv hls
      refine x_loc hls ?_
      rw [hv, nofR] at hr
      refine x_iload_n h dX10_named_2 rfl ?_
      refine x_aload_n h dX10_named_3 rfl ?_
      refine x_get (q := vI (n)) h fl_10_289 lvz_10 dX10_named_4 (congrArg vI (by first | exact h32 | simp [up3, h32])) ?_
      refine x_ic_ge_T (tgt := 29) h (by omega) dX10_named_7 (by decide) (by omega) ?_
      refine x_bipush h dX10_named_29 (by decide) ?_
      exact x_ireturn h hr dX10_named_31 (Or.inl rfl) ⟨Nat.le_refl _, Nat.le_refl _⟩
    | succ c ih =>
      intro k ls hk hv hls
      refine x_loc hls ?_
      have hk' : k < n := by omega
      obtain ⟨hg1, hg2⟩ := hg k hk'
      have e63 := (hst k hk').1.1
      refine x_iload_n h dX10_named_2 rfl ?_
      refine x_aload_n h dX10_named_3 rfl ?_
      refine x_get (q := vI (n)) h fl_10_289 lvz_10 dX10_named_4 (congrArg vI (by first | exact h32 | simp [up3, h32])) ?_
      refine x_ic_ge_F (tgt := 29) h (by omega) dX10_named_7 (by decide) (by omega) ?_
      refine x_aload_n h dX10_named_10 rfl ?_
      refine x_get h fl_10_76 lvz_10 dX10_named_11 (pvf_563 _ _) ?_
      refine x_iload_n h dX10_named_14 rfl ?_
      refine x_lald h kdf_63 lvz_63 dX10_named_15 rfl (by omega) ?_
      rw [e63]
      refine x_lload_n h dX10_named_16 rfl ?_
      refine x_lc_ne (tgt := 23) h (by omega) dX10_named_17 dX10_named_18 (by decide) (fun hc => ?_) (fun hc => ?_)
      · refine x_iinc h dX10_named_23 rfl (by decide) ?_
        refine x_goto (tgt := 2) h dX10_named_26 (by decide) ?_
        exact ih (k + 1) _ (by omega) (by rw [hv, nofR, if_neg (by show ¬ ((S k).1 = w); omega)]) ⟨rfl, rfl, rfl, trivial⟩
      · rw [hv, nofR, if_pos (by show (S k).1 = w; omega)] at hr
        refine x_iload_n h dX10_named_21 rfl ?_
        exact x_ireturn h hr dX10_named_22 (Or.inl rfl) ⟨Nat.le_refl _, Nat.le_refl _⟩
  refine x_iconst h dX10_named_0 ?_
  refine x_istore_n h dX10_named_1 (by decide) ?_
  exact loop n 0 _ (by omega) rfl ⟨rfl, rfl, rfl, trivial⟩
theorem m9_size {x : Int} (h12 : n ≤ 12) (hI : RI n L B S D q why σ) (hx : i32 x) : Ct (d + 2) mX10_size 1 [vR 10 0, vI x] NALL σ (some (vI (if isT n x then sSz S x.toNat else -1))) NALL σ 0 0 := by
  obtain ⟨-, -, ⟨h32, hst⟩, -⟩ := hI
  by_cases c : isT n x
  · obtain ⟨k, rfl⟩ : ∃ k : Nat, x = (k : Int) := ⟨x.toNat, by have := c.1; omega⟩
    have hk : k < n := by have := c.2; omega
    rw [if_pos c, Int.toNat_natCast]
    have e67 := (hst k hk).1.2.2.2.2
    refine ct_of (by decide) (Nat.le_of_ble_eq_true rfl) (fun C h hr _ => ?_)
    have h : Ok C RX10 cX10_size 2 _ := h
    refine x_aload_n h dX10_size_0 rfl ?_
    refine x_iload_n h dX10_size_1 rfl ?_
    refine x_cV1 h kVX10_isTable lkX10_309 ⟨_, _, _, rfl, rfl⟩ dX10_size_2 (isTable_y (d := d) h32 h12 hx c) lvz_10 rfl rfl (Nat.le_of_ble_eq_true rfl) (by omega) ?_
    refine x_if_eq_F (tgt := 18) h (by omega) dX10_size_5 (by decide) (by omega) ?_
    refine x_aload_n h dX10_size_8 rfl ?_
    refine x_get h fl_10_88 lvz_10 dX10_size_9 (pvf_567 _ _) ?_
    refine x_iload_n h dX10_size_12 rfl ?_
    refine x_lald h kdf_67 lvz_67 dX10_size_13 rfl (by omega) ?_
    rw [e67]
    refine x_l2i h dX10_size_14 ?_
    refine x_goto (tgt := 19) h dX10_size_15 (by decide) ?_
    exact x_ireturn h hr dX10_size_19 (Or.inl rfl) ⟨Nat.le_refl _, Nat.le_refl _⟩
  · rw [if_neg c]
    refine ct_of (by decide) (Nat.le_of_ble_eq_true rfl) (fun C h hr _ => ?_)
    have h : Ok C RX10 cX10_size 2 _ := h
    refine x_aload_n h dX10_size_0 rfl ?_
    refine x_iload_n h dX10_size_1 rfl ?_
    refine x_cV1 h kVX10_isTable lkX10_309 ⟨_, _, _, rfl, rfl⟩ dX10_size_2 (isTable_n (d := d) h32 h12 hx c) lvz_10 rfl rfl (Nat.le_of_ble_eq_true rfl) (by omega) ?_
    refine x_if_eq_T (tgt := 18) h (by omega) dX10_size_5 (by decide) (by omega) ?_
    refine x_iconst h dX10_size_18 ?_
    exact x_ireturn h hr dX10_size_19 (Or.inl rfl) ⟨Nat.le_refl _, Nat.le_refl _⟩
theorem m9_state {x : Int} (h12 : n ≤ 12) (hI : RI n L B S D q why σ) (hx : i32 x) : Ct (d + 2) mX10_state 1 [vR 10 0, vI x] NALL σ (some (vI (if isT n x then D 5 x.toNat 8 else -1))) NALL σ 0 0 := by
  obtain ⟨-, -, ⟨h32, hst⟩, hH, -⟩ := hI
  by_cases c : isT n x
  · obtain ⟨k, rfl⟩ : ∃ k : Nat, x = (k : Int) := ⟨x.toNat, by have := c.1; omega⟩
    have hk : k < n := by have := c.2; omega
    rw [if_pos c, Int.toNat_natCast]
    have e71 := (hH.1 k hk).1
    refine ct_of (by decide) (Nat.le_of_ble_eq_true rfl) (fun C h hr _ => ?_)
    have h : Ok C RX10 cX10_state 2 _ := h
    refine x_aload_n h dX10_state_0 rfl ?_
    refine x_iload_n h dX10_state_1 rfl ?_
    refine x_cV1 h kVX10_isTable lkX10_309 ⟨_, _, _, rfl, rfl⟩ dX10_state_2 (isTable_y (d := d) h32 h12 hx c) lvz_10 rfl rfl (Nat.le_of_ble_eq_true rfl) (by omega) ?_
    refine x_if_eq_F (tgt := 17) h (by omega) dX10_state_5 (by decide) (by omega) ?_
    refine x_aload_n h dX10_state_8 rfl ?_
    refine x_get h fl_10_100 lvz_10 dX10_state_9 (pvf_571 _ _) ?_
    refine x_iload_n h dX10_state_12 rfl ?_
    refine x_iald h kdf_71 lvz_71 dX10_state_13 rfl (by omega) ?_
    rw [e71]
    refine x_goto (tgt := 18) h dX10_state_14 (by decide) ?_
    exact x_ireturn h hr dX10_state_18 (Or.inl rfl) ⟨Nat.le_refl _, Nat.le_refl _⟩
  · rw [if_neg c]
    refine ct_of (by decide) (Nat.le_of_ble_eq_true rfl) (fun C h hr _ => ?_)
    have h : Ok C RX10 cX10_state 2 _ := h
    refine x_aload_n h dX10_state_0 rfl ?_
    refine x_iload_n h dX10_state_1 rfl ?_
    refine x_cV1 h kVX10_isTable lkX10_309 ⟨_, _, _, rfl, rfl⟩ dX10_state_2 (isTable_n (d := d) h32 h12 hx c) lvz_10 rfl rfl (Nat.le_of_ble_eq_true rfl) (by omega) ?_
    refine x_if_eq_T (tgt := 17) h (by omega) dX10_state_5 (by decide) (by omega) ?_
    refine x_iconst h dX10_state_17 ?_
    exact x_ireturn h hr dX10_state_18 (Or.inl rfl) ⟨Nat.le_refl _, Nat.le_refl _⟩
theorem m9_row {x r : Int} (hS : SOk S n) (hD : DW S D) (hI : RI n L B S D q why σ) (hx : i32 x) (hr0 : i32 r) : Ct (d + 2) mX10_row 1 [vR 10 0, vI x, vI r] NALL σ (some (vI (vRow n S D x r))) NALL σ 0 0 := by
  have h12 := hS.1
  obtain ⟨-, -, ⟨h32, hst⟩, hH, -⟩ := hI
  unfold vRow
  by_cases c : isT n x
  · obtain ⟨k, rfl⟩ : ∃ k : Nat, x = (k : Int) := ⟨x.toNat, by have := c.1; omega⟩
    have hk : k < n := by have := c.2; omega
    rw [if_pos c, Int.toNat_natCast]
    obtain ⟨⟨s1, s2, s3, s4, s5⟩, -⟩ := hst k hk
    obtain ⟨g71, g⟩ := hH.1 k hk
    have d5 := (hD.1 k (by omega)).1
    have hby := (hS.2 k hk).2.1
    by_cases hb0 : sBy S k = 0
    · rw [if_pos (Or.inl hb0)]
      refine ct_of (by decide) (Nat.le_of_ble_eq_true rfl) (fun C h hr _ => ?_)
      have h : Ok C RX10 cX10_row 3 _ := h
      refine x_aload_n h dX10_row_0 rfl ?_
      refine x_iload_n h dX10_row_1 rfl ?_
      refine x_cV1 h kVX10_isTable lkX10_309 ⟨_, _, _, rfl, rfl⟩ dX10_row_2 (isTable_y (d := d) h32 h12 hx c) lvz_10 rfl rfl (Nat.le_of_ble_eq_true rfl) (by omega) ?_
      refine x_if_ne_T (tgt := 10) h (by omega) dX10_row_5 (by decide) (by omega) ?_
      refine x_aload_n h dX10_row_10 rfl ?_
      refine x_get h fl_10_79 lvz_10 dX10_row_11 (pvf_564 _ _) ?_
      refine x_iload_n h dX10_row_14 rfl ?_
      refine x_zald h kdf_64 lvz_64 dX10_row_15 rfl (by omega) ?_
      rw [s2, hb0]
      refine x_if_ne_T (tgt := 29) h (by omega) dX10_row_16 (by decide) (by omega) ?_
      refine x_bipush h dX10_row_29 (by decide) ?_
      exact x_ireturn h hr dX10_row_31 (Or.inl rfl) ⟨Nat.le_refl _, Nat.le_refl _⟩
    · have hby1 : sBy S k = 1 := by omega
      by_cases h5 : D 5 k 8 = 2
      · rw [if_neg (by omega)]
        obtain ⟨hz, x2, x3⟩ := g (Or.inr h5)
        have hro := m_rowsOf (d := d) (σ := σ) (by omega) s5 hz
        rw [ents_in hz]
        unfold i32 at hr0
        have hin := m_in (d := d) (σ := σ) (v := r) (a := 0) (b := (sSz S k + 7) / 8 - 1) ⟨by omega, by omega⟩ i64z ⟨by omega, by omega⟩
        by_cases hb : r < 0 ∨ (sSz S k + 7) / 8 ≤ r
        · rw [if_pos hb]
          rw [if_neg (by omega)] at hin
          refine ct_of (by decide) (Nat.le_of_ble_eq_true rfl) (fun C h hr _ => ?_)
          have h : Ok C RX10 cX10_row 3 _ := h
          refine x_aload_n h dX10_row_0 rfl ?_
          refine x_iload_n h dX10_row_1 rfl ?_
          refine x_cV1 h kVX10_isTable lkX10_309 ⟨_, _, _, rfl, rfl⟩ dX10_row_2 (isTable_y (d := d) h32 h12 hx c) lvz_10 rfl rfl (Nat.le_of_ble_eq_true rfl) (by omega) ?_
          refine x_if_ne_T (tgt := 10) h (by omega) dX10_row_5 (by decide) (by omega) ?_
          refine x_aload_n h dX10_row_10 rfl ?_
          refine x_get h fl_10_79 lvz_10 dX10_row_11 (pvf_564 _ _) ?_
          refine x_iload_n h dX10_row_14 rfl ?_
          refine x_zald h kdf_64 lvz_64 dX10_row_15 rfl (by omega) ?_
          rw [s2, hby1]
          refine x_if_ne_F (tgt := 29) h (by omega) dX10_row_16 (by decide) (by omega) ?_
          refine x_aload_n h dX10_row_19 rfl ?_
          refine x_get h fl_10_100 lvz_10 dX10_row_20 (pvf_571 _ _) ?_
          refine x_iload_n h dX10_row_23 rfl ?_
          refine x_iald h kdf_71 lvz_71 dX10_row_24 rfl (by omega) ?_
          rw [g71, h5]
          refine x_iconst h dX10_row_25 ?_
          refine x_ic_eq_T (tgt := 32) h (by omega) dX10_row_26 (by decide) (by omega) ?_
          refine x_iload_n h dX10_row_32 rfl ?_
          refine x_i2l h (by omega) dX10_row_33 ?_
          refine x_lconst0 h dX10_row_34 ?_
          refine x_aload_n h dX10_row_35 rfl ?_
          refine x_iload_n h dX10_row_36 rfl ?_
          refine x_cV1 h kVX10_rowsOf lkX10_312 ⟨_, _, _, rfl, rfl⟩ dX10_row_37 (hro) lvz_10 rfl rfl (Nat.le_of_ble_eq_true rfl) (by omega) ?_
          refine x_iconst h dX10_row_40 ?_
          refine x_isub h dX10_row_41 ?_
          refine x_i2l h (by omega) dX10_row_42 ?_
          refine x_cS1 h kSX10_in lkX10_305 dX10_row_43 (hin) rfl rfl (Nat.le_of_ble_eq_true rfl) (by omega) ?_
          refine x_if_eq_T (tgt := 63) h (by omega) dX10_row_46 (by decide) (by omega) ?_
          refine x_bipush h dX10_row_63 (by decide) ?_
          exact x_ireturn h hr dX10_row_65 (Or.inl rfl) ⟨Nat.le_refl _, Nat.le_refl _⟩
        · rw [if_neg hb]
          rw [if_pos (by omega)] at hin
          obtain ⟨i, rfl⟩ : ∃ i : Nat, r = (i : Int) := ⟨r.toNat, by omega⟩
          rw [Int.toNat_natCast]
          have e72 := x2 hb0 i (by omega)
          refine ct_of (by decide) (Nat.le_of_ble_eq_true rfl) (fun C h hr _ => ?_)
          have h : Ok C RX10 cX10_row 3 _ := h
          refine x_aload_n h dX10_row_0 rfl ?_
          refine x_iload_n h dX10_row_1 rfl ?_
          refine x_cV1 h kVX10_isTable lkX10_309 ⟨_, _, _, rfl, rfl⟩ dX10_row_2 (isTable_y (d := d) h32 h12 hx c) lvz_10 rfl rfl (Nat.le_of_ble_eq_true rfl) (by omega) ?_
          refine x_if_ne_T (tgt := 10) h (by omega) dX10_row_5 (by decide) (by omega) ?_
          refine x_aload_n h dX10_row_10 rfl ?_
          refine x_get h fl_10_79 lvz_10 dX10_row_11 (pvf_564 _ _) ?_
          refine x_iload_n h dX10_row_14 rfl ?_
          refine x_zald h kdf_64 lvz_64 dX10_row_15 rfl (by omega) ?_
          rw [s2, hby1]
          refine x_if_ne_F (tgt := 29) h (by omega) dX10_row_16 (by decide) (by omega) ?_
          refine x_aload_n h dX10_row_19 rfl ?_
          refine x_get h fl_10_100 lvz_10 dX10_row_20 (pvf_571 _ _) ?_
          refine x_iload_n h dX10_row_23 rfl ?_
          refine x_iald h kdf_71 lvz_71 dX10_row_24 rfl (by omega) ?_
          rw [g71, h5]
          refine x_iconst h dX10_row_25 ?_
          refine x_ic_eq_T (tgt := 32) h (by omega) dX10_row_26 (by decide) (by omega) ?_
          refine x_iload_n h dX10_row_32 rfl ?_
          refine x_i2l h (by omega) dX10_row_33 ?_
          refine x_lconst0 h dX10_row_34 ?_
          refine x_aload_n h dX10_row_35 rfl ?_
          refine x_iload_n h dX10_row_36 rfl ?_
          refine x_cV1 h kVX10_rowsOf lkX10_312 ⟨_, _, _, rfl, rfl⟩ dX10_row_37 (hro) lvz_10 rfl rfl (Nat.le_of_ble_eq_true rfl) (by omega) ?_
          refine x_iconst h dX10_row_40 ?_
          refine x_isub h dX10_row_41 ?_
          refine x_i2l h (by omega) dX10_row_42 ?_
          refine x_cS1 h kSX10_in lkX10_305 dX10_row_43 (hin) rfl rfl (Nat.le_of_ble_eq_true rfl) (by omega) ?_
          refine x_if_eq_F (tgt := 63) h (by omega) dX10_row_46 (by decide) (by omega) ?_
          refine x_aload_n h dX10_row_49 rfl ?_
          refine x_get h fl_10_103 lvz_10 dX10_row_50 (pvf_572 _ _) ?_
          refine x_bipush h dX10_row_53 (by decide) ?_
          refine x_iload_n h dX10_row_55 rfl ?_
          refine x_imul h dX10_row_56 ?_
          refine x_iload_n h dX10_row_57 rfl ?_
          refine x_iadd h dX10_row_58 ?_
          refine x_iald (m := 25 * k + i) h kdf_72 lvz_72 dX10_row_59 (by omega) (by omega) ?_
          rw [e72]
          refine x_goto (tgt := 65) h dX10_row_60 (by decide) ?_
          exact x_ireturn h hr dX10_row_65 (Or.inl rfl) ⟨Nat.le_refl _, Nat.le_refl _⟩
      · rw [if_pos (Or.inr h5)]
        refine ct_of (by decide) (Nat.le_of_ble_eq_true rfl) (fun C h hr _ => ?_)
        have h : Ok C RX10 cX10_row 3 _ := h
        refine x_aload_n h dX10_row_0 rfl ?_
        refine x_iload_n h dX10_row_1 rfl ?_
        refine x_cV1 h kVX10_isTable lkX10_309 ⟨_, _, _, rfl, rfl⟩ dX10_row_2 (isTable_y (d := d) h32 h12 hx c) lvz_10 rfl rfl (Nat.le_of_ble_eq_true rfl) (by omega) ?_
        refine x_if_ne_T (tgt := 10) h (by omega) dX10_row_5 (by decide) (by omega) ?_
        refine x_aload_n h dX10_row_10 rfl ?_
        refine x_get h fl_10_79 lvz_10 dX10_row_11 (pvf_564 _ _) ?_
        refine x_iload_n h dX10_row_14 rfl ?_
        refine x_zald h kdf_64 lvz_64 dX10_row_15 rfl (by omega) ?_
        rw [s2, hby1]
        refine x_if_ne_F (tgt := 29) h (by omega) dX10_row_16 (by decide) (by omega) ?_
        refine x_aload_n h dX10_row_19 rfl ?_
        refine x_get h fl_10_100 lvz_10 dX10_row_20 (pvf_571 _ _) ?_
        refine x_iload_n h dX10_row_23 rfl ?_
        refine x_iald h kdf_71 lvz_71 dX10_row_24 rfl (by omega) ?_
        rw [g71]
        refine x_iconst h dX10_row_25 ?_
        refine x_ic_eq_F (tgt := 32) h (by omega) dX10_row_26 (by decide) (by omega) ?_
        refine x_bipush h dX10_row_29 (by decide) ?_
        exact x_ireturn h hr dX10_row_31 (Or.inl rfl) ⟨Nat.le_refl _, Nat.le_refl _⟩
  · rw [if_neg c]
    refine ct_of (by decide) (Nat.le_of_ble_eq_true rfl) (fun C h hr _ => ?_)
    have h : Ok C RX10 cX10_row 3 _ := h
    refine x_aload_n h dX10_row_0 rfl ?_
    refine x_iload_n h dX10_row_1 rfl ?_
    refine x_cV1 h kVX10_isTable lkX10_309 ⟨_, _, _, rfl, rfl⟩ dX10_row_2 (isTable_n (d := d) h32 h12 hx c) lvz_10 rfl rfl (Nat.le_of_ble_eq_true rfl) (by omega) ?_
    refine x_if_ne_F (tgt := 10) h (by omega) dX10_row_5 (by decide) (by omega) ?_
    refine x_iconst h dX10_row_8 ?_
    exact x_ireturn h hr dX10_row_9 (Or.inl rfl) ⟨Nat.le_refl _, Nat.le_refl _⟩
theorem m9_reason {k : Int} (hI : RI n L B S D q why σ) (hq : q ≤ 12) (hk : i32 k) : Ct (d + 1) mX10_reason 1 [vR 10 0, vI k] NALL σ (some (vI (rsnF q why k))) NALL σ 0 0 := by
  obtain ⟨-, -, -, -, h53, h54⟩ := hI
  unfold i32 at hk
  have hin := m_in (d := d) (σ := σ) (v := k) (a := 0) (b := (q : Int) - 1) ⟨by omega, by omega⟩ i64z ⟨by omega, by omega⟩
  unfold rsnF
  by_cases hb : k < 0 ∨ q ≤ k
  · rw [if_pos hb]
    rw [if_neg (by omega)] at hin
    refine ct_of (by decide) (Nat.le_of_ble_eq_true rfl) (fun C h hr _ => ?_)
    have h : Ok C RX10 cX10_reason 2 _ := h
    refine x_iload_n h dX10_reason_0 rfl ?_
    refine x_i2l h (by omega) dX10_reason_1 ?_
    refine x_lconst0 h dX10_reason_2 ?_
    refine x_aload_n h dX10_reason_3 rfl ?_
    refine x_get (q := vI (q)) h fl_10_302 lvz_10 dX10_reason_4 (congrArg vI (by first | exact h53 | simp [up3, h53])) ?_
    refine x_iconst h dX10_reason_7 ?_
    refine x_isub h dX10_reason_8 ?_
    refine x_i2l h (by omega) dX10_reason_9 ?_
    refine x_cS1 h kSX10_in lkX10_305 dX10_reason_10 (hin) rfl rfl (Nat.le_of_ble_eq_true rfl) (by omega) ?_
    refine x_if_ne_F (tgt := 21) h (by omega) dX10_reason_13 (by decide) (by omega) ?_
    refine x_bipush h dX10_reason_16 (by decide) ?_
    refine x_goto (tgt := 40) h dX10_reason_18 (by decide) ?_
    exact x_ireturn h hr dX10_reason_40 (Or.inl rfl) ⟨Nat.le_refl _, Nat.le_refl _⟩
  · rw [if_neg hb]
    rw [if_pos (by omega)] at hin
    by_cases hl : k = (q : Int) - 1
    · rw [if_pos hl]
      have h54 := h54 (by omega)
      refine ct_of (by decide) (Nat.le_of_ble_eq_true rfl) (fun C h hr _ => ?_)
      have h : Ok C RX10 cX10_reason 2 _ := h
      refine x_iload_n h dX10_reason_0 rfl ?_
      refine x_i2l h (by omega) dX10_reason_1 ?_
      refine x_lconst0 h dX10_reason_2 ?_
      refine x_aload_n h dX10_reason_3 rfl ?_
      refine x_get (q := vI (q)) h fl_10_302 lvz_10 dX10_reason_4 (congrArg vI (by first | exact h53 | simp [up3, h53])) ?_
      refine x_iconst h dX10_reason_7 ?_
      refine x_isub h dX10_reason_8 ?_
      refine x_i2l h (by omega) dX10_reason_9 ?_
      refine x_cS1 h kSX10_in lkX10_305 dX10_reason_10 (hin) rfl rfl (Nat.le_of_ble_eq_true rfl) (by omega) ?_
      refine x_if_ne_T (tgt := 21) h (by omega) dX10_reason_13 (by decide) (by omega) ?_
      refine x_iload_n h dX10_reason_21 rfl ?_
      refine x_aload_n h dX10_reason_22 rfl ?_
      refine x_get (q := vI (q)) h fl_10_302 lvz_10 dX10_reason_23 (congrArg vI (by first | exact h53 | simp [up3, h53])) ?_
      refine x_iconst h dX10_reason_26 ?_
      refine x_isub h dX10_reason_27 ?_
      refine x_ic_ne_F (tgt := 38) h (by omega) dX10_reason_28 (by decide) (by omega) ?_
      refine x_aload_n h dX10_reason_31 rfl ?_
      refine x_get (q := vI (why)) h fl_10_336 lvz_10 dX10_reason_32 (congrArg vI (by first | exact h54 | simp [up3, h54])) ?_
      refine x_goto (tgt := 40) h dX10_reason_35 (by decide) ?_
      exact x_ireturn h hr dX10_reason_40 (Or.inl rfl) ⟨Nat.le_refl _, Nat.le_refl _⟩
    · rw [if_neg hl]
      refine ct_of (by decide) (Nat.le_of_ble_eq_true rfl) (fun C h hr _ => ?_)
      have h : Ok C RX10 cX10_reason 2 _ := h
      refine x_iload_n h dX10_reason_0 rfl ?_
      refine x_i2l h (by omega) dX10_reason_1 ?_
      refine x_lconst0 h dX10_reason_2 ?_
      refine x_aload_n h dX10_reason_3 rfl ?_
      refine x_get (q := vI (q)) h fl_10_302 lvz_10 dX10_reason_4 (congrArg vI (by first | exact h53 | simp [up3, h53])) ?_
      refine x_iconst h dX10_reason_7 ?_
      refine x_isub h dX10_reason_8 ?_
      refine x_i2l h (by omega) dX10_reason_9 ?_
      refine x_cS1 h kSX10_in lkX10_305 dX10_reason_10 (hin) rfl rfl (Nat.le_of_ble_eq_true rfl) (by omega) ?_
      refine x_if_ne_T (tgt := 21) h (by omega) dX10_reason_13 (by decide) (by omega) ?_
      refine x_iload_n h dX10_reason_21 rfl ?_
      refine x_aload_n h dX10_reason_22 rfl ?_
      refine x_get (q := vI (q)) h fl_10_302 lvz_10 dX10_reason_23 (congrArg vI (by first | exact h53 | simp [up3, h53])) ?_
      refine x_iconst h dX10_reason_26 ?_
      refine x_isub h dX10_reason_27 ?_
      refine x_ic_ne_T (tgt := 38) h (by omega) dX10_reason_28 (by decide) (by omega) ?_
      refine x_bipush h dX10_reason_38 (by decide) ?_
      exact x_ireturn h hr dX10_reason_40 (Or.inl rfl) ⟨Nat.le_refl _, Nat.le_refl _⟩
theorem m9_builds (hI : RI n L B S D q why σ) : Ct d mX10_builds 1 [vR 10 0] NALL σ (some (vI (D 8 0 1))) NALL σ 0 0 := by
  have e := hI.2.2.2.1.2.1
  refine ct_of (by decide) (Nat.le_of_ble_eq_true rfl) (fun C h hr _ => ?_)
  have h : Ok C RX10 cX10_builds 1 _ := h
  refine x_aload_n h dX10_builds_0 rfl ?_
  refine x_get (q := vI (D 8 0 1)) h fl_10_296 lvz_10 dX10_builds_1 (congrArg vI (by first | exact e | simp [up3, e])) ?_
  exact x_ireturn h hr dX10_builds_4 (Or.inl rfl) ⟨Nat.le_refl _, Nat.le_refl _⟩
theorem m9_halves (hI : RI n L B S D q why σ) : Ct d mX10_halves 1 [vR 10 0] NALL σ (some (vI (D 8 1 1))) NALL σ 0 0 := by
  have e := hI.2.2.2.1.2.2.1
  refine ct_of (by decide) (Nat.le_of_ble_eq_true rfl) (fun C h hr _ => ?_)
  have h : Ok C RX10 cX10_halves 1 _ := h
  refine x_aload_n h dX10_halves_0 rfl ?_
  refine x_get (q := vI (D 8 1 1)) h fl_10_299 lvz_10 dX10_halves_1 (congrArg vI (by first | exact e | simp [up3, e])) ?_
  exact x_ireturn h hr dX10_halves_4 (Or.inl rfl) ⟨Nat.le_refl _, Nat.le_refl _⟩
theorem m9_build {i w : Int} (hI : RI n L B S D q why σ) (h8 : 0 ≤ D 8 0 1 ∧ D 8 0 1 < 2147483648) (hi : i32 i) (hw : i32 w) : Ct (d + 1) mX10_build 1 [vR 10 0, vI i, vI w] NALL σ (some (vI (vLog D 0 2 i w))) NALL σ 0 0 := by
  obtain ⟨-, -, -, ⟨-, e1, e2, e3⟩, -⟩ := hI
  unfold i32 at hi hw
  unfold vLog
  obtain ⟨m, hm⟩ : ∃ m : Int, m = if D 8 0 1 < 100 then D 8 0 1 else 100 := ⟨_, rfl⟩
  have hin := m_in (d := d) (σ := σ) (v := i) (a := 0) (b := m - 1) ⟨by omega, by omega⟩ i64z ⟨by split at hm <;> omega, by split at hm <;> omega⟩
  have pre : ∀ C : Cx, Ok C RX10 cX10_build 3 (d + 1) → X C 1 21 [(0, vR 10 0), (1, vI i), (2, vI w)] [vI m, vL 0, vL i] NALL σ 0 0 → X C 1 0 [(0, vR 10 0), (1, vI i), (2, vI w)] [] NALL σ 0 0 := fun C h hx => by
    by_cases c : D 8 0 1 < 100
    · rw [if_pos c] at hm
      subst hm
      refine x_iload_n h dX10_build_0 rfl ?_
      refine x_i2l h (by omega) dX10_build_1 ?_
      refine x_lconst0 h dX10_build_2 ?_
      refine x_aload_n h dX10_build_3 rfl ?_
      refine x_get (q := vI (D 8 0 1)) h fl_10_296 lvz_10 dX10_build_4 (congrArg vI (by first | exact e1 | simp [up3, e1])) ?_
      refine x_bipush h dX10_build_7 (by decide) ?_
      refine x_ic_ge_F (tgt := 19) h (by omega) dX10_build_9 (by decide) (by omega) ?_
      refine x_aload_n h dX10_build_12 rfl ?_
      refine x_get (q := vI (D 8 0 1)) h fl_10_296 lvz_10 dX10_build_13 (congrArg vI (by first | exact e1 | simp [up3, e1])) ?_
      refine x_goto (tgt := 21) h dX10_build_16 (by decide) ?_
      exact hx
    · rw [if_neg c] at hm
      subst hm
      refine x_iload_n h dX10_build_0 rfl ?_
      refine x_i2l h (by omega) dX10_build_1 ?_
      refine x_lconst0 h dX10_build_2 ?_
      refine x_aload_n h dX10_build_3 rfl ?_
      refine x_get (q := vI (D 8 0 1)) h fl_10_296 lvz_10 dX10_build_4 (congrArg vI (by first | exact e1 | simp [up3, e1])) ?_
      refine x_bipush h dX10_build_7 (by decide) ?_
      refine x_ic_ge_T (tgt := 19) h (by omega) dX10_build_9 (by decide) (by omega) ?_
      refine x_bipush h dX10_build_19 (by decide) ?_
      exact hx
  by_cases hb : i < 0 ∨ D 8 0 1 ≤ i ∨ 100 ≤ i
  · rw [if_pos hb]
    rw [if_neg (by split at hm <;> omega)] at hin
    have hmr : 0 ≤ m ∧ m ≤ 100 := by split at hm <;> omega
    refine ct_of (by decide) (Nat.le_of_ble_eq_true rfl) (fun C h hr _ => ?_)
    have h : Ok C RX10 cX10_build 3 _ := h
    refine pre C h ?_
    refine x_iconst h dX10_build_21 ?_
    refine x_isub h dX10_build_22 ?_
    refine x_i2l h (by omega) dX10_build_23 ?_
    refine x_cS1 h kSX10_in lkX10_305 dX10_build_24 (hin) rfl rfl (Nat.le_of_ble_eq_true rfl) (by omega) ?_
    refine x_if_ne_F (tgt := 32) h (by omega) dX10_build_27 (by decide) (by omega) ?_
    refine x_iconst h dX10_build_30 ?_
    exact x_ireturn h hr dX10_build_31 (Or.inl rfl) ⟨Nat.le_refl _, Nat.le_refl _⟩
  · rw [if_neg hb]
    rw [if_pos (by split at hm <;> omega)] at hin
    have hmr : 0 ≤ m ∧ m ≤ 100 := by split at hm <;> omega
    obtain ⟨j, rfl⟩ : ∃ j : Nat, i = (j : Int) := ⟨i.toNat, by omega⟩
    rw [Int.toNat_natCast]
    obtain ⟨g0, g1, g2⟩ := (e3 j (by omega)).1 (by omega)
    by_cases hw2 : w < 0 ∨ ((2 : Nat) : Int) < w
    · rw [if_pos hw2]
      refine ct_of (by decide) (Nat.le_of_ble_eq_true rfl) (fun C h hr _ => ?_)
      have h : Ok C RX10 cX10_build 3 _ := h
      refine pre C h ?_
      refine x_iconst h dX10_build_21 ?_
      refine x_isub h dX10_build_22 ?_
      refine x_i2l h (by omega) dX10_build_23 ?_
      refine x_cS1 h kSX10_in lkX10_305 dX10_build_24 (hin) rfl rfl (Nat.le_of_ble_eq_true rfl) (by omega) ?_
      refine x_if_ne_T (tgt := 32) h (by omega) dX10_build_27 (by decide) (by omega) ?_
      refine x_iload_n h dX10_build_32 rfl ?_
      refine x_if_ne_T (tgt := 45) h (by omega) dX10_build_33 (by decide) (by omega) ?_
      refine x_iload_n h dX10_build_45 rfl ?_
      refine x_iconst h dX10_build_46 ?_
      refine x_ic_ne_T (tgt := 59) h (by omega) dX10_build_47 (by decide) (by omega) ?_
      refine x_iload_n h dX10_build_59 rfl ?_
      refine x_iconst h dX10_build_60 ?_
      refine x_ic_ne_T (tgt := 73) h (by omega) dX10_build_61 (by decide) (by omega) ?_
      refine x_bipush h dX10_build_73 (by decide) ?_
      exact x_ireturn h hr dX10_build_75 (Or.inl rfl) ⟨Nat.le_refl _, Nat.le_refl _⟩
    · rw [if_neg hw2]
      rcases (by omega : w = 0 ∨ w = 1 ∨ w = 2) with rfl | rfl | rfl
      · show Ct (d + 1) mX10_build 1 [vR 10 0, vI j, vI 0] NALL σ (some (vI (D 18 0 (4 * j)))) NALL σ 0 0
        refine ct_of (by decide) (Nat.le_of_ble_eq_true rfl) (fun C h hr _ => ?_)
        have h : Ok C RX10 cX10_build 3 _ := h
        refine pre C h ?_
        refine x_iconst h dX10_build_21 ?_
        refine x_isub h dX10_build_22 ?_
        refine x_i2l h (by omega) dX10_build_23 ?_
        refine x_cS1 h kSX10_in lkX10_305 dX10_build_24 (hin) rfl rfl (Nat.le_of_ble_eq_true rfl) (by omega) ?_
        refine x_if_ne_T (tgt := 32) h (by omega) dX10_build_27 (by decide) (by omega) ?_
        refine x_iload_n h dX10_build_32 rfl ?_
        refine x_if_ne_F (tgt := 45) h (by omega) dX10_build_33 (by decide) (by omega) ?_
        refine x_aload_n h dX10_build_36 rfl ?_
        refine x_get h fl_10_109 lvz_10 dX10_build_37 (pvf_575 _ _) ?_
        refine x_iload_n h dX10_build_40 rfl ?_
        refine x_iald h kdf_75 lvz_75 dX10_build_41 rfl (by omega) ?_
        rw [g0]
        refine x_goto (tgt := 75) h dX10_build_42 (by decide) ?_
        exact x_ireturn h hr dX10_build_75 (Or.inl rfl) ⟨Nat.le_refl _, Nat.le_refl _⟩
      · show Ct (d + 1) mX10_build 1 [vR 10 0, vI j, vI 1] NALL σ (some (vI (D 18 0 (4 * j + 1)))) NALL σ 0 0
        refine ct_of (by decide) (Nat.le_of_ble_eq_true rfl) (fun C h hr _ => ?_)
        have h : Ok C RX10 cX10_build 3 _ := h
        refine pre C h ?_
        refine x_iconst h dX10_build_21 ?_
        refine x_isub h dX10_build_22 ?_
        refine x_i2l h (by omega) dX10_build_23 ?_
        refine x_cS1 h kSX10_in lkX10_305 dX10_build_24 (hin) rfl rfl (Nat.le_of_ble_eq_true rfl) (by omega) ?_
        refine x_if_ne_T (tgt := 32) h (by omega) dX10_build_27 (by decide) (by omega) ?_
        refine x_iload_n h dX10_build_32 rfl ?_
        refine x_if_ne_T (tgt := 45) h (by omega) dX10_build_33 (by decide) (by omega) ?_
        refine x_iload_n h dX10_build_45 rfl ?_
        refine x_iconst h dX10_build_46 ?_
        refine x_ic_ne_F (tgt := 59) h (by omega) dX10_build_47 (by decide) (by omega) ?_
        refine x_aload_n h dX10_build_50 rfl ?_
        refine x_get h fl_10_112 lvz_10 dX10_build_51 (pvf_576 _ _) ?_
        refine x_iload_n h dX10_build_54 rfl ?_
        refine x_iald h kdf_76 lvz_76 dX10_build_55 rfl (by omega) ?_
        rw [g1]
        refine x_goto (tgt := 75) h dX10_build_56 (by decide) ?_
        exact x_ireturn h hr dX10_build_75 (Or.inl rfl) ⟨Nat.le_refl _, Nat.le_refl _⟩
      · show Ct (d + 1) mX10_build 1 [vR 10 0, vI j, vI 2] NALL σ (some (vI (D 18 0 (4 * j + 2)))) NALL σ 0 0
        refine ct_of (by decide) (Nat.le_of_ble_eq_true rfl) (fun C h hr _ => ?_)
        have h : Ok C RX10 cX10_build 3 _ := h
        refine pre C h ?_
        refine x_iconst h dX10_build_21 ?_
        refine x_isub h dX10_build_22 ?_
        refine x_i2l h (by omega) dX10_build_23 ?_
        refine x_cS1 h kSX10_in lkX10_305 dX10_build_24 (hin) rfl rfl (Nat.le_of_ble_eq_true rfl) (by omega) ?_
        refine x_if_ne_T (tgt := 32) h (by omega) dX10_build_27 (by decide) (by omega) ?_
        refine x_iload_n h dX10_build_32 rfl ?_
        refine x_if_ne_T (tgt := 45) h (by omega) dX10_build_33 (by decide) (by omega) ?_
        refine x_iload_n h dX10_build_45 rfl ?_
        refine x_iconst h dX10_build_46 ?_
        refine x_ic_ne_T (tgt := 59) h (by omega) dX10_build_47 (by decide) (by omega) ?_
        refine x_iload_n h dX10_build_59 rfl ?_
        refine x_iconst h dX10_build_60 ?_
        refine x_ic_ne_F (tgt := 73) h (by omega) dX10_build_61 (by decide) (by omega) ?_
        refine x_aload_n h dX10_build_64 rfl ?_
        refine x_get h fl_10_115 lvz_10 dX10_build_65 (pvf_577 _ _) ?_
        refine x_iload_n h dX10_build_68 rfl ?_
        refine x_iald h kdf_77 lvz_77 dX10_build_69 rfl (by omega) ?_
        rw [g2]
        refine x_goto (tgt := 75) h dX10_build_70 (by decide) ?_
        exact x_ireturn h hr dX10_build_75 (Or.inl rfl) ⟨Nat.le_refl _, Nat.le_refl _⟩
theorem m9_half {i w : Int} (hI : RI n L B S D q why σ) (hD : DW S D) (h8 : 0 ≤ D 8 1 1 ∧ D 8 1 1 < 2147483648) (hi : i32 i) (hw : i32 w) : Ct (d + 1) mX10_half_ 1 [vR 10 0, vI i, vI w] NALL σ (some (vL (vLog D 1 3 i w))) NALL σ 0 0 := by
  obtain ⟨-, -, -, ⟨-, e1, e2, e3⟩, -⟩ := hI
  unfold i32 at hi hw
  unfold vLog
  obtain ⟨m, hm⟩ : ∃ m : Int, m = if D 8 1 1 < 100 then D 8 1 1 else 100 := ⟨_, rfl⟩
  have hin := m_in (d := d) (σ := σ) (v := i) (a := 0) (b := m - 1) ⟨by omega, by omega⟩ i64z ⟨by split at hm <;> omega, by split at hm <;> omega⟩
  have h3 : ∀ j, j < 400 → -9 ≤ D 18 1 j ∧ D 18 1 j ≤ 1000 ∨ j % 4 = 3 := fun j hj => by
    by_cases c : j % 4 = 3
    · exact Or.inr c
    · exact Or.inl ((hD.2.2 j hj).2.2 c)
  have pre : ∀ C : Cx, Ok C RX10 cX10_half_ 3 (d + 1) → X C 1 21 [(0, vR 10 0), (1, vI i), (2, vI w)] [vI m, vL 0, vL i] NALL σ 0 0 → X C 1 0 [(0, vR 10 0), (1, vI i), (2, vI w)] [] NALL σ 0 0 := fun C h hx => by
    by_cases c : D 8 1 1 < 100
    · rw [if_pos c] at hm
      subst hm
      refine x_iload_n h dX10_half__0 rfl ?_
      refine x_i2l h (by omega) dX10_half__1 ?_
      refine x_lconst0 h dX10_half__2 ?_
      refine x_aload_n h dX10_half__3 rfl ?_
      refine x_get (q := vI (D 8 1 1)) h fl_10_299 lvz_10 dX10_half__4 (congrArg vI (by first | exact e2 | simp [up3, e2])) ?_
      refine x_bipush h dX10_half__7 (by decide) ?_
      refine x_ic_ge_F (tgt := 19) h (by omega) dX10_half__9 (by decide) (by omega) ?_
      refine x_aload_n h dX10_half__12 rfl ?_
      refine x_get (q := vI (D 8 1 1)) h fl_10_299 lvz_10 dX10_half__13 (congrArg vI (by first | exact e2 | simp [up3, e2])) ?_
      refine x_goto (tgt := 21) h dX10_half__16 (by decide) ?_
      exact hx
    · rw [if_neg c] at hm
      subst hm
      refine x_iload_n h dX10_half__0 rfl ?_
      refine x_i2l h (by omega) dX10_half__1 ?_
      refine x_lconst0 h dX10_half__2 ?_
      refine x_aload_n h dX10_half__3 rfl ?_
      refine x_get (q := vI (D 8 1 1)) h fl_10_299 lvz_10 dX10_half__4 (congrArg vI (by first | exact e2 | simp [up3, e2])) ?_
      refine x_bipush h dX10_half__7 (by decide) ?_
      refine x_ic_ge_T (tgt := 19) h (by omega) dX10_half__9 (by decide) (by omega) ?_
      refine x_bipush h dX10_half__19 (by decide) ?_
      exact hx
  by_cases hb : i < 0 ∨ D 8 1 1 ≤ i ∨ 100 ≤ i
  · rw [if_pos hb]
    rw [if_neg (by split at hm <;> omega)] at hin
    have hmr : 0 ≤ m ∧ m ≤ 100 := by split at hm <;> omega
    refine ct_of (by decide) (Nat.le_of_ble_eq_true rfl) (fun C h hr _ => ?_)
    have h : Ok C RX10 cX10_half_ 3 _ := h
    refine pre C h ?_
    refine x_iconst h dX10_half__21 ?_
    refine x_isub h dX10_half__22 ?_
    refine x_i2l h (by omega) dX10_half__23 ?_
    refine x_cS1 h kSX10_in lkX10_305 dX10_half__24 (hin) rfl rfl (Nat.le_of_ble_eq_true rfl) (by omega) ?_
    refine x_if_ne_F (tgt := 34) h (by omega) dX10_half__27 (by decide) (by omega) ?_
    refine x_ldc2 (x := (-1)) h dX10_half__30 klX10_222 (by decide) ?_
    exact x_lreturn h hr dX10_half__33 ⟨Nat.le_refl _, Nat.le_refl _⟩
  · rw [if_neg hb]
    rw [if_pos (by split at hm <;> omega)] at hin
    have hmr : 0 ≤ m ∧ m ≤ 100 := by split at hm <;> omega
    obtain ⟨j, rfl⟩ : ∃ j : Nat, i = (j : Int) := ⟨i.toNat, by omega⟩
    rw [Int.toNat_natCast]
    obtain ⟨g0, g1, g2, g3⟩ := (e3 j (by omega)).2 (by omega)
    by_cases hw2 : w < 0 ∨ ((3 : Nat) : Int) < w
    · rw [if_pos hw2]
      refine ct_of (by decide) (Nat.le_of_ble_eq_true rfl) (fun C h hr _ => ?_)
      have h : Ok C RX10 cX10_half_ 3 _ := h
      refine pre C h ?_
      refine x_iconst h dX10_half__21 ?_
      refine x_isub h dX10_half__22 ?_
      refine x_i2l h (by omega) dX10_half__23 ?_
      refine x_cS1 h kSX10_in lkX10_305 dX10_half__24 (hin) rfl rfl (Nat.le_of_ble_eq_true rfl) (by omega) ?_
      refine x_if_ne_T (tgt := 34) h (by omega) dX10_half__27 (by decide) (by omega) ?_
      refine x_iload_n h dX10_half__34 rfl ?_
      refine x_if_ne_T (tgt := 48) h (by omega) dX10_half__35 (by decide) (by omega) ?_
      refine x_iload_n h dX10_half__48 rfl ?_
      refine x_iconst h dX10_half__49 ?_
      refine x_ic_ne_T (tgt := 63) h (by omega) dX10_half__50 (by decide) (by omega) ?_
      refine x_iload_n h dX10_half__63 rfl ?_
      refine x_iconst h dX10_half__64 ?_
      refine x_ic_ne_T (tgt := 78) h (by omega) dX10_half__65 (by decide) (by omega) ?_
      refine x_iload_n h dX10_half__78 rfl ?_
      refine x_iconst h dX10_half__79 ?_
      refine x_ic_ne_T (tgt := 92) h (by omega) dX10_half__80 (by decide) (by omega) ?_
      refine x_ldc2 (x := (-2)) h dX10_half__92 klX10_382 (by decide) ?_
      exact x_lreturn h hr dX10_half__95 ⟨Nat.le_refl _, Nat.le_refl _⟩
    · rw [if_neg hw2]
      rcases (by omega : w = 0 ∨ w = 1 ∨ w = 2 ∨ w = 3) with rfl | rfl | rfl | rfl
      · show Ct (d + 1) mX10_half_ 1 [vR 10 0, vI j, vI 0] NALL σ (some (vL (D 18 1 (4 * j)))) NALL σ 0 0
        have r := (h3 (4 * j) (by omega)).resolve_right (by omega)
        refine ct_of (by decide) (Nat.le_of_ble_eq_true rfl) (fun C h hr _ => ?_)
        have h : Ok C RX10 cX10_half_ 3 _ := h
        refine pre C h ?_
        refine x_iconst h dX10_half__21 ?_
        refine x_isub h dX10_half__22 ?_
        refine x_i2l h (by omega) dX10_half__23 ?_
        refine x_cS1 h kSX10_in lkX10_305 dX10_half__24 (hin) rfl rfl (Nat.le_of_ble_eq_true rfl) (by omega) ?_
        refine x_if_ne_T (tgt := 34) h (by omega) dX10_half__27 (by decide) (by omega) ?_
        refine x_iload_n h dX10_half__34 rfl ?_
        refine x_if_ne_F (tgt := 48) h (by omega) dX10_half__35 (by decide) (by omega) ?_
        refine x_aload_n h dX10_half__38 rfl ?_
        refine x_get h fl_10_118 lvz_10 dX10_half__39 (pvf_579 _ _) ?_
        refine x_iload_n h dX10_half__42 rfl ?_
        refine x_iald h kdf_79 lvz_79 dX10_half__43 rfl (by omega) ?_
        rw [g0]
        refine x_i2l h (by omega) dX10_half__44 ?_
        refine x_goto (tgt := 95) h dX10_half__45 (by decide) ?_
        exact x_lreturn h hr dX10_half__95 ⟨Nat.le_refl _, Nat.le_refl _⟩
      · show Ct (d + 1) mX10_half_ 1 [vR 10 0, vI j, vI 1] NALL σ (some (vL (D 18 1 (4 * j + 1)))) NALL σ 0 0
        have r := (h3 (4 * j + 1) (by omega)).resolve_right (by omega)
        refine ct_of (by decide) (Nat.le_of_ble_eq_true rfl) (fun C h hr _ => ?_)
        have h : Ok C RX10 cX10_half_ 3 _ := h
        refine pre C h ?_
        refine x_iconst h dX10_half__21 ?_
        refine x_isub h dX10_half__22 ?_
        refine x_i2l h (by omega) dX10_half__23 ?_
        refine x_cS1 h kSX10_in lkX10_305 dX10_half__24 (hin) rfl rfl (Nat.le_of_ble_eq_true rfl) (by omega) ?_
        refine x_if_ne_T (tgt := 34) h (by omega) dX10_half__27 (by decide) (by omega) ?_
        refine x_iload_n h dX10_half__34 rfl ?_
        refine x_if_ne_T (tgt := 48) h (by omega) dX10_half__35 (by decide) (by omega) ?_
        refine x_iload_n h dX10_half__48 rfl ?_
        refine x_iconst h dX10_half__49 ?_
        refine x_ic_ne_F (tgt := 63) h (by omega) dX10_half__50 (by decide) (by omega) ?_
        refine x_aload_n h dX10_half__53 rfl ?_
        refine x_get h fl_10_121 lvz_10 dX10_half__54 (pvf_580 _ _) ?_
        refine x_iload_n h dX10_half__57 rfl ?_
        refine x_iald h kdf_80 lvz_80 dX10_half__58 rfl (by omega) ?_
        rw [g1]
        refine x_i2l h (by omega) dX10_half__59 ?_
        refine x_goto (tgt := 95) h dX10_half__60 (by decide) ?_
        exact x_lreturn h hr dX10_half__95 ⟨Nat.le_refl _, Nat.le_refl _⟩
      · show Ct (d + 1) mX10_half_ 1 [vR 10 0, vI j, vI 2] NALL σ (some (vL (D 18 1 (4 * j + 2)))) NALL σ 0 0
        have r := (h3 (4 * j + 2) (by omega)).resolve_right (by omega)
        refine ct_of (by decide) (Nat.le_of_ble_eq_true rfl) (fun C h hr _ => ?_)
        have h : Ok C RX10 cX10_half_ 3 _ := h
        refine pre C h ?_
        refine x_iconst h dX10_half__21 ?_
        refine x_isub h dX10_half__22 ?_
        refine x_i2l h (by omega) dX10_half__23 ?_
        refine x_cS1 h kSX10_in lkX10_305 dX10_half__24 (hin) rfl rfl (Nat.le_of_ble_eq_true rfl) (by omega) ?_
        refine x_if_ne_T (tgt := 34) h (by omega) dX10_half__27 (by decide) (by omega) ?_
        refine x_iload_n h dX10_half__34 rfl ?_
        refine x_if_ne_T (tgt := 48) h (by omega) dX10_half__35 (by decide) (by omega) ?_
        refine x_iload_n h dX10_half__48 rfl ?_
        refine x_iconst h dX10_half__49 ?_
        refine x_ic_ne_T (tgt := 63) h (by omega) dX10_half__50 (by decide) (by omega) ?_
        refine x_iload_n h dX10_half__63 rfl ?_
        refine x_iconst h dX10_half__64 ?_
        refine x_ic_ne_F (tgt := 78) h (by omega) dX10_half__65 (by decide) (by omega) ?_
        refine x_aload_n h dX10_half__68 rfl ?_
        refine x_get h fl_10_124 lvz_10 dX10_half__69 (pvf_581 _ _) ?_
        refine x_iload_n h dX10_half__72 rfl ?_
        refine x_iald h kdf_81 lvz_81 dX10_half__73 rfl (by omega) ?_
        rw [g2]
        refine x_i2l h (by omega) dX10_half__74 ?_
        refine x_goto (tgt := 95) h dX10_half__75 (by decide) ?_
        exact x_lreturn h hr dX10_half__95 ⟨Nat.le_refl _, Nat.le_refl _⟩
      · show Ct (d + 1) mX10_half_ 1 [vR 10 0, vI j, vI 3] NALL σ (some (vL (D 18 1 (4 * j + 3)))) NALL σ 0 0
        refine ct_of (by decide) (Nat.le_of_ble_eq_true rfl) (fun C h hr _ => ?_)
        have h : Ok C RX10 cX10_half_ 3 _ := h
        refine pre C h ?_
        refine x_iconst h dX10_half__21 ?_
        refine x_isub h dX10_half__22 ?_
        refine x_i2l h (by omega) dX10_half__23 ?_
        refine x_cS1 h kSX10_in lkX10_305 dX10_half__24 (hin) rfl rfl (Nat.le_of_ble_eq_true rfl) (by omega) ?_
        refine x_if_ne_T (tgt := 34) h (by omega) dX10_half__27 (by decide) (by omega) ?_
        refine x_iload_n h dX10_half__34 rfl ?_
        refine x_if_ne_T (tgt := 48) h (by omega) dX10_half__35 (by decide) (by omega) ?_
        refine x_iload_n h dX10_half__48 rfl ?_
        refine x_iconst h dX10_half__49 ?_
        refine x_ic_ne_T (tgt := 63) h (by omega) dX10_half__50 (by decide) (by omega) ?_
        refine x_iload_n h dX10_half__63 rfl ?_
        refine x_iconst h dX10_half__64 ?_
        refine x_ic_ne_T (tgt := 78) h (by omega) dX10_half__65 (by decide) (by omega) ?_
        refine x_iload_n h dX10_half__78 rfl ?_
        refine x_iconst h dX10_half__79 ?_
        refine x_ic_ne_F (tgt := 92) h (by omega) dX10_half__80 (by decide) (by omega) ?_
        refine x_aload_n h dX10_half__83 rfl ?_
        refine x_get h fl_10_127 lvz_10 dX10_half__84 (pvf_582 _ _) ?_
        refine x_iload_n h dX10_half__87 rfl ?_
        refine x_lald h kdf_82 lvz_82 dX10_half__88 rfl (by omega) ?_
        rw [g3]
        refine x_goto (tgt := 95) h dX10_half__89 (by decide) ?_
        exact x_lreturn h hr dX10_half__95 ⟨Nat.le_refl _, Nat.le_refl _⟩
theorem HR_sleep {k : Nat} (h : HR n S D σ) : HR n S (sleepT D k) (up3 σ 71 0 k 0) := by
  refine ⟨fun j hj => ⟨?_, fun z => ?_⟩, LgR_fr h.2 (fun f k' j q => sleepT_o _ _ (by omega) (by omega)) (fun f j q => up3_f _ _ (by omega))⟩
  · rw [sleepT_5]
    by_cases e : j = k
    · subst e; rw [up3_s, if_pos rfl]
    · rw [up3_j _ _ e, if_neg e]; exact (h.1 j hj).1
  · rw [sleepT_5] at z
    have e : j ≠ k := fun e => by rw [if_pos e] at z; omega
    rw [if_neg e] at z
    obtain ⟨x1, x2, x3⟩ := (h.1 j hj).2 z
    refine ⟨x1, fun y r hr => by rw [up3_f _ _ (by decide), sleepT_17 _ _ _ _ hr, if_neg e]; exact x2 y r hr, fun p hp y => ?_⟩
    rw [sleepT_17 _ _ _ _ (by omega), if_neg e] at y
    rw [up3_f _ _ (by decide), sleepT_o _ _ (by decide) (by omega)]
    exact x3 p hp y
theorem m9_drop {x : Int} (h12 : n ≤ 12) (hD : DW S D) (hI : RI n L B S D q why σ) (hx : i32 x) : ∃ σ', FrH σ' σ ∧ RI n L B S (dDrop n D x) q why σ' ∧ Ct (d + 2) mX10_drop 1 [vR 10 0, vI x] NALL σ (some (vI (vDrop n S D x))) NALL σ' 0 0 := by
  have hI0 := hI
  obtain ⟨r1, r2, ⟨h32, hst⟩, hH, r3, r4⟩ := hI
  unfold vDrop dDrop
  by_cases c : isT n x
  · obtain ⟨k, rfl⟩ : ∃ k : Nat, x = (k : Int) := ⟨x.toNat, by have := c.1; omega⟩
    have hk : k < n := by have := c.2; omega
    rw [if_pos c, if_pos c, Int.toNat_natCast]
    obtain ⟨⟨s1, s2, s3, s4, s5⟩, -⟩ := hst k hk
    have g71 := (hH.1 k hk).1
    have d5 := (hD.1 k (by omega)).1
    by_cases h5 : D 5 k 8 = 2
    · rw [if_pos h5, if_pos h5]
      have f67 : up3 σ 71 0 k 0 67 0 k = sSz S k := by rw [up3_f _ _ (by decide)]; exact s5
      have fr : FrH (up3 σ 71 0 k 0) σ := fun f k' j hq => up3_f _ _ (by omega)
      refine ⟨up3 σ 71 0 k 0, fr, ⟨⟨by rw [up3_f _ _ (by decide)]; exact r1.1, r1.2⟩, ?_, SRl_H ⟨h32, hst⟩ fr, HR_sleep hH, by rw [up3_f _ _ (by decide)]; exact r3, fun z => by rw [up3_f _ _ (by decide)]; exact r4 z⟩, ?_⟩
      · rw [← r2]
        funext j
        unfold tB
        rw [up3_f _ _ (by decide)]
      · refine ct_of (by decide) (Nat.le_of_ble_eq_true rfl) (fun C h hr _ => ?_)
        have h : Ok C RX10 cX10_drop 2 _ := h
        refine x_aload_n h dX10_drop_0 rfl ?_
        refine x_iload_n h dX10_drop_1 rfl ?_
        refine x_cV1 h kVX10_isTable lkX10_309 ⟨_, _, _, rfl, rfl⟩ dX10_drop_2 (isTable_y (d := d) h32 h12 hx c) lvz_10 rfl rfl (Nat.le_of_ble_eq_true rfl) (by omega) ?_
        refine x_if_ne_T (tgt := 10) h (by omega) dX10_drop_5 (by decide) (by omega) ?_
        refine x_aload_n h dX10_drop_10 rfl ?_
        refine x_get h fl_10_100 lvz_10 dX10_drop_11 (pvf_571 _ _) ?_
        refine x_iload_n h dX10_drop_14 rfl ?_
        refine x_iald h kdf_71 lvz_71 dX10_drop_15 rfl (by omega) ?_
        rw [g71, h5]
        refine x_iconst h dX10_drop_16 ?_
        refine x_ic_eq_T (tgt := 23) h (by omega) dX10_drop_17 (by decide) (by omega) ?_
        refine x_aload_n h dX10_drop_23 rfl ?_
        refine x_get h fl_10_100 lvz_10 dX10_drop_24 (pvf_571 _ _) ?_
        refine x_iload_n h dX10_drop_27 rfl ?_
        refine x_iconst h dX10_drop_28 ?_
        refine x_iast h kdf_71 lvz_71 dX10_drop_29 rfl (by omega) ?_
        refine x_aload_n h dX10_drop_30 rfl ?_
        refine x_get h fl_10_88 lvz_10 dX10_drop_31 (pvf_567 _ _) ?_
        refine x_iload_n h dX10_drop_34 rfl ?_
        refine x_lald h kdf_67 lvz_67 dX10_drop_35 rfl (by omega) ?_
        rw [f67]
        refine x_l2i h dX10_drop_36 ?_
        exact x_ireturn h hr dX10_drop_37 (Or.inl rfl) ⟨Nat.le_refl _, Nat.le_refl _⟩
    · rw [if_neg h5, if_neg h5]
      refine ⟨σ, FrH_refl σ, hI0, ?_⟩
      refine ct_of (by decide) (Nat.le_of_ble_eq_true rfl) (fun C h hr _ => ?_)
      have h : Ok C RX10 cX10_drop 2 _ := h
      refine x_aload_n h dX10_drop_0 rfl ?_
      refine x_iload_n h dX10_drop_1 rfl ?_
      refine x_cV1 h kVX10_isTable lkX10_309 ⟨_, _, _, rfl, rfl⟩ dX10_drop_2 (isTable_y (d := d) h32 h12 hx c) lvz_10 rfl rfl (Nat.le_of_ble_eq_true rfl) (by omega) ?_
      refine x_if_ne_T (tgt := 10) h (by omega) dX10_drop_5 (by decide) (by omega) ?_
      refine x_aload_n h dX10_drop_10 rfl ?_
      refine x_get h fl_10_100 lvz_10 dX10_drop_11 (pvf_571 _ _) ?_
      refine x_iload_n h dX10_drop_14 rfl ?_
      refine x_iald h kdf_71 lvz_71 dX10_drop_15 rfl (by omega) ?_
      rw [g71]
      refine x_iconst h dX10_drop_16 ?_
      refine x_ic_eq_F (tgt := 23) h (by omega) dX10_drop_17 (by decide) (by omega) ?_
      refine x_bipush h dX10_drop_20 (by decide) ?_
      exact x_ireturn h hr dX10_drop_22 (Or.inl rfl) ⟨Nat.le_refl _, Nat.le_refl _⟩
  · rw [if_neg c, if_neg c]
    refine ⟨σ, FrH_refl σ, hI0, ?_⟩
    refine ct_of (by decide) (Nat.le_of_ble_eq_true rfl) (fun C h hr _ => ?_)
    have h : Ok C RX10 cX10_drop 2 _ := h
    refine x_aload_n h dX10_drop_0 rfl ?_
    refine x_iload_n h dX10_drop_1 rfl ?_
    refine x_cV1 h kVX10_isTable lkX10_309 ⟨_, _, _, rfl, rfl⟩ dX10_drop_2 (isTable_n (d := d) h32 h12 hx c) lvz_10 rfl rfl (Nat.le_of_ble_eq_true rfl) (by omega) ?_
    refine x_if_ne_F (tgt := 10) h (by omega) dX10_drop_5 (by decide) (by omega) ?_
    refine x_iconst h dX10_drop_8 ?_
    exact x_ireturn h hr dX10_drop_9 (Or.inl rfl) ⟨Nat.le_refl _, Nat.le_refl _⟩
theorem m9_reads {x y r : Int} (hS : SOk S n) (hI : RI n L B S D q why σ) (hx : i32 x) (hy : i32 y) (hr0 : isReads n S x y r) : Ct (d + 2) mX10_reads 1 [vR 10 0, vI x, vI y] NALL σ (some (vI r)) NALL σ 0 0 := by
  have h12 := hS.1
  obtain ⟨-, -, ⟨h32, hst⟩, -⟩ := hI
  obtain ⟨w1, w2⟩ := hr0
  by_cases c : isT n x
  · by_cases c2 : isT n y
    · obtain ⟨v1, v2⟩ := w2 ⟨c, c2⟩
      obtain ⟨k, rfl⟩ : ∃ k : Nat, x = (k : Int) := ⟨x.toNat, by have := c.1; omega⟩
      have hk : k < n := by have := c.2; omega
      rw [Int.toNat_natCast] at v1 v2
      obtain ⟨-, c0, b1, b2, b3, b4⟩ := hst k hk
      have hy2 : 0 ≤ y ∧ y < 12 := ⟨c2.1, by have := c2.2; omega⟩
      have opk : ∀ j, j < (sCd S k).length → (0 ≤ σ 69 0 (c0 + j) ∧ σ 69 0 (c0 + j) ≤ 20) ∧ (σ 69 0 (c0 + j) = 4 ↔ ((sCd S k).getD j (0, 0, 0)).1 = 3) ∧ (σ 69 0 (c0 + j) = 4 → σ 70 0 (c0 + j) = ((sCd S k).getD j (0, 0, 0)).2.1) := fun j hj => by
        have ho := b4 j hj
        generalize (sCd S k).getD j (0, 0, 0) = z at ho
        rcases ho with ⟨h0, o1, o2⟩ | ⟨h0, o1, o2⟩ | ⟨h0, o1, o2⟩ | ⟨h0, o1, o2⟩ | ⟨h0, o1, o2⟩ | ⟨h0, o1, o2⟩ | ⟨h0, o1, o2⟩ | ⟨h0, o1, o2⟩
        · exact ⟨by omega, by omega, fun u => by omega⟩
        · exact ⟨by omega, by omega, fun u => by omega⟩
        · exact ⟨by omega, by omega, fun u => by omega⟩
        · have h0 : z.1 = 2 ∨ z.1 = 3 := h0
          exact ⟨by omega, by omega, fun u => o2⟩
        · exact ⟨by omega, by omega, fun u => by omega⟩
        · exact ⟨by omega, by omega, fun u => by omega⟩
        · have := actF_r z.1
          exact ⟨by omega, by omega, fun u => by omega⟩
        · exact ⟨by omega, by omega, fun u => by omega⟩
      refine ct_of (by decide) (Nat.le_of_ble_eq_true rfl) (fun C h hr _ => ?_)
      have h : Ok C RX10 cX10_reads 5 _ := h
      have loop : ∀ (cc j : Nat) (is : Int) (ls : List (Nat × PV)), j + cc = (sCd S k).length → (is = 1 ∧ (∃ i, i < j ∧ ((sCd S k).getD i (0, 0, 0)).1 = 3 ∧ ((sCd S k).getD i (0, 0, 0)).2.1 = y) ∨ is = 0 ∧ ∀ i, i < j → ¬ (((sCd S k).getD i (0, 0, 0)).1 = 3 ∧ ((sCd S k).getD i (0, 0, 0)).2.1 = y)) → lsub [(0, vR 10 0), (1, vI k), (2, vI y), (3, vI is), (4, vI ((c0 + j : Nat) : Int))] ls → X C 1 28 ls [] NALL σ 0 0 := by
        intro cc
        induction cc with
        | zero =>
          intro j is ls hj his hls
          refine x_loc hls ?_
          have er : r = is := by
            rcases his with ⟨q1, i, i1, i2, i3⟩ | ⟨q1, q2⟩
            · rw [q1]
              refine v1 ⟨(sCd S k).getD i (0, 0, 0), ?_, i2, i3⟩
              rw [List.getD_eq_getElem?_getD, List.getElem?_eq_getElem (by omega)]
              exact List.getElem_mem (by omega)
            · rw [q1]
              refine v2 (fun ⟨z, hz, z1, z2⟩ => ?_)
              obtain ⟨i, hi⟩ := List.getElem?_of_mem hz
              have hil := (List.getElem?_eq_some_iff.mp hi).1
              refine q2 i (by omega) ?_
              rw [List.getD_eq_getElem?_getD, hi]
              exact ⟨z1, z2⟩
          subst er
          refine x_iload h dX10_reads_28 rfl ?_
          refine x_aload_n h dX10_reads_30 rfl ?_
          refine x_get h fl_10_91 lvz_10 dX10_reads_31 (pvf_568 _ _) ?_
          refine x_iload_n h dX10_reads_34 rfl ?_
          refine x_iconst h dX10_reads_35 ?_
          refine x_iadd h dX10_reads_36 ?_
          refine x_iald (m := k + 1) h kdf_68 lvz_68 dX10_reads_37 (by omega) (by omega) ?_
          rw [b2]
          refine x_ic_ge_T (tgt := 77) h (by omega) dX10_reads_38 (by decide) (by omega) ?_
          refine x_iload_n h dX10_reads_77 rfl ?_
          exact x_ireturn h hr dX10_reads_78 (Or.inl rfl) ⟨Nat.le_refl _, Nat.le_refl _⟩
        | succ cc ih =>
          intro j is ls hj his hls
          refine x_loc hls ?_
          obtain ⟨o1, o2, o3⟩ := opk j (by omega)
          have e1 : ((c0 + j : Nat) : Int) + 1 = ((c0 + (j + 1) : Nat) : Int) := by omega
          by_cases hz : ((sCd S k).getD j (0, 0, 0)).1 = 3 ∧ ((sCd S k).getD j (0, 0, 0)).2.1 = y
          · have h69 := o2.mpr hz.1
            have h70 : σ 70 0 (c0 + j) = y := by rw [o3 h69]; exact hz.2
            have goal := fun ls hls => ih (j + 1) 1 ls (by omega) (Or.inl ⟨rfl, j, by omega, hz⟩) hls
            rw [← e1] at goal
            refine x_iload h dX10_reads_28 rfl ?_
            refine x_aload_n h dX10_reads_30 rfl ?_
            refine x_get h fl_10_91 lvz_10 dX10_reads_31 (pvf_568 _ _) ?_
            refine x_iload_n h dX10_reads_34 rfl ?_
            refine x_iconst h dX10_reads_35 ?_
            refine x_iadd h dX10_reads_36 ?_
            refine x_iald (m := k + 1) h kdf_68 lvz_68 dX10_reads_37 (by omega) (by omega) ?_
            rw [b2]
            refine x_ic_ge_F (tgt := 77) h (by omega) dX10_reads_38 (by decide) (by omega) ?_
            refine x_aload_n h dX10_reads_41 rfl ?_
            refine x_get h fl_10_94 lvz_10 dX10_reads_42 (pvf_569 _ _) ?_
            refine x_iload h dX10_reads_45 rfl ?_
            refine x_iald h kdf_69 lvz_69 dX10_reads_47 rfl (by omega) ?_
            rw [h69]
            refine x_iconst h dX10_reads_48 ?_
            refine x_ic_ne_F (tgt := 69) h (by omega) dX10_reads_49 (by decide) (by omega) ?_
            refine x_aload_n h dX10_reads_52 rfl ?_
            refine x_get h fl_10_97 lvz_10 dX10_reads_53 (pvf_570 _ _) ?_
            refine x_iload h dX10_reads_56 rfl ?_
            refine x_lald h kdf_70 lvz_70 dX10_reads_58 rfl (by omega) ?_
            rw [h70]
            refine x_iload_n h dX10_reads_59 rfl ?_
            refine x_i2l h (by omega) dX10_reads_60 ?_
            refine x_lc_ne (tgt := 69) h (by omega) dX10_reads_61 dX10_reads_62 (by decide) (fun q => absurd q (by omega)) (fun _ => ?_)
            refine x_iconst h dX10_reads_65 ?_
            refine x_goto (tgt := 70) h dX10_reads_66 (by decide) ?_
            refine x_istore_n h dX10_reads_70 (by decide) ?_
            refine x_iinc h dX10_reads_71 rfl (by decide) ?_
            refine x_goto (tgt := 28) h dX10_reads_74 (by decide) ?_
            exact goal _ ⟨rfl, rfl, rfl, rfl, rfl, trivial⟩
          · have goal := fun ls hls => ih (j + 1) is ls (by omega) (by
              rcases his with ⟨q1, i, i1, i2⟩ | ⟨q1, q2⟩
              · exact Or.inl ⟨q1, i, by omega, i2⟩
              · refine Or.inr ⟨q1, fun i hi => ?_⟩
                by_cases e : i = j
                · subst e; exact hz
                · exact q2 i (by omega)) hls
            rw [← e1] at goal
            by_cases h69 : σ 69 0 (c0 + j) = 4
            · have h70 := o3 h69
              have hz3 := o2.mp h69
              have hny : ((sCd S k).getD j (0, 0, 0)).2.1 ≠ y := fun e => hz ⟨hz3, e⟩
              have hmem : (sCd S k).getD j (0, 0, 0) ∈ sCd S k := by
                rw [List.getD_eq_getElem?_getD, List.getElem?_eq_getElem (by omega)]
                exact List.getElem_mem (by omega)
              have hb := (hS.2 k hk).2.2.2.2.2.2 _ hmem (Or.inr hz3)
              generalize ((sCd S k).getD j (0, 0, 0)).2.1 = yy at h70 hny hb
              refine x_iload h dX10_reads_28 rfl ?_
              refine x_aload_n h dX10_reads_30 rfl ?_
              refine x_get h fl_10_91 lvz_10 dX10_reads_31 (pvf_568 _ _) ?_
              refine x_iload_n h dX10_reads_34 rfl ?_
              refine x_iconst h dX10_reads_35 ?_
              refine x_iadd h dX10_reads_36 ?_
              refine x_iald (m := k + 1) h kdf_68 lvz_68 dX10_reads_37 (by omega) (by omega) ?_
              rw [b2]
              refine x_ic_ge_F (tgt := 77) h (by omega) dX10_reads_38 (by decide) (by omega) ?_
              refine x_aload_n h dX10_reads_41 rfl ?_
              refine x_get h fl_10_94 lvz_10 dX10_reads_42 (pvf_569 _ _) ?_
              refine x_iload h dX10_reads_45 rfl ?_
              refine x_iald h kdf_69 lvz_69 dX10_reads_47 rfl (by omega) ?_
              rw [h69]
              refine x_iconst h dX10_reads_48 ?_
              refine x_ic_ne_F (tgt := 69) h (by omega) dX10_reads_49 (by decide) (by omega) ?_
              refine x_aload_n h dX10_reads_52 rfl ?_
              refine x_get h fl_10_97 lvz_10 dX10_reads_53 (pvf_570 _ _) ?_
              refine x_iload h dX10_reads_56 rfl ?_
              refine x_lald h kdf_70 lvz_70 dX10_reads_58 rfl (by omega) ?_
              rw [h70]
              refine x_iload_n h dX10_reads_59 rfl ?_
              refine x_i2l h (by omega) dX10_reads_60 ?_
              refine x_lc_ne (tgt := 69) h (by omega) dX10_reads_61 dX10_reads_62 (by decide) (fun _ => ?_) (fun q => absurd (by omega) q)
              refine x_iload_n h dX10_reads_69 rfl ?_
              refine x_istore_n h dX10_reads_70 (by decide) ?_
              refine x_iinc h dX10_reads_71 rfl (by decide) ?_
              refine x_goto (tgt := 28) h dX10_reads_74 (by decide) ?_
              exact goal _ ⟨rfl, rfl, rfl, rfl, rfl, trivial⟩
            · refine x_iload h dX10_reads_28 rfl ?_
              refine x_aload_n h dX10_reads_30 rfl ?_
              refine x_get h fl_10_91 lvz_10 dX10_reads_31 (pvf_568 _ _) ?_
              refine x_iload_n h dX10_reads_34 rfl ?_
              refine x_iconst h dX10_reads_35 ?_
              refine x_iadd h dX10_reads_36 ?_
              refine x_iald (m := k + 1) h kdf_68 lvz_68 dX10_reads_37 (by omega) (by omega) ?_
              rw [b2]
              refine x_ic_ge_F (tgt := 77) h (by omega) dX10_reads_38 (by decide) (by omega) ?_
              refine x_aload_n h dX10_reads_41 rfl ?_
              refine x_get h fl_10_94 lvz_10 dX10_reads_42 (pvf_569 _ _) ?_
              refine x_iload h dX10_reads_45 rfl ?_
              refine x_iald h kdf_69 lvz_69 dX10_reads_47 rfl (by omega) ?_
              generalize σ 69 0 (c0 + j) = oo at o1 h69
              refine x_iconst h dX10_reads_48 ?_
              refine x_ic_ne_T (tgt := 69) h (by omega) dX10_reads_49 (by decide) (by omega) ?_
              refine x_iload_n h dX10_reads_69 rfl ?_
              refine x_istore_n h dX10_reads_70 (by decide) ?_
              refine x_iinc h dX10_reads_71 rfl (by decide) ?_
              refine x_goto (tgt := 28) h dX10_reads_74 (by decide) ?_
              exact goal _ ⟨rfl, rfl, rfl, rfl, rfl, trivial⟩
      refine x_aload_n h dX10_reads_0 rfl ?_
      refine x_iload_n h dX10_reads_1 rfl ?_
      refine x_cV1 h kVX10_isTable lkX10_309 ⟨_, _, _, rfl, rfl⟩ dX10_reads_2 (isTable_y (d := d) h32 h12 hx c) lvz_10 rfl rfl (Nat.le_of_ble_eq_true rfl) (by omega) ?_
      refine x_if_eq_F (tgt := 16) h (by omega) dX10_reads_5 (by decide) (by omega) ?_
      refine x_aload_n h dX10_reads_8 rfl ?_
      refine x_iload_n h dX10_reads_9 rfl ?_
      refine x_cV1 h kVX10_isTable lkX10_309 ⟨_, _, _, rfl, rfl⟩ dX10_reads_10 (isTable_y (d := d) h32 h12 hy c2) lvz_10 rfl rfl (Nat.le_of_ble_eq_true rfl) (by omega) ?_
      refine x_if_ne_T (tgt := 18) h (by omega) dX10_reads_13 (by decide) (by omega) ?_
      refine x_iconst h dX10_reads_18 ?_
      refine x_istore_n h dX10_reads_19 (by decide) ?_
      refine x_aload_n h dX10_reads_20 rfl ?_
      refine x_get h fl_10_91 lvz_10 dX10_reads_21 (pvf_568 _ _) ?_
      refine x_iload_n h dX10_reads_24 rfl ?_
      refine x_iald h kdf_68 lvz_68 dX10_reads_25 rfl (by omega) ?_
      rw [b1]
      refine x_istore h dX10_reads_26 (by decide) ?_
      exact loop (sCd S k).length 0 0 _ (by omega) (Or.inr ⟨rfl, fun i hi => absurd hi (Nat.not_lt_zero _)⟩) ⟨rfl, rfl, rfl, rfl, rfl, trivial⟩
    · have e := w1 (fun z => c2 z.2)
      subst e
      refine ct_of (by decide) (Nat.le_of_ble_eq_true rfl) (fun C h hr _ => ?_)
      have h : Ok C RX10 cX10_reads 5 _ := h
      refine x_aload_n h dX10_reads_0 rfl ?_
      refine x_iload_n h dX10_reads_1 rfl ?_
      refine x_cV1 h kVX10_isTable lkX10_309 ⟨_, _, _, rfl, rfl⟩ dX10_reads_2 (isTable_y (d := d) h32 h12 hx c) lvz_10 rfl rfl (Nat.le_of_ble_eq_true rfl) (by omega) ?_
      refine x_if_eq_F (tgt := 16) h (by omega) dX10_reads_5 (by decide) (by omega) ?_
      refine x_aload_n h dX10_reads_8 rfl ?_
      refine x_iload_n h dX10_reads_9 rfl ?_
      refine x_cV1 h kVX10_isTable lkX10_309 ⟨_, _, _, rfl, rfl⟩ dX10_reads_10 (isTable_n (d := d) h32 h12 hy c2) lvz_10 rfl rfl (Nat.le_of_ble_eq_true rfl) (by omega) ?_
      refine x_if_ne_F (tgt := 18) h (by omega) dX10_reads_13 (by decide) (by omega) ?_
      refine x_iconst h dX10_reads_16 ?_
      exact x_ireturn h hr dX10_reads_17 (Or.inl rfl) ⟨Nat.le_refl _, Nat.le_refl _⟩
  · have e := w1 (fun z => c z.1)
    subst e
    refine ct_of (by decide) (Nat.le_of_ble_eq_true rfl) (fun C h hr _ => ?_)
    have h : Ok C RX10 cX10_reads 5 _ := h
    refine x_aload_n h dX10_reads_0 rfl ?_
    refine x_iload_n h dX10_reads_1 rfl ?_
    refine x_cV1 h kVX10_isTable lkX10_309 ⟨_, _, _, rfl, rfl⟩ dX10_reads_2 (isTable_n (d := d) h32 h12 hx c) lvz_10 rfl rfl (Nat.le_of_ble_eq_true rfl) (by omega) ?_
    refine x_if_eq_T (tgt := 16) h (by omega) dX10_reads_5 (by decide) (by omega) ?_
    refine x_iconst h dX10_reads_16 ?_
    exact x_ireturn h hr dX10_reads_17 (Or.inl rfl) ⟨Nat.le_refl _, Nat.le_refl _⟩
end MO
