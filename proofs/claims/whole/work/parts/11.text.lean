/-! Text: t is which of the two, told its number of TABLES; a TABLE's member is 12 t + k -/
theorem c_slotAt {d : Nat} {σ : Mm} {t k : Nat} (ht : t < 2) (hk : k < 12) : Ct d mX4_slotAt 1 [vR 4 t, vI k] NALL σ (some (vR 5 (12 * t + k))) NALL σ 0 0 := by
  refine ct_of (by decide) (Nat.le_of_ble_eq_true rfl) (fun C h hr _ => ?_)
  have h : Ok C RX4 cX4_slotAt 2 _ := h
  refine x_iload_n h dX4_slotAt_0 rfl ?_
  refine x_if_lt_F (tgt := 22) h (by omega) dX4_slotAt_1 (by decide) (by omega) ?_
  refine x_iload_n h dX4_slotAt_4 rfl ?_
  refine x_aload_n h dX4_slotAt_5 rfl ?_
  refine x_get h fl_4_11 (lvm_4 (by omega)) dX4_slotAt_6 (pvf_712 _ _) ?_
  refine x_alen h kdf_12 (by decide) (lvm_12 (by omega)) dX4_slotAt_9 ?_
  refine x_ic_ge_F (tgt := 22) h (by omega) dX4_slotAt_10 (by decide) (by omega) ?_
  refine x_aload_n h dX4_slotAt_13 rfl ?_
  refine x_get h fl_4_11 (lvm_4 (by omega)) dX4_slotAt_14 (pvf_712 _ _) ?_
  refine x_iload_n h dX4_slotAt_17 rfl ?_
  refine x_aald h kdf_12 (lvm_12 (by omega)) dX4_slotAt_18 rfl (by omega) ?_
  refine x_goto (tgt := 23) h dX4_slotAt_19 (by decide) ?_
  exact x_areturn h hr dX4_slotAt_23 (by first | exact Or.inl rfl | exact Or.inr ⟨_, _, rfl⟩) ⟨Nat.le_refl _, Nat.le_refl _⟩
theorem c_slotAtN {d : Nat} {σ : Mm} {t : Nat} {x : Int} (ht : t < 2) (hx : -2147483648 ≤ x ∧ x < 2147483648) (hk : x < 0 ∨ 12 ≤ x) : Ct d mX4_slotAt 1 [vR 4 t, vI x] NALL σ (some vN) NALL σ 0 0 := by
  refine ct_of (by decide) (Nat.le_of_ble_eq_true rfl) (fun C h hr _ => ?_)
  have h : Ok C RX4 cX4_slotAt 2 _ := h
  refine x_iload_n h dX4_slotAt_0 rfl ?_
  refine x_if_lt (tgt := 22) h (by omega) dX4_slotAt_1 (by decide) (fun hc => ?_) (fun hc => ?_)
  · refine x_null h dX4_slotAt_22 ?_
    exact x_areturn h hr dX4_slotAt_23 (by first | exact Or.inl rfl | exact Or.inr ⟨_, _, rfl⟩) ⟨Nat.le_refl _, Nat.le_refl _⟩
  · refine x_iload_n h dX4_slotAt_4 rfl ?_
    refine x_aload_n h dX4_slotAt_5 rfl ?_
    refine x_get h fl_4_11 (lvm_4 (by omega)) dX4_slotAt_6 (pvf_712 _ _) ?_
    refine x_alen h kdf_12 (by decide) (lvm_12 (by omega)) dX4_slotAt_9 ?_
    refine x_ic_ge_T (tgt := 22) h (by omega) dX4_slotAt_10 (by decide) (by omega) ?_
    refine x_null h dX4_slotAt_22 ?_
    exact x_areturn h hr dX4_slotAt_23 (by first | exact Or.inl rfl | exact Or.inr ⟨_, _, rfl⟩) ⟨Nat.le_refl _, Nat.le_refl _⟩
theorem c_tableAt {d : Nat} {σ : Mm} {t k n : Nat} (ht : t < 2) (hn : σ 4 t 1 = n) (hn2 : n ≤ 12) (hk : k < n) : Ct (d + 1) mX4_tableAt 1 [vR 4 t, vI k] NALL σ (some (vR 5 (12 * t + k))) NALL σ 0 0 := by
  refine ct_of (by decide) (Nat.le_of_ble_eq_true rfl) (fun C h hr _ => ?_)
  have h : Ok C RX4 cX4_tableAt 2 _ := h
  refine x_iload_n h dX4_tableAt_0 rfl ?_
  refine x_aload_n h dX4_tableAt_1 rfl ?_
  refine x_get (q := vI (n)) h fl_4_18 (lvm_4 (by omega)) dX4_tableAt_2 (congrArg vI (by first | exact hn | simp [up3, hn])) ?_
  refine x_ic_ge_F (tgt := 16) h (by omega) dX4_tableAt_5 (by decide) (by omega) ?_
  refine x_aload_n h dX4_tableAt_8 rfl ?_
  refine x_iload_n h dX4_tableAt_9 rfl ?_
  refine x_cV1 h kVX4_slotAt lkX4_22 ⟨_, _, _, rfl, rfl⟩ dX4_tableAt_10 (c_slotAt (d := d) (t := t) (k := k) ht (by omega)) (lvm_4 (by omega)) rfl rfl (Nat.le_of_ble_eq_true rfl) (by omega) ?_
  refine x_goto (tgt := 17) h dX4_tableAt_13 (by decide) ?_
  exact x_areturn h hr dX4_tableAt_17 (by first | exact Or.inl rfl | exact Or.inr ⟨_, _, rfl⟩) ⟨Nat.le_refl _, Nat.le_refl _⟩
theorem c_tableAtN {d : Nat} {σ : Mm} {t n : Nat} {x : Int} (ht : t < 2) (hn : σ 4 t 1 = n) (hn2 : n ≤ 12) (hx : -2147483648 ≤ x ∧ x < 2147483648) (hk : x < 0 ∨ n ≤ x) : Ct (d + 1) mX4_tableAt 1 [vR 4 t, vI x] NALL σ (some vN) NALL σ 0 0 := by
  refine ct_of (by decide) (Nat.le_of_ble_eq_true rfl) (fun C h hr _ => ?_)
  have h : Ok C RX4 cX4_tableAt 2 _ := h
  refine x_iload_n h dX4_tableAt_0 rfl ?_
  refine x_aload_n h dX4_tableAt_1 rfl ?_
  refine x_get (q := vI (n)) h fl_4_18 (lvm_4 (by omega)) dX4_tableAt_2 (congrArg vI (by first | exact hn | simp [up3, hn])) ?_
  refine x_ic_ge (tgt := 16) h (by omega) dX4_tableAt_5 (by decide) (fun hc => ?_) (fun hc => ?_)
  · refine x_null h dX4_tableAt_16 ?_
    exact x_areturn h hr dX4_tableAt_17 (by first | exact Or.inl rfl | exact Or.inr ⟨_, _, rfl⟩) ⟨Nat.le_refl _, Nat.le_refl _⟩
  · refine x_aload_n h dX4_tableAt_8 rfl ?_
    refine x_iload_n h dX4_tableAt_9 rfl ?_
    refine x_cV1 h kVX4_slotAt lkX4_22 ⟨_, _, _, rfl, rfl⟩ dX4_tableAt_10 (c_slotAtN (d := d) (t := t) (x := x) ht hx (by omega)) (lvm_4 (by omega)) rfl rfl (Nat.le_of_ble_eq_true rfl) (by omega) ?_
    refine x_goto (tgt := 17) h dX4_tableAt_13 (by decide) ?_
    exact x_areturn h hr dX4_tableAt_17 (by first | exact Or.inl rfl | exact Or.inr ⟨_, _, rfl⟩) ⟨Nat.le_refl _, Nat.le_refl _⟩
/-- the first place from k on of c that holds x -/
def nofR (g : Nat → Int) (x : Int) : Nat → Nat → Int
  | 0, _ => -9
  | c + 1, k => if g k = x then k else nofR g x c (k + 1)
def nof (g : Nat → Int) (x : Int) (n : Nat) : Int := nofR g x n 0
def nameG (σ : Mm) (t : Nat) : Nat → Int := fun k => σ 5 (12 * t + k) 3
theorem c_numberOf {d : Nat} {σ : Mm} {t n : Nat} {x : Int} (ht : t < 2) (hn : σ 4 t 1 = n) (hn2 : n ≤ 12) (hx : -9223372036854775808 ≤ x ∧ x < 9223372036854775808) (hg : ∀ k, k < n → -9223372036854775808 ≤ nameG σ t k ∧ nameG σ t k < 9223372036854775808) : Ct (d + 1) mX4_numberOf 1 [vR 4 t, vL x] NALL σ (some (vI (nof (nameG σ t) x n))) NALL σ 0 0 := by
  refine ct_of (by decide) (Nat.le_of_ble_eq_true rfl) (fun C h hr _ => ?_)
  have h : Ok C RX4 cX4_numberOf 5 _ := h
  have loop : ∀ (c k : Nat) (ls : List (Nat × PV)), k + c = n → nof (nameG σ t) x n = nofR (nameG σ t) x c k → lsub [(0, vR 4 t), (1, vL x), (3, vI k)] ls → X C 1 2 ls [] NALL σ 0 0 := by
    intro c
    induction c with
    | zero =>
      intro k ls hk hv hls
      refine x_loc hls ?_
      rw [hv, nofR] at hr
      refine x_iload_n h dX4_numberOf_2 rfl ?_
      refine x_aload_n h dX4_numberOf_3 rfl ?_
      refine x_get (q := vI (n)) h fl_4_18 (lvm_4 (by omega)) dX4_numberOf_4 (congrArg vI (by first | exact hn | simp [up3, hn])) ?_
      refine x_ic_ge_T (tgt := 40) h (by omega) dX4_numberOf_7 (by decide) (by omega) ?_
      refine x_bipush h dX4_numberOf_40 (by decide) ?_
      exact x_ireturn h hr dX4_numberOf_42 (Or.inl rfl) ⟨Nat.le_refl _, Nat.le_refl _⟩
    | succ c ih =>
      intro k ls hk hv hls
      refine x_loc hls ?_
      have hgk := hg k (by omega)
      have hgk2 : nameG σ t k = σ 5 (12 * t + k) 3 := rfl
      refine x_iload_n h dX4_numberOf_2 rfl ?_
      refine x_aload_n h dX4_numberOf_3 rfl ?_
      refine x_get (q := vI (n)) h fl_4_18 (lvm_4 (by omega)) dX4_numberOf_4 (congrArg vI (by first | exact hn | simp [up3, hn])) ?_
      refine x_ic_ge_F (tgt := 40) h (by omega) dX4_numberOf_7 (by decide) (by omega) ?_
      refine x_aload_n h dX4_numberOf_10 rfl ?_
      refine x_iload_n h dX4_numberOf_11 rfl ?_
      refine x_cV1 h kVX4_slotAt lkX4_22 ⟨_, _, _, rfl, rfl⟩ dX4_numberOf_12 (c_slotAt (d := d) (t := t) (k := k) ht (by omega)) (lvm_4 (by omega)) rfl rfl (Nat.le_of_ble_eq_true rfl) (by omega) ?_
      refine x_astore h dX4_numberOf_15 (by decide) ?_
      refine x_aload h dX4_numberOf_17 rfl ?_
      refine x_ifnull h dX4_numberOf_19 ?_
      refine x_aload h dX4_numberOf_22 rfl ?_
      refine x_get h fl_4_26 (lvm_5 (by omega)) dX4_numberOf_24 rfl ?_
      refine x_lload_n h dX4_numberOf_27 rfl ?_
      refine x_lc_ne (tgt := 34) h (by omega) dX4_numberOf_28 dX4_numberOf_29 (by decide) (fun hc => ?_) (fun hc => ?_)
      · refine x_iinc h dX4_numberOf_34 rfl (by decide) ?_
        refine x_goto (tgt := 2) h dX4_numberOf_37 (by decide) ?_
        exact ih (k + 1) _ (by omega) (by rw [hv, nofR, if_neg (by omega)]) ⟨rfl, rfl, rfl, trivial⟩
      · rw [hv, nofR, if_pos (by omega)] at hr
        refine x_iload_n h dX4_numberOf_32 rfl ?_
        exact x_ireturn h hr dX4_numberOf_33 (Or.inl rfl) ⟨Nat.le_refl _, Nat.le_refl _⟩
  refine x_iconst h dX4_numberOf_0 ?_
  refine x_istore_n h dX4_numberOf_1 (by decide) ?_
  exact loop n 0 _ (by omega) rfl ⟨rfl, rfl, rfl, trivial⟩
theorem c_sizeOf {d : Nat} {σ : Mm} {t n k : Nat} (ht : t < 2) (hn : σ 4 t 1 = n) (hn2 : n ≤ 12) (hk : k < n) : Ct (d + 2) mX4_sizeOf 1 [vR 4 t, vI k] NALL σ (some (vL (σ 5 (12 * t + k) 4))) NALL σ 0 0 := by
  refine ct_of (by decide) (Nat.le_of_ble_eq_true rfl) (fun C h hr _ => ?_)
  have h : Ok C RX4 cX4_sizeOf 3 _ := h
  refine x_aload_n h dX4_sizeOf_0 rfl ?_
  refine x_iload_n h dX4_sizeOf_1 rfl ?_
  refine x_cV1 h kVX4_tableAt lkX4_30 ⟨_, _, _, rfl, rfl⟩ dX4_sizeOf_2 (c_tableAt (d := d) (k := k) ht hn hn2 hk) (lvm_4 (by omega)) rfl rfl (Nat.le_of_ble_eq_true rfl) (by omega) ?_
  refine x_astore_n h dX4_sizeOf_5 (by decide) ?_
  refine x_aload_n h dX4_sizeOf_6 rfl ?_
  refine x_ifnonnull (tgt := 14) h dX4_sizeOf_7 (by decide) ?_
  refine x_aload_n h dX4_sizeOf_14 rfl ?_
  refine x_get h fl_4_33 (lvm_5 (by omega)) dX4_sizeOf_15 rfl ?_
  exact x_lreturn h hr dX4_sizeOf_18 ⟨Nat.le_refl _, Nat.le_refl _⟩
theorem c_sizeOfN {d : Nat} {σ : Mm} {t n : Nat} {x : Int} (ht : t < 2) (hn : σ 4 t 1 = n) (hn2 : n ≤ 12) (hx : -2147483648 ≤ x ∧ x < 2147483648) (hk : x < 0 ∨ n ≤ x) : Ct (d + 2) mX4_sizeOf 1 [vR 4 t, vI x] NALL σ (some (vL 0)) NALL σ 0 0 := by
  refine ct_of (by decide) (Nat.le_of_ble_eq_true rfl) (fun C h hr _ => ?_)
  have h : Ok C RX4 cX4_sizeOf 3 _ := h
  refine x_aload_n h dX4_sizeOf_0 rfl ?_
  refine x_iload_n h dX4_sizeOf_1 rfl ?_
  refine x_cV1 h kVX4_tableAt lkX4_30 ⟨_, _, _, rfl, rfl⟩ dX4_sizeOf_2 (c_tableAtN (d := d) ht hn hn2 hx hk) (lvm_4 (by omega)) rfl rfl (Nat.le_of_ble_eq_true rfl) (by omega) ?_
  refine x_astoreN_n h dX4_sizeOf_5 (by decide) ?_
  refine x_aloadN_n h dX4_sizeOf_6 rfl ?_
  refine x_ifnonnullN h dX4_sizeOf_7 ?_
  refine x_lconst0 h dX4_sizeOf_10 ?_
  refine x_goto (tgt := 18) h dX4_sizeOf_11 (by decide) ?_
  exact x_lreturn h hr dX4_sizeOf_18 ⟨Nat.le_refl _, Nat.le_refl _⟩
/-- the first n TABLES of a TEXT put to sleep -/
def sleepX (σ : Mm) (t : Nat) : Nat → Mm
  | 0 => σ
  | k + 1 => sleepT (sleepX σ t k) (12 * t + k)
theorem sleepX_f (σ : Mm) (t : Nat) {f : Nat} (h : f ≠ 5 ∧ f ≠ 17) : ∀ n k j, sleepX σ t n f k j = σ f k j := by
  intro n
  induction n with
  | zero => intro k j; rfl
  | succ n ih =>
    intro k j
    show sleepT (sleepX σ t n) (12 * t + n) f k j = _
    unfold sleepT zeroA
    rw [if_neg (by omega), up3_f _ _ h.1, ih]
theorem c_xsleep {d : Nat} {σ : Mm} {t n : Nat} (ht : t < 2) (hn : σ 4 t 1 = n) (hn2 : n ≤ 12) : Ct (d + 1) mX4_putToSleep 1 [vR 4 t] NALL σ none NALL (sleepX σ t n) 0 0 := by
  refine ct_of (by decide) (Nat.le_of_ble_eq_true rfl) (fun C h hr _ => ?_)
  have h : Ok C RX4 cX4_putToSleep 3 _ := h
  have loop : ∀ (c k : Nat) (ls : List (Nat × PV)), k + c = n → lsub [(0, vR 4 t), (1, vI k)] ls → X C 1 2 ls [] NALL (sleepX σ t k) 0 0 := by
    intro c
    induction c with
    | zero =>
      intro k ls hk hls
      refine x_loc hls ?_
      have hn' : sleepX σ t k 4 t 1 = n := by rw [sleepX_f _ _ (by decide)]; exact hn
      obtain rfl : k = n := by omega
      refine x_iload_n h dX4_putToSleep_2 rfl ?_
      refine x_aload_n h dX4_putToSleep_3 rfl ?_
      refine x_get (q := vI (k)) h fl_4_18 (lvm_4 (by omega)) dX4_putToSleep_4 (congrArg vI (by first | exact hn' | simp [up3, hn'])) ?_
      refine x_ic_ge_T (tgt := 30) h (by omega) dX4_putToSleep_7 (by decide) (by omega) ?_
      exact x_return h hr dX4_putToSleep_30 ⟨Nat.le_refl _, Nat.le_refl _⟩
    | succ c ih =>
      intro k ls hk hls
      refine x_loc hls ?_
      have hn' : sleepX σ t k 4 t 1 = n := by rw [sleepX_f _ _ (by decide)]; exact hn
      refine x_iload_n h dX4_putToSleep_2 rfl ?_
      refine x_aload_n h dX4_putToSleep_3 rfl ?_
      refine x_get (q := vI (n)) h fl_4_18 (lvm_4 (by omega)) dX4_putToSleep_4 (congrArg vI (by first | exact hn' | simp [up3, hn'])) ?_
      refine x_ic_ge_F (tgt := 30) h (by omega) dX4_putToSleep_7 (by decide) (by omega) ?_
      refine x_aload_n h dX4_putToSleep_10 rfl ?_
      refine x_iload_n h dX4_putToSleep_11 rfl ?_
      refine x_cV1 h kVX4_slotAt lkX4_22 ⟨_, _, _, rfl, rfl⟩ dX4_putToSleep_12 (c_slotAt (d := d) (t := t) (k := k) ht (by omega)) (lvm_4 (by omega)) rfl rfl (Nat.le_of_ble_eq_true rfl) (by omega) ?_
      refine x_astore_n h dX4_putToSleep_15 (by decide) ?_
      refine x_aload_n h dX4_putToSleep_16 rfl ?_
      refine x_ifnull h dX4_putToSleep_17 ?_
      refine x_aload_n h dX4_putToSleep_20 rfl ?_
      refine x_cV0 h kVX2_putToSleep lkX4_36 ⟨_, _, _, rfl, rfl⟩ dX4_putToSleep_21 (c_tsleep (d := d) (m := 12 * t + k) (by omega)) (lvm_5 (by omega)) rfl rfl (Nat.le_of_ble_eq_true rfl) (by omega) ?_
      refine x_iinc h dX4_putToSleep_24 rfl (by decide) ?_
      refine x_goto (tgt := 2) h dX4_putToSleep_27 (by decide) ?_
      exact ih (k + 1) _ (by omega) ⟨rfl, rfl, trivial⟩
  refine x_iconst h dX4_putToSleep_0 ?_
  refine x_istore_n h dX4_putToSleep_1 (by decide) ?_
  exact loop n 0 _ (by omega) ⟨rfl, rfl, trivial⟩
/-- how many of the first n are x -/
def cntC (g : Nat → Int) (x : Int) : Nat → Int
  | 0 => 0
  | k + 1 => cntC g x k + (if g k = x then 1 else 0)
theorem cntC_r (g : Nat → Int) (x : Int) : ∀ n : Nat, 0 ≤ cntC g x n ∧ cntC g x n ≤ n := by
  intro n
  induction n with
  | zero => exact ⟨Int.le_refl _, Int.le_refl _⟩
  | succ n ih => unfold cntC; split <;> omega
def condG (σ : Mm) (t : Nat) : Nat → Int := fun k => σ 5 (12 * t + k) 8
theorem c_howManyAre {d : Nat} {σ : Mm} {t n : Nat} {x : Int} (ht : t < 2) (hn : σ 4 t 1 = n) (hn2 : n ≤ 12) (hx : 0 ≤ x ∧ x ≤ 3) (hg : ∀ k, k < n → 0 ≤ condG σ t k ∧ condG σ t k ≤ 3) : Ct (d + 1) mX4_howManyAre 1 [vR 4 t, vI x] NALL σ (some (vI (cntC (condG σ t) x n))) NALL σ 0 0 := by
  refine ct_of (by decide) (Nat.le_of_ble_eq_true rfl) (fun C h hr _ => ?_)
  have h : Ok C RX4 cX4_howManyAre 5 _ := h
  have loop : ∀ (c k : Nat) (ls : List (Nat × PV)), k + c = n → lsub [(0, vR 4 t), (1, vI x), (2, vI (cntC (condG σ t) x k)), (3, vI k)] ls → X C 1 4 ls [] NALL σ 0 0 := by
    intro c
    induction c with
    | zero =>
      intro k ls hk hls
      refine x_loc hls ?_
      obtain rfl : k = n := by omega
      refine x_iload_n h dX4_howManyAre_4 rfl ?_
      refine x_aload_n h dX4_howManyAre_5 rfl ?_
      refine x_get (q := vI (k)) h fl_4_18 (lvm_4 (by omega)) dX4_howManyAre_6 (congrArg vI (by first | exact hn | simp [up3, hn])) ?_
      refine x_ic_ge_T (tgt := 42) h (by omega) dX4_howManyAre_9 (by decide) (by omega) ?_
      refine x_iload_n h dX4_howManyAre_42 rfl ?_
      exact x_ireturn h hr dX4_howManyAre_43 (Or.inl rfl) ⟨Nat.le_refl _, Nat.le_refl _⟩
    | succ c ih =>
      intro k ls hk hls
      refine x_loc hls ?_
      have hgk := hg k (by omega)
      have hgk2 : condG σ t k = σ 5 (12 * t + k) 8 := rfl
      refine x_iload_n h dX4_howManyAre_4 rfl ?_
      refine x_aload_n h dX4_howManyAre_5 rfl ?_
      refine x_get (q := vI (n)) h fl_4_18 (lvm_4 (by omega)) dX4_howManyAre_6 (congrArg vI (by first | exact hn | simp [up3, hn])) ?_
      refine x_ic_ge_F (tgt := 42) h (by omega) dX4_howManyAre_9 (by decide) (by omega) ?_
      refine x_aload_n h dX4_howManyAre_12 rfl ?_
      refine x_iload_n h dX4_howManyAre_13 rfl ?_
      refine x_cV1 h kVX4_slotAt lkX4_22 ⟨_, _, _, rfl, rfl⟩ dX4_howManyAre_14 (c_slotAt (d := d) (t := t) (k := k) ht (by omega)) (lvm_4 (by omega)) rfl rfl (Nat.le_of_ble_eq_true rfl) (by omega) ?_
      refine x_astore h dX4_howManyAre_17 (by decide) ?_
      refine x_aload h dX4_howManyAre_19 rfl ?_
      refine x_ifnull h dX4_howManyAre_21 ?_
      refine x_aload h dX4_howManyAre_24 rfl ?_
      refine x_get h fl_4_39 (lvm_5 (by omega)) dX4_howManyAre_26 rfl ?_
      refine x_iload_n h dX4_howManyAre_29 rfl ?_
      refine x_ic_ne (tgt := 36) h (by omega) dX4_howManyAre_30 (by decide) (fun hc => ?_) (fun hc => ?_)
      · refine x_iinc h dX4_howManyAre_36 rfl (by decide) ?_
        refine x_goto (tgt := 4) h dX4_howManyAre_39 (by decide) ?_
        refine ih (k + 1) _ (by omega) ⟨rfl, rfl, ?_, rfl, trivial⟩
        rw [show cntC (condG σ t) x (k + 1) = cntC (condG σ t) x k by rw [cntC, if_neg (by omega), Int.add_zero]]
        rfl
      · refine x_iinc h dX4_howManyAre_33 rfl (by decide) ?_
        refine x_iinc h dX4_howManyAre_36 rfl (by decide) ?_
        refine x_goto (tgt := 4) h dX4_howManyAre_39 (by decide) ?_
        refine ih (k + 1) _ (by omega) ⟨rfl, rfl, ?_, rfl, trivial⟩
        rw [show cntC (condG σ t) x (k + 1) = cntC (condG σ t) x k + 1 by rw [cntC, if_pos (by omega)]]
        rfl
  refine x_iconst h dX4_howManyAre_0 ?_
  refine x_istore_n h dX4_howManyAre_1 (by decide) ?_
  refine x_iconst h dX4_howManyAre_2 ?_
  refine x_istore_n h dX4_howManyAre_3 (by decide) ?_
  exact loop n 0 _ (by omega) ⟨rfl, rfl, rfl, rfl, trivial⟩
def rdyA (g : Nat → Int) : Nat → Int
  | 0 => 0
  | k + 1 => rdyA g k + g k
def rdyG (σ : Mm) (t : Nat) : Nat → Int := fun k => rdyT (σ 5 (12 * t + k) 8) (σ 5 (12 * t + k) 5) (σ 5 (12 * t + k) 4) (σ 17 (12 * t + k))
theorem c_xready {d : Nat} {σ : Mm} {t n : Nat} (ht : t < 2) (hn : σ 4 t 1 = n) (hn2 : n ≤ 12) (hs : ∀ k, k < n → -9223372036854775808 ≤ σ 5 (12 * t + k) 4 ∧ σ 5 (12 * t + k) 4 < 9223372036854775808) (hc : ∀ k, k < n → 0 ≤ σ 5 (12 * t + k) 8 ∧ σ 5 (12 * t + k) 8 ≤ 3) (hb : ∀ k, k < n → 0 ≤ σ 5 (12 * t + k) 5 ∧ σ 5 (12 * t + k) 5 ≤ 1) (hrc : ∀ k, k < n → ∀ r, r < 25 → 0 ≤ σ 17 (12 * t + k) r ∧ σ 17 (12 * t + k) r ≤ 3) : Ct (d + 4) mX4_readyEntries 1 [vR 4 t] NALL σ (some (vI (rdyA (rdyG σ t) n))) NALL σ 0 0 := by
  refine ct_of (by decide) (Nat.le_of_ble_eq_true rfl) (fun C h hr _ => ?_)
  have h : Ok C RX4 cX4_readyEntries 4 _ := h
  have loop : ∀ (c k : Nat) (ls : List (Nat × PV)), k + c = n → lsub [(0, vR 4 t), (1, vI (rdyA (rdyG σ t) k)), (2, vI k)] ls → X C 1 4 ls [] NALL σ 0 0 := by
    intro c
    induction c with
    | zero =>
      intro k ls hk hls
      refine x_loc hls ?_
      obtain rfl : k = n := by omega
      refine x_iload_n h dX4_readyEntries_4 rfl ?_
      refine x_aload_n h dX4_readyEntries_5 rfl ?_
      refine x_get (q := vI (k)) h fl_4_18 (lvm_4 (by omega)) dX4_readyEntries_6 (congrArg vI (by first | exact hn | simp [up3, hn])) ?_
      refine x_ic_ge_T (tgt := 35) h (by omega) dX4_readyEntries_9 (by decide) (by omega) ?_
      refine x_iload_n h dX4_readyEntries_35 rfl ?_
      exact x_ireturn h hr dX4_readyEntries_36 (Or.inl rfl) ⟨Nat.le_refl _, Nat.le_refl _⟩
    | succ c ih =>
      intro k ls hk hls
      refine x_loc hls ?_
      refine x_iload_n h dX4_readyEntries_4 rfl ?_
      refine x_aload_n h dX4_readyEntries_5 rfl ?_
      refine x_get (q := vI (n)) h fl_4_18 (lvm_4 (by omega)) dX4_readyEntries_6 (congrArg vI (by first | exact hn | simp [up3, hn])) ?_
      refine x_ic_ge_F (tgt := 35) h (by omega) dX4_readyEntries_9 (by decide) (by omega) ?_
      refine x_aload_n h dX4_readyEntries_12 rfl ?_
      refine x_iload_n h dX4_readyEntries_13 rfl ?_
      refine x_cV1 h kVX4_slotAt lkX4_22 ⟨_, _, _, rfl, rfl⟩ dX4_readyEntries_14 (c_slotAt (d := d) (t := t) (k := k) ht (by omega)) (lvm_4 (by omega)) rfl rfl (Nat.le_of_ble_eq_true rfl) (by omega) ?_
      refine x_astore_n h dX4_readyEntries_17 (by decide) ?_
      refine x_aload_n h dX4_readyEntries_18 rfl ?_
      refine x_ifnull h dX4_readyEntries_19 ?_
      refine x_iload_n h dX4_readyEntries_22 rfl ?_
      refine x_aload_n h dX4_readyEntries_23 rfl ?_
      refine x_cV1 h kVX2_readyEntries lkX4_42 ⟨_, _, _, rfl, rfl⟩ dX4_readyEntries_24 (c_readyEntries (d := d) (m := 12 * t + k) (by omega) (hs k (by omega)) (hc k (by omega)) (hb k (by omega)) (hrc k (by omega))) (lvm_5 (by omega)) rfl rfl (Nat.le_of_ble_eq_true rfl) (by omega) ?_
      refine x_iadd h dX4_readyEntries_27 ?_
      refine x_istore_n h dX4_readyEntries_28 (by decide) ?_
      refine x_iinc h dX4_readyEntries_29 rfl (by decide) ?_
      refine x_goto (tgt := 4) h dX4_readyEntries_32 (by decide) ?_
      exact ih (k + 1) _ (by omega) ⟨rfl, rfl, rfl, trivial⟩
  refine x_iconst h dX4_readyEntries_0 ?_
  refine x_istore_n h dX4_readyEntries_1 (by decide) ?_
  refine x_iconst h dX4_readyEntries_2 ?_
  refine x_istore_n h dX4_readyEntries_3 (by decide) ?_
  exact loop n 0 _ (by omega) ⟨rfl, rfl, rfl, trivial⟩
