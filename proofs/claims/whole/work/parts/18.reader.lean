/-! TextReader: small methods, UNITS, PRODUCTS, SUMS -/
theorem c_faultHere {d : Nat} {σ : Mm} {x : Int} (hx : σ 3 0 3 = x) : Ct d mX5_faultHere 1 [vR 2 0] NALL σ (some (vI 0)) NALL (up3 σ 2 0 3 x) 0 0 := by
  refine ct_of (by decide) (Nat.le_of_ble_eq_true rfl) (fun C h hr _ => ?_)
  have h : Ok C RX5 cX5_faultHere 1 _ := h
  refine x_aload_n h dX5_faultHere_0 rfl ?_
  refine x_aload_n h dX5_faultHere_1 rfl ?_
  refine x_get h fl_5_14 lvz_2 dX5_faultHere_2 (pvf_503 _ _) ?_
  refine x_get (q := vI (x)) h fl_5_53 lvz_3 dX5_faultHere_5 (congrArg vI (by first | exact hx | simp [up3, hx])) ?_
  refine x_put h fl_5_28 lvz_2 dX5_faultHere_8 rfl (fun z => absurd z (by decide)) ?_
  refine x_iconst h dX5_faultHere_11 ?_
  exact x_ireturn h hr dX5_faultHere_12 (Or.inr ⟨rfl, by omega⟩) ⟨Nat.le_refl _, Nat.le_refl _⟩
theorem c_note_0 {d : Nat} {σ : Mm} {x y : Int} (hy : σ 2 0 4 = y) (hx : -2147483648 ≤ x ∧ x < 2147483648) (hy2 : -2147483648 ≤ y ∧ y < 2147483648) : Ct d mX5_noteNameFault 1 [vR 2 0, vI x] NALL σ none NALL (if y = -9 ∨ x < y then up3 σ 2 0 4 x else σ) 0 0 := by
  refine ct_of (by decide) (Nat.le_of_ble_eq_true rfl) (fun C h hr _ => ?_)
  have h : Ok C RX5 cX5_noteNameFault 2 _ := h
  refine x_aload_n h dX5_noteNameFault_0 rfl ?_
  refine x_get (q := vI (y)) h fl_5_31 lvz_2 dX5_noteNameFault_1 (congrArg vI (by first | exact hy | simp [up3, hy])) ?_
  refine x_bipush h dX5_noteNameFault_4 (by decide) ?_
  refine x_ic_eq (tgt := 17) h (by omega) dX5_noteNameFault_6 (by decide) (fun hc => ?_) (fun hc => ?_)
  · rw [if_pos (Or.inl hc)] at hr
    refine x_aload_n h dX5_noteNameFault_17 rfl ?_
    refine x_iload_n h dX5_noteNameFault_18 rfl ?_
    refine x_put h fl_5_31 lvz_2 dX5_noteNameFault_19 rfl (fun z => absurd z (by decide)) ?_
    exact x_return h hr dX5_noteNameFault_22 ⟨Nat.le_refl _, Nat.le_refl _⟩
  · refine x_iload_n h dX5_noteNameFault_9 rfl ?_
    refine x_aload_n h dX5_noteNameFault_10 rfl ?_
    refine x_get (q := vI (y)) h fl_5_31 lvz_2 dX5_noteNameFault_11 (congrArg vI (by first | exact hy | simp [up3, hy])) ?_
    refine x_ic_ge (tgt := 22) h (by omega) dX5_noteNameFault_14 (by decide) (fun hd => ?_) (fun hd => ?_)
    · rw [if_neg (by omega)] at hr
      exact x_return h hr dX5_noteNameFault_22 ⟨Nat.le_refl _, Nat.le_refl _⟩
    · rw [if_pos (by omega)] at hr
      refine x_aload_n h dX5_noteNameFault_17 rfl ?_
      refine x_iload_n h dX5_noteNameFault_18 rfl ?_
      refine x_put h fl_5_31 lvz_2 dX5_noteNameFault_19 rfl (fun z => absurd z (by decide)) ?_
      exact x_return h hr dX5_noteNameFault_22 ⟨Nat.le_refl _, Nat.le_refl _⟩
theorem c_pexpT {d : Nat} {σ : Mm} {L m i u : Nat} {ss : List Zs} {k : Int} (hL : TapeL σ L) (hB : BOk (tB σ 11 L) L) (hi : tq (tB σ 11 L) i ≤ L) (hk : tK (tB σ 11 L) i = k) (hk0 : 0 < k) : Ct (d + 3) mX5_expect 1 [vR 2 0, vI k] NALL (psS σ L m i u ss) (some (vI 1)) NALL (psS σ L m (i + 1) u ss) 0 0 := by
  refine ct_of (by decide) (Nat.le_of_ble_eq_true rfl) (fun C h hr _ => ?_)
  have h : Ok C RX5 cX5_expect 2 _ := h
  have hr2 := tkK_r hB (tq (tB σ 11 L) i)
  have hr3 : tK (tB σ 11 L) i = tkK (tB σ 11 L) (tq (tB σ 11 L) i) := rfl
  have e := psS_kind σ L m i u ss
  refine x_aload_n h dX5_expect_0 rfl ?_
  refine x_get h fl_5_14 lvz_2 dX5_expect_1 (pvf_503 _ _) ?_
  refine x_get (q := vI (tK (tB σ 11 L) i)) h fl_5_50 lvz_3 dX5_expect_4 (congrArg vI (by first | exact e | simp [up3, e])) ?_
  refine x_iload_n h dX5_expect_7 rfl ?_
  refine x_ic_eq_T (tgt := 16) h (by omega) dX5_expect_8 (by decide) (by omega) ?_
  refine x_aload_n h dX5_expect_16 rfl ?_
  refine x_get h fl_5_14 lvz_2 dX5_expect_17 (pvf_503 _ _) ?_
  refine x_cV0 h kVX6_advance lkX5_64 ⟨_, _, _, rfl, rfl⟩ dX5_expect_20 (c_padv (d := d) hL hB hi (by omega)) lvz_3 rfl rfl (Nat.le_of_ble_eq_true rfl) (by omega) ?_
  refine x_iconst h dX5_expect_23 ?_
  exact x_ireturn h hr dX5_expect_24 (Or.inr ⟨rfl, by omega⟩) ⟨Nat.le_refl _, Nat.le_refl _⟩
theorem c_pexpF {d : Nat} {σ : Mm} {L m i u : Nat} {ss : List Zs} {k : Int} (hB : BOk (tB σ 11 L) L) (hk : tK (tB σ 11 L) i ≠ k) (hk0 : 0 ≤ k ∧ k ≤ 255) : Ct (d + 1) mX5_expect 1 [vR 2 0, vI k] NALL (psS σ L m i u ss) (some (vI 0)) NALL (up3 (psS σ L m i u ss) 2 0 3 (tQ (tB σ 11 L) i)) 0 0 := by
  refine ct_of (by decide) (Nat.le_of_ble_eq_true rfl) (fun C h hr _ => ?_)
  have h : Ok C RX5 cX5_expect 2 _ := h
  have hr2 := tkK_r hB (tq (tB σ 11 L) i)
  have hr3 : tK (tB σ 11 L) i = tkK (tB σ 11 L) (tq (tB σ 11 L) i) := rfl
  have e := psS_kind σ L m i u ss
  refine x_aload_n h dX5_expect_0 rfl ?_
  refine x_get h fl_5_14 lvz_2 dX5_expect_1 (pvf_503 _ _) ?_
  refine x_get (q := vI (tK (tB σ 11 L) i)) h fl_5_50 lvz_3 dX5_expect_4 (congrArg vI (by first | exact e | simp [up3, e])) ?_
  refine x_iload_n h dX5_expect_7 rfl ?_
  refine x_ic_eq_F (tgt := 16) h (by omega) dX5_expect_8 (by decide) (by omega) ?_
  refine x_aload_n h dX5_expect_11 rfl ?_
  refine x_cV1 h kVX5_faultHere lkX5_60 ⟨_, _, _, rfl, rfl⟩ dX5_expect_12 (c_faultHere (d := d) (psS_place σ L m i u ss)) lvz_2 rfl rfl (Nat.le_of_ble_eq_true rfl) (by omega) ?_
  exact x_ireturn h hr dX5_expect_15 (Or.inr ⟨rfl, by omega⟩) ⟨Nat.le_refl _, Nat.le_refl _⟩
theorem c_addStep {d : Nat} {σ : Mm} {L m i u : Nat} {ss : List Zs} {x y z : Int} (hm : m < 24) (hf : σ 2 0 1 = m) (hlen : ss.length < 48) : Ct (d + 2) mX5_addStep 1 [vR 2 0, vI x, vL y, vI z] NALL (psS σ L m i u ss) none NALL (psS σ L m i u (ss ++ [(x, y, z)])) 0 0 := by
  refine ct_of (by decide) (Nat.le_of_ble_eq_true rfl) (fun C h hr _ => ?_)
  have h : Ok C RX5 cX5_addStep 5 _ := h
  have hf2 : psS σ L m i u ss 2 0 1 = m := by unfold psS; rw [psT_f _ _ _ _ _ _ _ _ (by decide) (by omega) (by omega)]; exact hf
  have hlen2 : psS σ L m i u ss 6 m 3 = ss.length := by unfold psS; exact psT_len _ _ _ _ _ _ _ _
  have hadd : addS (psS σ L m i u ss) m ss.length x y z = psS σ L m i u (ss ++ [(x, y, z)]) := by unfold psS; exact psT_add _ _ _ _ _ _ _ _ _ _ _
  have hc := c_fadd (d := d) (a := x) (b := y) (c := z) hm hlen2 hlen
  rw [hadd] at hc
  refine x_aload_n h dX5_addStep_0 rfl ?_
  refine x_get h fl_5_20 lvz_2 dX5_addStep_1 (pvr hf2 ⟨by decide, by decide⟩) ?_
  refine x_ifnull h dX5_addStep_4 ?_
  refine x_aload_n h dX5_addStep_7 rfl ?_
  refine x_get h fl_5_20 lvz_2 dX5_addStep_8 (pvr hf2 ⟨by decide, by decide⟩) ?_
  refine x_iload_n h dX5_addStep_11 rfl ?_
  refine x_lload_n h dX5_addStep_12 rfl ?_
  refine x_iload h dX5_addStep_13 rfl ?_
  refine x_cV0 h kVX0_add lkX5_128 ⟨_, _, _, rfl, rfl⟩ dX5_addStep_15 (hc) (lvm_6 (by omega)) rfl rfl (Nat.le_of_ble_eq_true rfl) (by omega) ?_
  exact x_return h hr dX5_addStep_18 ⟨Nat.le_refl _, Nat.le_refl _⟩
theorem c_isPS {d : Nat} {σ : Mm} {k : Int} (hk : 0 ≤ k ∧ k ≤ 255) : Ct d mX5_isProductSign 1 [vI k] NALL σ (some (vI (if k = 42 ∨ k = 47 ∨ k = 37 then 1 else 0))) NALL σ 0 0 := by
  refine ct_of (by decide) (Nat.le_of_ble_eq_true rfl) (fun C h hr _ => ?_)
  have h : Ok C RX5 cX5_isProductSign 1 _ := h
  refine x_iload_n h dX5_isProductSign_0 rfl ?_
  refine x_bipush h dX5_isProductSign_1 (by decide) ?_
  refine x_ic_eq (tgt := 18) h (by omega) dX5_isProductSign_3 (by decide) (fun h1 => ?_) (fun h1 => ?_)
  · rw [if_pos (Or.inl h1)] at hr
    refine x_iconst h dX5_isProductSign_18 ?_
    refine x_goto (tgt := 23) h dX5_isProductSign_19 (by decide) ?_
    exact x_ireturn h hr dX5_isProductSign_23 (Or.inr ⟨rfl, by omega⟩) ⟨Nat.le_refl _, Nat.le_refl _⟩
  · refine x_iload_n h dX5_isProductSign_6 rfl ?_
    refine x_bipush h dX5_isProductSign_7 (by decide) ?_
    refine x_ic_eq (tgt := 18) h (by omega) dX5_isProductSign_9 (by decide) (fun h2 => ?_) (fun h2 => ?_)
    · rw [if_pos (Or.inr (Or.inl h2))] at hr
      refine x_iconst h dX5_isProductSign_18 ?_
      refine x_goto (tgt := 23) h dX5_isProductSign_19 (by decide) ?_
      exact x_ireturn h hr dX5_isProductSign_23 (Or.inr ⟨rfl, by omega⟩) ⟨Nat.le_refl _, Nat.le_refl _⟩
    · refine x_iload_n h dX5_isProductSign_12 rfl ?_
      refine x_bipush h dX5_isProductSign_13 (by decide) ?_
      refine x_ic_ne (tgt := 22) h (by omega) dX5_isProductSign_15 (by decide) (fun h3 => ?_) (fun h3 => ?_)
      · rw [if_neg (by omega)] at hr
        refine x_iconst h dX5_isProductSign_22 ?_
        exact x_ireturn h hr dX5_isProductSign_23 (Or.inr ⟨rfl, by omega⟩) ⟨Nat.le_refl _, Nat.le_refl _⟩
      · rw [if_pos (by omega)] at hr
        refine x_iconst h dX5_isProductSign_18 ?_
        refine x_goto (tgt := 23) h dX5_isProductSign_19 (by decide) ?_
        exact x_ireturn h hr dX5_isProductSign_23 (Or.inr ⟨rfl, by omega⟩) ⟨Nat.le_refl _, Nat.le_refl _⟩
/-- what is left where a FAULT was met -/
def FailOk (σ : Mm) (m : Nat) (σ' : Mm) (x : Int) : Prop := σ' 2 0 3 = x ∧ ∀ f k j, ¬ (f = 3 ∨ (f = 2 ∧ (j = 2 ∨ j = 3)) ∨ (k = m ∧ (f = 6 ∨ f = 13 ∨ f = 14 ∨ f = 15))) → σ' f k j = σ f k j
theorem failOk_ps (σ : Mm) (L m i u : Nat) (ss : List Zs) (x : Int) : FailOk σ m (up3 (psS σ L m i u ss) 2 0 3 x) x := by
  refine ⟨up3_s _ _ _ _ _, fun f k j h => ?_⟩
  unfold up3
  rw [if_neg (by omega)]
  unfold psS
  exact psT_f _ _ _ _ _ _ _ _ (by omega) (by omega) (by omega)
def PRes (σ : Mm) (L m : Nat) (ss : List Zs) (res : PR) (r : Int) (σ' : Mm) : Prop := match res with
  | .inl e => r = 0 ∧ FailOk σ m σ' (tQ (tB σ 11 L) e)
  | .inr (i', u', s) => r = 1 ∧ σ' = psS σ L m i' u' (ss ++ s) ∧ tq (tB σ 11 L) i' ≤ L
def UnF (σ : Mm) (L : Nat) (δ : Nat) : Nat → Nat → PR := uF (tK (tB σ 11 L)) (tV (tB σ 11 L)) (tQ (tB σ 11 L)) δ
/-- a method of the reader does what the grammar says -/
def RdOk (σ : Mm) (L m dd : Nat) (M : Mt) (ar : Int) (F : Nat → Nat → PR) : Prop := ∀ (u i : Nat) (ss : List Zs), u ≤ 24 → ss.length ≤ 2 * u → tq (tB σ 11 L) i ≤ L → ∃ (r : Int) (σ' : Mm), Ct dd M 1 [vR 2 0, vI ar] NALL (psS σ L m i u ss) (some (vI r)) NALL σ' 0 0 ∧ PRes σ L m ss (F u i) r σ'
theorem prod_loop {σ : Mm} {L m dd : Nat} {ar : Int} {un : Nat → Nat → PR} (hL : TapeL σ L) (hB : BOk (tB σ 11 L) L) (hm : m < 24) (hf : σ 2 0 1 = m) (hdd : 6 ≤ dd) (hun : PU un) (hU : RdOk σ L m dd mX5_takeUnit ar un) (ss : List Zs) :
    ∀ (c k i u : Nat) (s : List Zs), k + c = 900 → u ≤ 24 → ss.length + s.length + 1 ≤ 2 * u → tq (tB σ 11 L) i ≤ L → ∃ (r : Int) (σ' : Mm), PRes σ L m ss (prodL (tK (tB σ 11 L)) un c i u s) r σ' ∧ ∀ C : Cx, Ok C RX5 cX5_takeProduct 4 (dd + 1) → Rt C 1 (some .boolean) (some (vI r)) NALL σ' 0 0 → ∀ ls, lsub [(0, vR 2 0), (1, vI ar), (2, vI k)] ls → X C 1 12 ls [] NALL (psS σ L m i u (ss ++ s)) 0 0 := by
  intro c
  induction c with
  | zero =>
    intro k i u s hk hu hlen hi
    refine ⟨1, _, ⟨rfl, rfl, hi⟩, fun C h hr ls hls => ?_⟩
    refine x_loc hls ?_
    refine x_iload_n h dX5_takeProduct_12 rfl ?_
    refine x_sipush h dX5_takeProduct_13 (by decide) ?_
    refine x_ic_ge_T (tgt := 71) h (by omega) dX5_takeProduct_16 (by decide) (by omega) ?_
    refine x_iconst h dX5_takeProduct_71 ?_
    exact x_ireturn h hr dX5_takeProduct_72 (Or.inr ⟨rfl, by omega⟩) ⟨Nat.le_refl _, Nat.le_refl _⟩
  | succ c ih =>
    intro k i u s hk hu hlen hi
    have hkr := tkK_r hB (tq (tB σ 11 L) i)
    have hke : tK (tB σ 11 L) i = tkK (tB σ 11 L) (tq (tB σ 11 L) i) := rfl
    have ek := psS_kind σ L m i u (ss ++ s)
    by_cases hsg : tK (tB σ 11 L) i = 42 ∨ tK (tB σ 11 L) i = 47 ∨ tK (tB σ 11 L) i = 37
    · have hn := tq_next hB hi (by omega)
      obtain ⟨r1, σ1, hct, hres⟩ := hU u (i + 1) (ss ++ s) hu (by simp only [List.length_append]; omega) hn.2.1
      have hb := hun u (i + 1)
      rw [prodL, if_pos hsg]
      cases hv : un u (i + 1) with
      | inl e =>
        rw [hv] at hres
        obtain ⟨rfl, hfl⟩ := hres
        refine ⟨0, σ1, ⟨rfl, hfl⟩, fun C h hr ls hls => ?_⟩
        refine x_loc hls ?_
        refine x_iload_n h dX5_takeProduct_12 rfl ?_
        refine x_sipush h dX5_takeProduct_13 (by decide) ?_
        refine x_ic_ge_F (tgt := 71) h (by omega) dX5_takeProduct_16 (by decide) (by omega) ?_
        refine x_aload_n h dX5_takeProduct_19 rfl ?_
        refine x_get h fl_5_14 lvz_2 dX5_takeProduct_20 (pvf_503 _ _) ?_
        refine x_get (q := vI (tK (tB σ 11 L) i)) h fl_5_50 lvz_3 dX5_takeProduct_23 (congrArg vI (by first | exact ek | simp [up3, ek])) ?_
        refine x_cS1 h kSX5_isProductSign lkX5_141 dX5_takeProduct_26 (c_isPS (d := 0) (by omega)) rfl rfl (Nat.le_of_ble_eq_true rfl) (by omega) ?_
        rw [if_pos hsg]
        refine x_if_eq_F (tgt := 71) h (by omega) dX5_takeProduct_29 (by decide) (by omega) ?_
        refine x_aload_n h dX5_takeProduct_32 rfl ?_
        refine x_get h fl_5_14 lvz_2 dX5_takeProduct_33 (pvf_503 _ _) ?_
        refine x_get (q := vI (tK (tB σ 11 L) i)) h fl_5_50 lvz_3 dX5_takeProduct_36 (congrArg vI (by first | exact ek | simp [up3, ek])) ?_
        refine x_istore_n h dX5_takeProduct_39 (by decide) ?_
        refine x_aload_n h dX5_takeProduct_40 rfl ?_
        refine x_get h fl_5_14 lvz_2 dX5_takeProduct_41 (pvf_503 _ _) ?_
        refine x_cV0 h kVX6_advance lkX5_64 ⟨_, _, _, rfl, rfl⟩ dX5_takeProduct_44 (c_padv (d := 0) hL hB hi (by omega)) lvz_3 rfl rfl (Nat.le_of_ble_eq_true rfl) (by omega) ?_
        refine x_aload_n h dX5_takeProduct_47 rfl ?_
        refine x_iload_n h dX5_takeProduct_48 rfl ?_
        refine x_cV1 h kVX5_takeUnit lkX5_138 ⟨_, _, _, rfl, rfl⟩ dX5_takeProduct_49 (hct) lvz_2 rfl rfl (Nat.le_of_ble_eq_true rfl) (by omega) ?_
        refine x_if_ne_F (tgt := 57) h (by omega) dX5_takeProduct_52 (by decide) (by omega) ?_
        refine x_iconst h dX5_takeProduct_55 ?_
        exact x_ireturn h hr dX5_takeProduct_56 (Or.inr ⟨rfl, by omega⟩) ⟨Nat.le_refl _, Nat.le_refl _⟩
      | inr t =>
        obtain ⟨i', u', s'⟩ := t
        rw [hv] at hres hb
        obtain ⟨rfl, rfl, hi'⟩ := hres
        obtain ⟨b1, b2, b3⟩ := hb
        obtain ⟨r, σ', hp, hx⟩ := ih (k + 1) i' u' (s ++ s' ++ [(tK (tB σ 11 L) i, 0, -9)]) (by omega) b2 (by simp only [List.length_append, List.length_cons, List.length_nil]; omega) hi'
        refine ⟨r, σ', hp, fun C h hr ls hls => ?_⟩
        refine x_loc hls ?_
        refine x_iload_n h dX5_takeProduct_12 rfl ?_
        refine x_sipush h dX5_takeProduct_13 (by decide) ?_
        refine x_ic_ge_F (tgt := 71) h (by omega) dX5_takeProduct_16 (by decide) (by omega) ?_
        refine x_aload_n h dX5_takeProduct_19 rfl ?_
        refine x_get h fl_5_14 lvz_2 dX5_takeProduct_20 (pvf_503 _ _) ?_
        refine x_get (q := vI (tK (tB σ 11 L) i)) h fl_5_50 lvz_3 dX5_takeProduct_23 (congrArg vI (by first | exact ek | simp [up3, ek])) ?_
        refine x_cS1 h kSX5_isProductSign lkX5_141 dX5_takeProduct_26 (c_isPS (d := 0) (by omega)) rfl rfl (Nat.le_of_ble_eq_true rfl) (by omega) ?_
        rw [if_pos hsg]
        have hadd := c_addStep (d := 0) (L := L) (i := i') (u := u') (ss := ss ++ s ++ s') (x := tK (tB σ 11 L) i) (y := 0) (z := -9) hm hf (by simp only [List.length_append]; omega)
        rw [show ss ++ s ++ s' ++ [(tK (tB σ 11 L) i, (0 : Int), (-9 : Int))] = ss ++ (s ++ s' ++ [(tK (tB σ 11 L) i, 0, -9)]) by simp only [List.append_assoc]] at hadd
        refine x_if_eq_F (tgt := 71) h (by omega) dX5_takeProduct_29 (by decide) (by omega) ?_
        refine x_aload_n h dX5_takeProduct_32 rfl ?_
        refine x_get h fl_5_14 lvz_2 dX5_takeProduct_33 (pvf_503 _ _) ?_
        refine x_get (q := vI (tK (tB σ 11 L) i)) h fl_5_50 lvz_3 dX5_takeProduct_36 (congrArg vI (by first | exact ek | simp [up3, ek])) ?_
        refine x_istore_n h dX5_takeProduct_39 (by decide) ?_
        refine x_aload_n h dX5_takeProduct_40 rfl ?_
        refine x_get h fl_5_14 lvz_2 dX5_takeProduct_41 (pvf_503 _ _) ?_
        refine x_cV0 h kVX6_advance lkX5_64 ⟨_, _, _, rfl, rfl⟩ dX5_takeProduct_44 (c_padv (d := 0) hL hB hi (by omega)) lvz_3 rfl rfl (Nat.le_of_ble_eq_true rfl) (by omega) ?_
        refine x_aload_n h dX5_takeProduct_47 rfl ?_
        refine x_iload_n h dX5_takeProduct_48 rfl ?_
        refine x_cV1 h kVX5_takeUnit lkX5_138 ⟨_, _, _, rfl, rfl⟩ dX5_takeProduct_49 (hct) lvz_2 rfl rfl (Nat.le_of_ble_eq_true rfl) (by omega) ?_
        refine x_if_ne_T (tgt := 57) h (by omega) dX5_takeProduct_52 (by decide) (by omega) ?_
        refine x_aload_n h dX5_takeProduct_57 rfl ?_
        refine x_iload_n h dX5_takeProduct_58 rfl ?_
        refine x_lconst0 h dX5_takeProduct_59 ?_
        refine x_bipush h dX5_takeProduct_60 (by decide) ?_
        refine x_cV0 h kVX5_addStep lkX5_135 ⟨_, _, _, rfl, rfl⟩ dX5_takeProduct_62 (hadd) lvz_2 rfl rfl (Nat.le_of_ble_eq_true rfl) (by omega) ?_
        refine x_iinc h dX5_takeProduct_65 rfl (by decide) ?_
        refine x_goto (tgt := 12) h dX5_takeProduct_68 (by decide) ?_
        exact hx C h hr _ ⟨rfl, rfl, rfl, trivial⟩
    · rw [prodL, if_neg hsg]
      refine ⟨1, _, ⟨rfl, rfl, hi⟩, fun C h hr ls hls => ?_⟩
      refine x_loc hls ?_
      refine x_iload_n h dX5_takeProduct_12 rfl ?_
      refine x_sipush h dX5_takeProduct_13 (by decide) ?_
      refine x_ic_ge_F (tgt := 71) h (by omega) dX5_takeProduct_16 (by decide) (by omega) ?_
      refine x_aload_n h dX5_takeProduct_19 rfl ?_
      refine x_get h fl_5_14 lvz_2 dX5_takeProduct_20 (pvf_503 _ _) ?_
      refine x_get (q := vI (tK (tB σ 11 L) i)) h fl_5_50 lvz_3 dX5_takeProduct_23 (congrArg vI (by first | exact ek | simp [up3, ek])) ?_
      refine x_cS1 h kSX5_isProductSign lkX5_141 dX5_takeProduct_26 (c_isPS (d := 0) (by omega)) rfl rfl (Nat.le_of_ble_eq_true rfl) (by omega) ?_
      rw [if_neg hsg]
      refine x_if_eq_T (tgt := 71) h (by omega) dX5_takeProduct_29 (by decide) (by omega) ?_
      refine x_iconst h dX5_takeProduct_71 ?_
      exact x_ireturn h hr dX5_takeProduct_72 (Or.inr ⟨rfl, by omega⟩) ⟨Nat.le_refl _, Nat.le_refl _⟩
theorem c_prod {σ : Mm} {L m dd : Nat} {ar : Int} {un : Nat → Nat → PR} (hL : TapeL σ L) (hB : BOk (tB σ 11 L) L) (hm : m < 24) (hf : σ 2 0 1 = m) (hdd : 6 ≤ dd) (hun : PU un) (hU : RdOk σ L m dd mX5_takeUnit ar un) : RdOk σ L m (dd + 1) mX5_takeProduct ar (prodF (tK (tB σ 11 L)) un) := by
  intro u i ss hu hlen hi
  obtain ⟨r1, σ1, hct, hres⟩ := hU u i ss hu hlen hi
  have hb := hun u i
  unfold prodF
  cases hv : un u i with
  | inl e =>
    rw [hv] at hres
    obtain ⟨rfl, hfl⟩ := hres
    refine ⟨0, σ1, ?_, ⟨rfl, hfl⟩⟩
    refine ct_of (by decide) (Nat.le_of_ble_eq_true rfl) (fun C h hr _ => ?_)
    have h : Ok C RX5 cX5_takeProduct 4 _ := h
    refine x_aload_n h dX5_takeProduct_0 rfl ?_
    refine x_iload_n h dX5_takeProduct_1 rfl ?_
    refine x_cV1 h kVX5_takeUnit lkX5_138 ⟨_, _, _, rfl, rfl⟩ dX5_takeProduct_2 (hct) lvz_2 rfl rfl (Nat.le_of_ble_eq_true rfl) (by omega) ?_
    refine x_if_ne_F (tgt := 10) h (by omega) dX5_takeProduct_5 (by decide) (by omega) ?_
    refine x_iconst h dX5_takeProduct_8 ?_
    exact x_ireturn h hr dX5_takeProduct_9 (Or.inr ⟨rfl, by omega⟩) ⟨Nat.le_refl _, Nat.le_refl _⟩
  | inr t =>
    obtain ⟨i', u', s⟩ := t
    rw [hv] at hres hb
    obtain ⟨rfl, rfl, hi'⟩ := hres
    obtain ⟨b1, b2, b3⟩ := hb
    obtain ⟨r, σ', hp, hx⟩ := prod_loop hL hB hm hf hdd hun hU ss 900 0 i' u' s rfl b2 (by omega) hi'
    refine ⟨r, σ', ?_, hp⟩
    refine ct_of (by decide) (Nat.le_of_ble_eq_true rfl) (fun C h hr _ => ?_)
    have h : Ok C RX5 cX5_takeProduct 4 _ := h
    refine x_aload_n h dX5_takeProduct_0 rfl ?_
    refine x_iload_n h dX5_takeProduct_1 rfl ?_
    refine x_cV1 h kVX5_takeUnit lkX5_138 ⟨_, _, _, rfl, rfl⟩ dX5_takeProduct_2 (hct) lvz_2 rfl rfl (Nat.le_of_ble_eq_true rfl) (by omega) ?_
    refine x_if_ne_T (tgt := 10) h (by omega) dX5_takeProduct_5 (by decide) (by omega) ?_
    refine x_iconst h dX5_takeProduct_10 ?_
    refine x_istore_n h dX5_takeProduct_11 (by decide) ?_
    exact hx C h hr _ ⟨rfl, rfl, rfl, trivial⟩
theorem sum_loop {σ : Mm} {L m dd : Nat} {ar : Int} {un : Nat → Nat → PR} (hL : TapeL σ L) (hB : BOk (tB σ 11 L) L) (hm : m < 24) (hf : σ 2 0 1 = m) (hdd : 6 ≤ dd) (hun : PU un) (hU : RdOk σ L m dd mX5_takeUnit ar un) (ss : List Zs) :
    ∀ (c k i u : Nat) (s : List Zs), k + c = 900 → u ≤ 24 → ss.length + s.length + 1 ≤ 2 * u → tq (tB σ 11 L) i ≤ L → ∃ (r : Int) (σ' : Mm), PRes σ L m ss (sumL (tK (tB σ 11 L)) un c i u s) r σ' ∧ ∀ C : Cx, Ok C RX5 cX5_takeSum 4 (dd + 2) → Rt C 1 (some .boolean) (some (vI r)) NALL σ' 0 0 → ∀ ls, lsub [(0, vR 2 0), (1, vI ar), (2, vI k)] ls → X C 1 12 ls [] NALL (psS σ L m i u (ss ++ s)) 0 0 := by
  have hP := c_prod hL hB hm hf hdd hun hU
  intro c
  induction c with
  | zero =>
    intro k i u s hk hu hlen hi
    refine ⟨1, _, ⟨rfl, rfl, hi⟩, fun C h hr ls hls => ?_⟩
    refine x_loc hls ?_
    refine x_iload_n h dX5_takeSum_12 rfl ?_
    refine x_sipush h dX5_takeSum_13 (by decide) ?_
    refine x_ic_ge_T (tgt := 82) h (by omega) dX5_takeSum_16 (by decide) (by omega) ?_
    refine x_iconst h dX5_takeSum_82 ?_
    exact x_ireturn h hr dX5_takeSum_83 (Or.inr ⟨rfl, by omega⟩) ⟨Nat.le_refl _, Nat.le_refl _⟩
  | succ c ih =>
    intro k i u s hk hu hlen hi
    have hkr := tkK_r hB (tq (tB σ 11 L) i)
    have hke : tK (tB σ 11 L) i = tkK (tB σ 11 L) (tq (tB σ 11 L) i) := rfl
    have ek := psS_kind σ L m i u (ss ++ s)
    by_cases hsg : tK (tB σ 11 L) i = 43 ∨ tK (tB σ 11 L) i = 45
    · have hn := tq_next hB hi (by omega)
      obtain ⟨r1, σ1, hct, hres⟩ := hP u (i + 1) (ss ++ s) hu (by simp only [List.length_append]; omega) hn.2.1
      have hb := prodF_b (K := tK (tB σ 11 L)) hun u (i + 1)
      rw [sumL, if_pos hsg]
      have head : ∀ (C : Cx) (h : Ok C RX5 cX5_takeSum 4 (dd + 2)) (k1 : X C 1 43 [(0, vR 2 0), (1, vI ar), (2, vI k)] [] NALL (psS σ L m i u (ss ++ s)) 0 0), X C 1 12 [(0, vR 2 0), (1, vI ar), (2, vI k)] [] NALL (psS σ L m i u (ss ++ s)) 0 0 := by
        intro C h k1
        by_cases h43 : tK (tB σ 11 L) i = 43
        · refine x_iload_n h dX5_takeSum_12 rfl ?_
          refine x_sipush h dX5_takeSum_13 (by decide) ?_
          refine x_ic_ge_F (tgt := 82) h (by omega) dX5_takeSum_16 (by decide) (by omega) ?_
          refine x_aload_n h dX5_takeSum_19 rfl ?_
          refine x_get h fl_5_14 lvz_2 dX5_takeSum_20 (pvf_503 _ _) ?_
          refine x_get (q := vI (tK (tB σ 11 L) i)) h fl_5_50 lvz_3 dX5_takeSum_23 (congrArg vI (by first | exact ek | simp [up3, ek])) ?_
          refine x_bipush h dX5_takeSum_26 (by decide) ?_
          refine x_ic_eq_T (tgt := 43) h (by omega) dX5_takeSum_28 (by decide) (by omega) ?_
          exact k1
        · refine x_iload_n h dX5_takeSum_12 rfl ?_
          refine x_sipush h dX5_takeSum_13 (by decide) ?_
          refine x_ic_ge_F (tgt := 82) h (by omega) dX5_takeSum_16 (by decide) (by omega) ?_
          refine x_aload_n h dX5_takeSum_19 rfl ?_
          refine x_get h fl_5_14 lvz_2 dX5_takeSum_20 (pvf_503 _ _) ?_
          refine x_get (q := vI (tK (tB σ 11 L) i)) h fl_5_50 lvz_3 dX5_takeSum_23 (congrArg vI (by first | exact ek | simp [up3, ek])) ?_
          refine x_bipush h dX5_takeSum_26 (by decide) ?_
          refine x_ic_eq_F (tgt := 43) h (by omega) dX5_takeSum_28 (by decide) (by omega) ?_
          refine x_aload_n h dX5_takeSum_31 rfl ?_
          refine x_get h fl_5_14 lvz_2 dX5_takeSum_32 (pvf_503 _ _) ?_
          refine x_get (q := vI (tK (tB σ 11 L) i)) h fl_5_50 lvz_3 dX5_takeSum_35 (congrArg vI (by first | exact ek | simp [up3, ek])) ?_
          refine x_bipush h dX5_takeSum_38 (by decide) ?_
          refine x_ic_ne_F (tgt := 82) h (by omega) dX5_takeSum_40 (by decide) (by omega) ?_
          exact k1
      cases hv : prodF (tK (tB σ 11 L)) un u (i + 1) with
      | inl e =>
        rw [hv] at hres
        obtain ⟨rfl, hfl⟩ := hres
        refine ⟨0, σ1, ⟨rfl, hfl⟩, fun C h hr ls hls => ?_⟩
        refine x_loc hls ?_
        refine head C h ?_
        refine x_aload_n h dX5_takeSum_43 rfl ?_
        refine x_get h fl_5_14 lvz_2 dX5_takeSum_44 (pvf_503 _ _) ?_
        refine x_get (q := vI (tK (tB σ 11 L) i)) h fl_5_50 lvz_3 dX5_takeSum_47 (congrArg vI (by first | exact ek | simp [up3, ek])) ?_
        refine x_istore_n h dX5_takeSum_50 (by decide) ?_
        refine x_aload_n h dX5_takeSum_51 rfl ?_
        refine x_get h fl_5_14 lvz_2 dX5_takeSum_52 (pvf_503 _ _) ?_
        refine x_cV0 h kVX6_advance lkX5_64 ⟨_, _, _, rfl, rfl⟩ dX5_takeSum_55 (c_padv (d := 0) hL hB hi (by omega)) lvz_3 rfl rfl (Nat.le_of_ble_eq_true rfl) (by omega) ?_
        refine x_aload_n h dX5_takeSum_58 rfl ?_
        refine x_iload_n h dX5_takeSum_59 rfl ?_
        refine x_cV1 h kVX5_takeProduct lkX5_132 ⟨_, _, _, rfl, rfl⟩ dX5_takeSum_60 (hct) lvz_2 rfl rfl (Nat.le_of_ble_eq_true rfl) (by omega) ?_
        refine x_if_ne_F (tgt := 68) h (by omega) dX5_takeSum_63 (by decide) (by omega) ?_
        refine x_iconst h dX5_takeSum_66 ?_
        exact x_ireturn h hr dX5_takeSum_67 (Or.inr ⟨rfl, by omega⟩) ⟨Nat.le_refl _, Nat.le_refl _⟩
      | inr t =>
        obtain ⟨i', u', s'⟩ := t
        rw [hv] at hres hb
        obtain ⟨rfl, rfl, hi'⟩ := hres
        obtain ⟨b1, b2, b3⟩ := hb
        obtain ⟨r, σ', hp, hx⟩ := ih (k + 1) i' u' (s ++ s' ++ [(tK (tB σ 11 L) i, 0, -9)]) (by omega) b2 (by simp only [List.length_append, List.length_cons, List.length_nil]; omega) hi'
        refine ⟨r, σ', hp, fun C h hr ls hls => ?_⟩
        refine x_loc hls ?_
        refine head C h ?_
        have hadd := c_addStep (d := 0) (L := L) (i := i') (u := u') (ss := ss ++ s ++ s') (x := tK (tB σ 11 L) i) (y := 0) (z := -9) hm hf (by simp only [List.length_append]; omega)
        rw [show ss ++ s ++ s' ++ [(tK (tB σ 11 L) i, (0 : Int), (-9 : Int))] = ss ++ (s ++ s' ++ [(tK (tB σ 11 L) i, 0, -9)]) by simp only [List.append_assoc]] at hadd
        refine x_aload_n h dX5_takeSum_43 rfl ?_
        refine x_get h fl_5_14 lvz_2 dX5_takeSum_44 (pvf_503 _ _) ?_
        refine x_get (q := vI (tK (tB σ 11 L) i)) h fl_5_50 lvz_3 dX5_takeSum_47 (congrArg vI (by first | exact ek | simp [up3, ek])) ?_
        refine x_istore_n h dX5_takeSum_50 (by decide) ?_
        refine x_aload_n h dX5_takeSum_51 rfl ?_
        refine x_get h fl_5_14 lvz_2 dX5_takeSum_52 (pvf_503 _ _) ?_
        refine x_cV0 h kVX6_advance lkX5_64 ⟨_, _, _, rfl, rfl⟩ dX5_takeSum_55 (c_padv (d := 0) hL hB hi (by omega)) lvz_3 rfl rfl (Nat.le_of_ble_eq_true rfl) (by omega) ?_
        refine x_aload_n h dX5_takeSum_58 rfl ?_
        refine x_iload_n h dX5_takeSum_59 rfl ?_
        refine x_cV1 h kVX5_takeProduct lkX5_132 ⟨_, _, _, rfl, rfl⟩ dX5_takeSum_60 (hct) lvz_2 rfl rfl (Nat.le_of_ble_eq_true rfl) (by omega) ?_
        refine x_if_ne_T (tgt := 68) h (by omega) dX5_takeSum_63 (by decide) (by omega) ?_
        refine x_aload_n h dX5_takeSum_68 rfl ?_
        refine x_iload_n h dX5_takeSum_69 rfl ?_
        refine x_lconst0 h dX5_takeSum_70 ?_
        refine x_bipush h dX5_takeSum_71 (by decide) ?_
        refine x_cV0 h kVX5_addStep lkX5_135 ⟨_, _, _, rfl, rfl⟩ dX5_takeSum_73 (hadd) lvz_2 rfl rfl (Nat.le_of_ble_eq_true rfl) (by omega) ?_
        refine x_iinc h dX5_takeSum_76 rfl (by decide) ?_
        refine x_goto (tgt := 12) h dX5_takeSum_79 (by decide) ?_
        exact hx C h hr _ ⟨rfl, rfl, rfl, trivial⟩
    · rw [sumL, if_neg hsg]
      refine ⟨1, _, ⟨rfl, rfl, hi⟩, fun C h hr ls hls => ?_⟩
      refine x_loc hls ?_
      refine x_iload_n h dX5_takeSum_12 rfl ?_
      refine x_sipush h dX5_takeSum_13 (by decide) ?_
      refine x_ic_ge_F (tgt := 82) h (by omega) dX5_takeSum_16 (by decide) (by omega) ?_
      refine x_aload_n h dX5_takeSum_19 rfl ?_
      refine x_get h fl_5_14 lvz_2 dX5_takeSum_20 (pvf_503 _ _) ?_
      refine x_get (q := vI (tK (tB σ 11 L) i)) h fl_5_50 lvz_3 dX5_takeSum_23 (congrArg vI (by first | exact ek | simp [up3, ek])) ?_
      refine x_bipush h dX5_takeSum_26 (by decide) ?_
      refine x_ic_eq_F (tgt := 43) h (by omega) dX5_takeSum_28 (by decide) (by omega) ?_
      refine x_aload_n h dX5_takeSum_31 rfl ?_
      refine x_get h fl_5_14 lvz_2 dX5_takeSum_32 (pvf_503 _ _) ?_
      refine x_get (q := vI (tK (tB σ 11 L) i)) h fl_5_50 lvz_3 dX5_takeSum_35 (congrArg vI (by first | exact ek | simp [up3, ek])) ?_
      refine x_bipush h dX5_takeSum_38 (by decide) ?_
      refine x_ic_ne_T (tgt := 82) h (by omega) dX5_takeSum_40 (by decide) (by omega) ?_
      refine x_iconst h dX5_takeSum_82 ?_
      exact x_ireturn h hr dX5_takeSum_83 (Or.inr ⟨rfl, by omega⟩) ⟨Nat.le_refl _, Nat.le_refl _⟩
theorem c_sum {σ : Mm} {L m dd : Nat} {ar : Int} {un : Nat → Nat → PR} (hL : TapeL σ L) (hB : BOk (tB σ 11 L) L) (hm : m < 24) (hf : σ 2 0 1 = m) (hdd : 6 ≤ dd) (hun : PU un) (hU : RdOk σ L m dd mX5_takeUnit ar un) : RdOk σ L m (dd + 2) mX5_takeSum ar (sumF (tK (tB σ 11 L)) un) := by
  have hP := c_prod hL hB hm hf hdd hun hU
  intro u i ss hu hlen hi
  obtain ⟨r1, σ1, hct, hres⟩ := hP u i ss hu hlen hi
  have hb := prodF_b (K := tK (tB σ 11 L)) hun u i
  unfold sumF
  cases hv : prodF (tK (tB σ 11 L)) un u i with
  | inl e =>
    rw [hv] at hres
    obtain ⟨rfl, hfl⟩ := hres
    refine ⟨0, σ1, ?_, ⟨rfl, hfl⟩⟩
    refine ct_of (by decide) (Nat.le_of_ble_eq_true rfl) (fun C h hr _ => ?_)
    have h : Ok C RX5 cX5_takeSum 4 _ := h
    refine x_aload_n h dX5_takeSum_0 rfl ?_
    refine x_iload_n h dX5_takeSum_1 rfl ?_
    refine x_cV1 h kVX5_takeProduct lkX5_132 ⟨_, _, _, rfl, rfl⟩ dX5_takeSum_2 (hct) lvz_2 rfl rfl (Nat.le_of_ble_eq_true rfl) (by omega) ?_
    refine x_if_ne_F (tgt := 10) h (by omega) dX5_takeSum_5 (by decide) (by omega) ?_
    refine x_iconst h dX5_takeSum_8 ?_
    exact x_ireturn h hr dX5_takeSum_9 (Or.inr ⟨rfl, by omega⟩) ⟨Nat.le_refl _, Nat.le_refl _⟩
  | inr t =>
    obtain ⟨i', u', s⟩ := t
    rw [hv] at hres hb
    obtain ⟨rfl, rfl, hi'⟩ := hres
    obtain ⟨b1, b2, b3⟩ := hb
    obtain ⟨r, σ', hp, hx⟩ := sum_loop hL hB hm hf hdd hun hU ss 900 0 i' u' s rfl b2 (by omega) hi'
    refine ⟨r, σ', ?_, hp⟩
    refine ct_of (by decide) (Nat.le_of_ble_eq_true rfl) (fun C h hr _ => ?_)
    have h : Ok C RX5 cX5_takeSum 4 _ := h
    refine x_aload_n h dX5_takeSum_0 rfl ?_
    refine x_iload_n h dX5_takeSum_1 rfl ?_
    refine x_cV1 h kVX5_takeProduct lkX5_132 ⟨_, _, _, rfl, rfl⟩ dX5_takeSum_2 (hct) lvz_2 rfl rfl (Nat.le_of_ble_eq_true rfl) (by omega) ?_
    refine x_if_ne_T (tgt := 10) h (by omega) dX5_takeSum_5 (by decide) (by omega) ?_
    refine x_iconst h dX5_takeSum_10 ?_
    refine x_istore_n h dX5_takeSum_11 (by decide) ?_
    exact hx C h hr _ ⟨rfl, rfl, rfl, trivial⟩
