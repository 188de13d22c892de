theorem c_takeDigits {d : Nat} {σ : Mm} {L p : Nat} {b c : Int} (hL : TapeL σ L) (hp : p ≤ L) : Ct (d + 1) mX6_takeDigits 1 [vR 3 0] NALL (tkS σ p b c 0) (some (vI ((rn isDg (tB σ 11 L) p : Nat) - (p : Nat) : Int))) NALL (tkS σ (rn isDg (tB σ 11 L) p) b c (numV (tB σ 11 L) p (rn isDg (tB σ 11 L) p - p))) 0 0 := by
  refine ct_of (by decide) (Nat.le_of_ble_eq_true rfl) (fun C h hr _ => ?_)
  have h : Ok C RX6 cX6_takeDigits 2 _ := h
  have hL2 := hL.2
  have loop : ∀ (n i : Nat) (ls : List (Nat × PV)), i + n = 901 - p → p + i ≤ L → rn isDg (tB σ 11 L) p = rn isDg (tB σ 11 L) (p + i) → lsub [(0, vR 3 0), (1, vI i)] ls → X C 1 2 ls [] NALL (tkS σ ((p + i : Nat) : Int) b c (numV (tB σ 11 L) p i)) 0 0 := by
    intro n
    induction n with
    | zero => intro i ls hi hiL hv hls; omega
    | succ n ih =>
      intro i ls hi hiL hv hls
      refine x_loc hls ?_
      have hL' : (tkS σ ((p + i : Nat) : Int) b c (numV (tB σ 11 L) p i)) 1 0 1 = L := by rw [tkS_f _ _ _ _ _ (by decide)]; exact hL.1
      have hb := tB_r σ 11 L (p + i)
      have r1 := tkS_r1 σ ((p + i : Nat) : Int) b c (numV (tB σ 11 L) p i)
      have r4 := tkS_r4 σ ((p + i : Nat) : Int) b c (numV (tB σ 11 L) p i)
      have hB : ∀ j, tB (tkS σ ((p + i : Nat) : Int) b c (numV (tB σ 11 L) p i)) 11 L j = tB σ 11 L j := fun j => rfl
      rcases Nat.lt_or_ge i 900 with hlt | hge
      · refine x_iload_n h dX6_takeDigits_2 rfl ?_
        refine x_sipush h dX6_takeDigits_3 (by decide) ?_
        refine x_ic_ge_F (tgt := 70) h (by omega) dX6_takeDigits_6 (by decide) (by omega) ?_
        refine x_aload_n h dX6_takeDigits_9 rfl ?_
        refine x_get h fl_6_9 lvz_3 dX6_takeDigits_10 (pvf_501 _ _) ?_
        refine x_aload_n h dX6_takeDigits_13 rfl ?_
        refine x_get (q := vI (((p + i : Nat) : Int))) h fl_6_15 lvz_3 dX6_takeDigits_14 (congrArg vI (by first | exact r1 | simp [up3, r1])) ?_
        refine x_cV1 h kVX3_byteAt lkX6_35 ⟨_, _, _, rfl, rfl⟩ dX6_takeDigits_17 (c_byteAt (d := d) (j := p + i) hL' hL2 (by omega)) lvz_1 rfl rfl (Nat.le_of_ble_eq_true rfl) (by omega) ?_
        rw [hB]
        refine x_cS1 h kSX6_isDigit lkX6_41 dX6_takeDigits_20 (c_isDigit (d := d) hb) rfl rfl (Nat.le_of_ble_eq_true rfl) (by omega) ?_
        cases hdg : isDg (tB σ 11 L (p + i)) with
        | true =>
          rw [if_pos rfl]
          have hqL2 : p + i < L := by
            rcases Nat.lt_or_ge (p + i) L with z | z
            · exact z
            · rw [tB_end σ 11 L _ z] at hdg; cases hdg
          refine x_if_eq_F (tgt := 70) h (by omega) dX6_takeDigits_23 (by decide) (by omega) ?_
          refine x_aload_n h dX6_takeDigits_26 rfl ?_
          refine x_aload_n h dX6_takeDigits_27 rfl ?_
          refine x_get (q := vL (numV (tB σ 11 L) p i)) h fl_6_25 lvz_3 dX6_takeDigits_28 (congrArg vL (by first | exact r4 | simp [up3, r4])) ?_
          refine x_ldc2 (x := 10) h dX6_takeDigits_31 klX6_62 (by decide) ?_
          refine x_lmul h dX6_takeDigits_34 ?_
          refine x_aload_n h dX6_takeDigits_35 rfl ?_
          refine x_get h fl_6_9 lvz_3 dX6_takeDigits_36 (pvf_501 _ _) ?_
          refine x_aload_n h dX6_takeDigits_39 rfl ?_
          refine x_get (q := vI (((p + i : Nat) : Int))) h fl_6_15 lvz_3 dX6_takeDigits_40 (congrArg vI (by first | exact r1 | simp [up3, r1])) ?_
          refine x_cV1 h kVX3_byteAt lkX6_35 ⟨_, _, _, rfl, rfl⟩ dX6_takeDigits_43 (c_byteAt (d := d) (j := p + i) hL' hL2 (by omega)) lvz_1 rfl rfl (Nat.le_of_ble_eq_true rfl) (by omega) ?_
          rw [hB]
          refine x_bipush h dX6_takeDigits_46 (by decide) ?_
          refine x_isub h dX6_takeDigits_48 ?_
          refine x_i2l h (by omega) dX6_takeDigits_49 ?_
          refine x_ladd h dX6_takeDigits_50 ?_
          refine x_put h fl_6_25 lvz_3 dX6_takeDigits_51 rfl (fun z => absurd z (by decide)) ?_
          rw [tkS_u4]
          have r1' := tkS_r1 σ ((p + i : Nat) : Int) b c (numV (tB σ 11 L) p i * 10 + (tB σ 11 L (p + i) - 48))
          refine x_aload_n h dX6_takeDigits_54 rfl ?_
          refine x_dup h dX6_takeDigits_55 rfl ?_
          refine x_get (q := vI (((p + i : Nat) : Int))) h fl_6_15 lvz_3 dX6_takeDigits_56 (congrArg vI (by first | exact r1' | simp [up3, r1'])) ?_
          refine x_iconst h dX6_takeDigits_59 ?_
          refine x_iadd h dX6_takeDigits_60 ?_
          refine x_put h fl_6_15 lvz_3 dX6_takeDigits_61 rfl (fun z => absurd z (by decide)) ?_
          rw [tkS_u1]
          refine x_iinc h dX6_takeDigits_64 rfl (by decide) ?_
          refine x_goto (tgt := 2) h dX6_takeDigits_67 (by decide) ?_
          exact ih (i + 1) _ (by omega) (by omega) (hv.trans (rn_go hdg (by omega))) ⟨rfl, rfl, trivial⟩
        | false =>
          rw [if_neg (by decide)]
          rw [rn_st hdg] at hv
          rw [hv, show p + i - p = i by omega, show (((p + i : Nat) : Int) - (p : Int)) = i by omega] at hr
          refine x_if_eq_T (tgt := 70) h (by omega) dX6_takeDigits_23 (by decide) (by omega) ?_
          refine x_iload_n h dX6_takeDigits_70 rfl ?_
          exact x_ireturn h hr dX6_takeDigits_71 (Or.inl rfl) ⟨Nat.le_refl _, Nat.le_refl _⟩
      · have hdg : isDg (tB σ 11 L (p + i)) = false := by rw [tB_end σ 11 L _ (by omega)]; rfl
        rw [rn_st hdg] at hv
        rw [hv, show p + i - p = i by omega, show (((p + i : Nat) : Int) - (p : Int)) = i by omega] at hr
        refine x_iload_n h dX6_takeDigits_2 rfl ?_
        refine x_sipush h dX6_takeDigits_3 (by decide) ?_
        refine x_ic_ge_T (tgt := 70) h (by omega) dX6_takeDigits_6 (by decide) (by omega) ?_
        refine x_iload_n h dX6_takeDigits_70 rfl ?_
        exact x_ireturn h hr dX6_takeDigits_71 (Or.inl rfl) ⟨Nat.le_refl _, Nat.le_refl _⟩
  refine x_iconst h dX6_takeDigits_0 ?_
  refine x_istore_n h dX6_takeDigits_1 (by decide) ?_
  exact loop (901 - p) 0 _ (by omega) (by omega) rfl ⟨rfl, rfl, trivial⟩
theorem c_takeLetters {d : Nat} {σ : Mm} {L p : Nat} {b c : Int} (hL : TapeL σ L) (hp : p ≤ L) : Ct (d + 1) mX6_takeLetters 1 [vR 3 0] NALL (tkS σ p b c 0) (some (vI ((rn isLe (tB σ 11 L) p : Nat) - (p : Nat) : Int))) NALL (tkS σ (rn isLe (tB σ 11 L) p) b c (letV (tB σ 11 L) p (rn isLe (tB σ 11 L) p - p))) 0 0 := by
  refine ct_of (by decide) (Nat.le_of_ble_eq_true rfl) (fun C h hr _ => ?_)
  have h : Ok C RX6 cX6_takeLetters 2 _ := h
  have hL2 := hL.2
  have loop : ∀ (n i : Nat) (ls : List (Nat × PV)), i + n = 901 - p → p + i ≤ L → rn isLe (tB σ 11 L) p = rn isLe (tB σ 11 L) (p + i) → lsub [(0, vR 3 0), (1, vI i)] ls → X C 1 2 ls [] NALL (tkS σ ((p + i : Nat) : Int) b c (letV (tB σ 11 L) p i)) 0 0 := by
    intro n
    induction n with
    | zero => intro i ls hi hiL hv hls; omega
    | succ n ih =>
      intro i ls hi hiL hv hls
      refine x_loc hls ?_
      have hL' : (tkS σ ((p + i : Nat) : Int) b c (letV (tB σ 11 L) p i)) 1 0 1 = L := by rw [tkS_f _ _ _ _ _ (by decide)]; exact hL.1
      have hb := tB_r σ 11 L (p + i)
      have r1 := tkS_r1 σ ((p + i : Nat) : Int) b c (letV (tB σ 11 L) p i)
      have r4 := tkS_r4 σ ((p + i : Nat) : Int) b c (letV (tB σ 11 L) p i)
      have hB : ∀ j, tB (tkS σ ((p + i : Nat) : Int) b c (letV (tB σ 11 L) p i)) 11 L j = tB σ 11 L j := fun j => rfl
      rcases Nat.lt_or_ge i 900 with hlt | hge
      · refine x_iload_n h dX6_takeLetters_2 rfl ?_
        refine x_sipush h dX6_takeLetters_3 (by decide) ?_
        refine x_ic_ge_F (tgt := 73) h (by omega) dX6_takeLetters_6 (by decide) (by omega) ?_
        refine x_aload_n h dX6_takeLetters_9 rfl ?_
        refine x_get h fl_6_9 lvz_3 dX6_takeLetters_10 (pvf_501 _ _) ?_
        refine x_aload_n h dX6_takeLetters_13 rfl ?_
        refine x_get (q := vI (((p + i : Nat) : Int))) h fl_6_15 lvz_3 dX6_takeLetters_14 (congrArg vI (by first | exact r1 | simp [up3, r1])) ?_
        refine x_cV1 h kVX3_byteAt lkX6_35 ⟨_, _, _, rfl, rfl⟩ dX6_takeLetters_17 (c_byteAt (d := d) (j := p + i) hL' hL2 (by omega)) lvz_1 rfl rfl (Nat.le_of_ble_eq_true rfl) (by omega) ?_
        rw [hB]
        refine x_cS1 h kSX6_isLetter lkX6_49 dX6_takeLetters_20 (c_isLetter (d := d) hb) rfl rfl (Nat.le_of_ble_eq_true rfl) (by omega) ?_
        cases hdg : isLe (tB σ 11 L (p + i)) with
        | true =>
          rw [if_pos rfl]
          have hqL2 : p + i < L := by
            rcases Nat.lt_or_ge (p + i) L with z | z
            · exact z
            · rw [tB_end σ 11 L _ z] at hdg; cases hdg
          refine x_if_eq_F (tgt := 73) h (by omega) dX6_takeLetters_23 (by decide) (by omega) ?_
          rcases Nat.lt_or_ge i 5 with h5 | h5
          · refine x_iload_n h dX6_takeLetters_26 rfl ?_
            refine x_iconst h dX6_takeLetters_27 ?_
            refine x_ic_ge_F (tgt := 57) h (by omega) dX6_takeLetters_28 (by decide) (by omega) ?_
            refine x_aload_n h dX6_takeLetters_31 rfl ?_
            refine x_dup h dX6_takeLetters_32 rfl ?_
            refine x_get (q := vL (letV (tB σ 11 L) p i)) h fl_6_25 lvz_3 dX6_takeLetters_33 (congrArg vL (by first | exact r4 | simp [up3, r4])) ?_
            refine x_aload_n h dX6_takeLetters_36 rfl ?_
            refine x_get h fl_6_9 lvz_3 dX6_takeLetters_37 (pvf_501 _ _) ?_
            refine x_aload_n h dX6_takeLetters_40 rfl ?_
            refine x_get (q := vI (((p + i : Nat) : Int))) h fl_6_15 lvz_3 dX6_takeLetters_41 (congrArg vI (by first | exact r1 | simp [up3, r1])) ?_
            refine x_cV1 h kVX3_byteAt lkX6_35 ⟨_, _, _, rfl, rfl⟩ dX6_takeLetters_44 (c_byteAt (d := d) (j := p + i) hL' hL2 (by omega)) lvz_1 rfl rfl (Nat.le_of_ble_eq_true rfl) (by omega) ?_
            rw [hB]
            refine x_i2l h (by omega) dX6_takeLetters_47 ?_
            refine x_bipush h dX6_takeLetters_48 (by decide) ?_
            refine x_iload_n h dX6_takeLetters_50 rfl ?_
            refine x_imul h dX6_takeLetters_51 ?_
            refine x_lshl h dX6_takeLetters_52 ?_
            refine x_lor h dX6_takeLetters_53 ?_
            refine x_put h fl_6_25 lvz_3 dX6_takeLetters_54 rfl (fun z => absurd z (by decide)) ?_
            rw [tkS_u4]
            have r1' := tkS_r1 σ ((p + i : Nat) : Int) b c (orL (letV (tB σ 11 L) p i) (shlL (tB σ 11 L (p + i)) (8 * i)))
            refine x_aload_n h dX6_takeLetters_57 rfl ?_
            refine x_dup h dX6_takeLetters_58 rfl ?_
            refine x_get (q := vI (((p + i : Nat) : Int))) h fl_6_15 lvz_3 dX6_takeLetters_59 (congrArg vI (by first | exact r1' | simp [up3, r1'])) ?_
            refine x_iconst h dX6_takeLetters_62 ?_
            refine x_iadd h dX6_takeLetters_63 ?_
            refine x_put h fl_6_15 lvz_3 dX6_takeLetters_64 rfl (fun z => absurd z (by decide)) ?_
            rw [tkS_u1]
            refine x_iinc h dX6_takeLetters_67 rfl (by decide) ?_
            refine x_goto (tgt := 2) h dX6_takeLetters_70 (by decide) ?_
            have e := ih (i + 1) (lput1 1 (vI (i + 1)) [(0, vR 3 0), (1, vI i)]) (by omega) (by omega) (hv.trans (rn_go hdg (by omega))) ⟨rfl, rfl, trivial⟩
            rw [letV, if_pos h5] at e
            exact e
          · refine x_iload_n h dX6_takeLetters_26 rfl ?_
            refine x_iconst h dX6_takeLetters_27 ?_
            refine x_ic_ge_T (tgt := 57) h (by omega) dX6_takeLetters_28 (by decide) (by omega) ?_
            refine x_aload_n h dX6_takeLetters_57 rfl ?_
            refine x_dup h dX6_takeLetters_58 rfl ?_
            refine x_get (q := vI (((p + i : Nat) : Int))) h fl_6_15 lvz_3 dX6_takeLetters_59 (congrArg vI (by first | exact r1 | simp [up3, r1])) ?_
            refine x_iconst h dX6_takeLetters_62 ?_
            refine x_iadd h dX6_takeLetters_63 ?_
            refine x_put h fl_6_15 lvz_3 dX6_takeLetters_64 rfl (fun z => absurd z (by decide)) ?_
            rw [tkS_u1]
            refine x_iinc h dX6_takeLetters_67 rfl (by decide) ?_
            refine x_goto (tgt := 2) h dX6_takeLetters_70 (by decide) ?_
            have e := ih (i + 1) (lput1 1 (vI (i + 1)) [(0, vR 3 0), (1, vI i)]) (by omega) (by omega) (hv.trans (rn_go hdg (by omega))) ⟨rfl, rfl, trivial⟩
            rw [letV, if_neg (by omega)] at e
            exact e
        | false =>
          rw [if_neg (by decide)]
          rw [rn_st hdg] at hv
          rw [hv, show p + i - p = i by omega, show (((p + i : Nat) : Int) - (p : Int)) = i by omega] at hr
          refine x_if_eq_T (tgt := 73) h (by omega) dX6_takeLetters_23 (by decide) (by omega) ?_
          refine x_iload_n h dX6_takeLetters_73 rfl ?_
          exact x_ireturn h hr dX6_takeLetters_74 (Or.inl rfl) ⟨Nat.le_refl _, Nat.le_refl _⟩
      · have hdg : isLe (tB σ 11 L (p + i)) = false := by rw [tB_end σ 11 L _ (by omega)]; rfl
        rw [rn_st hdg] at hv
        rw [hv, show p + i - p = i by omega, show (((p + i : Nat) : Int) - (p : Int)) = i by omega] at hr
        refine x_iload_n h dX6_takeLetters_2 rfl ?_
        refine x_sipush h dX6_takeLetters_3 (by decide) ?_
        refine x_ic_ge_T (tgt := 73) h (by omega) dX6_takeLetters_6 (by decide) (by omega) ?_
        refine x_iload_n h dX6_takeLetters_73 rfl ?_
        exact x_ireturn h hr dX6_takeLetters_74 (Or.inl rfl) ⟨Nat.le_refl _, Nat.le_refl _⟩
  refine x_iconst h dX6_takeLetters_0 ?_
  refine x_istore_n h dX6_takeLetters_1 (by decide) ?_
  exact loop (901 - p) 0 _ (by omega) (by omega) rfl ⟨rfl, rfl, trivial⟩
theorem letV_r (B : Nat → Int) (p : Nat) : ∀ n : Nat, -9223372036854775808 ≤ letV B p n ∧ letV B p n < 9223372036854775808 := by
  intro n
  induction n with
  | zero => show -9223372036854775808 ≤ (0 : Int) ∧ (0 : Int) < 9223372036854775808; omega
  | succ n ih =>
    unfold letV
    split
    · exact orL_r _ _
    · exact ih
/-- the state behind advance, from next on p -/
def advS (σ : Mm) (L p : Nat) : Mm := tkS σ (tkE (tB σ 11 L) (rn isBl (tB σ 11 L) p)) (tkK (tB σ 11 L) (rn isBl (tB σ 11 L) p)) (rn isBl (tB σ 11 L) p) (tkV (tB σ 11 L) (rn isBl (tB σ 11 L) p))
theorem c_advance {d : Nat} {σ : Mm} {L p : Nat} (hL : TapeL σ L) (hp : p ≤ L) (hn : σ 3 0 1 = p) : Ct (d + 2) mX6_advance 1 [vR 3 0] NALL σ none NALL (advS σ L p) 0 0 := by
  refine ct_of (by decide) (Nat.le_of_ble_eq_true rfl) (fun C h hr _ => ?_)
  have h : Ok C RX6 cX6_advance 2 _ := h
  have hL2 := hL.2
  unfold advS at hr
  have hid : σ = tkS σ p (σ 3 0 2) (σ 3 0 3) (σ 3 0 4) := by rw [← hn]; exact (tkS_id σ).symm
  generalize σ 3 0 2 = b0 at hid
  generalize σ 3 0 3 = c0 at hid
  generalize σ 3 0 4 = v0 at hid
  have hr0 := rn_le (P := isBl) rfl (tB_end σ 11 L) p
  refine x_mem hid ?_
  refine x_aload_n h dX6_advance_0 rfl ?_
  refine x_cV0 h kVX6_skipBlanks lkX6_32 ⟨_, _, _, rfl, rfl⟩ dX6_advance_1 (c_skipBlanks (d := d) (p := p) hL hp) lvz_3 rfl rfl (Nat.le_of_ble_eq_true rfl) (by omega) ?_
  generalize hq : rn isBl (tB σ 11 L) p = q at hr hr0 ⊢
  have hqL : q ≤ L := hr0.2 hp
  have r1 := tkS_r1 σ q b0 c0 v0
  refine x_aload_n h dX6_advance_4 rfl ?_
  refine x_aload_n h dX6_advance_5 rfl ?_
  refine x_get (q := vI (q)) h fl_6_15 lvz_3 dX6_advance_6 (congrArg vI (by first | exact r1 | simp [up3, r1])) ?_
  refine x_put h fl_6_22 lvz_3 dX6_advance_9 rfl (fun z => absurd z (by decide)) ?_
  rw [tkS_u3]
  refine x_aload_n h dX6_advance_12 rfl ?_
  refine x_lconst0 h dX6_advance_13 ?_
  refine x_put h fl_6_25 lvz_3 dX6_advance_14 rfl (fun z => absurd z (by decide)) ?_
  rw [tkS_u4]
  have r1 := tkS_r1 σ q b0 q 0
  have hL' : (tkS σ q b0 q 0) 1 0 1 = L := by rw [tkS_f _ _ _ _ _ (by decide)]; exact hL.1
  have hB : ∀ j, tB (tkS σ q b0 q 0) 11 L j = tB σ 11 L j := fun j => rfl
  have hb := tB_r σ 11 L q
  refine x_aload_n h dX6_advance_17 rfl ?_
  refine x_get h fl_6_9 lvz_3 dX6_advance_18 (pvf_501 _ _) ?_
  refine x_aload_n h dX6_advance_21 rfl ?_
  refine x_get (q := vI (q)) h fl_6_15 lvz_3 dX6_advance_22 (congrArg vI (by first | exact r1 | simp [up3, r1])) ?_
  refine x_cV1 h kVX3_byteAt lkX6_35 ⟨_, _, _, rfl, rfl⟩ dX6_advance_25 (c_byteAt (d := d) (j := q) hL' hL2 (by omega)) lvz_1 rfl rfl (Nat.le_of_ble_eq_true rfl) (by omega) ?_
  rw [hB]
  refine x_istore_n h dX6_advance_28 (by decide) ?_
  refine x_iload_n h dX6_advance_29 rfl ?_
  refine x_cS1 h kSX6_isDigit lkX6_41 dX6_advance_30 (c_isDigit (d := d) hb) rfl rfl (Nat.le_of_ble_eq_true rfl) (by omega) ?_
  cases hdg : isDg (tB σ 11 L q) with
  | true =>
    rw [if_pos rfl]
    have hrd := rn_le (P := isDg) rfl (tB_end σ 11 L) q
    unfold tkE tkK tkV at hr
    rw [hdg] at hr
    simp only [if_true] at hr
    refine x_if_eq_F (tgt := 57) h (by omega) dX6_advance_33 (by decide) (by omega) ?_
    refine x_aload_n h dX6_advance_36 rfl ?_
    refine x_aload_n h dX6_advance_37 rfl ?_
    refine x_cV1 h kVX6_takeDigits lkX6_45 ⟨_, _, _, rfl, rfl⟩ dX6_advance_38 (c_takeDigits (d := d) (p := q) hL hqL) lvz_3 rfl rfl (Nat.le_of_ble_eq_true rfl) (by omega) ?_
    refine x_bipush h dX6_advance_41 (by decide) ?_
    refine x_ic_le (tgt := 50) h (by omega) dX6_advance_43 (by decide) (fun hc => ?_) (fun hc => ?_)
    · rw [if_neg (by omega)] at hr
      refine x_iconst h dX6_advance_50 ?_
      refine x_put h fl_6_19 lvz_3 dX6_advance_51 rfl (fun z => absurd z (by decide)) ?_
      rw [tkS_u2]
      refine x_goto (tgt := 124) h dX6_advance_54 (by decide) ?_
      exact x_return h hr dX6_advance_124 ⟨Nat.le_refl _, Nat.le_refl _⟩
    · rw [if_pos (by omega)] at hr
      refine x_iconst h dX6_advance_46 ?_
      refine x_goto (tgt := 51) h dX6_advance_47 (by decide) ?_
      refine x_put h fl_6_19 lvz_3 dX6_advance_51 rfl (fun z => absurd z (by decide)) ?_
      rw [tkS_u2]
      refine x_goto (tgt := 124) h dX6_advance_54 (by decide) ?_
      exact x_return h hr dX6_advance_124 ⟨Nat.le_refl _, Nat.le_refl _⟩
  | false =>
    rw [if_neg (by decide)]
    unfold tkE tkK tkV at hr
    rw [hdg] at hr
    simp only [Bool.false_eq_true, if_false] at hr
    refine x_if_eq_T (tgt := 57) h (by omega) dX6_advance_33 (by decide) (by omega) ?_
    refine x_iload_n h dX6_advance_57 rfl ?_
    refine x_cS1 h kSX6_isLetter lkX6_49 dX6_advance_58 (c_isLetter (d := d) hb) rfl rfl (Nat.le_of_ble_eq_true rfl) (by omega) ?_
    cases hle : isLe (tB σ 11 L q) with
    | true =>
      rw [if_pos rfl]
      have hrd := rn_le (P := isLe) rfl (tB_end σ 11 L) q
      rw [hle] at hr
      simp only [if_true] at hr
      refine x_if_eq_F (tgt := 90) h (by omega) dX6_advance_61 (by decide) (by omega) ?_
      refine x_aload_n h dX6_advance_64 rfl ?_
      refine x_aload_n h dX6_advance_65 rfl ?_
      refine x_cV1 h kVX6_takeLetters lkX6_52 ⟨_, _, _, rfl, rfl⟩ dX6_advance_66 (c_takeLetters (d := d) (p := q) hL hqL) lvz_3 rfl rfl (Nat.le_of_ble_eq_true rfl) (by omega) ?_
      refine x_iconst h dX6_advance_69 ?_
      refine x_ic_le (tgt := 77) h (by omega) dX6_advance_70 (by decide) (fun hc => ?_) (fun hc => ?_)
      · rw [if_neg (by omega)] at hr
        have r4 := tkS_r4 σ (rn isLe (tB σ 11 L) q) b0 q (letV (tB σ 11 L) q (rn isLe (tB σ 11 L) q - q))
        refine x_aload_n h dX6_advance_77 rfl ?_
        refine x_get (q := vL (letV (tB σ 11 L) q (rn isLe (tB σ 11 L) q - q))) h fl_6_25 lvz_3 dX6_advance_78 (congrArg vL (by first | exact r4 | simp [up3, r4])) ?_
        refine x_cS1 h kSX6_kindOfWord lkX6_55 dX6_advance_81 (c_kindOfWord (d := d) (letV_r _ _ _)) rfl rfl (Nat.le_of_ble_eq_true rfl) (by omega) ?_
        refine x_put h fl_6_19 lvz_3 dX6_advance_84 rfl (fun z => absurd z (by decide)) ?_
        rw [tkS_u2]
        refine x_goto (tgt := 124) h dX6_advance_87 (by decide) ?_
        exact x_return h hr dX6_advance_124 ⟨Nat.le_refl _, Nat.le_refl _⟩
      · rw [if_pos (by omega)] at hr
        refine x_iconst h dX6_advance_73 ?_
        refine x_goto (tgt := 84) h dX6_advance_74 (by decide) ?_
        refine x_put h fl_6_19 lvz_3 dX6_advance_84 rfl (fun z => absurd z (by decide)) ?_
        rw [tkS_u2]
        refine x_goto (tgt := 124) h dX6_advance_87 (by decide) ?_
        exact x_return h hr dX6_advance_124 ⟨Nat.le_refl _, Nat.le_refl _⟩
    | false =>
      rw [if_neg (by decide)]
      rw [hle] at hr
      simp only [Bool.false_eq_true, if_false] at hr
      refine x_if_eq_T (tgt := 90) h (by omega) dX6_advance_61 (by decide) (by omega) ?_
      refine x_aload_n h dX6_advance_90 rfl ?_
      refine x_iload_n h dX6_advance_91 rfl ?_
      refine x_cS1 h kSX6_isSign lkX6_59 dX6_advance_92 (c_isSign (d := d) hb) rfl rfl (Nat.le_of_ble_eq_true rfl) (by omega) ?_
      cases hsg : isSg (tB σ 11 L q) with
      | true =>
        rw [if_pos rfl]
        rw [hsg] at hr
        simp only [if_true] at hr
        refine x_if_eq_F (tgt := 102) h (by omega) dX6_advance_95 (by decide) (by omega) ?_
        refine x_iload_n h dX6_advance_98 rfl ?_
        refine x_goto (tgt := 111) h dX6_advance_99 (by decide) ?_
        refine x_put h fl_6_19 lvz_3 dX6_advance_111 rfl (fun z => absurd z (by decide)) ?_
        rw [tkS_u2]
        have r1 := tkS_r1 σ q (tB σ 11 L q) q 0
        refine x_aload_n h dX6_advance_114 rfl ?_
        refine x_dup h dX6_advance_115 rfl ?_
        refine x_get (q := vI (q)) h fl_6_15 lvz_3 dX6_advance_116 (congrArg vI (by first | exact r1 | simp [up3, r1])) ?_
        refine x_iconst h dX6_advance_119 ?_
        refine x_iadd h dX6_advance_120 ?_
        refine x_put h fl_6_15 lvz_3 dX6_advance_121 rfl (fun z => absurd z (by decide)) ?_
        rw [tkS_u1]
        exact x_return h hr dX6_advance_124 ⟨Nat.le_refl _, Nat.le_refl _⟩
      | false =>
        rw [if_neg (by decide)]
        rw [hsg] at hr
        simp only [Bool.false_eq_true, if_false] at hr
        refine x_if_eq_T (tgt := 102) h (by omega) dX6_advance_95 (by decide) (by omega) ?_
        refine x_iload_n h dX6_advance_102 rfl ?_
        refine x_if_ne (tgt := 110) h (by omega) dX6_advance_103 (by decide) (fun h0 => ?_) (fun h0 => ?_)
        · rw [if_neg h0] at hr
          refine x_iconst h dX6_advance_110 ?_
          refine x_put h fl_6_19 lvz_3 dX6_advance_111 rfl (fun z => absurd z (by decide)) ?_
          rw [tkS_u2]
          have r1 := tkS_r1 σ q 3 q 0
          refine x_aload_n h dX6_advance_114 rfl ?_
          refine x_dup h dX6_advance_115 rfl ?_
          refine x_get (q := vI (q)) h fl_6_15 lvz_3 dX6_advance_116 (congrArg vI (by first | exact r1 | simp [up3, r1])) ?_
          refine x_iconst h dX6_advance_119 ?_
          refine x_iadd h dX6_advance_120 ?_
          refine x_put h fl_6_15 lvz_3 dX6_advance_121 rfl (fun z => absurd z (by decide)) ?_
          rw [tkS_u1]
          exact x_return h hr dX6_advance_124 ⟨Nat.le_refl _, Nat.le_refl _⟩
        · rw [if_pos (by omega)] at hr
          refine x_iconst h dX6_advance_106 ?_
          refine x_goto (tgt := 111) h dX6_advance_107 (by decide) ?_
          refine x_put h fl_6_19 lvz_3 dX6_advance_111 rfl (fun z => absurd z (by decide)) ?_
          rw [tkS_u2]
          have r1 := tkS_r1 σ q 0 q 0
          refine x_aload_n h dX6_advance_114 rfl ?_
          refine x_dup h dX6_advance_115 rfl ?_
          refine x_get (q := vI (q)) h fl_6_15 lvz_3 dX6_advance_116 (congrArg vI (by first | exact r1 | simp [up3, r1])) ?_
          refine x_iconst h dX6_advance_119 ?_
          refine x_iadd h dX6_advance_120 ?_
          refine x_put h fl_6_15 lvz_3 dX6_advance_121 rfl (fun z => absurd z (by decide)) ?_
          rw [tkS_u1]
          exact x_return h hr dX6_advance_124 ⟨Nat.le_refl _, Nat.le_refl _⟩
theorem c_start {d : Nat} {σ : Mm} {L : Nat} (hL : TapeL σ L) : Ct (d + 3) mX6_start 1 [vR 3 0] NALL σ none NALL (advS (up3 σ 3 0 1 0) L 0) 0 0 := by
  refine ct_of (by decide) (Nat.le_of_ble_eq_true rfl) (fun C h hr _ => ?_)
  have h : Ok C RX6 cX6_start 1 _ := h
  have hL' : TapeL (up3 σ 3 0 1 0) L := ⟨by rw [up3_f _ _ (by decide)]; exact hL.1, hL.2⟩
  refine x_aload_n h dX6_start_0 rfl ?_
  refine x_iconst h dX6_start_1 ?_
  refine x_put h fl_6_15 lvz_3 dX6_start_2 rfl (fun z => absurd z (by decide)) ?_
  refine x_aload_n h dX6_start_5 rfl ?_
  refine x_cV0 h kVX6_advance lkX6_29 ⟨_, _, _, rfl, rfl⟩ dX6_start_6 (c_advance (d := d) (p := 0) hL' (Nat.zero_le _) (by simp [up3])) lvz_3 rfl rfl (Nat.le_of_ble_eq_true rfl) (by omega) ?_
  exact x_return h hr dX6_start_9 ⟨Nat.le_refl _, Nat.le_refl _⟩
