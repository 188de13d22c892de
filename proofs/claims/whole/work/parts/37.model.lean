/-! the reference: its tape, its TOKENS -/
def TapeM (σ : Mm) (L : Nat) : Prop := σ 10 0 1 = L ∧ L ≤ 900
theorem m_at {d : Nat} {σ : Mm} {j L : Nat} (hL : TapeM σ L) (hj : j < 100000) : Ct d mX10_at 1 [vR 10 0, vI j] NALL σ (some (vI (tB σ 30 L j))) NALL σ 0 0 := by
  have hL2 := hL.2
  refine ct_of (by decide) (Nat.le_of_ble_eq_true rfl) (fun C h hr _ => ?_)
  have h : Ok C RX10 cX10_at 2 _ := h
  have hm : ∀ x : Int, andI x (255 : Int) = x % 256 := andI_255
  rcases Nat.lt_or_ge j L with hlt | hge
  · rw [show tB σ 30 L j = σ 30 0 j % 256 by unfold tB; rw [if_pos hlt]] at hr
    refine x_iload_n h dX10_at_0 rfl ?_
    refine x_aload_n h dX10_at_1 rfl ?_
    refine x_get (q := vI (L)) h fl_10_153 lvz_10 dX10_at_2 (congrArg vI (by first | exact hL.1 | simp [up3, hL.1])) ?_
    refine x_ic_ge_F (tgt := 21) h (by omega) dX10_at_5 (by decide) (by omega) ?_
    refine x_aload_n h dX10_at_8 rfl ?_
    refine x_get h fl_10_7 lvz_10 dX10_at_9 (pvf_530 _ _) ?_
    refine x_iload_n h dX10_at_12 rfl ?_
    refine x_bald h kdf_30 lvz_30 dX10_at_13 rfl (by omega) ?_
    refine x_sipush h dX10_at_14 (by decide) ?_
    refine x_iand h dX10_at_17 ?_
    rw [hm]
    refine x_goto (tgt := 22) h dX10_at_18 (by decide) ?_
    exact x_ireturn h hr dX10_at_22 (Or.inl rfl) ⟨Nat.le_refl _, Nat.le_refl _⟩
  · rw [show tB σ 30 L j = 0 by unfold tB; rw [if_neg (by omega)]] at hr
    refine x_iload_n h dX10_at_0 rfl ?_
    refine x_aload_n h dX10_at_1 rfl ?_
    refine x_get (q := vI (L)) h fl_10_153 lvz_10 dX10_at_2 (congrArg vI (by first | exact hL.1 | simp [up3, hL.1])) ?_
    refine x_ic_ge_T (tgt := 21) h (by omega) dX10_at_5 (by decide) (by omega) ?_
    refine x_iconst h dX10_at_21 ?_
    exact x_ireturn h hr dX10_at_22 (Or.inl rfl) ⟨Nat.le_refl _, Nat.le_refl _⟩
theorem m_isDigit {d : Nat} {σ : Mm} {b : Int} (hb : 0 ≤ b ∧ b ≤ 255) : Ct d mX10_isDigit 1 [vI b] NALL σ (some (vI (if isDg b then 1 else 0))) NALL σ 0 0 := by
  refine ct_of (by decide) (Nat.le_of_ble_eq_true rfl) (fun C h hr _ => ?_)
  have h : Ok C RX10 cX10_isDigit 1 _ := h
  unfold isDg at hr
  by_cases h1 : b < 48
  · rw [if_neg (by simp; omega)] at hr
    refine x_iload_n h dX10_isDigit_0 rfl ?_
    refine x_bipush h dX10_isDigit_1 (by decide) ?_
    refine x_ic_lt_T (tgt := 16) h (by omega) dX10_isDigit_3 (by decide) (by omega) ?_
    refine x_iconst h dX10_isDigit_16 ?_
    exact x_ireturn h hr dX10_isDigit_17 (Or.inr ⟨rfl, by omega⟩) ⟨Nat.le_refl _, Nat.le_refl _⟩
  · by_cases h2 : b > 57
    · rw [if_neg (by simp; omega)] at hr
      refine x_iload_n h dX10_isDigit_0 rfl ?_
      refine x_bipush h dX10_isDigit_1 (by decide) ?_
      refine x_ic_lt_F (tgt := 16) h (by omega) dX10_isDigit_3 (by decide) (by omega) ?_
      refine x_iload_n h dX10_isDigit_6 rfl ?_
      refine x_bipush h dX10_isDigit_7 (by decide) ?_
      refine x_ic_gt_T (tgt := 16) h (by omega) dX10_isDigit_9 (by decide) (by omega) ?_
      refine x_iconst h dX10_isDigit_16 ?_
      exact x_ireturn h hr dX10_isDigit_17 (Or.inr ⟨rfl, by omega⟩) ⟨Nat.le_refl _, Nat.le_refl _⟩
    · rw [if_pos (by simp; omega)] at hr
      refine x_iload_n h dX10_isDigit_0 rfl ?_
      refine x_bipush h dX10_isDigit_1 (by decide) ?_
      refine x_ic_lt_F (tgt := 16) h (by omega) dX10_isDigit_3 (by decide) (by omega) ?_
      refine x_iload_n h dX10_isDigit_6 rfl ?_
      refine x_bipush h dX10_isDigit_7 (by decide) ?_
      refine x_ic_gt_F (tgt := 16) h (by omega) dX10_isDigit_9 (by decide) (by omega) ?_
      refine x_iconst h dX10_isDigit_12 ?_
      refine x_goto (tgt := 17) h dX10_isDigit_13 (by decide) ?_
      exact x_ireturn h hr dX10_isDigit_17 (Or.inr ⟨rfl, by omega⟩) ⟨Nat.le_refl _, Nat.le_refl _⟩
theorem m_isLetter {d : Nat} {σ : Mm} {b : Int} (hb : 0 ≤ b ∧ b ≤ 255) : Ct d mX10_isLetter 1 [vI b] NALL σ (some (vI (if isLe b then 1 else 0))) NALL σ 0 0 := by
  refine ct_of (by decide) (Nat.le_of_ble_eq_true rfl) (fun C h hr _ => ?_)
  have h : Ok C RX10 cX10_isLetter 1 _ := h
  unfold isLe at hr
  by_cases h1 : b < 97
  · rw [if_neg (by simp; omega)] at hr
    refine x_iload_n h dX10_isLetter_0 rfl ?_
    refine x_bipush h dX10_isLetter_1 (by decide) ?_
    refine x_ic_lt_T (tgt := 16) h (by omega) dX10_isLetter_3 (by decide) (by omega) ?_
    refine x_iconst h dX10_isLetter_16 ?_
    exact x_ireturn h hr dX10_isLetter_17 (Or.inr ⟨rfl, by omega⟩) ⟨Nat.le_refl _, Nat.le_refl _⟩
  · by_cases h2 : b > 122
    · rw [if_neg (by simp; omega)] at hr
      refine x_iload_n h dX10_isLetter_0 rfl ?_
      refine x_bipush h dX10_isLetter_1 (by decide) ?_
      refine x_ic_lt_F (tgt := 16) h (by omega) dX10_isLetter_3 (by decide) (by omega) ?_
      refine x_iload_n h dX10_isLetter_6 rfl ?_
      refine x_bipush h dX10_isLetter_7 (by decide) ?_
      refine x_ic_gt_T (tgt := 16) h (by omega) dX10_isLetter_9 (by decide) (by omega) ?_
      refine x_iconst h dX10_isLetter_16 ?_
      exact x_ireturn h hr dX10_isLetter_17 (Or.inr ⟨rfl, by omega⟩) ⟨Nat.le_refl _, Nat.le_refl _⟩
    · rw [if_pos (by simp; omega)] at hr
      refine x_iload_n h dX10_isLetter_0 rfl ?_
      refine x_bipush h dX10_isLetter_1 (by decide) ?_
      refine x_ic_lt_F (tgt := 16) h (by omega) dX10_isLetter_3 (by decide) (by omega) ?_
      refine x_iload_n h dX10_isLetter_6 rfl ?_
      refine x_bipush h dX10_isLetter_7 (by decide) ?_
      refine x_ic_gt_F (tgt := 16) h (by omega) dX10_isLetter_9 (by decide) (by omega) ?_
      refine x_iconst h dX10_isLetter_12 ?_
      refine x_goto (tgt := 17) h dX10_isLetter_13 (by decide) ?_
      exact x_ireturn h hr dX10_isLetter_17 (Or.inr ⟨rfl, by omega⟩) ⟨Nat.le_refl _, Nat.le_refl _⟩
theorem m_isSign {d : Nat} {σ : Mm} {b : Int} (hb : 0 ≤ b ∧ b ≤ 255) : Ct d mX10_isSign 1 [vI b] NALL σ (some (vI (if isSg b then 1 else 0))) NALL σ 0 0 := by
  by_cases e1 : b = 91
  · subst e1
    refine ct_of (by decide) (Nat.le_of_ble_eq_true rfl) (fun C h hr _ => ?_)
    have h : Ok C RX10 cX10_isSign 1 _ := h
    refine x_iload_n h dX10_isSign_0 rfl ?_
    refine x_bipush h dX10_isSign_1 (by decide) ?_
    refine x_ic_eq_T (tgt := 90) h (by omega) dX10_isSign_3 (by decide) (by omega) ?_
    refine x_iconst h dX10_isSign_90 ?_
    refine x_goto (tgt := 95) h dX10_isSign_91 (by decide) ?_
    exact x_ireturn h hr dX10_isSign_95 (Or.inr ⟨rfl, by omega⟩) ⟨Nat.le_refl _, Nat.le_refl _⟩
  by_cases e2 : b = 93
  · subst e2
    refine ct_of (by decide) (Nat.le_of_ble_eq_true rfl) (fun C h hr _ => ?_)
    have h : Ok C RX10 cX10_isSign 1 _ := h
    refine x_iload_n h dX10_isSign_0 rfl ?_
    refine x_bipush h dX10_isSign_1 (by decide) ?_
    refine x_ic_eq_F (tgt := 90) h (by omega) dX10_isSign_3 (by decide) (by omega) ?_
    refine x_iload_n h dX10_isSign_6 rfl ?_
    refine x_bipush h dX10_isSign_7 (by decide) ?_
    refine x_ic_eq_T (tgt := 90) h (by omega) dX10_isSign_9 (by decide) (by omega) ?_
    refine x_iconst h dX10_isSign_90 ?_
    refine x_goto (tgt := 95) h dX10_isSign_91 (by decide) ?_
    exact x_ireturn h hr dX10_isSign_95 (Or.inr ⟨rfl, by omega⟩) ⟨Nat.le_refl _, Nat.le_refl _⟩
  by_cases e3 : b = 40
  · subst e3
    refine ct_of (by decide) (Nat.le_of_ble_eq_true rfl) (fun C h hr _ => ?_)
    have h : Ok C RX10 cX10_isSign 1 _ := h
    refine x_iload_n h dX10_isSign_0 rfl ?_
    refine x_bipush h dX10_isSign_1 (by decide) ?_
    refine x_ic_eq_F (tgt := 90) h (by omega) dX10_isSign_3 (by decide) (by omega) ?_
    refine x_iload_n h dX10_isSign_6 rfl ?_
    refine x_bipush h dX10_isSign_7 (by decide) ?_
    refine x_ic_eq_F (tgt := 90) h (by omega) dX10_isSign_9 (by decide) (by omega) ?_
    refine x_iload_n h dX10_isSign_12 rfl ?_
    refine x_bipush h dX10_isSign_13 (by decide) ?_
    refine x_ic_eq_T (tgt := 90) h (by omega) dX10_isSign_15 (by decide) (by omega) ?_
    refine x_iconst h dX10_isSign_90 ?_
    refine x_goto (tgt := 95) h dX10_isSign_91 (by decide) ?_
    exact x_ireturn h hr dX10_isSign_95 (Or.inr ⟨rfl, by omega⟩) ⟨Nat.le_refl _, Nat.le_refl _⟩
  by_cases e4 : b = 41
  · subst e4
    refine ct_of (by decide) (Nat.le_of_ble_eq_true rfl) (fun C h hr _ => ?_)
    have h : Ok C RX10 cX10_isSign 1 _ := h
    refine x_iload_n h dX10_isSign_0 rfl ?_
    refine x_bipush h dX10_isSign_1 (by decide) ?_
    refine x_ic_eq_F (tgt := 90) h (by omega) dX10_isSign_3 (by decide) (by omega) ?_
    refine x_iload_n h dX10_isSign_6 rfl ?_
    refine x_bipush h dX10_isSign_7 (by decide) ?_
    refine x_ic_eq_F (tgt := 90) h (by omega) dX10_isSign_9 (by decide) (by omega) ?_
    refine x_iload_n h dX10_isSign_12 rfl ?_
    refine x_bipush h dX10_isSign_13 (by decide) ?_
    refine x_ic_eq_F (tgt := 90) h (by omega) dX10_isSign_15 (by decide) (by omega) ?_
    refine x_iload_n h dX10_isSign_18 rfl ?_
    refine x_bipush h dX10_isSign_19 (by decide) ?_
    refine x_ic_eq_T (tgt := 90) h (by omega) dX10_isSign_21 (by decide) (by omega) ?_
    refine x_iconst h dX10_isSign_90 ?_
    refine x_goto (tgt := 95) h dX10_isSign_91 (by decide) ?_
    exact x_ireturn h hr dX10_isSign_95 (Or.inr ⟨rfl, by omega⟩) ⟨Nat.le_refl _, Nat.le_refl _⟩
  by_cases e5 : b = 61
  · subst e5
    refine ct_of (by decide) (Nat.le_of_ble_eq_true rfl) (fun C h hr _ => ?_)
    have h : Ok C RX10 cX10_isSign 1 _ := h
    refine x_iload_n h dX10_isSign_0 rfl ?_
    refine x_bipush h dX10_isSign_1 (by decide) ?_
    refine x_ic_eq_F (tgt := 90) h (by omega) dX10_isSign_3 (by decide) (by omega) ?_
    refine x_iload_n h dX10_isSign_6 rfl ?_
    refine x_bipush h dX10_isSign_7 (by decide) ?_
    refine x_ic_eq_F (tgt := 90) h (by omega) dX10_isSign_9 (by decide) (by omega) ?_
    refine x_iload_n h dX10_isSign_12 rfl ?_
    refine x_bipush h dX10_isSign_13 (by decide) ?_
    refine x_ic_eq_F (tgt := 90) h (by omega) dX10_isSign_15 (by decide) (by omega) ?_
    refine x_iload_n h dX10_isSign_18 rfl ?_
    refine x_bipush h dX10_isSign_19 (by decide) ?_
    refine x_ic_eq_F (tgt := 90) h (by omega) dX10_isSign_21 (by decide) (by omega) ?_
    refine x_iload_n h dX10_isSign_24 rfl ?_
    refine x_bipush h dX10_isSign_25 (by decide) ?_
    refine x_ic_eq_T (tgt := 90) h (by omega) dX10_isSign_27 (by decide) (by omega) ?_
    refine x_iconst h dX10_isSign_90 ?_
    refine x_goto (tgt := 95) h dX10_isSign_91 (by decide) ?_
    exact x_ireturn h hr dX10_isSign_95 (Or.inr ⟨rfl, by omega⟩) ⟨Nat.le_refl _, Nat.le_refl _⟩
  by_cases e6 : b = 43
  · subst e6
    refine ct_of (by decide) (Nat.le_of_ble_eq_true rfl) (fun C h hr _ => ?_)
    have h : Ok C RX10 cX10_isSign 1 _ := h
    refine x_iload_n h dX10_isSign_0 rfl ?_
    refine x_bipush h dX10_isSign_1 (by decide) ?_
    refine x_ic_eq_F (tgt := 90) h (by omega) dX10_isSign_3 (by decide) (by omega) ?_
    refine x_iload_n h dX10_isSign_6 rfl ?_
    refine x_bipush h dX10_isSign_7 (by decide) ?_
    refine x_ic_eq_F (tgt := 90) h (by omega) dX10_isSign_9 (by decide) (by omega) ?_
    refine x_iload_n h dX10_isSign_12 rfl ?_
    refine x_bipush h dX10_isSign_13 (by decide) ?_
    refine x_ic_eq_F (tgt := 90) h (by omega) dX10_isSign_15 (by decide) (by omega) ?_
    refine x_iload_n h dX10_isSign_18 rfl ?_
    refine x_bipush h dX10_isSign_19 (by decide) ?_
    refine x_ic_eq_F (tgt := 90) h (by omega) dX10_isSign_21 (by decide) (by omega) ?_
    refine x_iload_n h dX10_isSign_24 rfl ?_
    refine x_bipush h dX10_isSign_25 (by decide) ?_
    refine x_ic_eq_F (tgt := 90) h (by omega) dX10_isSign_27 (by decide) (by omega) ?_
    refine x_iload_n h dX10_isSign_30 rfl ?_
    refine x_bipush h dX10_isSign_31 (by decide) ?_
    refine x_ic_eq_T (tgt := 90) h (by omega) dX10_isSign_33 (by decide) (by omega) ?_
    refine x_iconst h dX10_isSign_90 ?_
    refine x_goto (tgt := 95) h dX10_isSign_91 (by decide) ?_
    exact x_ireturn h hr dX10_isSign_95 (Or.inr ⟨rfl, by omega⟩) ⟨Nat.le_refl _, Nat.le_refl _⟩
  by_cases e7 : b = 45
  · subst e7
    refine ct_of (by decide) (Nat.le_of_ble_eq_true rfl) (fun C h hr _ => ?_)
    have h : Ok C RX10 cX10_isSign 1 _ := h
    refine x_iload_n h dX10_isSign_0 rfl ?_
    refine x_bipush h dX10_isSign_1 (by decide) ?_
    refine x_ic_eq_F (tgt := 90) h (by omega) dX10_isSign_3 (by decide) (by omega) ?_
    refine x_iload_n h dX10_isSign_6 rfl ?_
    refine x_bipush h dX10_isSign_7 (by decide) ?_
    refine x_ic_eq_F (tgt := 90) h (by omega) dX10_isSign_9 (by decide) (by omega) ?_
    refine x_iload_n h dX10_isSign_12 rfl ?_
    refine x_bipush h dX10_isSign_13 (by decide) ?_
    refine x_ic_eq_F (tgt := 90) h (by omega) dX10_isSign_15 (by decide) (by omega) ?_
    refine x_iload_n h dX10_isSign_18 rfl ?_
    refine x_bipush h dX10_isSign_19 (by decide) ?_
    refine x_ic_eq_F (tgt := 90) h (by omega) dX10_isSign_21 (by decide) (by omega) ?_
    refine x_iload_n h dX10_isSign_24 rfl ?_
    refine x_bipush h dX10_isSign_25 (by decide) ?_
    refine x_ic_eq_F (tgt := 90) h (by omega) dX10_isSign_27 (by decide) (by omega) ?_
    refine x_iload_n h dX10_isSign_30 rfl ?_
    refine x_bipush h dX10_isSign_31 (by decide) ?_
    refine x_ic_eq_F (tgt := 90) h (by omega) dX10_isSign_33 (by decide) (by omega) ?_
    refine x_iload_n h dX10_isSign_36 rfl ?_
    refine x_bipush h dX10_isSign_37 (by decide) ?_
    refine x_ic_eq_T (tgt := 90) h (by omega) dX10_isSign_39 (by decide) (by omega) ?_
    refine x_iconst h dX10_isSign_90 ?_
    refine x_goto (tgt := 95) h dX10_isSign_91 (by decide) ?_
    exact x_ireturn h hr dX10_isSign_95 (Or.inr ⟨rfl, by omega⟩) ⟨Nat.le_refl _, Nat.le_refl _⟩
  by_cases e8 : b = 42
  · subst e8
    refine ct_of (by decide) (Nat.le_of_ble_eq_true rfl) (fun C h hr _ => ?_)
    have h : Ok C RX10 cX10_isSign 1 _ := h
    refine x_iload_n h dX10_isSign_0 rfl ?_
    refine x_bipush h dX10_isSign_1 (by decide) ?_
    refine x_ic_eq_F (tgt := 90) h (by omega) dX10_isSign_3 (by decide) (by omega) ?_
    refine x_iload_n h dX10_isSign_6 rfl ?_
    refine x_bipush h dX10_isSign_7 (by decide) ?_
    refine x_ic_eq_F (tgt := 90) h (by omega) dX10_isSign_9 (by decide) (by omega) ?_
    refine x_iload_n h dX10_isSign_12 rfl ?_
    refine x_bipush h dX10_isSign_13 (by decide) ?_
    refine x_ic_eq_F (tgt := 90) h (by omega) dX10_isSign_15 (by decide) (by omega) ?_
    refine x_iload_n h dX10_isSign_18 rfl ?_
    refine x_bipush h dX10_isSign_19 (by decide) ?_
    refine x_ic_eq_F (tgt := 90) h (by omega) dX10_isSign_21 (by decide) (by omega) ?_
    refine x_iload_n h dX10_isSign_24 rfl ?_
    refine x_bipush h dX10_isSign_25 (by decide) ?_
    refine x_ic_eq_F (tgt := 90) h (by omega) dX10_isSign_27 (by decide) (by omega) ?_
    refine x_iload_n h dX10_isSign_30 rfl ?_
    refine x_bipush h dX10_isSign_31 (by decide) ?_
    refine x_ic_eq_F (tgt := 90) h (by omega) dX10_isSign_33 (by decide) (by omega) ?_
    refine x_iload_n h dX10_isSign_36 rfl ?_
    refine x_bipush h dX10_isSign_37 (by decide) ?_
    refine x_ic_eq_F (tgt := 90) h (by omega) dX10_isSign_39 (by decide) (by omega) ?_
    refine x_iload_n h dX10_isSign_42 rfl ?_
    refine x_bipush h dX10_isSign_43 (by decide) ?_
    refine x_ic_eq_T (tgt := 90) h (by omega) dX10_isSign_45 (by decide) (by omega) ?_
    refine x_iconst h dX10_isSign_90 ?_
    refine x_goto (tgt := 95) h dX10_isSign_91 (by decide) ?_
    exact x_ireturn h hr dX10_isSign_95 (Or.inr ⟨rfl, by omega⟩) ⟨Nat.le_refl _, Nat.le_refl _⟩
  by_cases e9 : b = 47
  · subst e9
    refine ct_of (by decide) (Nat.le_of_ble_eq_true rfl) (fun C h hr _ => ?_)
    have h : Ok C RX10 cX10_isSign 1 _ := h
    refine x_iload_n h dX10_isSign_0 rfl ?_
    refine x_bipush h dX10_isSign_1 (by decide) ?_
    refine x_ic_eq_F (tgt := 90) h (by omega) dX10_isSign_3 (by decide) (by omega) ?_
    refine x_iload_n h dX10_isSign_6 rfl ?_
    refine x_bipush h dX10_isSign_7 (by decide) ?_
    refine x_ic_eq_F (tgt := 90) h (by omega) dX10_isSign_9 (by decide) (by omega) ?_
    refine x_iload_n h dX10_isSign_12 rfl ?_
    refine x_bipush h dX10_isSign_13 (by decide) ?_
    refine x_ic_eq_F (tgt := 90) h (by omega) dX10_isSign_15 (by decide) (by omega) ?_
    refine x_iload_n h dX10_isSign_18 rfl ?_
    refine x_bipush h dX10_isSign_19 (by decide) ?_
    refine x_ic_eq_F (tgt := 90) h (by omega) dX10_isSign_21 (by decide) (by omega) ?_
    refine x_iload_n h dX10_isSign_24 rfl ?_
    refine x_bipush h dX10_isSign_25 (by decide) ?_
    refine x_ic_eq_F (tgt := 90) h (by omega) dX10_isSign_27 (by decide) (by omega) ?_
    refine x_iload_n h dX10_isSign_30 rfl ?_
    refine x_bipush h dX10_isSign_31 (by decide) ?_
    refine x_ic_eq_F (tgt := 90) h (by omega) dX10_isSign_33 (by decide) (by omega) ?_
    refine x_iload_n h dX10_isSign_36 rfl ?_
    refine x_bipush h dX10_isSign_37 (by decide) ?_
    refine x_ic_eq_F (tgt := 90) h (by omega) dX10_isSign_39 (by decide) (by omega) ?_
    refine x_iload_n h dX10_isSign_42 rfl ?_
    refine x_bipush h dX10_isSign_43 (by decide) ?_
    refine x_ic_eq_F (tgt := 90) h (by omega) dX10_isSign_45 (by decide) (by omega) ?_
    refine x_iload_n h dX10_isSign_48 rfl ?_
    refine x_bipush h dX10_isSign_49 (by decide) ?_
    refine x_ic_eq_T (tgt := 90) h (by omega) dX10_isSign_51 (by decide) (by omega) ?_
    refine x_iconst h dX10_isSign_90 ?_
    refine x_goto (tgt := 95) h dX10_isSign_91 (by decide) ?_
    exact x_ireturn h hr dX10_isSign_95 (Or.inr ⟨rfl, by omega⟩) ⟨Nat.le_refl _, Nat.le_refl _⟩
  by_cases e10 : b = 37
  · subst e10
    refine ct_of (by decide) (Nat.le_of_ble_eq_true rfl) (fun C h hr _ => ?_)
    have h : Ok C RX10 cX10_isSign 1 _ := h
    refine x_iload_n h dX10_isSign_0 rfl ?_
    refine x_bipush h dX10_isSign_1 (by decide) ?_
    refine x_ic_eq_F (tgt := 90) h (by omega) dX10_isSign_3 (by decide) (by omega) ?_
    refine x_iload_n h dX10_isSign_6 rfl ?_
    refine x_bipush h dX10_isSign_7 (by decide) ?_
    refine x_ic_eq_F (tgt := 90) h (by omega) dX10_isSign_9 (by decide) (by omega) ?_
    refine x_iload_n h dX10_isSign_12 rfl ?_
    refine x_bipush h dX10_isSign_13 (by decide) ?_
    refine x_ic_eq_F (tgt := 90) h (by omega) dX10_isSign_15 (by decide) (by omega) ?_
    refine x_iload_n h dX10_isSign_18 rfl ?_
    refine x_bipush h dX10_isSign_19 (by decide) ?_
    refine x_ic_eq_F (tgt := 90) h (by omega) dX10_isSign_21 (by decide) (by omega) ?_
    refine x_iload_n h dX10_isSign_24 rfl ?_
    refine x_bipush h dX10_isSign_25 (by decide) ?_
    refine x_ic_eq_F (tgt := 90) h (by omega) dX10_isSign_27 (by decide) (by omega) ?_
    refine x_iload_n h dX10_isSign_30 rfl ?_
    refine x_bipush h dX10_isSign_31 (by decide) ?_
    refine x_ic_eq_F (tgt := 90) h (by omega) dX10_isSign_33 (by decide) (by omega) ?_
    refine x_iload_n h dX10_isSign_36 rfl ?_
    refine x_bipush h dX10_isSign_37 (by decide) ?_
    refine x_ic_eq_F (tgt := 90) h (by omega) dX10_isSign_39 (by decide) (by omega) ?_
    refine x_iload_n h dX10_isSign_42 rfl ?_
    refine x_bipush h dX10_isSign_43 (by decide) ?_
    refine x_ic_eq_F (tgt := 90) h (by omega) dX10_isSign_45 (by decide) (by omega) ?_
    refine x_iload_n h dX10_isSign_48 rfl ?_
    refine x_bipush h dX10_isSign_49 (by decide) ?_
    refine x_ic_eq_F (tgt := 90) h (by omega) dX10_isSign_51 (by decide) (by omega) ?_
    refine x_iload_n h dX10_isSign_54 rfl ?_
    refine x_bipush h dX10_isSign_55 (by decide) ?_
    refine x_ic_eq_T (tgt := 90) h (by omega) dX10_isSign_57 (by decide) (by omega) ?_
    refine x_iconst h dX10_isSign_90 ?_
    refine x_goto (tgt := 95) h dX10_isSign_91 (by decide) ?_
    exact x_ireturn h hr dX10_isSign_95 (Or.inr ⟨rfl, by omega⟩) ⟨Nat.le_refl _, Nat.le_refl _⟩
  by_cases e11 : b = 60
  · subst e11
    refine ct_of (by decide) (Nat.le_of_ble_eq_true rfl) (fun C h hr _ => ?_)
    have h : Ok C RX10 cX10_isSign 1 _ := h
    refine x_iload_n h dX10_isSign_0 rfl ?_
    refine x_bipush h dX10_isSign_1 (by decide) ?_
    refine x_ic_eq_F (tgt := 90) h (by omega) dX10_isSign_3 (by decide) (by omega) ?_
    refine x_iload_n h dX10_isSign_6 rfl ?_
    refine x_bipush h dX10_isSign_7 (by decide) ?_
    refine x_ic_eq_F (tgt := 90) h (by omega) dX10_isSign_9 (by decide) (by omega) ?_
    refine x_iload_n h dX10_isSign_12 rfl ?_
    refine x_bipush h dX10_isSign_13 (by decide) ?_
    refine x_ic_eq_F (tgt := 90) h (by omega) dX10_isSign_15 (by decide) (by omega) ?_
    refine x_iload_n h dX10_isSign_18 rfl ?_
    refine x_bipush h dX10_isSign_19 (by decide) ?_
    refine x_ic_eq_F (tgt := 90) h (by omega) dX10_isSign_21 (by decide) (by omega) ?_
    refine x_iload_n h dX10_isSign_24 rfl ?_
    refine x_bipush h dX10_isSign_25 (by decide) ?_
    refine x_ic_eq_F (tgt := 90) h (by omega) dX10_isSign_27 (by decide) (by omega) ?_
    refine x_iload_n h dX10_isSign_30 rfl ?_
    refine x_bipush h dX10_isSign_31 (by decide) ?_
    refine x_ic_eq_F (tgt := 90) h (by omega) dX10_isSign_33 (by decide) (by omega) ?_
    refine x_iload_n h dX10_isSign_36 rfl ?_
    refine x_bipush h dX10_isSign_37 (by decide) ?_
    refine x_ic_eq_F (tgt := 90) h (by omega) dX10_isSign_39 (by decide) (by omega) ?_
    refine x_iload_n h dX10_isSign_42 rfl ?_
    refine x_bipush h dX10_isSign_43 (by decide) ?_
    refine x_ic_eq_F (tgt := 90) h (by omega) dX10_isSign_45 (by decide) (by omega) ?_
    refine x_iload_n h dX10_isSign_48 rfl ?_
    refine x_bipush h dX10_isSign_49 (by decide) ?_
    refine x_ic_eq_F (tgt := 90) h (by omega) dX10_isSign_51 (by decide) (by omega) ?_
    refine x_iload_n h dX10_isSign_54 rfl ?_
    refine x_bipush h dX10_isSign_55 (by decide) ?_
    refine x_ic_eq_F (tgt := 90) h (by omega) dX10_isSign_57 (by decide) (by omega) ?_
    refine x_iload_n h dX10_isSign_60 rfl ?_
    refine x_bipush h dX10_isSign_61 (by decide) ?_
    refine x_ic_eq_T (tgt := 90) h (by omega) dX10_isSign_63 (by decide) (by omega) ?_
    refine x_iconst h dX10_isSign_90 ?_
    refine x_goto (tgt := 95) h dX10_isSign_91 (by decide) ?_
    exact x_ireturn h hr dX10_isSign_95 (Or.inr ⟨rfl, by omega⟩) ⟨Nat.le_refl _, Nat.le_refl _⟩
  by_cases e12 : b = 63
  · subst e12
    refine ct_of (by decide) (Nat.le_of_ble_eq_true rfl) (fun C h hr _ => ?_)
    have h : Ok C RX10 cX10_isSign 1 _ := h
    refine x_iload_n h dX10_isSign_0 rfl ?_
    refine x_bipush h dX10_isSign_1 (by decide) ?_
    refine x_ic_eq_F (tgt := 90) h (by omega) dX10_isSign_3 (by decide) (by omega) ?_
    refine x_iload_n h dX10_isSign_6 rfl ?_
    refine x_bipush h dX10_isSign_7 (by decide) ?_
    refine x_ic_eq_F (tgt := 90) h (by omega) dX10_isSign_9 (by decide) (by omega) ?_
    refine x_iload_n h dX10_isSign_12 rfl ?_
    refine x_bipush h dX10_isSign_13 (by decide) ?_
    refine x_ic_eq_F (tgt := 90) h (by omega) dX10_isSign_15 (by decide) (by omega) ?_
    refine x_iload_n h dX10_isSign_18 rfl ?_
    refine x_bipush h dX10_isSign_19 (by decide) ?_
    refine x_ic_eq_F (tgt := 90) h (by omega) dX10_isSign_21 (by decide) (by omega) ?_
    refine x_iload_n h dX10_isSign_24 rfl ?_
    refine x_bipush h dX10_isSign_25 (by decide) ?_
    refine x_ic_eq_F (tgt := 90) h (by omega) dX10_isSign_27 (by decide) (by omega) ?_
    refine x_iload_n h dX10_isSign_30 rfl ?_
    refine x_bipush h dX10_isSign_31 (by decide) ?_
    refine x_ic_eq_F (tgt := 90) h (by omega) dX10_isSign_33 (by decide) (by omega) ?_
    refine x_iload_n h dX10_isSign_36 rfl ?_
    refine x_bipush h dX10_isSign_37 (by decide) ?_
    refine x_ic_eq_F (tgt := 90) h (by omega) dX10_isSign_39 (by decide) (by omega) ?_
    refine x_iload_n h dX10_isSign_42 rfl ?_
    refine x_bipush h dX10_isSign_43 (by decide) ?_
    refine x_ic_eq_F (tgt := 90) h (by omega) dX10_isSign_45 (by decide) (by omega) ?_
    refine x_iload_n h dX10_isSign_48 rfl ?_
    refine x_bipush h dX10_isSign_49 (by decide) ?_
    refine x_ic_eq_F (tgt := 90) h (by omega) dX10_isSign_51 (by decide) (by omega) ?_
    refine x_iload_n h dX10_isSign_54 rfl ?_
    refine x_bipush h dX10_isSign_55 (by decide) ?_
    refine x_ic_eq_F (tgt := 90) h (by omega) dX10_isSign_57 (by decide) (by omega) ?_
    refine x_iload_n h dX10_isSign_60 rfl ?_
    refine x_bipush h dX10_isSign_61 (by decide) ?_
    refine x_ic_eq_F (tgt := 90) h (by omega) dX10_isSign_63 (by decide) (by omega) ?_
    refine x_iload_n h dX10_isSign_66 rfl ?_
    refine x_bipush h dX10_isSign_67 (by decide) ?_
    refine x_ic_eq_T (tgt := 90) h (by omega) dX10_isSign_69 (by decide) (by omega) ?_
    refine x_iconst h dX10_isSign_90 ?_
    refine x_goto (tgt := 95) h dX10_isSign_91 (by decide) ?_
    exact x_ireturn h hr dX10_isSign_95 (Or.inr ⟨rfl, by omega⟩) ⟨Nat.le_refl _, Nat.le_refl _⟩
  by_cases e13 : b = 58
  · subst e13
    refine ct_of (by decide) (Nat.le_of_ble_eq_true rfl) (fun C h hr _ => ?_)
    have h : Ok C RX10 cX10_isSign 1 _ := h
    refine x_iload_n h dX10_isSign_0 rfl ?_
    refine x_bipush h dX10_isSign_1 (by decide) ?_
    refine x_ic_eq_F (tgt := 90) h (by omega) dX10_isSign_3 (by decide) (by omega) ?_
    refine x_iload_n h dX10_isSign_6 rfl ?_
    refine x_bipush h dX10_isSign_7 (by decide) ?_
    refine x_ic_eq_F (tgt := 90) h (by omega) dX10_isSign_9 (by decide) (by omega) ?_
    refine x_iload_n h dX10_isSign_12 rfl ?_
    refine x_bipush h dX10_isSign_13 (by decide) ?_
    refine x_ic_eq_F (tgt := 90) h (by omega) dX10_isSign_15 (by decide) (by omega) ?_
    refine x_iload_n h dX10_isSign_18 rfl ?_
    refine x_bipush h dX10_isSign_19 (by decide) ?_
    refine x_ic_eq_F (tgt := 90) h (by omega) dX10_isSign_21 (by decide) (by omega) ?_
    refine x_iload_n h dX10_isSign_24 rfl ?_
    refine x_bipush h dX10_isSign_25 (by decide) ?_
    refine x_ic_eq_F (tgt := 90) h (by omega) dX10_isSign_27 (by decide) (by omega) ?_
    refine x_iload_n h dX10_isSign_30 rfl ?_
    refine x_bipush h dX10_isSign_31 (by decide) ?_
    refine x_ic_eq_F (tgt := 90) h (by omega) dX10_isSign_33 (by decide) (by omega) ?_
    refine x_iload_n h dX10_isSign_36 rfl ?_
    refine x_bipush h dX10_isSign_37 (by decide) ?_
    refine x_ic_eq_F (tgt := 90) h (by omega) dX10_isSign_39 (by decide) (by omega) ?_
    refine x_iload_n h dX10_isSign_42 rfl ?_
    refine x_bipush h dX10_isSign_43 (by decide) ?_
    refine x_ic_eq_F (tgt := 90) h (by omega) dX10_isSign_45 (by decide) (by omega) ?_
    refine x_iload_n h dX10_isSign_48 rfl ?_
    refine x_bipush h dX10_isSign_49 (by decide) ?_
    refine x_ic_eq_F (tgt := 90) h (by omega) dX10_isSign_51 (by decide) (by omega) ?_
    refine x_iload_n h dX10_isSign_54 rfl ?_
    refine x_bipush h dX10_isSign_55 (by decide) ?_
    refine x_ic_eq_F (tgt := 90) h (by omega) dX10_isSign_57 (by decide) (by omega) ?_
    refine x_iload_n h dX10_isSign_60 rfl ?_
    refine x_bipush h dX10_isSign_61 (by decide) ?_
    refine x_ic_eq_F (tgt := 90) h (by omega) dX10_isSign_63 (by decide) (by omega) ?_
    refine x_iload_n h dX10_isSign_66 rfl ?_
    refine x_bipush h dX10_isSign_67 (by decide) ?_
    refine x_ic_eq_F (tgt := 90) h (by omega) dX10_isSign_69 (by decide) (by omega) ?_
    refine x_iload_n h dX10_isSign_72 rfl ?_
    refine x_bipush h dX10_isSign_73 (by decide) ?_
    refine x_ic_eq_T (tgt := 90) h (by omega) dX10_isSign_75 (by decide) (by omega) ?_
    refine x_iconst h dX10_isSign_90 ?_
    refine x_goto (tgt := 95) h dX10_isSign_91 (by decide) ?_
    exact x_ireturn h hr dX10_isSign_95 (Or.inr ⟨rfl, by omega⟩) ⟨Nat.le_refl _, Nat.le_refl _⟩
  by_cases e14 : b = 35
  · subst e14
    refine ct_of (by decide) (Nat.le_of_ble_eq_true rfl) (fun C h hr _ => ?_)
    have h : Ok C RX10 cX10_isSign 1 _ := h
    refine x_iload_n h dX10_isSign_0 rfl ?_
    refine x_bipush h dX10_isSign_1 (by decide) ?_
    refine x_ic_eq_F (tgt := 90) h (by omega) dX10_isSign_3 (by decide) (by omega) ?_
    refine x_iload_n h dX10_isSign_6 rfl ?_
    refine x_bipush h dX10_isSign_7 (by decide) ?_
    refine x_ic_eq_F (tgt := 90) h (by omega) dX10_isSign_9 (by decide) (by omega) ?_
    refine x_iload_n h dX10_isSign_12 rfl ?_
    refine x_bipush h dX10_isSign_13 (by decide) ?_
    refine x_ic_eq_F (tgt := 90) h (by omega) dX10_isSign_15 (by decide) (by omega) ?_
    refine x_iload_n h dX10_isSign_18 rfl ?_
    refine x_bipush h dX10_isSign_19 (by decide) ?_
    refine x_ic_eq_F (tgt := 90) h (by omega) dX10_isSign_21 (by decide) (by omega) ?_
    refine x_iload_n h dX10_isSign_24 rfl ?_
    refine x_bipush h dX10_isSign_25 (by decide) ?_
    refine x_ic_eq_F (tgt := 90) h (by omega) dX10_isSign_27 (by decide) (by omega) ?_
    refine x_iload_n h dX10_isSign_30 rfl ?_
    refine x_bipush h dX10_isSign_31 (by decide) ?_
    refine x_ic_eq_F (tgt := 90) h (by omega) dX10_isSign_33 (by decide) (by omega) ?_
    refine x_iload_n h dX10_isSign_36 rfl ?_
    refine x_bipush h dX10_isSign_37 (by decide) ?_
    refine x_ic_eq_F (tgt := 90) h (by omega) dX10_isSign_39 (by decide) (by omega) ?_
    refine x_iload_n h dX10_isSign_42 rfl ?_
    refine x_bipush h dX10_isSign_43 (by decide) ?_
    refine x_ic_eq_F (tgt := 90) h (by omega) dX10_isSign_45 (by decide) (by omega) ?_
    refine x_iload_n h dX10_isSign_48 rfl ?_
    refine x_bipush h dX10_isSign_49 (by decide) ?_
    refine x_ic_eq_F (tgt := 90) h (by omega) dX10_isSign_51 (by decide) (by omega) ?_
    refine x_iload_n h dX10_isSign_54 rfl ?_
    refine x_bipush h dX10_isSign_55 (by decide) ?_
    refine x_ic_eq_F (tgt := 90) h (by omega) dX10_isSign_57 (by decide) (by omega) ?_
    refine x_iload_n h dX10_isSign_60 rfl ?_
    refine x_bipush h dX10_isSign_61 (by decide) ?_
    refine x_ic_eq_F (tgt := 90) h (by omega) dX10_isSign_63 (by decide) (by omega) ?_
    refine x_iload_n h dX10_isSign_66 rfl ?_
    refine x_bipush h dX10_isSign_67 (by decide) ?_
    refine x_ic_eq_F (tgt := 90) h (by omega) dX10_isSign_69 (by decide) (by omega) ?_
    refine x_iload_n h dX10_isSign_72 rfl ?_
    refine x_bipush h dX10_isSign_73 (by decide) ?_
    refine x_ic_eq_F (tgt := 90) h (by omega) dX10_isSign_75 (by decide) (by omega) ?_
    refine x_iload_n h dX10_isSign_78 rfl ?_
    refine x_bipush h dX10_isSign_79 (by decide) ?_
    refine x_ic_eq_T (tgt := 90) h (by omega) dX10_isSign_81 (by decide) (by omega) ?_
    refine x_iconst h dX10_isSign_90 ?_
    refine x_goto (tgt := 95) h dX10_isSign_91 (by decide) ?_
    exact x_ireturn h hr dX10_isSign_95 (Or.inr ⟨rfl, by omega⟩) ⟨Nat.le_refl _, Nat.le_refl _⟩
  by_cases e15 : b = 59
  · subst e15
    refine ct_of (by decide) (Nat.le_of_ble_eq_true rfl) (fun C h hr _ => ?_)
    have h : Ok C RX10 cX10_isSign 1 _ := h
    refine x_iload_n h dX10_isSign_0 rfl ?_
    refine x_bipush h dX10_isSign_1 (by decide) ?_
    refine x_ic_eq_F (tgt := 90) h (by omega) dX10_isSign_3 (by decide) (by omega) ?_
    refine x_iload_n h dX10_isSign_6 rfl ?_
    refine x_bipush h dX10_isSign_7 (by decide) ?_
    refine x_ic_eq_F (tgt := 90) h (by omega) dX10_isSign_9 (by decide) (by omega) ?_
    refine x_iload_n h dX10_isSign_12 rfl ?_
    refine x_bipush h dX10_isSign_13 (by decide) ?_
    refine x_ic_eq_F (tgt := 90) h (by omega) dX10_isSign_15 (by decide) (by omega) ?_
    refine x_iload_n h dX10_isSign_18 rfl ?_
    refine x_bipush h dX10_isSign_19 (by decide) ?_
    refine x_ic_eq_F (tgt := 90) h (by omega) dX10_isSign_21 (by decide) (by omega) ?_
    refine x_iload_n h dX10_isSign_24 rfl ?_
    refine x_bipush h dX10_isSign_25 (by decide) ?_
    refine x_ic_eq_F (tgt := 90) h (by omega) dX10_isSign_27 (by decide) (by omega) ?_
    refine x_iload_n h dX10_isSign_30 rfl ?_
    refine x_bipush h dX10_isSign_31 (by decide) ?_
    refine x_ic_eq_F (tgt := 90) h (by omega) dX10_isSign_33 (by decide) (by omega) ?_
    refine x_iload_n h dX10_isSign_36 rfl ?_
    refine x_bipush h dX10_isSign_37 (by decide) ?_
    refine x_ic_eq_F (tgt := 90) h (by omega) dX10_isSign_39 (by decide) (by omega) ?_
    refine x_iload_n h dX10_isSign_42 rfl ?_
    refine x_bipush h dX10_isSign_43 (by decide) ?_
    refine x_ic_eq_F (tgt := 90) h (by omega) dX10_isSign_45 (by decide) (by omega) ?_
    refine x_iload_n h dX10_isSign_48 rfl ?_
    refine x_bipush h dX10_isSign_49 (by decide) ?_
    refine x_ic_eq_F (tgt := 90) h (by omega) dX10_isSign_51 (by decide) (by omega) ?_
    refine x_iload_n h dX10_isSign_54 rfl ?_
    refine x_bipush h dX10_isSign_55 (by decide) ?_
    refine x_ic_eq_F (tgt := 90) h (by omega) dX10_isSign_57 (by decide) (by omega) ?_
    refine x_iload_n h dX10_isSign_60 rfl ?_
    refine x_bipush h dX10_isSign_61 (by decide) ?_
    refine x_ic_eq_F (tgt := 90) h (by omega) dX10_isSign_63 (by decide) (by omega) ?_
    refine x_iload_n h dX10_isSign_66 rfl ?_
    refine x_bipush h dX10_isSign_67 (by decide) ?_
    refine x_ic_eq_F (tgt := 90) h (by omega) dX10_isSign_69 (by decide) (by omega) ?_
    refine x_iload_n h dX10_isSign_72 rfl ?_
    refine x_bipush h dX10_isSign_73 (by decide) ?_
    refine x_ic_eq_F (tgt := 90) h (by omega) dX10_isSign_75 (by decide) (by omega) ?_
    refine x_iload_n h dX10_isSign_78 rfl ?_
    refine x_bipush h dX10_isSign_79 (by decide) ?_
    refine x_ic_eq_F (tgt := 90) h (by omega) dX10_isSign_81 (by decide) (by omega) ?_
    refine x_iload_n h dX10_isSign_84 rfl ?_
    refine x_bipush h dX10_isSign_85 (by decide) ?_
    refine x_ic_ne_F (tgt := 94) h (by omega) dX10_isSign_87 (by decide) (by omega) ?_
    refine x_iconst h dX10_isSign_90 ?_
    refine x_goto (tgt := 95) h dX10_isSign_91 (by decide) ?_
    exact x_ireturn h hr dX10_isSign_95 (Or.inr ⟨rfl, by omega⟩) ⟨Nat.le_refl _, Nat.le_refl _⟩
  · rw [if_neg (by unfold isSg; simp [e1, e2, e3, e4, e5, e6, e7, e8, e9, e10, e11, e12, e13, e14, e15])]
    refine ct_of (by decide) (Nat.le_of_ble_eq_true rfl) (fun C h hr _ => ?_)
    have h : Ok C RX10 cX10_isSign 1 _ := h
    refine x_iload_n h dX10_isSign_0 rfl ?_
    refine x_bipush h dX10_isSign_1 (by decide) ?_
    refine x_ic_eq_F (tgt := 90) h (by omega) dX10_isSign_3 (by decide) (by omega) ?_
    refine x_iload_n h dX10_isSign_6 rfl ?_
    refine x_bipush h dX10_isSign_7 (by decide) ?_
    refine x_ic_eq_F (tgt := 90) h (by omega) dX10_isSign_9 (by decide) (by omega) ?_
    refine x_iload_n h dX10_isSign_12 rfl ?_
    refine x_bipush h dX10_isSign_13 (by decide) ?_
    refine x_ic_eq_F (tgt := 90) h (by omega) dX10_isSign_15 (by decide) (by omega) ?_
    refine x_iload_n h dX10_isSign_18 rfl ?_
    refine x_bipush h dX10_isSign_19 (by decide) ?_
    refine x_ic_eq_F (tgt := 90) h (by omega) dX10_isSign_21 (by decide) (by omega) ?_
    refine x_iload_n h dX10_isSign_24 rfl ?_
    refine x_bipush h dX10_isSign_25 (by decide) ?_
    refine x_ic_eq_F (tgt := 90) h (by omega) dX10_isSign_27 (by decide) (by omega) ?_
    refine x_iload_n h dX10_isSign_30 rfl ?_
    refine x_bipush h dX10_isSign_31 (by decide) ?_
    refine x_ic_eq_F (tgt := 90) h (by omega) dX10_isSign_33 (by decide) (by omega) ?_
    refine x_iload_n h dX10_isSign_36 rfl ?_
    refine x_bipush h dX10_isSign_37 (by decide) ?_
    refine x_ic_eq_F (tgt := 90) h (by omega) dX10_isSign_39 (by decide) (by omega) ?_
    refine x_iload_n h dX10_isSign_42 rfl ?_
    refine x_bipush h dX10_isSign_43 (by decide) ?_
    refine x_ic_eq_F (tgt := 90) h (by omega) dX10_isSign_45 (by decide) (by omega) ?_
    refine x_iload_n h dX10_isSign_48 rfl ?_
    refine x_bipush h dX10_isSign_49 (by decide) ?_
    refine x_ic_eq_F (tgt := 90) h (by omega) dX10_isSign_51 (by decide) (by omega) ?_
    refine x_iload_n h dX10_isSign_54 rfl ?_
    refine x_bipush h dX10_isSign_55 (by decide) ?_
    refine x_ic_eq_F (tgt := 90) h (by omega) dX10_isSign_57 (by decide) (by omega) ?_
    refine x_iload_n h dX10_isSign_60 rfl ?_
    refine x_bipush h dX10_isSign_61 (by decide) ?_
    refine x_ic_eq_F (tgt := 90) h (by omega) dX10_isSign_63 (by decide) (by omega) ?_
    refine x_iload_n h dX10_isSign_66 rfl ?_
    refine x_bipush h dX10_isSign_67 (by decide) ?_
    refine x_ic_eq_F (tgt := 90) h (by omega) dX10_isSign_69 (by decide) (by omega) ?_
    refine x_iload_n h dX10_isSign_72 rfl ?_
    refine x_bipush h dX10_isSign_73 (by decide) ?_
    refine x_ic_eq_F (tgt := 90) h (by omega) dX10_isSign_75 (by decide) (by omega) ?_
    refine x_iload_n h dX10_isSign_78 rfl ?_
    refine x_bipush h dX10_isSign_79 (by decide) ?_
    refine x_ic_eq_F (tgt := 90) h (by omega) dX10_isSign_81 (by decide) (by omega) ?_
    refine x_iload_n h dX10_isSign_84 rfl ?_
    refine x_bipush h dX10_isSign_85 (by decide) ?_
    refine x_ic_ne_T (tgt := 94) h (by omega) dX10_isSign_87 (by decide) (by omega) ?_
    refine x_iconst h dX10_isSign_94 ?_
    exact x_ireturn h hr dX10_isSign_95 (Or.inr ⟨rfl, by omega⟩) ⟨Nat.le_refl _, Nat.le_refl _⟩
theorem m_wordSort {d : Nat} {σ : Mm} {v : Int} (hv : -9223372036854775808 ≤ v ∧ v < 9223372036854775808) : Ct d mX10_wordSort 1 [vL v] NALL σ (some (vI (kindW v))) NALL σ 0 0 := by
  by_cases e1 : v = 105
  · subst e1
    refine ct_of (by decide) (Nat.le_of_ble_eq_true rfl) (fun C h hr _ => ?_)
    have h : Ok C RX10 cX10_wordSort 2 _ := h
    refine x_lload_n h dX10_wordSort_0 rfl ?_
    refine x_ldc2 (x := 105) h dX10_wordSort_1 klX10_157 (by decide) ?_
    refine x_lc_ne (tgt := 11) h (by omega) dX10_wordSort_4 dX10_wordSort_5 (by decide) (fun q => absurd q (by omega)) (fun _ => ?_)
    refine x_bipush h dX10_wordSort_8 (by decide) ?_
    exact x_ireturn h hr dX10_wordSort_10 (Or.inl rfl) ⟨Nat.le_refl _, Nat.le_refl _⟩
  by_cases e2 : v = 7173491
  · subst e2
    refine ct_of (by decide) (Nat.le_of_ble_eq_true rfl) (fun C h hr _ => ?_)
    have h : Ok C RX10 cX10_wordSort 2 _ := h
    refine x_lload_n h dX10_wordSort_0 rfl ?_
    refine x_ldc2 (x := 105) h dX10_wordSort_1 klX10_157 (by decide) ?_
    refine x_lc_ne (tgt := 11) h (by omega) dX10_wordSort_4 dX10_wordSort_5 (by decide) (fun _ => ?_) (fun q => absurd (by omega) q)
    refine x_lload_n h dX10_wordSort_11 rfl ?_
    refine x_ldc2 (x := 7173491) h dX10_wordSort_12 klX10_159 (by decide) ?_
    refine x_lc_ne (tgt := 22) h (by omega) dX10_wordSort_15 dX10_wordSort_16 (by decide) (fun q => absurd q (by omega)) (fun _ => ?_)
    refine x_bipush h dX10_wordSort_19 (by decide) ?_
    exact x_ireturn h hr dX10_wordSort_21 (Or.inl rfl) ⟨Nat.le_refl _, Nat.le_refl _⟩
  by_cases e3 : v = 1937207154
  · subst e3
    refine ct_of (by decide) (Nat.le_of_ble_eq_true rfl) (fun C h hr _ => ?_)
    have h : Ok C RX10 cX10_wordSort 2 _ := h
    refine x_lload_n h dX10_wordSort_0 rfl ?_
    refine x_ldc2 (x := 105) h dX10_wordSort_1 klX10_157 (by decide) ?_
    refine x_lc_ne (tgt := 11) h (by omega) dX10_wordSort_4 dX10_wordSort_5 (by decide) (fun _ => ?_) (fun q => absurd (by omega) q)
    refine x_lload_n h dX10_wordSort_11 rfl ?_
    refine x_ldc2 (x := 7173491) h dX10_wordSort_12 klX10_159 (by decide) ?_
    refine x_lc_ne (tgt := 22) h (by omega) dX10_wordSort_15 dX10_wordSort_16 (by decide) (fun _ => ?_) (fun q => absurd (by omega) q)
    refine x_lload_n h dX10_wordSort_22 rfl ?_
    refine x_ldc2 (x := 1937207154) h dX10_wordSort_23 klX10_161 (by decide) ?_
    refine x_lc_ne (tgt := 33) h (by omega) dX10_wordSort_26 dX10_wordSort_27 (by decide) (fun q => absurd q (by omega)) (fun _ => ?_)
    refine x_bipush h dX10_wordSort_30 (by decide) ?_
    exact x_ireturn h hr dX10_wordSort_32 (Or.inl rfl) ⟨Nat.le_refl _, Nat.le_refl _⟩
  by_cases e4 : v = 435610937463
  · subst e4
    refine ct_of (by decide) (Nat.le_of_ble_eq_true rfl) (fun C h hr _ => ?_)
    have h : Ok C RX10 cX10_wordSort 2 _ := h
    refine x_lload_n h dX10_wordSort_0 rfl ?_
    refine x_ldc2 (x := 105) h dX10_wordSort_1 klX10_157 (by decide) ?_
    refine x_lc_ne (tgt := 11) h (by omega) dX10_wordSort_4 dX10_wordSort_5 (by decide) (fun _ => ?_) (fun q => absurd (by omega) q)
    refine x_lload_n h dX10_wordSort_11 rfl ?_
    refine x_ldc2 (x := 7173491) h dX10_wordSort_12 klX10_159 (by decide) ?_
    refine x_lc_ne (tgt := 22) h (by omega) dX10_wordSort_15 dX10_wordSort_16 (by decide) (fun _ => ?_) (fun q => absurd (by omega) q)
    refine x_lload_n h dX10_wordSort_22 rfl ?_
    refine x_ldc2 (x := 1937207154) h dX10_wordSort_23 klX10_161 (by decide) ?_
    refine x_lc_ne (tgt := 33) h (by omega) dX10_wordSort_26 dX10_wordSort_27 (by decide) (fun _ => ?_) (fun q => absurd (by omega) q)
    refine x_lload_n h dX10_wordSort_33 rfl ?_
    refine x_ldc2 (x := 435610937463) h dX10_wordSort_34 klX10_163 (by decide) ?_
    refine x_lc_ne (tgt := 43) h (by omega) dX10_wordSort_37 dX10_wordSort_38 (by decide) (fun q => absurd q (by omega)) (fun _ => ?_)
    refine x_iconst h dX10_wordSort_41 ?_
    exact x_ireturn h hr dX10_wordSort_42 (Or.inl rfl) ⟨Nat.le_refl _, Nat.le_refl _⟩
  by_cases e5 : v = 435610083700
  · subst e5
    refine ct_of (by decide) (Nat.le_of_ble_eq_true rfl) (fun C h hr _ => ?_)
    have h : Ok C RX10 cX10_wordSort 2 _ := h
    refine x_lload_n h dX10_wordSort_0 rfl ?_
    refine x_ldc2 (x := 105) h dX10_wordSort_1 klX10_157 (by decide) ?_
    refine x_lc_ne (tgt := 11) h (by omega) dX10_wordSort_4 dX10_wordSort_5 (by decide) (fun _ => ?_) (fun q => absurd (by omega) q)
    refine x_lload_n h dX10_wordSort_11 rfl ?_
    refine x_ldc2 (x := 7173491) h dX10_wordSort_12 klX10_159 (by decide) ?_
    refine x_lc_ne (tgt := 22) h (by omega) dX10_wordSort_15 dX10_wordSort_16 (by decide) (fun _ => ?_) (fun q => absurd (by omega) q)
    refine x_lload_n h dX10_wordSort_22 rfl ?_
    refine x_ldc2 (x := 1937207154) h dX10_wordSort_23 klX10_161 (by decide) ?_
    refine x_lc_ne (tgt := 33) h (by omega) dX10_wordSort_26 dX10_wordSort_27 (by decide) (fun _ => ?_) (fun q => absurd (by omega) q)
    refine x_lload_n h dX10_wordSort_33 rfl ?_
    refine x_ldc2 (x := 435610937463) h dX10_wordSort_34 klX10_163 (by decide) ?_
    refine x_lc_ne (tgt := 43) h (by omega) dX10_wordSort_37 dX10_wordSort_38 (by decide) (fun _ => ?_) (fun q => absurd (by omega) q)
    refine x_lload_n h dX10_wordSort_43 rfl ?_
    refine x_ldc2 (x := 435610083700) h dX10_wordSort_44 klX10_165 (by decide) ?_
    refine x_lc_ne (tgt := 55) h (by omega) dX10_wordSort_47 dX10_wordSort_48 (by decide) (fun q => absurd q (by omega)) (fun _ => ?_)
    refine x_iconst h dX10_wordSort_51 ?_
    refine x_goto (tgt := 56) h dX10_wordSort_52 (by decide) ?_
    exact x_ireturn h hr dX10_wordSort_56 (Or.inl rfl) ⟨Nat.le_refl _, Nat.le_refl _⟩
  · rw [show kindW v = 2 by unfold kindW; rw [if_neg e5, if_neg e4, if_neg e3, if_neg e2, if_neg e1]]
    refine ct_of (by decide) (Nat.le_of_ble_eq_true rfl) (fun C h hr _ => ?_)
    have h : Ok C RX10 cX10_wordSort 2 _ := h
    refine x_lload_n h dX10_wordSort_0 rfl ?_
    refine x_ldc2 (x := 105) h dX10_wordSort_1 klX10_157 (by decide) ?_
    refine x_lc_ne (tgt := 11) h (by omega) dX10_wordSort_4 dX10_wordSort_5 (by decide) (fun _ => ?_) (fun q => absurd (by omega) q)
    refine x_lload_n h dX10_wordSort_11 rfl ?_
    refine x_ldc2 (x := 7173491) h dX10_wordSort_12 klX10_159 (by decide) ?_
    refine x_lc_ne (tgt := 22) h (by omega) dX10_wordSort_15 dX10_wordSort_16 (by decide) (fun _ => ?_) (fun q => absurd (by omega) q)
    refine x_lload_n h dX10_wordSort_22 rfl ?_
    refine x_ldc2 (x := 1937207154) h dX10_wordSort_23 klX10_161 (by decide) ?_
    refine x_lc_ne (tgt := 33) h (by omega) dX10_wordSort_26 dX10_wordSort_27 (by decide) (fun _ => ?_) (fun q => absurd (by omega) q)
    refine x_lload_n h dX10_wordSort_33 rfl ?_
    refine x_ldc2 (x := 435610937463) h dX10_wordSort_34 klX10_163 (by decide) ?_
    refine x_lc_ne (tgt := 43) h (by omega) dX10_wordSort_37 dX10_wordSort_38 (by decide) (fun _ => ?_) (fun q => absurd (by omega) q)
    refine x_lload_n h dX10_wordSort_43 rfl ?_
    refine x_ldc2 (x := 435610083700) h dX10_wordSort_44 klX10_165 (by decide) ?_
    refine x_lc_ne (tgt := 55) h (by omega) dX10_wordSort_47 dX10_wordSort_48 (by decide) (fun _ => ?_) (fun q => absurd (by omega) q)
    refine x_iconst h dX10_wordSort_55 ?_
    exact x_ireturn h hr dX10_wordSort_56 (Or.inl rfl) ⟨Nat.le_refl _, Nat.le_refl _⟩
/-- a TOKEN is added behind n -/
def adT (σ : Mm) (n : Nat) (s q w : Int) : Mm := up3 (up3 (up3 (up3 σ 33 0 n s) 34 0 n q) 35 0 n w) 10 0 2 (n + 1)
theorem m_addToken {d : Nat} {σ : Mm} {n : Nat} {s q w : Int} (hn : σ 10 0 2 = n) (hn2 : n ≤ 900) : Ct d mX10_addToken 1 [vR 10 0, vI s, vI q, vL w] NALL σ none NALL (adT σ n s q w) 0 0 := by
  refine ct_of (by decide) (Nat.le_of_ble_eq_true rfl) (fun C h hr _ => ?_)
  have h : Ok C RX10 cX10_addToken 5 _ := h
  refine x_aload_n h dX10_addToken_0 rfl ?_
  refine x_get h fl_10_13 lvz_10 dX10_addToken_1 (pvf_533 _ _) ?_
  refine x_aload_n h dX10_addToken_4 rfl ?_
  refine x_get (q := vI (n)) h fl_10_167 lvz_10 dX10_addToken_5 (congrArg vI (by first | exact hn | simp [up3, hn])) ?_
  refine x_iload_n h dX10_addToken_8 rfl ?_
  refine x_iast h kdf_33 lvz_33 dX10_addToken_9 rfl (by omega) ?_
  refine x_aload_n h dX10_addToken_10 rfl ?_
  refine x_get h fl_10_17 lvz_10 dX10_addToken_11 (pvf_534 _ _) ?_
  refine x_aload_n h dX10_addToken_14 rfl ?_
  refine x_get (q := vI (n)) h fl_10_167 lvz_10 dX10_addToken_15 (congrArg vI (by first | exact hn | simp [up3, hn])) ?_
  refine x_iload_n h dX10_addToken_18 rfl ?_
  refine x_iast h kdf_34 lvz_34 dX10_addToken_19 rfl (by omega) ?_
  refine x_aload_n h dX10_addToken_20 rfl ?_
  refine x_get h fl_10_20 lvz_10 dX10_addToken_21 (pvf_535 _ _) ?_
  refine x_aload_n h dX10_addToken_24 rfl ?_
  refine x_get (q := vI (n)) h fl_10_167 lvz_10 dX10_addToken_25 (congrArg vI (by first | exact hn | simp [up3, hn])) ?_
  refine x_lload_n h dX10_addToken_28 rfl ?_
  refine x_last h kdf_35 lvz_35 dX10_addToken_29 rfl (by omega) ?_
  refine x_aload_n h dX10_addToken_30 rfl ?_
  refine x_dup h dX10_addToken_31 rfl ?_
  refine x_get (q := vI (n)) h fl_10_167 lvz_10 dX10_addToken_32 (congrArg vI (by first | exact hn | simp [up3, hn])) ?_
  refine x_iconst h dX10_addToken_35 ?_
  refine x_iadd h dX10_addToken_36 ?_
  refine x_put h fl_10_167 lvz_10 dX10_addToken_37 rfl (fun z => absurd z (by decide)) ?_
  exact x_return h hr dX10_addToken_40 ⟨Nat.le_refl _, Nat.le_refl _⟩
/-- the first N TOKENS stand in the reference's rows -/
def TkM (σ : Mm) (B : Nat → Int) (N : Nat) : Prop := ∀ j, j < N → σ 33 0 j = tK B j ∧ σ 34 0 j = tQ B j ∧ (tK B j ≠ 3 → σ 35 0 j = tV B j)
def FrTk (σ' σ : Mm) : Prop := ∀ f k j, ¬ (f = 33 ∨ f = 34 ∨ f = 35 ∨ (f = 10 ∧ j = 2)) → σ' f k j = σ f k j
theorem FrTk_tr {a b c : Mm} (h : FrTk a b) (h' : FrTk b c) : FrTk a c := fun f k j hf => (h f k j hf).trans (h' f k j hf)
theorem FrTk_ad (σ : Mm) (n : Nat) (s q w : Int) : FrTk (adT σ n s q w) σ := fun f k j hf => by
  unfold adT up3
  rw [if_neg (by omega), if_neg (by omega), if_neg (by omega), if_neg (by omega)]
theorem TkM_ad {σ : Mm} {B : Nat → Int} {n : Nat} {w : Int} (h : TkM σ B n) (hw : tK B n ≠ 3 → w = tV B n) : TkM (adT σ n (tK B n) (tQ B n) w) B (n + 1) := by
  intro j hj
  unfold adT
  by_cases q : j = n
  · subst q
    refine ⟨?_, ?_, fun z => ?_⟩
    · rw [up3_f _ _ (by decide), up3_f _ _ (by decide), up3_f _ _ (by decide), up3_s]
    · rw [up3_f _ _ (by decide), up3_f _ _ (by decide), up3_s]
    · rw [up3_f _ _ (by decide), up3_s]; exact hw z
  · obtain ⟨a1, a2, a3⟩ := h j (by omega)
    refine ⟨?_, ?_, fun z => ?_⟩
    · rw [up3_f _ _ (by decide), up3_f _ _ (by decide), up3_f _ _ (by decide), up3_j _ _ q]; exact a1
    · rw [up3_f _ _ (by decide), up3_f _ _ (by decide), up3_j _ _ q]; exact a2
    · rw [up3_f _ _ (by decide), up3_j _ _ q]; exact a3 z
theorem runE_P {P : Int → Bool} {B : Nat → Int} : ∀ (c p j : Nat), p ≤ j → j < runE P B c p → P (B j) = true := by
  intro c
  induction c with
  | zero => intro p j h1 h2; unfold runE at h2; omega
  | succ c ih =>
    intro p j h1 h2
    unfold runE at h2
    split at h2
    · next hp =>
      rcases Nat.lt_or_ge p j with q | q
      · exact ih (p + 1) j q h2
      · obtain rfl : j = p := by omega
        exact hp
    · omega
theorem rn_P {P : Int → Bool} {B : Nat → Int} {p j : Nat} (h1 : p ≤ j) (h2 : j < rn P B p) : P (B j) = true := runE_P _ _ _ h1 h2
theorem runE_e {P : Int → Bool} {B : Nat → Int} : ∀ (c p : Nat), runE P B c p < p + c → P (B (runE P B c p)) = false := by
  intro c
  induction c with
  | zero => intro p h; unfold runE at h; omega
  | succ c ih =>
    intro p h
    unfold runE at h ⊢
    split
    · next hp => rw [if_pos hp] at h; exact ih (p + 1) (by omega)
    · next hp => simpa using hp
theorem rn_e {P : Int → Bool} {B : Nat → Int} {p : Nat} (h : rn P B p < 901) (hp : p < 901) : P (B (rn P B p)) = false := runE_e _ _ (by unfold rn at h; omega)
/-- numV of the reference: the first six digits -/
def numM (B : Nat → Int) (p n : Nat) : Int := numV B p (if n ≤ 6 then n else 6)
theorem m_cutUp {σ : Mm} {L : Nat} (hL : TapeM σ L) (hB : BOk (tB σ 30 L) L) : ∃ (N : Nat) (σ' : Mm), N ≤ 900 ∧ tq (tB σ 30 L) N = L ∧ TkM σ' (tB σ 30 L) (N + 1) ∧ FrTk σ' σ ∧ Ct 3 mX10_cutUp 1 [vR 10 0] NALL σ none NALL σ' 0 0 := by
  generalize hBB : tB σ 30 L = B at hB
  have hL9 := hL.2
  have hbr : ∀ j, 0 ≤ B j ∧ B j ≤ 255 := hB.2.2.2
  have tape : ∀ τ : Mm, FrTk τ σ → TapeM τ L ∧ tB τ 30 L = B := fun τ hf => by
    refine ⟨⟨by rw [hf _ _ _ (by omega)]; exact hL.1, hL.2⟩, ?_⟩
    rw [← hBB]
    funext j
    unfold tB
    rw [hf _ _ _ (by omega)]
  have mat : ∀ (τ : Mm), FrTk τ σ → ∀ j : Nat, j < 100000 → Ct 0 mX10_at 1 [vR 10 0, vI j] NALL τ (some (vI (B j))) NALL τ 0 0 := fun τ hf j hj => by
    have := m_at (d := 0) (σ := τ) (j := j) (tape τ hf).1 hj
    rw [(tape τ hf).2] at this
    exact this
  have hlen : ∀ p, p < L → B p ≠ 0 := hB.2.1
  have loop : ∀ (c p j : Nat) (τ : Mm), p + c = L → rn isBl B p = tq B j → j ≤ p → TkM τ B j → FrTk τ σ → τ 10 0 2 = j → ∃ (N : Nat) (σ' : Mm), N ≤ 900 ∧ tq B N = L ∧ TkM σ' B (N + 1) ∧ FrTk σ' σ ∧ ∀ C : Cx, Ok C RX10 cX10_cutUp 6 3 → Rt C 1 none none NALL σ' 0 0 → ∀ ls, lsub [(0, vR 10 0), (1, vI p)] ls → X C 1 7 ls [] NALL τ 0 0 := by
    intro c
    induction c using Nat.strongRecOn with
    | _ c ih =>
      intro p j τ hp hrn hjp hT hf hj
      have hτ := tape τ hf
      rcases Nat.eq_zero_or_pos c with hc0 | hcp
      · obtain rfl : p = L := by omega
        have hq : tq B j = p := by
          rw [← hrn]
          exact rn_st (by rw [hB.2.2.1 p (Nat.le_refl _)]; rfl)
        have hk : tK B j = 0 := by
          show tkK B (tq B j) = 0
          rw [hq]
          unfold tkK
          rw [hB.2.2.1 p (Nat.le_refl _)]
          rfl
        have hv : tV B j = 0 := by
          show tkV B (tq B j) = 0
          rw [hq]
          unfold tkV
          rw [hB.2.2.1 p (Nat.le_refl _)]
          rfl
        have hQ : tQ B j = p := by show ((tq B j : Nat) : Int) = p; rw [hq]
        have had := TkM_ad (w := 0) hT (fun _ => hv.symm)
        rw [hk, hQ] at had
        refine ⟨j, _, by omega, hq, had, FrTk_tr (FrTk_ad _ _ _ _ _) hf, fun C h hr ls hls => x_loc hls ?_⟩
        refine x_iload_n h dX10_cutUp_7 rfl ?_
        refine x_aload_n h dX10_cutUp_8 rfl ?_
        refine x_get (q := vI (p)) h fl_10_153 lvz_10 dX10_cutUp_9 (congrArg vI (by first | exact hτ.1.1 | simp [up3, hτ.1.1])) ?_
        refine x_ic_ge_T (tgt := 229) h (by omega) dX10_cutUp_12 (by decide) (by omega) ?_
        refine x_aload_n h dX10_cutUp_229 rfl ?_
        refine x_iconst h dX10_cutUp_230 ?_
        refine x_aload_n h dX10_cutUp_231 rfl ?_
        refine x_get (q := vI (p)) h fl_10_153 lvz_10 dX10_cutUp_232 (congrArg vI (by first | exact hτ.1.1 | simp [up3, hτ.1.1])) ?_
        refine x_lconst0 h dX10_cutUp_235 ?_
        refine x_cV0 h kVX10_addToken lkX10_182 ⟨_, _, _, rfl, rfl⟩ dX10_cutUp_236 (m_addToken (d := 0) (n := j) hj (by omega)) lvz_10 rfl rfl (Nat.le_of_ble_eq_true rfl) (by omega) ?_
        exact x_return h hr dX10_cutUp_239 ⟨Nat.le_refl _, Nat.le_refl _⟩
      · have hpL : p < L := by omega
        have hnz := hlen p hpL
        have hat := mat τ hf p (by omega)
        have hle := m_isLetter (d := 0) (σ := τ) (hbr p)
        have hdi := m_isDigit (d := 0) (σ := τ) (hbr p)
        by_cases hL1 : isLe (B p) = true
        · -- a word
          have hnbl : isBl (B p) = false := by
            unfold isLe at hL1
            unfold isBl
            simp at hL1 ⊢
            omega
          have hq : tq B j = p := by rw [← hrn]; exact rn_st hnbl
          have hnd : isDg (B p) = false := by
            unfold isLe at hL1
            unfold isDg
            simp at hL1 ⊢
            omega
          have hend := rn_le (P := isLe) rfl hB.2.2.1 p
          have hend2 := hend.2 (by omega)
          have hgo : p < rn isLe B p := by
            have h1 := rn_go (P := isLe) hL1 (by omega)
            have h2 := rn_le (P := isLe) rfl hB.2.2.1 (p + 1)
            omega
          have hkE : tkE B p = rn isLe B p := by unfold tkE; rw [if_neg (by rw [hnd]; decide), if_pos hL1]
          have hkK : tkK B p = if 5 < rn isLe B p - p then 3 else kindW (letV B p (rn isLe B p - p)) := by unfold tkK; rw [if_neg (by rw [hnd]; decide), if_pos hL1]
          have hkV : tkV B p = letV B p (rn isLe B p - p) := by unfold tkV; rw [if_neg (by rw [hnd]; decide), if_pos hL1]
          have had := TkM_ad (w := letV B p (rn isLe B p - p)) hT (fun _ => by show _ = tkV B (tq B j); rw [hq, hkV])
          have hKj : tK B j = tkK B p := by show tkK B (tq B j) = _; rw [hq]
          have hQj : tQ B j = p := by show ((tq B j : Nat) : Int) = p; rw [hq]
          rw [hKj, hQj, hkK] at had
          have hnext : rn isBl B (rn isLe B p) = tq B (j + 1) := by show _ = rn isBl B (tkE B (tq B j)); rw [hq, hkE]
          obtain ⟨N, σ', r1, r2, r3, r4, hx⟩ := ih (L - rn isLe B p) (by omega) (rn isLe B p) (j + 1) _ (by omega) hnext (by omega) had (FrTk_tr (FrTk_ad _ _ _ _ _) hf) (by show adT τ j _ _ _ 10 0 2 = _; unfold adT; rw [up3_s]; rfl)
          refine ⟨N, σ', r1, r2, r3, r4, fun C h hr ls hls => x_loc hls ?_⟩
          rw [if_pos hL1] at hle
          have hlr := letV_r B p (rn isLe B p - p)
          have inner : ∀ (c t : Nat) (ls : List (Nat × PV)), t + c = rn isLe B p → p ≤ t → lsub [(0, vR 10 0), (1, vI p), (2, vI (B p)), (3, vI t), (4, vL (letV B p (t - p)))] ls → X C 1 37 ls [] NALL τ 0 0 := by
            intro c
            induction c with
            | zero =>
              intro t ls ht hpt hls
              refine x_loc hls ?_
              obtain rfl : t = rn isLe B p := by omega
              have hst : isLe (B (rn isLe B p)) = false := rn_e (by omega) (by omega)
              have h1 := m_isLetter (d := 0) (σ := τ) (hbr (rn isLe B p))
              rw [if_neg (by rw [hst]; decide)] at h1
              have h2 := mat τ hf (rn isLe B p) (by omega)
              have hadd := m_addToken (d := 0) (σ := τ) (n := j) (s := if 5 < rn isLe B p - p then 3 else kindW (letV B p (rn isLe B p - p))) (q := p) (w := letV B p (rn isLe B p - p)) hj (by omega)
              by_cases h5 : 5 < rn isLe B p - p
              · rw [if_pos h5] at hadd hx
                refine x_aload_n h dX10_cutUp_37 rfl ?_
                refine x_iload_n h dX10_cutUp_38 rfl ?_
                refine x_cV1 h kVX10_at lkX10_170 ⟨_, _, _, rfl, rfl⟩ dX10_cutUp_39 (h2) lvz_10 rfl rfl (Nat.le_of_ble_eq_true rfl) (by omega) ?_
                refine x_cS1 h kSX10_isLetter lkX10_174 dX10_cutUp_42 (h1) rfl rfl (Nat.le_of_ble_eq_true rfl) (by omega) ?_
                refine x_if_eq_T (tgt := 84) h (by omega) dX10_cutUp_45 (by decide) (by omega) ?_
                refine x_aload_n h dX10_cutUp_84 rfl ?_
                refine x_iload_n h dX10_cutUp_85 rfl ?_
                refine x_iload_n h dX10_cutUp_86 rfl ?_
                refine x_isub h dX10_cutUp_87 ?_
                refine x_iconst h dX10_cutUp_88 ?_
                refine x_ic_le_F (tgt := 96) h (by omega) dX10_cutUp_89 (by decide) (by omega) ?_
                refine x_iconst h dX10_cutUp_92 ?_
                refine x_goto (tgt := 101) h dX10_cutUp_93 (by decide) ?_
                refine x_iload_n h dX10_cutUp_101 rfl ?_
                refine x_lload h dX10_cutUp_102 rfl ?_
                refine x_cV0 h kVX10_addToken lkX10_182 ⟨_, _, _, rfl, rfl⟩ dX10_cutUp_104 (hadd) lvz_10 rfl rfl (Nat.le_of_ble_eq_true rfl) (by omega) ?_
                refine x_goto (tgt := 224) h dX10_cutUp_107 (by decide) ?_
                refine x_iload_n h dX10_cutUp_224 rfl ?_
                refine x_istore_n h dX10_cutUp_225 (by decide) ?_
                refine x_goto (tgt := 7) h dX10_cutUp_226 (by decide) ?_
                exact hx C h hr _ ⟨rfl, rfl, trivial⟩
              · rw [if_neg h5] at hadd hx
                refine x_aload_n h dX10_cutUp_37 rfl ?_
                refine x_iload_n h dX10_cutUp_38 rfl ?_
                refine x_cV1 h kVX10_at lkX10_170 ⟨_, _, _, rfl, rfl⟩ dX10_cutUp_39 (h2) lvz_10 rfl rfl (Nat.le_of_ble_eq_true rfl) (by omega) ?_
                refine x_cS1 h kSX10_isLetter lkX10_174 dX10_cutUp_42 (h1) rfl rfl (Nat.le_of_ble_eq_true rfl) (by omega) ?_
                refine x_if_eq_T (tgt := 84) h (by omega) dX10_cutUp_45 (by decide) (by omega) ?_
                refine x_aload_n h dX10_cutUp_84 rfl ?_
                refine x_iload_n h dX10_cutUp_85 rfl ?_
                refine x_iload_n h dX10_cutUp_86 rfl ?_
                refine x_isub h dX10_cutUp_87 ?_
                refine x_iconst h dX10_cutUp_88 ?_
                refine x_ic_le_T (tgt := 96) h (by omega) dX10_cutUp_89 (by decide) (by omega) ?_
                refine x_lload h dX10_cutUp_96 rfl ?_
                refine x_cS1 h kSX10_wordSort lkX10_178 dX10_cutUp_98 (m_wordSort (d := 0) hlr) rfl rfl (Nat.le_of_ble_eq_true rfl) (by omega) ?_
                refine x_iload_n h dX10_cutUp_101 rfl ?_
                refine x_lload h dX10_cutUp_102 rfl ?_
                refine x_cV0 h kVX10_addToken lkX10_182 ⟨_, _, _, rfl, rfl⟩ dX10_cutUp_104 (hadd) lvz_10 rfl rfl (Nat.le_of_ble_eq_true rfl) (by omega) ?_
                refine x_goto (tgt := 224) h dX10_cutUp_107 (by decide) ?_
                refine x_iload_n h dX10_cutUp_224 rfl ?_
                refine x_istore_n h dX10_cutUp_225 (by decide) ?_
                refine x_goto (tgt := 7) h dX10_cutUp_226 (by decide) ?_
                exact hx C h hr _ ⟨rfl, rfl, trivial⟩
            | succ c ihc =>
              intro t ls ht hpt hls
              refine x_loc hls ?_
              have hin : isLe (B t) = true := rn_P hpt (by omega)
              have hbt := hbr t
              have h1 := m_isLetter (d := 0) (σ := τ) (hbr t)
              rw [if_pos hin] at h1
              have h2 := mat τ hf t (by omega)
              have e : t + 1 - p = (t - p) + 1 := by omega
              have ept : p + (t - p) = t := by omega
              have e8 : (8 : Int) * ((t : Int) - (p : Int)) = 8 * ((t - p : Nat) : Int) := by omega
              by_cases h5 : t - p < 5
              · refine x_aload_n h dX10_cutUp_37 rfl ?_
                refine x_iload_n h dX10_cutUp_38 rfl ?_
                refine x_cV1 h kVX10_at lkX10_170 ⟨_, _, _, rfl, rfl⟩ dX10_cutUp_39 (h2) lvz_10 rfl rfl (Nat.le_of_ble_eq_true rfl) (by omega) ?_
                refine x_cS1 h kSX10_isLetter lkX10_174 dX10_cutUp_42 (h1) rfl rfl (Nat.le_of_ble_eq_true rfl) (by omega) ?_
                refine x_if_eq_F (tgt := 84) h (by omega) dX10_cutUp_45 (by decide) (by omega) ?_
                refine x_iload_n h dX10_cutUp_48 rfl ?_
                refine x_iload_n h dX10_cutUp_49 rfl ?_
                refine x_isub h dX10_cutUp_50 ?_
                refine x_iconst h dX10_cutUp_51 ?_
                refine x_ic_ge_F (tgt := 74) h (by omega) dX10_cutUp_52 (by decide) (by omega) ?_
                refine x_lload h dX10_cutUp_55 rfl ?_
                refine x_aload_n h dX10_cutUp_57 rfl ?_
                refine x_iload_n h dX10_cutUp_58 rfl ?_
                refine x_cV1 h kVX10_at lkX10_170 ⟨_, _, _, rfl, rfl⟩ dX10_cutUp_59 (h2) lvz_10 rfl rfl (Nat.le_of_ble_eq_true rfl) (by omega) ?_
                refine x_i2l h (by omega) dX10_cutUp_62 ?_
                refine x_bipush h dX10_cutUp_63 (by decide) ?_
                refine x_iload_n h dX10_cutUp_65 rfl ?_
                refine x_iload_n h dX10_cutUp_66 rfl ?_
                refine x_isub h dX10_cutUp_67 ?_
                refine x_imul h dX10_cutUp_68 ?_
                rw [e8]
                refine x_lshl h dX10_cutUp_69 ?_
                refine x_lor h dX10_cutUp_70 ?_
                refine x_goto (tgt := 76) h dX10_cutUp_71 (by decide) ?_
                refine x_lstore h dX10_cutUp_76 (by decide) ?_
                refine x_iinc h dX10_cutUp_78 rfl (by decide) ?_
                refine x_goto (tgt := 37) h dX10_cutUp_81 (by decide) ?_
                refine ihc (t + 1) _ (by omega) (by omega) ⟨rfl, rfl, rfl, rfl, ?_, trivial⟩
                show some (vL (orL (letV B p (t - p)) (shlL (B t) (8 * ((t - p : Nat) : Int))))) = some (vL (letV B p (t + 1 - p)))
                rw [e, letV, if_pos h5, ept]
              · refine x_aload_n h dX10_cutUp_37 rfl ?_
                refine x_iload_n h dX10_cutUp_38 rfl ?_
                refine x_cV1 h kVX10_at lkX10_170 ⟨_, _, _, rfl, rfl⟩ dX10_cutUp_39 (h2) lvz_10 rfl rfl (Nat.le_of_ble_eq_true rfl) (by omega) ?_
                refine x_cS1 h kSX10_isLetter lkX10_174 dX10_cutUp_42 (h1) rfl rfl (Nat.le_of_ble_eq_true rfl) (by omega) ?_
                refine x_if_eq_F (tgt := 84) h (by omega) dX10_cutUp_45 (by decide) (by omega) ?_
                refine x_iload_n h dX10_cutUp_48 rfl ?_
                refine x_iload_n h dX10_cutUp_49 rfl ?_
                refine x_isub h dX10_cutUp_50 ?_
                refine x_iconst h dX10_cutUp_51 ?_
                refine x_ic_ge_T (tgt := 74) h (by omega) dX10_cutUp_52 (by decide) (by omega) ?_
                refine x_lload h dX10_cutUp_74 rfl ?_
                refine x_lstore h dX10_cutUp_76 (by decide) ?_
                refine x_iinc h dX10_cutUp_78 rfl (by decide) ?_
                refine x_goto (tgt := 37) h dX10_cutUp_81 (by decide) ?_
                refine ihc (t + 1) _ (by omega) (by omega) ⟨rfl, rfl, rfl, rfl, ?_, trivial⟩
                show some (vL (letV B p (t - p))) = some (vL (letV B p (t + 1 - p)))
                rw [e, letV, if_neg h5]
          refine x_iload_n h dX10_cutUp_7 rfl ?_
          refine x_aload_n h dX10_cutUp_8 rfl ?_
          refine x_get (q := vI (L)) h fl_10_153 lvz_10 dX10_cutUp_9 (congrArg vI (by first | exact hτ.1.1 | simp [up3, hτ.1.1])) ?_
          refine x_ic_ge_F (tgt := 229) h (by omega) dX10_cutUp_12 (by decide) (by omega) ?_
          refine x_aload_n h dX10_cutUp_15 rfl ?_
          refine x_iload_n h dX10_cutUp_16 rfl ?_
          refine x_cV1 h kVX10_at lkX10_170 ⟨_, _, _, rfl, rfl⟩ dX10_cutUp_17 (hat) lvz_10 rfl rfl (Nat.le_of_ble_eq_true rfl) (by omega) ?_
          refine x_istore_n h dX10_cutUp_20 (by decide) ?_
          refine x_iload_n h dX10_cutUp_21 rfl ?_
          refine x_iconst h dX10_cutUp_22 ?_
          refine x_iadd h dX10_cutUp_23 ?_
          refine x_istore_n h dX10_cutUp_24 (by decide) ?_
          refine x_iload_n h dX10_cutUp_25 rfl ?_
          refine x_cS1 h kSX10_isLetter lkX10_174 dX10_cutUp_26 (hle) rfl rfl (Nat.le_of_ble_eq_true rfl) (by omega) ?_
          refine x_if_eq_F (tgt := 110) h (by omega) dX10_cutUp_29 (by decide) (by omega) ?_
          refine x_lconst0 h dX10_cutUp_32 ?_
          refine x_lstore h dX10_cutUp_33 (by decide) ?_
          refine x_iload_n h dX10_cutUp_35 rfl ?_
          refine x_istore_n h dX10_cutUp_36 (by decide) ?_
          exact inner (rn isLe B p - p) p _ (by omega) (Nat.le_refl _) ⟨rfl, rfl, rfl, rfl, by rw [Nat.sub_self]; rfl, trivial⟩
        · have hL0 : isLe (B p) = false := by simpa using hL1
          rw [if_neg hL1] at hle
          by_cases hD1 : isDg (B p) = true
          · -- a number
            have hnbl : isBl (B p) = false := by
              unfold isDg at hD1
              unfold isBl
              simp at hD1 ⊢
              omega
            have hq : tq B j = p := by rw [← hrn]; exact rn_st hnbl
            have hend := rn_le (P := isDg) rfl hB.2.2.1 p
            have hend2 := hend.2 (by omega)
            have hgo : p < rn isDg B p := by
              have h1 := rn_go (P := isDg) hD1 (by omega)
              have h2 := rn_le (P := isDg) rfl hB.2.2.1 (p + 1)
              omega
            have hkE : tkE B p = rn isDg B p := by unfold tkE; rw [if_pos hD1]
            have hkK : tkK B p = if 6 < rn isDg B p - p then 3 else 1 := by unfold tkK; rw [if_pos hD1]
            have hkV : tkV B p = numV B p (rn isDg B p - p) := by unfold tkV; rw [if_pos hD1]
            have hKj : tK B j = tkK B p := by show tkK B (tq B j) = _; rw [hq]
            have hQj : tQ B j = p := by show ((tq B j : Nat) : Int) = p; rw [hq]
            have had := TkM_ad (w := numM B p (rn isDg B p - p)) hT (fun z => by
              rw [hKj, hkK] at z
              show _ = tkV B (tq B j)
              rw [hq, hkV]
              unfold numM
              split
              · rfl
              · next h6 => rw [if_pos (by omega)] at z; exact absurd rfl z)
            rw [hKj, hQj, hkK] at had
            have hnext : rn isBl B (rn isDg B p) = tq B (j + 1) := by show _ = rn isBl B (tkE B (tq B j)); rw [hq, hkE]
            obtain ⟨N, σ', r1, r2, r3, r4, hx⟩ := ih (L - rn isDg B p) (by omega) (rn isDg B p) (j + 1) _ (by omega) hnext (by omega) had (FrTk_tr (FrTk_ad _ _ _ _ _) hf) (by show adT τ j _ _ _ 10 0 2 = _; unfold adT; rw [up3_s]; rfl)
            refine ⟨N, σ', r1, r2, r3, r4, fun C h hr ls hls => x_loc hls ?_⟩
            rw [if_pos hD1] at hdi
            have inner : ∀ (c t : Nat) (ls : List (Nat × PV)), t + c = rn isDg B p → p ≤ t → lsub [(0, vR 10 0), (1, vI p), (2, vI (B p)), (3, vI t), (4, vL (numM B p (t - p)))] ls → X C 1 122 ls [] NALL τ 0 0 := by
              intro c
              induction c with
              | zero =>
                intro t ls ht hpt hls
                refine x_loc hls ?_
                obtain rfl : t = rn isDg B p := by omega
                have hst : isDg (B (rn isDg B p)) = false := rn_e (by omega) (by omega)
                have h1 := m_isDigit (d := 0) (σ := τ) (hbr (rn isDg B p))
                rw [if_neg (by rw [hst]; decide)] at h1
                have h2 := mat τ hf (rn isDg B p) (by omega)
                have hadd := m_addToken (d := 0) (σ := τ) (n := j) (s := if 6 < rn isDg B p - p then 3 else 1) (q := p) (w := numM B p (rn isDg B p - p)) hj (by omega)
                by_cases h5 : 6 < rn isDg B p - p
                · rw [if_pos h5] at hadd hx
                  refine x_aload_n h dX10_cutUp_122 rfl ?_
                  refine x_iload_n h dX10_cutUp_123 rfl ?_
                  refine x_cV1 h kVX10_at lkX10_170 ⟨_, _, _, rfl, rfl⟩ dX10_cutUp_124 (h2) lvz_10 rfl rfl (Nat.le_of_ble_eq_true rfl) (by omega) ?_
                  refine x_cS1 h kSX10_isDigit lkX10_186 dX10_cutUp_127 (h1) rfl rfl (Nat.le_of_ble_eq_true rfl) (by omega) ?_
                  refine x_if_eq_T (tgt := 171) h (by omega) dX10_cutUp_130 (by decide) (by omega) ?_
                  refine x_aload_n h dX10_cutUp_171 rfl ?_
                  refine x_iload_n h dX10_cutUp_172 rfl ?_
                  refine x_iload_n h dX10_cutUp_173 rfl ?_
                  refine x_isub h dX10_cutUp_174 ?_
                  refine x_bipush h dX10_cutUp_175 (by decide) ?_
                  refine x_ic_le_F (tgt := 184) h (by omega) dX10_cutUp_177 (by decide) (by omega) ?_
                  refine x_iconst h dX10_cutUp_180 ?_
                  refine x_goto (tgt := 185) h dX10_cutUp_181 (by decide) ?_
                  refine x_iload_n h dX10_cutUp_185 rfl ?_
                  refine x_lload h dX10_cutUp_186 rfl ?_
                  refine x_cV0 h kVX10_addToken lkX10_182 ⟨_, _, _, rfl, rfl⟩ dX10_cutUp_188 (hadd) lvz_10 rfl rfl (Nat.le_of_ble_eq_true rfl) (by omega) ?_
                  refine x_goto (tgt := 224) h dX10_cutUp_191 (by decide) ?_
                  refine x_iload_n h dX10_cutUp_224 rfl ?_
                  refine x_istore_n h dX10_cutUp_225 (by decide) ?_
                  refine x_goto (tgt := 7) h dX10_cutUp_226 (by decide) ?_
                  exact hx C h hr _ ⟨rfl, rfl, trivial⟩
                · rw [if_neg h5] at hadd hx
                  refine x_aload_n h dX10_cutUp_122 rfl ?_
                  refine x_iload_n h dX10_cutUp_123 rfl ?_
                  refine x_cV1 h kVX10_at lkX10_170 ⟨_, _, _, rfl, rfl⟩ dX10_cutUp_124 (h2) lvz_10 rfl rfl (Nat.le_of_ble_eq_true rfl) (by omega) ?_
                  refine x_cS1 h kSX10_isDigit lkX10_186 dX10_cutUp_127 (h1) rfl rfl (Nat.le_of_ble_eq_true rfl) (by omega) ?_
                  refine x_if_eq_T (tgt := 171) h (by omega) dX10_cutUp_130 (by decide) (by omega) ?_
                  refine x_aload_n h dX10_cutUp_171 rfl ?_
                  refine x_iload_n h dX10_cutUp_172 rfl ?_
                  refine x_iload_n h dX10_cutUp_173 rfl ?_
                  refine x_isub h dX10_cutUp_174 ?_
                  refine x_bipush h dX10_cutUp_175 (by decide) ?_
                  refine x_ic_le_T (tgt := 184) h (by omega) dX10_cutUp_177 (by decide) (by omega) ?_
                  refine x_iconst h dX10_cutUp_184 ?_
                  refine x_iload_n h dX10_cutUp_185 rfl ?_
                  refine x_lload h dX10_cutUp_186 rfl ?_
                  refine x_cV0 h kVX10_addToken lkX10_182 ⟨_, _, _, rfl, rfl⟩ dX10_cutUp_188 (hadd) lvz_10 rfl rfl (Nat.le_of_ble_eq_true rfl) (by omega) ?_
                  refine x_goto (tgt := 224) h dX10_cutUp_191 (by decide) ?_
                  refine x_iload_n h dX10_cutUp_224 rfl ?_
                  refine x_istore_n h dX10_cutUp_225 (by decide) ?_
                  refine x_goto (tgt := 7) h dX10_cutUp_226 (by decide) ?_
                  exact hx C h hr _ ⟨rfl, rfl, trivial⟩
              | succ c ihc =>
                intro t ls ht hpt hls
                refine x_loc hls ?_
                have hin : isDg (B t) = true := rn_P hpt (by omega)
                have h1 := m_isDigit (d := 0) (σ := τ) (hbr t)
                rw [if_pos hin] at h1
                have h2 := mat τ hf t (by omega)
                have hbt := hbr t
                have e : t + 1 - p = (t - p) + 1 := by omega
                have ept : p + (t - p) = t := by omega
                by_cases h5 : t - p < 6
                · refine x_aload_n h dX10_cutUp_122 rfl ?_
                  refine x_iload_n h dX10_cutUp_123 rfl ?_
                  refine x_cV1 h kVX10_at lkX10_170 ⟨_, _, _, rfl, rfl⟩ dX10_cutUp_124 (h2) lvz_10 rfl rfl (Nat.le_of_ble_eq_true rfl) (by omega) ?_
                  refine x_cS1 h kSX10_isDigit lkX10_186 dX10_cutUp_127 (h1) rfl rfl (Nat.le_of_ble_eq_true rfl) (by omega) ?_
                  refine x_if_eq_F (tgt := 171) h (by omega) dX10_cutUp_130 (by decide) (by omega) ?_
                  refine x_iload_n h dX10_cutUp_133 rfl ?_
                  refine x_iload_n h dX10_cutUp_134 rfl ?_
                  refine x_isub h dX10_cutUp_135 ?_
                  refine x_bipush h dX10_cutUp_136 (by decide) ?_
                  refine x_ic_ge_F (tgt := 161) h (by omega) dX10_cutUp_138 (by decide) (by omega) ?_
                  refine x_ldc2 (x := 10) h dX10_cutUp_141 klX10_189 (by decide) ?_
                  refine x_lload h dX10_cutUp_144 rfl ?_
                  refine x_lmul h dX10_cutUp_146 ?_
                  refine x_aload_n h dX10_cutUp_147 rfl ?_
                  refine x_iload_n h dX10_cutUp_148 rfl ?_
                  refine x_cV1 h kVX10_at lkX10_170 ⟨_, _, _, rfl, rfl⟩ dX10_cutUp_149 (h2) lvz_10 rfl rfl (Nat.le_of_ble_eq_true rfl) (by omega) ?_
                  refine x_i2l h (by omega) dX10_cutUp_152 ?_
                  refine x_ladd h dX10_cutUp_153 ?_
                  refine x_ldc2 (x := 48) h dX10_cutUp_154 klX10_191 (by decide) ?_
                  refine x_lsub h dX10_cutUp_157 ?_
                  refine x_goto (tgt := 163) h dX10_cutUp_158 (by decide) ?_
                  refine x_lstore h dX10_cutUp_163 (by decide) ?_
                  refine x_iinc h dX10_cutUp_165 rfl (by decide) ?_
                  refine x_goto (tgt := 122) h dX10_cutUp_168 (by decide) ?_
                  refine ihc (t + 1) _ (by omega) (by omega) ⟨rfl, rfl, rfl, rfl, ?_, trivial⟩
                  show some (vL (10 * numM B p (t - p) + B t - 48)) = some (vL (numM B p (t + 1 - p)))
                  unfold numM
                  rw [e, if_pos (by omega), if_pos (by omega), numV, ept]
                  congr 2
                  omega
                · refine x_aload_n h dX10_cutUp_122 rfl ?_
                  refine x_iload_n h dX10_cutUp_123 rfl ?_
                  refine x_cV1 h kVX10_at lkX10_170 ⟨_, _, _, rfl, rfl⟩ dX10_cutUp_124 (h2) lvz_10 rfl rfl (Nat.le_of_ble_eq_true rfl) (by omega) ?_
                  refine x_cS1 h kSX10_isDigit lkX10_186 dX10_cutUp_127 (h1) rfl rfl (Nat.le_of_ble_eq_true rfl) (by omega) ?_
                  refine x_if_eq_F (tgt := 171) h (by omega) dX10_cutUp_130 (by decide) (by omega) ?_
                  refine x_iload_n h dX10_cutUp_133 rfl ?_
                  refine x_iload_n h dX10_cutUp_134 rfl ?_
                  refine x_isub h dX10_cutUp_135 ?_
                  refine x_bipush h dX10_cutUp_136 (by decide) ?_
                  refine x_ic_ge_T (tgt := 161) h (by omega) dX10_cutUp_138 (by decide) (by omega) ?_
                  refine x_lload h dX10_cutUp_161 rfl ?_
                  refine x_lstore h dX10_cutUp_163 (by decide) ?_
                  refine x_iinc h dX10_cutUp_165 rfl (by decide) ?_
                  refine x_goto (tgt := 122) h dX10_cutUp_168 (by decide) ?_
                  refine ihc (t + 1) _ (by omega) (by omega) ⟨rfl, rfl, rfl, rfl, ?_, trivial⟩
                  show some (vL (numM B p (t - p))) = some (vL (numM B p (t + 1 - p)))
                  unfold numM
                  by_cases h6 : t - p = 6
                  · rw [e, if_pos (by omega), if_neg (by omega), h6]
                  · rw [e, if_neg (by omega), if_neg (by omega)]
            refine x_iload_n h dX10_cutUp_7 rfl ?_
            refine x_aload_n h dX10_cutUp_8 rfl ?_
            refine x_get (q := vI (L)) h fl_10_153 lvz_10 dX10_cutUp_9 (congrArg vI (by first | exact hτ.1.1 | simp [up3, hτ.1.1])) ?_
            refine x_ic_ge_F (tgt := 229) h (by omega) dX10_cutUp_12 (by decide) (by omega) ?_
            refine x_aload_n h dX10_cutUp_15 rfl ?_
            refine x_iload_n h dX10_cutUp_16 rfl ?_
            refine x_cV1 h kVX10_at lkX10_170 ⟨_, _, _, rfl, rfl⟩ dX10_cutUp_17 (hat) lvz_10 rfl rfl (Nat.le_of_ble_eq_true rfl) (by omega) ?_
            refine x_istore_n h dX10_cutUp_20 (by decide) ?_
            refine x_iload_n h dX10_cutUp_21 rfl ?_
            refine x_iconst h dX10_cutUp_22 ?_
            refine x_iadd h dX10_cutUp_23 ?_
            refine x_istore_n h dX10_cutUp_24 (by decide) ?_
            refine x_iload_n h dX10_cutUp_25 rfl ?_
            refine x_cS1 h kSX10_isLetter lkX10_174 dX10_cutUp_26 (hle) rfl rfl (Nat.le_of_ble_eq_true rfl) (by omega) ?_
            refine x_if_eq_T (tgt := 110) h (by omega) dX10_cutUp_29 (by decide) (by omega) ?_
            refine x_iload_n h dX10_cutUp_110 rfl ?_
            refine x_cS1 h kSX10_isDigit lkX10_186 dX10_cutUp_111 (hdi) rfl rfl (Nat.le_of_ble_eq_true rfl) (by omega) ?_
            refine x_if_eq_F (tgt := 194) h (by omega) dX10_cutUp_114 (by decide) (by omega) ?_
            refine x_lconst0 h dX10_cutUp_117 ?_
            refine x_lstore h dX10_cutUp_118 (by decide) ?_
            refine x_iload_n h dX10_cutUp_120 rfl ?_
            refine x_istore_n h dX10_cutUp_121 (by decide) ?_
            exact inner (rn isDg B p - p) p _ (by omega) (Nat.le_refl _) ⟨rfl, rfl, rfl, rfl, by rw [Nat.sub_self]; rfl, trivial⟩
          · have hD0 : isDg (B p) = false := by simpa using hD1
            rw [if_neg hD1] at hdi
            by_cases hbl : isBl (B p) = true
            · have h3210 : B p = 32 ∨ B p = 10 := by
                unfold isBl at hbl
                simpa using hbl
              have hrn2 : rn isBl B (p + 1) = tq B j := by rw [← hrn]; exact (rn_go hbl (by omega)).symm
              obtain ⟨N, σ', r1, r2, r3, r4, hx⟩ := ih (c - 1) (by omega) (p + 1) j τ (by omega) hrn2 (by omega) hT hf hj
              refine ⟨N, σ', r1, r2, r3, r4, fun C h hr ls hls => x_loc hls ?_⟩
              have hbp := hbr p
              by_cases h32 : B p = 32
              · refine x_iload_n h dX10_cutUp_7 rfl ?_
                refine x_aload_n h dX10_cutUp_8 rfl ?_
                refine x_get (q := vI (L)) h fl_10_153 lvz_10 dX10_cutUp_9 (congrArg vI (by first | exact hτ.1.1 | simp [up3, hτ.1.1])) ?_
                refine x_ic_ge_F (tgt := 229) h (by omega) dX10_cutUp_12 (by decide) (by omega) ?_
                refine x_aload_n h dX10_cutUp_15 rfl ?_
                refine x_iload_n h dX10_cutUp_16 rfl ?_
                refine x_cV1 h kVX10_at lkX10_170 ⟨_, _, _, rfl, rfl⟩ dX10_cutUp_17 (hat) lvz_10 rfl rfl (Nat.le_of_ble_eq_true rfl) (by omega) ?_
                refine x_istore_n h dX10_cutUp_20 (by decide) ?_
                refine x_iload_n h dX10_cutUp_21 rfl ?_
                refine x_iconst h dX10_cutUp_22 ?_
                refine x_iadd h dX10_cutUp_23 ?_
                refine x_istore_n h dX10_cutUp_24 (by decide) ?_
                refine x_iload_n h dX10_cutUp_25 rfl ?_
                refine x_cS1 h kSX10_isLetter lkX10_174 dX10_cutUp_26 (hle) rfl rfl (Nat.le_of_ble_eq_true rfl) (by omega) ?_
                refine x_if_eq_T (tgt := 110) h (by omega) dX10_cutUp_29 (by decide) (by omega) ?_
                refine x_iload_n h dX10_cutUp_110 rfl ?_
                refine x_cS1 h kSX10_isDigit lkX10_186 dX10_cutUp_111 (hdi) rfl rfl (Nat.le_of_ble_eq_true rfl) (by omega) ?_
                refine x_if_eq_T (tgt := 194) h (by omega) dX10_cutUp_114 (by decide) (by omega) ?_
                refine x_iload_n h dX10_cutUp_194 rfl ?_
                refine x_bipush h dX10_cutUp_195 (by decide) ?_
                refine x_ic_eq_T (tgt := 224) h (by omega) dX10_cutUp_197 (by decide) (by omega) ?_
                refine x_iload_n h dX10_cutUp_224 rfl ?_
                refine x_istore_n h dX10_cutUp_225 (by decide) ?_
                refine x_goto (tgt := 7) h dX10_cutUp_226 (by decide) ?_
                exact hx C h hr _ ⟨rfl, rfl, trivial⟩
              · refine x_iload_n h dX10_cutUp_7 rfl ?_
                refine x_aload_n h dX10_cutUp_8 rfl ?_
                refine x_get (q := vI (L)) h fl_10_153 lvz_10 dX10_cutUp_9 (congrArg vI (by first | exact hτ.1.1 | simp [up3, hτ.1.1])) ?_
                refine x_ic_ge_F (tgt := 229) h (by omega) dX10_cutUp_12 (by decide) (by omega) ?_
                refine x_aload_n h dX10_cutUp_15 rfl ?_
                refine x_iload_n h dX10_cutUp_16 rfl ?_
                refine x_cV1 h kVX10_at lkX10_170 ⟨_, _, _, rfl, rfl⟩ dX10_cutUp_17 (hat) lvz_10 rfl rfl (Nat.le_of_ble_eq_true rfl) (by omega) ?_
                refine x_istore_n h dX10_cutUp_20 (by decide) ?_
                refine x_iload_n h dX10_cutUp_21 rfl ?_
                refine x_iconst h dX10_cutUp_22 ?_
                refine x_iadd h dX10_cutUp_23 ?_
                refine x_istore_n h dX10_cutUp_24 (by decide) ?_
                refine x_iload_n h dX10_cutUp_25 rfl ?_
                refine x_cS1 h kSX10_isLetter lkX10_174 dX10_cutUp_26 (hle) rfl rfl (Nat.le_of_ble_eq_true rfl) (by omega) ?_
                refine x_if_eq_T (tgt := 110) h (by omega) dX10_cutUp_29 (by decide) (by omega) ?_
                refine x_iload_n h dX10_cutUp_110 rfl ?_
                refine x_cS1 h kSX10_isDigit lkX10_186 dX10_cutUp_111 (hdi) rfl rfl (Nat.le_of_ble_eq_true rfl) (by omega) ?_
                refine x_if_eq_T (tgt := 194) h (by omega) dX10_cutUp_114 (by decide) (by omega) ?_
                refine x_iload_n h dX10_cutUp_194 rfl ?_
                refine x_bipush h dX10_cutUp_195 (by decide) ?_
                refine x_ic_eq_F (tgt := 224) h (by omega) dX10_cutUp_197 (by decide) (by omega) ?_
                refine x_iload_n h dX10_cutUp_200 rfl ?_
                refine x_bipush h dX10_cutUp_201 (by decide) ?_
                refine x_ic_eq_T (tgt := 224) h (by omega) dX10_cutUp_203 (by decide) (by omega) ?_
                refine x_iload_n h dX10_cutUp_224 rfl ?_
                refine x_istore_n h dX10_cutUp_225 (by decide) ?_
                refine x_goto (tgt := 7) h dX10_cutUp_226 (by decide) ?_
                exact hx C h hr _ ⟨rfl, rfl, trivial⟩
            · have hbl0 : isBl (B p) = false := by simpa using hbl
              have hq : tq B j = p := by rw [← hrn]; exact rn_st hbl0
              have h32 : B p ≠ 32 ∧ B p ≠ 10 := by
                unfold isBl at hbl0
                simpa using hbl0
              have hbp := hbr p
              have hkE : tkE B p = p + 1 := by unfold tkE; rw [if_neg hD1, if_neg hL1]
              have hkK : tkK B p = if isSg (B p) then B p else 3 := by
                unfold tkK
                rw [if_neg hD1, if_neg hL1, if_neg hnz]
              have hkV : tkV B p = 0 := by unfold tkV; rw [if_neg hD1, if_neg hL1]
              have hKj : tK B j = tkK B p := by show tkK B (tq B j) = _; rw [hq]
              have hQj : tQ B j = p := by show ((tq B j : Nat) : Int) = p; rw [hq]
              have had := TkM_ad (w := 0) hT (fun _ => by show _ = tkV B (tq B j); rw [hq, hkV])
              rw [hKj, hQj, hkK] at had
              have hnext : rn isBl B (p + 1) = tq B (j + 1) := by show _ = rn isBl B (tkE B (tq B j)); rw [hq, hkE]
              obtain ⟨N, σ', r1, r2, r3, r4, hx⟩ := ih (c - 1) (by omega) (p + 1) (j + 1) _ (by omega) hnext (by omega) had (FrTk_tr (FrTk_ad _ _ _ _ _) hf) (by show adT τ j _ _ _ 10 0 2 = _; unfold adT; rw [up3_s]; rfl)
              refine ⟨N, σ', r1, r2, r3, r4, fun C h hr ls hls => x_loc hls ?_⟩
              have hsg := m_isSign (d := 0) (σ := τ) (hbr p)
              have hadd := m_addToken (d := 0) (σ := τ) (n := j) (s := if isSg (B p) then B p else 3) (q := p) (w := 0) hj (by omega)
              by_cases hs : isSg (B p) = true
              · rw [if_pos hs] at hsg hadd hx
                refine x_iload_n h dX10_cutUp_7 rfl ?_
                refine x_aload_n h dX10_cutUp_8 rfl ?_
                refine x_get (q := vI (L)) h fl_10_153 lvz_10 dX10_cutUp_9 (congrArg vI (by first | exact hτ.1.1 | simp [up3, hτ.1.1])) ?_
                refine x_ic_ge_F (tgt := 229) h (by omega) dX10_cutUp_12 (by decide) (by omega) ?_
                refine x_aload_n h dX10_cutUp_15 rfl ?_
                refine x_iload_n h dX10_cutUp_16 rfl ?_
                refine x_cV1 h kVX10_at lkX10_170 ⟨_, _, _, rfl, rfl⟩ dX10_cutUp_17 (hat) lvz_10 rfl rfl (Nat.le_of_ble_eq_true rfl) (by omega) ?_
                refine x_istore_n h dX10_cutUp_20 (by decide) ?_
                refine x_iload_n h dX10_cutUp_21 rfl ?_
                refine x_iconst h dX10_cutUp_22 ?_
                refine x_iadd h dX10_cutUp_23 ?_
                refine x_istore_n h dX10_cutUp_24 (by decide) ?_
                refine x_iload_n h dX10_cutUp_25 rfl ?_
                refine x_cS1 h kSX10_isLetter lkX10_174 dX10_cutUp_26 (hle) rfl rfl (Nat.le_of_ble_eq_true rfl) (by omega) ?_
                refine x_if_eq_T (tgt := 110) h (by omega) dX10_cutUp_29 (by decide) (by omega) ?_
                refine x_iload_n h dX10_cutUp_110 rfl ?_
                refine x_cS1 h kSX10_isDigit lkX10_186 dX10_cutUp_111 (hdi) rfl rfl (Nat.le_of_ble_eq_true rfl) (by omega) ?_
                refine x_if_eq_T (tgt := 194) h (by omega) dX10_cutUp_114 (by decide) (by omega) ?_
                refine x_iload_n h dX10_cutUp_194 rfl ?_
                refine x_bipush h dX10_cutUp_195 (by decide) ?_
                refine x_ic_eq_F (tgt := 224) h (by omega) dX10_cutUp_197 (by decide) (by omega) ?_
                refine x_iload_n h dX10_cutUp_200 rfl ?_
                refine x_bipush h dX10_cutUp_201 (by decide) ?_
                refine x_ic_eq_F (tgt := 224) h (by omega) dX10_cutUp_203 (by decide) (by omega) ?_
                refine x_aload_n h dX10_cutUp_206 rfl ?_
                refine x_iload_n h dX10_cutUp_207 rfl ?_
                refine x_cS1 h kSX10_isSign lkX10_193 dX10_cutUp_208 (hsg) rfl rfl (Nat.le_of_ble_eq_true rfl) (by omega) ?_
                refine x_if_eq_F (tgt := 218) h (by omega) dX10_cutUp_211 (by decide) (by omega) ?_
                refine x_iload_n h dX10_cutUp_214 rfl ?_
                refine x_goto (tgt := 219) h dX10_cutUp_215 (by decide) ?_
                refine x_iload_n h dX10_cutUp_219 rfl ?_
                refine x_lconst0 h dX10_cutUp_220 ?_
                refine x_cV0 h kVX10_addToken lkX10_182 ⟨_, _, _, rfl, rfl⟩ dX10_cutUp_221 (hadd) lvz_10 rfl rfl (Nat.le_of_ble_eq_true rfl) (by omega) ?_
                refine x_iload_n h dX10_cutUp_224 rfl ?_
                refine x_istore_n h dX10_cutUp_225 (by decide) ?_
                refine x_goto (tgt := 7) h dX10_cutUp_226 (by decide) ?_
                exact hx C h hr _ ⟨rfl, rfl, trivial⟩
              · rw [if_neg hs] at hsg hadd hx
                refine x_iload_n h dX10_cutUp_7 rfl ?_
                refine x_aload_n h dX10_cutUp_8 rfl ?_
                refine x_get (q := vI (L)) h fl_10_153 lvz_10 dX10_cutUp_9 (congrArg vI (by first | exact hτ.1.1 | simp [up3, hτ.1.1])) ?_
                refine x_ic_ge_F (tgt := 229) h (by omega) dX10_cutUp_12 (by decide) (by omega) ?_
                refine x_aload_n h dX10_cutUp_15 rfl ?_
                refine x_iload_n h dX10_cutUp_16 rfl ?_
                refine x_cV1 h kVX10_at lkX10_170 ⟨_, _, _, rfl, rfl⟩ dX10_cutUp_17 (hat) lvz_10 rfl rfl (Nat.le_of_ble_eq_true rfl) (by omega) ?_
                refine x_istore_n h dX10_cutUp_20 (by decide) ?_
                refine x_iload_n h dX10_cutUp_21 rfl ?_
                refine x_iconst h dX10_cutUp_22 ?_
                refine x_iadd h dX10_cutUp_23 ?_
                refine x_istore_n h dX10_cutUp_24 (by decide) ?_
                refine x_iload_n h dX10_cutUp_25 rfl ?_
                refine x_cS1 h kSX10_isLetter lkX10_174 dX10_cutUp_26 (hle) rfl rfl (Nat.le_of_ble_eq_true rfl) (by omega) ?_
                refine x_if_eq_T (tgt := 110) h (by omega) dX10_cutUp_29 (by decide) (by omega) ?_
                refine x_iload_n h dX10_cutUp_110 rfl ?_
                refine x_cS1 h kSX10_isDigit lkX10_186 dX10_cutUp_111 (hdi) rfl rfl (Nat.le_of_ble_eq_true rfl) (by omega) ?_
                refine x_if_eq_T (tgt := 194) h (by omega) dX10_cutUp_114 (by decide) (by omega) ?_
                refine x_iload_n h dX10_cutUp_194 rfl ?_
                refine x_bipush h dX10_cutUp_195 (by decide) ?_
                refine x_ic_eq_F (tgt := 224) h (by omega) dX10_cutUp_197 (by decide) (by omega) ?_
                refine x_iload_n h dX10_cutUp_200 rfl ?_
                refine x_bipush h dX10_cutUp_201 (by decide) ?_
                refine x_ic_eq_F (tgt := 224) h (by omega) dX10_cutUp_203 (by decide) (by omega) ?_
                refine x_aload_n h dX10_cutUp_206 rfl ?_
                refine x_iload_n h dX10_cutUp_207 rfl ?_
                refine x_cS1 h kSX10_isSign lkX10_193 dX10_cutUp_208 (hsg) rfl rfl (Nat.le_of_ble_eq_true rfl) (by omega) ?_
                refine x_if_eq_T (tgt := 218) h (by omega) dX10_cutUp_211 (by decide) (by omega) ?_
                refine x_iconst h dX10_cutUp_218 ?_
                refine x_iload_n h dX10_cutUp_219 rfl ?_
                refine x_lconst0 h dX10_cutUp_220 ?_
                refine x_cV0 h kVX10_addToken lkX10_182 ⟨_, _, _, rfl, rfl⟩ dX10_cutUp_221 (hadd) lvz_10 rfl rfl (Nat.le_of_ble_eq_true rfl) (by omega) ?_
                refine x_iload_n h dX10_cutUp_224 rfl ?_
                refine x_istore_n h dX10_cutUp_225 (by decide) ?_
                refine x_goto (tgt := 7) h dX10_cutUp_226 (by decide) ?_
                exact hx C h hr _ ⟨rfl, rfl, trivial⟩
  have f0 : FrTk (up3 σ 10 0 2 0) σ := fun f k j hf => by unfold up3; rw [if_neg (by omega)]
  obtain ⟨N, σ', r1, r2, r3, r4, hx⟩ := loop L 0 0 (up3 σ 10 0 2 0) (by omega) rfl (Nat.le_refl _) (fun j hj => absurd hj (Nat.not_lt_zero _)) f0 (up3_s _ _ _ _ _)
  refine ⟨N, σ', r1, r2, r3, r4, ?_⟩
  refine ct_of (by decide) (Nat.le_of_ble_eq_true rfl) (fun C h hr _ => ?_)
  have h : Ok C RX10 cX10_cutUp 6 _ := h
  refine x_aload_n h dX10_cutUp_0 rfl ?_
  refine x_iconst h dX10_cutUp_1 ?_
  refine x_put h fl_10_167 lvz_10 dX10_cutUp_2 rfl (fun z => absurd z (by decide)) ?_
  refine x_iconst h dX10_cutUp_5 ?_
  refine x_istore_n h dX10_cutUp_6 (by decide) ?_
  exact hx C h hr _ ⟨rfl, rfl, trivial⟩
theorem m_cut {d : Nat} {σ : Mm} {L : Nat} (hL : TapeM σ L) : Ct d mX10_cut 1 [vR 10 0] NALL σ (some (vI L)) NALL (up3 σ 10 0 1 0) 0 0 := by
  refine ct_of (by decide) (Nat.le_of_ble_eq_true rfl) (fun C h hr _ => ?_)
  have h : Ok C RX10 cX10_cut 2 _ := h
  refine x_aload_n h dX10_cut_0 rfl ?_
  refine x_get (q := vI (L)) h fl_10_153 lvz_10 dX10_cut_1 (congrArg vI (by first | exact hL.1 | simp [up3, hL.1])) ?_
  refine x_istore_n h dX10_cut_4 (by decide) ?_
  refine x_aload_n h dX10_cut_5 rfl ?_
  refine x_iconst h dX10_cut_6 ?_
  refine x_put h fl_10_153 lvz_10 dX10_cut_7 rfl (fun z => absurd z (by decide)) ?_
  refine x_iload_n h dX10_cut_10 rfl ?_
  exact x_ireturn h hr dX10_cut_11 (Or.inl rfl) ⟨Nat.le_refl _, Nat.le_refl _⟩
theorem m_feed {d : Nat} {σ : Mm} {L : Nat} {w : Int} (hL : TapeM σ L) : Ct d mX10_feed 1 [vR 10 0, vL w] NALL σ (some (vI (if L + bin w ≤ 900 then ((L + bin w : Nat) : Int) else -4))) NALL (if L + bin w ≤ 900 then up3 (apdS σ 30 w L (bin w)) 10 0 1 (L + bin w) else σ) 0 0 := by
  have hb := bin_r w
  have hL9 := hL.2
  have head : ∀ (C : Cx) (v : Int) (σ' : Mm), Ok C RX10 cX10_feed 5 d → Rt C 1 (some .int) (some (vI v)) NALL σ' 0 0 → (X C 1 29 [(0, vR 10 0), (1, vL w), (3, vI (bin w))] [] NALL σ 0 0) → ∀ (c k : Nat) (ls : List (Nat × PV)), k + c = 8 → bin w = binR w c k → lsub [(0, vR 10 0), (1, vL w), (3, vI k)] ls → X C 1 2 ls [] NALL σ 0 0 := by
    intro C v σ' h hr hx c
    induction c with
    | zero =>
      intro k ls hk hv hls
      refine x_loc hls ?_
      rw [binR] at hv
      rw [hv] at hx
      refine x_iload_n h dX10_feed_2 rfl ?_
      refine x_bipush h dX10_feed_3 (by decide) ?_
      refine x_ic_ge_T (tgt := 29) h (by omega) dX10_feed_5 (by decide) (by omega) ?_
      exact hx
    | succ c ih =>
      intro k ls hk hv hls
      refine x_loc hls ?_
      have hm : andL (ushrL w (8 * k)) (255 : Int) = ushrL w (8 * k) % 256 := andL_255 _
      refine x_iload_n h dX10_feed_2 rfl ?_
      refine x_bipush h dX10_feed_3 (by decide) ?_
      refine x_ic_ge_F (tgt := 29) h (by omega) dX10_feed_5 (by decide) (by omega) ?_
      refine x_lload_n h dX10_feed_8 rfl ?_
      refine x_bipush h dX10_feed_9 (by decide) ?_
      refine x_iload_n h dX10_feed_11 rfl ?_
      refine x_imul h dX10_feed_12 ?_
      refine x_lushr h dX10_feed_13 ?_
      refine x_ldc2 (x := 255) h dX10_feed_14 klX10_151 (by decide) ?_
      refine x_land h dX10_feed_17 ?_
      rw [hm]
      by_cases hc : ushrL w (8 * k) % 256 = 0
      · rw [binR, if_pos hc] at hv
        rw [hv] at hx
        refine x_lconst0 h dX10_feed_18 ?_
        refine x_lc_eq (tgt := 29) h (by omega) dX10_feed_19 dX10_feed_20 (by decide) (fun _ => ?_) (fun q => absurd (by omega) q)
        exact hx
      · refine x_lconst0 h dX10_feed_18 ?_
        refine x_lc_eq (tgt := 29) h (by omega) dX10_feed_19 dX10_feed_20 (by decide) (fun q => absurd q (by omega)) (fun _ => ?_)
        refine x_iinc h dX10_feed_23 rfl (by decide) ?_
        refine x_goto (tgt := 2) h dX10_feed_26 (by decide) ?_
        exact ih (k + 1) _ (by omega) (by rw [hv, binR, if_neg hc]) ⟨rfl, rfl, rfl, trivial⟩
  by_cases hfit : L + bin w ≤ 900
  · rw [if_pos hfit, if_pos hfit]
    refine ct_of (by decide) (Nat.le_of_ble_eq_true rfl) (fun C h hr _ => ?_)
    have h : Ok C RX10 cX10_feed 5 _ := h
    have loop : ∀ (c k : Nat) (ls : List (Nat × PV)), k + c = bin w → lsub [(0, vR 10 0), (1, vL w), (3, vI (bin w)), (4, vI k)] ls → X C 1 47 ls [] NALL (apdS σ 30 w L k) 0 0 := by
      intro c
      induction c with
      | zero =>
        intro k ls hk hls
        refine x_loc hls ?_
        have hL' : apdS σ 30 w L k 10 0 1 = L := by rw [apdS_f _ _ _ _ (by decide)]; exact hL.1
        obtain rfl : k = bin w := by omega
        refine x_iload h dX10_feed_47 rfl ?_
        refine x_iload_n h dX10_feed_49 rfl ?_
        refine x_ic_ge_T (tgt := 80) h (by omega) dX10_feed_50 (by decide) (by omega) ?_
        refine x_aload_n h dX10_feed_80 rfl ?_
        refine x_dup h dX10_feed_81 rfl ?_
        refine x_get (q := vI (L)) h fl_10_153 lvz_10 dX10_feed_82 (congrArg vI (by first | exact hL' | simp [up3, hL'])) ?_
        refine x_iload_n h dX10_feed_85 rfl ?_
        refine x_iadd h dX10_feed_86 ?_
        refine x_put h fl_10_153 lvz_10 dX10_feed_87 rfl (fun z => absurd z (by decide)) ?_
        refine x_aload_n h dX10_feed_90 rfl ?_
        refine x_get (q := vI (((L + bin w : Nat) : Int))) h fl_10_153 lvz_10 dX10_feed_91 (congrArg vI (by first | exact up3_s _ _ _ _ _ | simp [up3, up3_s _ _ _ _ _])) ?_
        exact x_ireturn h hr dX10_feed_94 (Or.inl rfl) ⟨Nat.le_refl _, Nat.le_refl _⟩
      | succ c ih =>
        intro k ls hk hls
        refine x_loc hls ?_
        have hL' : apdS σ 30 w L k 10 0 1 = L := by rw [apdS_f _ _ _ _ (by decide)]; exact hL.1
        have hw := w8_r (ushrL w (8 * k))
        refine x_iload h dX10_feed_47 rfl ?_
        refine x_iload_n h dX10_feed_49 rfl ?_
        refine x_ic_ge_F (tgt := 80) h (by omega) dX10_feed_50 (by decide) (by omega) ?_
        refine x_aload_n h dX10_feed_53 rfl ?_
        refine x_get h fl_10_7 lvz_10 dX10_feed_54 (pvf_530 _ _) ?_
        refine x_aload_n h dX10_feed_57 rfl ?_
        refine x_get (q := vI (L)) h fl_10_153 lvz_10 dX10_feed_58 (congrArg vI (by first | exact hL' | simp [up3, hL'])) ?_
        refine x_iload h dX10_feed_61 rfl ?_
        refine x_iadd h dX10_feed_63 ?_
        refine x_lload_n h dX10_feed_64 rfl ?_
        refine x_bipush h dX10_feed_65 (by decide) ?_
        refine x_iload h dX10_feed_67 rfl ?_
        refine x_imul h dX10_feed_69 ?_
        refine x_lushr h dX10_feed_70 ?_
        refine x_l2i h dX10_feed_71 ?_
        refine x_i2b h dX10_feed_72 ?_
        refine x_bast (m := L + k) h kdf_30 lvz_30 (by omega) dX10_feed_73 (by omega) (by omega) ?_
        refine x_iinc h dX10_feed_74 rfl (by decide) ?_
        refine x_goto (tgt := 47) h dX10_feed_77 (by decide) ?_
        exact ih (k + 1) _ (by omega) ⟨rfl, rfl, rfl, rfl, trivial⟩
    refine x_iconst h dX10_feed_0 ?_
    refine x_istore_n h dX10_feed_1 (by decide) ?_
    refine head C _ _ h hr ?_ 8 0 _ rfl rfl ⟨rfl, rfl, rfl, trivial⟩
    refine x_aload_n h dX10_feed_29 rfl ?_
    refine x_get (q := vI (L)) h fl_10_153 lvz_10 dX10_feed_30 (congrArg vI (by first | exact hL.1 | simp [up3, hL.1])) ?_
    refine x_iload_n h dX10_feed_33 rfl ?_
    refine x_iadd h dX10_feed_34 ?_
    refine x_sipush h dX10_feed_35 (by decide) ?_
    refine x_ic_le_T (tgt := 44) h (by omega) dX10_feed_38 (by decide) (by omega) ?_
    refine x_iconst h dX10_feed_44 ?_
    refine x_istore h dX10_feed_45 (by decide) ?_
    exact loop (bin w) 0 _ (by omega) ⟨rfl, rfl, rfl, rfl, trivial⟩
  · rw [if_neg hfit, if_neg hfit]
    refine ct_of (by decide) (Nat.le_of_ble_eq_true rfl) (fun C h hr _ => ?_)
    have h : Ok C RX10 cX10_feed 5 _ := h
    refine x_iconst h dX10_feed_0 ?_
    refine x_istore_n h dX10_feed_1 (by decide) ?_
    refine head C _ _ h hr ?_ 8 0 _ rfl rfl ⟨rfl, rfl, rfl, trivial⟩
    refine x_aload_n h dX10_feed_29 rfl ?_
    refine x_get (q := vI (L)) h fl_10_153 lvz_10 dX10_feed_30 (congrArg vI (by first | exact hL.1 | simp [up3, hL.1])) ?_
    refine x_iload_n h dX10_feed_33 rfl ?_
    refine x_iadd h dX10_feed_34 ?_
    refine x_sipush h dX10_feed_35 (by decide) ?_
    refine x_ic_le_F (tgt := 44) h (by omega) dX10_feed_38 (by decide) (by omega) ?_
    refine x_bipush h dX10_feed_41 (by decide) ?_
    exact x_ireturn h hr dX10_feed_43 (Or.inl rfl) ⟨Nat.le_refl _, Nat.le_refl _⟩
