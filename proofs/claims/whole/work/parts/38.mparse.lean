/-! the reference's reader: its state, small methods -/
abbrev Fr3 : Type := Int × Int × Int
abbrev Us3 : Type := Nat × Nat × Nat
def ActsR (σ : Mm) (A : List (Int × Int)) : Prop := σ 10 0 16 = A.length ∧ ∀ j, j < A.length → σ 47 0 j = (A.getD j (0, 0)).1 ∧ σ 48 0 j = (A.getD j (0, 0)).2
def StkR (σ : Mm) : List Fr3 → Prop
  | [] => True
  | z :: S => σ 57 0 S.length = z.1 ∧ σ 58 0 S.length = z.2.1 ∧ σ 59 0 S.length = z.2.2 ∧ StkR σ S
def UseR (σ : Mm) (U : List Us3) : Prop := σ 10 0 22 = U.length ∧ ∀ j, j < U.length → σ 53 0 j = ((U.getD j (0, 0, 0)).1 : Int) ∧ σ 54 0 j = ((U.getD j (0, 0, 0)).2.1 : Int) ∧ σ 55 0 j = ((U.getD j (0, 0, 0)).2.2 : Int)
def PRl (σ : Mm) (i u a : Nat) (A : List (Int × Int)) (S : List Fr3) (U : List Us3) : Prop := σ 10 0 6 = i ∧ σ 10 0 7 = -9 ∧ σ 10 0 30 = u ∧ σ 10 0 31 = a ∧ ActsR σ A ∧ (σ 10 0 26 = S.length ∧ StkR σ S) ∧ UseR σ U
/-- what the reader of a SUM may change -/
def FrP (σ' σ : Mm) : Prop := ∀ f k j, ¬ ((f = 10 ∧ (j = 6 ∨ j = 7 ∨ j = 16 ∨ j = 22 ∨ j = 26 ∨ j = 30 ∨ j = 31)) ∨ f = 47 ∨ f = 48 ∨ f = 53 ∨ f = 54 ∨ f = 55 ∨ f = 57 ∨ f = 58 ∨ f = 59) → σ' f k j = σ f k j
theorem FrP_refl (σ : Mm) : FrP σ σ := fun _ _ _ _ => rfl
theorem FrP_tr {a b c : Mm} (h : FrP a b) (h' : FrP b c) : FrP a c := fun f k j hf => (h f k j hf).trans (h' f k j hf)
theorem FrP_up {σ' σ : Mm} (h : FrP σ' σ) {f k j : Nat} (x : Int) (hf : (f = 10 ∧ (j = 6 ∨ j = 7 ∨ j = 16 ∨ j = 22 ∨ j = 26 ∨ j = 30 ∨ j = 31)) ∨ f = 47 ∨ f = 48 ∨ f = 53 ∨ f = 54 ∨ f = 55 ∨ f = 57 ∨ f = 58 ∨ f = 59) : FrP (up3 σ' f k j x) σ := by
  intro f' k' j' hn
  have e : up3 σ' f k j x f' k' j' = σ' f' k' j' := by
    unfold up3
    rw [if_neg (fun z => hn (by obtain ⟨rfl, rfl, rfl⟩ := z; exact hf))]
  rw [e]
  exact h f' k' j' hn
/-- the TOKENS, and the TABLE that is read -/
def TS (B : Nat → Int) (L N m : Nat) (σ : Mm) : Prop := TkM σ B (N + 1) ∧ tq B N = L ∧ N ≤ 900 ∧ BOk B L ∧ σ 10 0 8 = m ∧ m ≤ 12
theorem TS_fr {B : Nat → Int} {L N m : Nat} {σ σ' : Mm} (h : TS B L N m σ) (hf : FrP σ' σ) : TS B L N m σ' := by
  obtain ⟨h1, h2, h3, h4, h5, h6⟩ := h
  refine ⟨fun j hj => ?_, h2, h3, h4, by rw [hf _ _ _ (by omega)]; exact h5, h6⟩
  obtain ⟨a1, a2, a3⟩ := h1 j hj
  exact ⟨by rw [hf _ _ _ (by omega)]; exact a1, by rw [hf _ _ _ (by omega)]; exact a2, fun z => by rw [hf _ _ _ (by omega)]; exact a3 z⟩
theorem tkE_gt (B : Nat → Int) (hB : ∀ j, 900 ≤ j → B j = 0) (q : Nat) : q < tkE B q := by
  unfold tkE
  split
  · next h =>
    have hq : q < 901 := by
      rcases Nat.lt_or_ge q 901 with z | z
      · exact z
      · rw [hB q (by omega)] at h; cases h
    have h1 := rn_go (P := isDg) h hq
    have h2 := rn_le (P := isDg) rfl hB (q + 1)
    omega
  · split
    · next h =>
      have hq : q < 901 := by
        rcases Nat.lt_or_ge q 901 with z | z
        · exact z
        · rw [hB q (by omega)] at h; cases h
      have h1 := rn_go (P := isLe) h hq
      have h2 := rn_le (P := isLe) rfl hB (q + 1)
      omega
    · omega
theorem tq_up {B : Nat → Int} {L : Nat} (h : BOk B L) (i : Nat) : tq B i < tq B (i + 1) := by
  have hB : ∀ j, 900 ≤ j → B j = 0 := fun j hj => h.2.2.1 j (by have := h.1; omega)
  have h1 := tkE_gt B hB (tq B i)
  have h2 := (rn_le (P := isBl) rfl hB (tkE B (tq B i))).1
  show tq B i < rn isBl B (tkE B (tq B i))
  omega
theorem tq_lt {B : Nat → Int} {L : Nat} (h : BOk B L) {i j : Nat} (hij : i < j) : tq B i < tq B j := by
  obtain ⟨d, rfl⟩ := Nat.exists_eq_add_of_lt hij
  clear hij
  induction d with
  | zero => exact tq_up h i
  | succ d ih => exact Nat.lt_trans ih (tq_up h _)
theorem tq_ge {B : Nat → Int} {L : Nat} (h : BOk B L) (i : Nat) : i ≤ tq B i := by
  induction i with
  | zero => exact Nat.zero_le _
  | succ i ih => have := tq_up h i; omega
/-- a TOKEN that is there -/
theorem tok_in {B : Nat → Int} {L N m : Nat} {σ : Mm} (h : TS B L N m σ) {i : Nat} (hi : tq B i ≤ L) : i ≤ N ∧ i ≤ 900 ∧ σ 33 0 i = tK B i ∧ σ 34 0 i = tQ B i ∧ (tK B i ≠ 3 → σ 35 0 i = tV B i) ∧ 0 ≤ tK B i ∧ tK B i ≤ 255 ∧ 0 ≤ tQ B i ∧ tQ B i ≤ 900 := by
  obtain ⟨h1, h2, h3, h4, h5, h6⟩ := h
  have hiN : i ≤ N := by
    rcases Nat.lt_or_ge N i with q | q
    · have := tq_lt h4 q; omega
    · exact q
  have := h1 i (by omega)
  have hk := tkK_r h4 (tq B i)
  have hL := h4.1
  exact ⟨hiN, by omega, this.1, this.2.1, this.2.2, hk.1, hk.2, Int.natCast_nonneg _, by show ((tq B i : Nat) : Int) ≤ 900; omega⟩
theorem m_must1 {d : Nat} {σ : Mm} (hf : σ 10 0 7 = -9) : Ct d mX10_must 1 [vR 10 0, vI 1] NALL σ (some (vI 1)) NALL σ 0 0 := by
  refine ct_of (by decide) (Nat.le_of_ble_eq_true rfl) (fun C h hr _ => ?_)
  have h : Ok C RX10 cX10_must 2 _ := h
  refine x_iload_n h dX10_must_0 rfl ?_
  refine x_if_ne_T (tgt := 26) h (by omega) dX10_must_1 (by decide) (by omega) ?_
  refine x_aload_n h dX10_must_26 rfl ?_
  refine x_get (q := vI (-9)) h fl_10_196 lvz_10 dX10_must_27 (congrArg vI (by first | exact hf | simp [up3, hf])) ?_
  refine x_bipush h dX10_must_30 (by decide) ?_
  refine x_ic_ne_F (tgt := 39) h (by omega) dX10_must_32 (by decide) (by omega) ?_
  refine x_iconst h dX10_must_35 ?_
  refine x_goto (tgt := 40) h dX10_must_36 (by decide) ?_
  exact x_ireturn h hr dX10_must_40 (Or.inr ⟨rfl, by omega⟩) ⟨Nat.le_refl _, Nat.le_refl _⟩
theorem m_must0 {d i : Nat} {σ : Mm} {e : Int} (hf : σ 10 0 7 = -9) (hi : σ 10 0 6 = i) (hi2 : i ≤ 900) (he : σ 34 0 i = e) (he2 : 0 ≤ e ∧ e ≤ 900) : Ct d mX10_must 1 [vR 10 0, vI 0] NALL σ (some (vI 0)) NALL (up3 σ 10 0 7 e) 0 0 := by
  subst he
  refine ct_of (by decide) (Nat.le_of_ble_eq_true rfl) (fun C h hr _ => ?_)
  have h : Ok C RX10 cX10_must 2 _ := h
  refine x_iload_n h dX10_must_0 rfl ?_
  refine x_if_ne_F (tgt := 26) h (by omega) dX10_must_1 (by decide) (by omega) ?_
  refine x_aload_n h dX10_must_4 rfl ?_
  refine x_get (q := vI (-9)) h fl_10_196 lvz_10 dX10_must_5 (congrArg vI (by first | exact hf | simp [up3, hf])) ?_
  refine x_bipush h dX10_must_8 (by decide) ?_
  refine x_ic_ne_F (tgt := 26) h (by omega) dX10_must_10 (by decide) (by omega) ?_
  refine x_aload_n h dX10_must_13 rfl ?_
  refine x_aload_n h dX10_must_14 rfl ?_
  refine x_get h fl_10_17 lvz_10 dX10_must_15 (pvf_534 _ _) ?_
  refine x_aload_n h dX10_must_18 rfl ?_
  refine x_get (q := vI (i)) h fl_10_199 lvz_10 dX10_must_19 (congrArg vI (by first | exact hi | simp [up3, hi])) ?_
  refine x_iald h kdf_34 lvz_34 dX10_must_22 rfl (by omega) ?_
  refine x_put h fl_10_196 lvz_10 dX10_must_23 rfl (fun z => absurd z (by decide)) ?_
  refine x_aload_n h dX10_must_26 rfl ?_
  refine x_get (q := vI (σ 34 0 i)) h fl_10_196 lvz_10 dX10_must_27 (congrArg vI (by first | exact up3_s _ _ _ _ _ | simp [up3, up3_s _ _ _ _ _])) ?_
  refine x_bipush h dX10_must_30 (by decide) ?_
  refine x_ic_ne_T (tgt := 39) h (by omega) dX10_must_32 (by decide) (by omega) ?_
  refine x_iconst h dX10_must_39 ?_
  exact x_ireturn h hr dX10_must_40 (Or.inr ⟨rfl, by omega⟩) ⟨Nat.le_refl _, Nat.le_refl _⟩
theorem m_mustF {d : Nat} {σ : Mm} {e b : Int} (hf : σ 10 0 7 = e) (he2 : 0 ≤ e ∧ e ≤ 900) (hb : b = 0 ∨ b = 1) : Ct d mX10_must 1 [vR 10 0, vI b] NALL σ (some (vI 0)) NALL σ 0 0 := by
  rcases hb with rfl | rfl
  · refine ct_of (by decide) (Nat.le_of_ble_eq_true rfl) (fun C h hr _ => ?_)
    have h : Ok C RX10 cX10_must 2 _ := h
    refine x_iload_n h dX10_must_0 rfl ?_
    refine x_if_ne_F (tgt := 26) h (by omega) dX10_must_1 (by decide) (by omega) ?_
    refine x_aload_n h dX10_must_4 rfl ?_
    refine x_get (q := vI (e)) h fl_10_196 lvz_10 dX10_must_5 (congrArg vI (by first | exact hf | simp [up3, hf])) ?_
    refine x_bipush h dX10_must_8 (by decide) ?_
    refine x_ic_ne_T (tgt := 26) h (by omega) dX10_must_10 (by decide) (by omega) ?_
    refine x_aload_n h dX10_must_26 rfl ?_
    refine x_get (q := vI (e)) h fl_10_196 lvz_10 dX10_must_27 (congrArg vI (by first | exact hf | simp [up3, hf])) ?_
    refine x_bipush h dX10_must_30 (by decide) ?_
    refine x_ic_ne_T (tgt := 39) h (by omega) dX10_must_32 (by decide) (by omega) ?_
    refine x_iconst h dX10_must_39 ?_
    exact x_ireturn h hr dX10_must_40 (Or.inr ⟨rfl, by omega⟩) ⟨Nat.le_refl _, Nat.le_refl _⟩
  · refine ct_of (by decide) (Nat.le_of_ble_eq_true rfl) (fun C h hr _ => ?_)
    have h : Ok C RX10 cX10_must 2 _ := h
    refine x_iload_n h dX10_must_0 rfl ?_
    refine x_if_ne_T (tgt := 26) h (by omega) dX10_must_1 (by decide) (by omega) ?_
    refine x_aload_n h dX10_must_26 rfl ?_
    refine x_get (q := vI (e)) h fl_10_196 lvz_10 dX10_must_27 (congrArg vI (by first | exact hf | simp [up3, hf])) ?_
    refine x_bipush h dX10_must_30 (by decide) ?_
    refine x_ic_ne_T (tgt := 39) h (by omega) dX10_must_32 (by decide) (by omega) ?_
    refine x_iconst h dX10_must_39 ?_
    exact x_ireturn h hr dX10_must_40 (Or.inr ⟨rfl, by omega⟩) ⟨Nat.le_refl _, Nat.le_refl _⟩
section SMALL
variable {B : Nat → Int} {L N m : Nat}
theorem m_take1 {d i : Nat} {σ : Mm} {s : Int} (hT : TS B L N m σ) (hf : σ 10 0 7 = -9) (hi : σ 10 0 6 = i) (hi2 : tq B i ≤ L) (hk : tK B i = s) : Ct (d + 1) mX10_take 1 [vR 10 0, vI s] NALL σ (some (vI 1)) NALL (up3 σ 10 0 6 (i + 1)) 0 0 := by
  obtain ⟨t1, t2, t3, t4, t5, t6, t7, t8, t9⟩ := tok_in hT hi2
  have hf2 : up3 σ 10 0 6 ((i : Int) + 1) 10 0 7 = -9 := by rw [up3_j _ _ (by decide)]; exact hf
  refine ct_of (by decide) (Nat.le_of_ble_eq_true rfl) (fun C h hr _ => ?_)
  have h : Ok C RX10 cX10_take 2 _ := h
  refine x_aload_n h dX10_take_0 rfl ?_
  refine x_aload_n h dX10_take_1 rfl ?_
  refine x_get h fl_10_13 lvz_10 dX10_take_2 (pvf_533 _ _) ?_
  refine x_aload_n h dX10_take_5 rfl ?_
  refine x_get (q := vI (i)) h fl_10_199 lvz_10 dX10_take_6 (congrArg vI (by first | exact hi | simp [up3, hi])) ?_
  refine x_iald h kdf_33 lvz_33 dX10_take_9 rfl (by omega) ?_
  refine x_iload_n h dX10_take_10 rfl ?_
  refine x_ic_ne_F (tgt := 18) h (by omega) dX10_take_11 (by decide) (by omega) ?_
  refine x_iconst h dX10_take_14 ?_
  refine x_goto (tgt := 19) h dX10_take_15 (by decide) ?_
  refine x_cV1 h kVX10_must lkX10_202 ⟨_, _, _, rfl, rfl⟩ dX10_take_19 (m_must1 (d := d) hf) lvz_10 rfl rfl (Nat.le_of_ble_eq_true rfl) (by omega) ?_
  refine x_if_eq_F (tgt := 35) h (by omega) dX10_take_22 (by decide) (by omega) ?_
  refine x_aload_n h dX10_take_25 rfl ?_
  refine x_dup h dX10_take_26 rfl ?_
  refine x_get (q := vI (i)) h fl_10_199 lvz_10 dX10_take_27 (congrArg vI (by first | exact hi | simp [up3, hi])) ?_
  refine x_iconst h dX10_take_30 ?_
  refine x_iadd h dX10_take_31 ?_
  refine x_put h fl_10_199 lvz_10 dX10_take_32 rfl (fun z => absurd z (by decide)) ?_
  refine x_aload_n h dX10_take_35 rfl ?_
  refine x_get (q := vI (-9)) h fl_10_196 lvz_10 dX10_take_36 (congrArg vI (by first | exact hf2 | simp [up3, hf2])) ?_
  refine x_bipush h dX10_take_39 (by decide) ?_
  refine x_ic_ne_F (tgt := 48) h (by omega) dX10_take_41 (by decide) (by omega) ?_
  refine x_iconst h dX10_take_44 ?_
  refine x_goto (tgt := 49) h dX10_take_45 (by decide) ?_
  exact x_ireturn h hr dX10_take_49 (Or.inr ⟨rfl, by omega⟩) ⟨Nat.le_refl _, Nat.le_refl _⟩
theorem m_take0 {d i : Nat} {σ : Mm} {s : Int} (hT : TS B L N m σ) (hf : σ 10 0 7 = -9) (hi : σ 10 0 6 = i) (hi2 : tq B i ≤ L) (hs : 0 ≤ s ∧ s ≤ 255) (hk : tK B i ≠ s) : Ct (d + 1) mX10_take 1 [vR 10 0, vI s] NALL σ (some (vI 0)) NALL (up3 σ 10 0 7 (tQ B i)) 0 0 := by
  obtain ⟨t1, t2, t3, t4, t5, t6, t7, t8, t9⟩ := tok_in hT hi2
  refine ct_of (by decide) (Nat.le_of_ble_eq_true rfl) (fun C h hr _ => ?_)
  have h : Ok C RX10 cX10_take 2 _ := h
  refine x_aload_n h dX10_take_0 rfl ?_
  refine x_aload_n h dX10_take_1 rfl ?_
  refine x_get h fl_10_13 lvz_10 dX10_take_2 (pvf_533 _ _) ?_
  refine x_aload_n h dX10_take_5 rfl ?_
  refine x_get (q := vI (i)) h fl_10_199 lvz_10 dX10_take_6 (congrArg vI (by first | exact hi | simp [up3, hi])) ?_
  refine x_iald h kdf_33 lvz_33 dX10_take_9 rfl (by omega) ?_
  refine x_iload_n h dX10_take_10 rfl ?_
  refine x_ic_ne_T (tgt := 18) h (by omega) dX10_take_11 (by decide) (by omega) ?_
  refine x_iconst h dX10_take_18 ?_
  refine x_cV1 h kVX10_must lkX10_202 ⟨_, _, _, rfl, rfl⟩ dX10_take_19 (m_must0 (d := d) hf hi t2 t4 ⟨t8, t9⟩) lvz_10 rfl rfl (Nat.le_of_ble_eq_true rfl) (by omega) ?_
  refine x_if_eq_T (tgt := 35) h (by omega) dX10_take_22 (by decide) (by omega) ?_
  refine x_aload_n h dX10_take_35 rfl ?_
  refine x_get (q := vI (tQ B i)) h fl_10_196 lvz_10 dX10_take_36 (congrArg vI (by first | exact up3_s _ _ _ _ _ | simp [up3, up3_s _ _ _ _ _])) ?_
  refine x_bipush h dX10_take_39 (by decide) ?_
  refine x_ic_ne_T (tgt := 48) h (by omega) dX10_take_41 (by decide) (by omega) ?_
  refine x_iconst h dX10_take_48 ?_
  exact x_ireturn h hr dX10_take_49 (Or.inr ⟨rfl, by omega⟩) ⟨Nat.le_refl _, Nat.le_refl _⟩
theorem m_takeF {d i : Nat} {σ : Mm} {s e : Int} (hT : TS B L N m σ) (hf : σ 10 0 7 = e) (he : 0 ≤ e ∧ e ≤ 900) (hi : σ 10 0 6 = i) (hi2 : tq B i ≤ L) (hs : 0 ≤ s ∧ s ≤ 255) : Ct (d + 1) mX10_take 1 [vR 10 0, vI s] NALL σ (some (vI 0)) NALL σ 0 0 := by
  obtain ⟨t1, t2, t3, t4, t5, t6, t7, t8, t9⟩ := tok_in hT hi2
  by_cases hk : tK B i = s
  · refine ct_of (by decide) (Nat.le_of_ble_eq_true rfl) (fun C h hr _ => ?_)
    have h : Ok C RX10 cX10_take 2 _ := h
    refine x_aload_n h dX10_take_0 rfl ?_
    refine x_aload_n h dX10_take_1 rfl ?_
    refine x_get h fl_10_13 lvz_10 dX10_take_2 (pvf_533 _ _) ?_
    refine x_aload_n h dX10_take_5 rfl ?_
    refine x_get (q := vI (i)) h fl_10_199 lvz_10 dX10_take_6 (congrArg vI (by first | exact hi | simp [up3, hi])) ?_
    refine x_iald h kdf_33 lvz_33 dX10_take_9 rfl (by omega) ?_
    refine x_iload_n h dX10_take_10 rfl ?_
    refine x_ic_ne_F (tgt := 18) h (by omega) dX10_take_11 (by decide) (by omega) ?_
    refine x_iconst h dX10_take_14 ?_
    refine x_goto (tgt := 19) h dX10_take_15 (by decide) ?_
    refine x_cV1 h kVX10_must lkX10_202 ⟨_, _, _, rfl, rfl⟩ dX10_take_19 (m_mustF (d := d) hf he (Or.inr rfl)) lvz_10 rfl rfl (Nat.le_of_ble_eq_true rfl) (by omega) ?_
    refine x_if_eq_T (tgt := 35) h (by omega) dX10_take_22 (by decide) (by omega) ?_
    refine x_aload_n h dX10_take_35 rfl ?_
    refine x_get (q := vI (e)) h fl_10_196 lvz_10 dX10_take_36 (congrArg vI (by first | exact hf | simp [up3, hf])) ?_
    refine x_bipush h dX10_take_39 (by decide) ?_
    refine x_ic_ne_T (tgt := 48) h (by omega) dX10_take_41 (by decide) (by omega) ?_
    refine x_iconst h dX10_take_48 ?_
    exact x_ireturn h hr dX10_take_49 (Or.inr ⟨rfl, by omega⟩) ⟨Nat.le_refl _, Nat.le_refl _⟩
  · refine ct_of (by decide) (Nat.le_of_ble_eq_true rfl) (fun C h hr _ => ?_)
    have h : Ok C RX10 cX10_take 2 _ := h
    refine x_aload_n h dX10_take_0 rfl ?_
    refine x_aload_n h dX10_take_1 rfl ?_
    refine x_get h fl_10_13 lvz_10 dX10_take_2 (pvf_533 _ _) ?_
    refine x_aload_n h dX10_take_5 rfl ?_
    refine x_get (q := vI (i)) h fl_10_199 lvz_10 dX10_take_6 (congrArg vI (by first | exact hi | simp [up3, hi])) ?_
    refine x_iald h kdf_33 lvz_33 dX10_take_9 rfl (by omega) ?_
    refine x_iload_n h dX10_take_10 rfl ?_
    refine x_ic_ne_T (tgt := 18) h (by omega) dX10_take_11 (by decide) (by omega) ?_
    refine x_iconst h dX10_take_18 ?_
    refine x_cV1 h kVX10_must lkX10_202 ⟨_, _, _, rfl, rfl⟩ dX10_take_19 (m_mustF (d := d) hf he (Or.inl rfl)) lvz_10 rfl rfl (Nat.le_of_ble_eq_true rfl) (by omega) ?_
    refine x_if_eq_T (tgt := 35) h (by omega) dX10_take_22 (by decide) (by omega) ?_
    refine x_aload_n h dX10_take_35 rfl ?_
    refine x_get (q := vI (e)) h fl_10_196 lvz_10 dX10_take_36 (congrArg vI (by first | exact hf | simp [up3, hf])) ?_
    refine x_bipush h dX10_take_39 (by decide) ?_
    refine x_ic_ne_T (tgt := 48) h (by omega) dX10_take_41 (by decide) (by omega) ?_
    refine x_iconst h dX10_take_48 ?_
    exact x_ireturn h hr dX10_take_49 (Or.inr ⟨rfl, by omega⟩) ⟨Nat.le_refl _, Nat.le_refl _⟩
end SMALL
def emS (σ : Mm) (n : Nat) (x v : Int) : Mm := up3 (up3 (up3 σ 47 0 n x) 48 0 n v) 10 0 16 (n + 1)
theorem m_emit {d n : Nat} {σ : Mm} {x v : Int} (hn : σ 10 0 16 = n) (hn2 : n < 900) : Ct d mX10_emit 1 [vR 10 0, vI x, vL v] NALL σ none NALL (emS σ n x v) 0 0 := by
  refine ct_of (by decide) (Nat.le_of_ble_eq_true rfl) (fun C h hr _ => ?_)
  have h : Ok C RX10 cX10_emit 4 _ := h
  refine x_aload_n h dX10_emit_0 rfl ?_
  refine x_get h fl_10_46 lvz_10 dX10_emit_1 (pvf_547 _ _) ?_
  refine x_aload_n h dX10_emit_4 rfl ?_
  refine x_get (q := vI (n)) h fl_10_206 lvz_10 dX10_emit_5 (congrArg vI (by first | exact hn | simp [up3, hn])) ?_
  refine x_iload_n h dX10_emit_8 rfl ?_
  refine x_iast h kdf_47 lvz_47 dX10_emit_9 rfl (by omega) ?_
  refine x_aload_n h dX10_emit_10 rfl ?_
  refine x_get h fl_10_49 lvz_10 dX10_emit_11 (pvf_548 _ _) ?_
  refine x_aload_n h dX10_emit_14 rfl ?_
  refine x_get (q := vI (n)) h fl_10_206 lvz_10 dX10_emit_15 (congrArg vI (by first | exact hn | simp [up3, hn])) ?_
  refine x_lload_n h dX10_emit_18 rfl ?_
  refine x_last h kdf_48 lvz_48 dX10_emit_19 rfl (by omega) ?_
  refine x_aload_n h dX10_emit_20 rfl ?_
  refine x_dup h dX10_emit_21 rfl ?_
  refine x_get (q := vI (n)) h fl_10_206 lvz_10 dX10_emit_22 (congrArg vI (by first | exact hn | simp [up3, hn])) ?_
  refine x_iconst h dX10_emit_25 ?_
  refine x_iadd h dX10_emit_26 ?_
  refine x_put h fl_10_206 lvz_10 dX10_emit_27 rfl (fun z => absurd z (by decide)) ?_
  exact x_return h hr dX10_emit_30 ⟨Nat.le_refl _, Nat.le_refl _⟩
def puS (σ : Mm) (n : Nat) (k at_ : Int) : Mm := up3 (up3 (up3 (up3 σ 57 0 n k) 58 0 n 0) 59 0 n at_) 10 0 26 (n + 1)
theorem m_push {d n : Nat} {σ : Mm} {k v : Int} (hn : σ 10 0 26 = n) (hn2 : n < 64) : Ct d mX10_push 1 [vR 10 0, vI k, vI v] NALL σ none NALL (puS σ n k v) 0 0 := by
  refine ct_of (by decide) (Nat.le_of_ble_eq_true rfl) (fun C h hr _ => ?_)
  have h : Ok C RX10 cX10_push 3 _ := h
  refine x_aload_n h dX10_push_0 rfl ?_
  refine x_get h fl_10_67 lvz_10 dX10_push_1 (pvf_557 _ _) ?_
  refine x_aload_n h dX10_push_4 rfl ?_
  refine x_get (q := vI (n)) h fl_10_224 lvz_10 dX10_push_5 (congrArg vI (by first | exact hn | simp [up3, hn])) ?_
  refine x_iload_n h dX10_push_8 rfl ?_
  refine x_iast h kdf_57 lvz_57 dX10_push_9 rfl (by omega) ?_
  refine x_aload_n h dX10_push_10 rfl ?_
  refine x_get h fl_10_70 lvz_10 dX10_push_11 (pvf_558 _ _) ?_
  refine x_aload_n h dX10_push_14 rfl ?_
  refine x_get (q := vI (n)) h fl_10_224 lvz_10 dX10_push_15 (congrArg vI (by first | exact hn | simp [up3, hn])) ?_
  refine x_iconst h dX10_push_18 ?_
  refine x_iast h kdf_58 lvz_58 dX10_push_19 rfl (by omega) ?_
  refine x_aload_n h dX10_push_20 rfl ?_
  refine x_get h fl_10_73 lvz_10 dX10_push_21 (pvf_559 _ _) ?_
  refine x_aload_n h dX10_push_24 rfl ?_
  refine x_get (q := vI (n)) h fl_10_224 lvz_10 dX10_push_25 (congrArg vI (by first | exact hn | simp [up3, hn])) ?_
  refine x_iload_n h dX10_push_28 rfl ?_
  refine x_iast h kdf_59 lvz_59 dX10_push_29 rfl (by omega) ?_
  refine x_aload_n h dX10_push_30 rfl ?_
  refine x_dup h dX10_push_31 rfl ?_
  refine x_get (q := vI (n)) h fl_10_224 lvz_10 dX10_push_32 (congrArg vI (by first | exact hn | simp [up3, hn])) ?_
  refine x_iconst h dX10_push_35 ?_
  refine x_iadd h dX10_push_36 ?_
  refine x_put h fl_10_224 lvz_10 dX10_push_37 rfl (fun z => absurd z (by decide)) ?_
  exact x_return h hr dX10_push_40 ⟨Nat.le_refl _, Nat.le_refl _⟩
def usS (σ : Mm) (n m i b : Nat) : Mm := up3 (up3 (up3 (up3 (up3 σ 53 0 n i) 54 0 n m) 55 0 n b) 10 0 22 (n + 1)) 10 0 6 (i + 1)
theorem m_use1 {B : Nat → Int} {L N m : Nat} {d n i b : Nat} {σ : Mm} (hT : TS B L N m σ) (hf : σ 10 0 7 = -9) (hi : σ 10 0 6 = i) (hi2 : tq B i ≤ L) (hk : tK B i = 2) (hn : σ 10 0 22 = n) (hn2 : n ≤ 900) (hb : b ≤ 1) : Ct (d + 1) mX10_use 1 [vR 10 0, vI b] NALL σ none NALL (usS σ n m i b) 0 0 := by
  obtain ⟨t1, t2, t3, t4, t5, t6, t7, t8, t9⟩ := tok_in hT hi2
  have hm := hT.2.2.2.2.1
  have hm2 := hT.2.2.2.2.2
  refine ct_of (by decide) (Nat.le_of_ble_eq_true rfl) (fun C h hr _ => ?_)
  have h : Ok C RX10 cX10_use 2 _ := h
  refine x_aload_n h dX10_use_0 rfl ?_
  refine x_aload_n h dX10_use_1 rfl ?_
  refine x_get h fl_10_13 lvz_10 dX10_use_2 (pvf_533 _ _) ?_
  refine x_aload_n h dX10_use_5 rfl ?_
  refine x_get (q := vI (i)) h fl_10_199 lvz_10 dX10_use_6 (congrArg vI (by first | exact hi | simp [up3, hi])) ?_
  refine x_iald h kdf_33 lvz_33 dX10_use_9 rfl (by omega) ?_
  refine x_iconst h dX10_use_10 ?_
  refine x_ic_ne_F (tgt := 18) h (by omega) dX10_use_11 (by decide) (by omega) ?_
  refine x_iconst h dX10_use_14 ?_
  refine x_goto (tgt := 19) h dX10_use_15 (by decide) ?_
  refine x_cV1 h kVX10_must lkX10_202 ⟨_, _, _, rfl, rfl⟩ dX10_use_19 (m_must1 (d := d) hf) lvz_10 rfl rfl (Nat.le_of_ble_eq_true rfl) (by omega) ?_
  refine x_if_eq_F (tgt := 81) h (by omega) dX10_use_22 (by decide) (by omega) ?_
  refine x_aload_n h dX10_use_25 rfl ?_
  refine x_get h fl_10_58 lvz_10 dX10_use_26 (pvf_553 _ _) ?_
  refine x_aload_n h dX10_use_29 rfl ?_
  refine x_get (q := vI (n)) h fl_10_209 lvz_10 dX10_use_30 (congrArg vI (by first | exact hn | simp [up3, hn])) ?_
  refine x_aload_n h dX10_use_33 rfl ?_
  refine x_get (q := vI (i)) h fl_10_199 lvz_10 dX10_use_34 (congrArg vI (by first | exact hi | simp [up3, hi])) ?_
  refine x_iast h kdf_53 lvz_53 dX10_use_37 rfl (by omega) ?_
  refine x_aload_n h dX10_use_38 rfl ?_
  refine x_get h fl_10_61 lvz_10 dX10_use_39 (pvf_554 _ _) ?_
  refine x_aload_n h dX10_use_42 rfl ?_
  refine x_get (q := vI (n)) h fl_10_209 lvz_10 dX10_use_43 (congrArg vI (by first | exact hn | simp [up3, hn])) ?_
  refine x_aload_n h dX10_use_46 rfl ?_
  refine x_get (q := vI (m)) h fl_10_212 lvz_10 dX10_use_47 (congrArg vI (by first | exact hm | simp [up3, hm])) ?_
  refine x_iast h kdf_54 lvz_54 dX10_use_50 rfl (by omega) ?_
  refine x_aload_n h dX10_use_51 rfl ?_
  refine x_get h fl_10_64 lvz_10 dX10_use_52 (pvf_555 _ _) ?_
  refine x_aload_n h dX10_use_55 rfl ?_
  refine x_get (q := vI (n)) h fl_10_209 lvz_10 dX10_use_56 (congrArg vI (by first | exact hn | simp [up3, hn])) ?_
  refine x_iload_n h dX10_use_59 rfl ?_
  refine x_zast h kdf_55 lvz_55 (by omega) dX10_use_60 rfl (by omega) ?_
  refine x_aload_n h dX10_use_61 rfl ?_
  refine x_dup h dX10_use_62 rfl ?_
  refine x_get (q := vI (n)) h fl_10_209 lvz_10 dX10_use_63 (congrArg vI (by first | exact hn | simp [up3, hn])) ?_
  refine x_iconst h dX10_use_66 ?_
  refine x_iadd h dX10_use_67 ?_
  refine x_put h fl_10_209 lvz_10 dX10_use_68 rfl (fun z => absurd z (by decide)) ?_
  refine x_aload_n h dX10_use_71 rfl ?_
  refine x_dup h dX10_use_72 rfl ?_
  refine x_get (q := vI (i)) h fl_10_199 lvz_10 dX10_use_73 (congrArg vI (by first | exact hi | simp [up3, hi])) ?_
  refine x_iconst h dX10_use_76 ?_
  refine x_iadd h dX10_use_77 ?_
  refine x_put h fl_10_199 lvz_10 dX10_use_78 rfl (fun z => absurd z (by decide)) ?_
  exact x_return h hr dX10_use_81 ⟨Nat.le_refl _, Nat.le_refl _⟩
theorem m_use0 {B : Nat → Int} {L N m : Nat} {d i : Nat} {b : Int} {σ : Mm} (hT : TS B L N m σ) (hf : σ 10 0 7 = -9) (hi : σ 10 0 6 = i) (hi2 : tq B i ≤ L) (hk : tK B i ≠ 2) : Ct (d + 1) mX10_use 1 [vR 10 0, vI b] NALL σ none NALL (up3 σ 10 0 7 (tQ B i)) 0 0 := by
  obtain ⟨t1, t2, t3, t4, t5, t6, t7, t8, t9⟩ := tok_in hT hi2
  refine ct_of (by decide) (Nat.le_of_ble_eq_true rfl) (fun C h hr _ => ?_)
  have h : Ok C RX10 cX10_use 2 _ := h
  refine x_aload_n h dX10_use_0 rfl ?_
  refine x_aload_n h dX10_use_1 rfl ?_
  refine x_get h fl_10_13 lvz_10 dX10_use_2 (pvf_533 _ _) ?_
  refine x_aload_n h dX10_use_5 rfl ?_
  refine x_get (q := vI (i)) h fl_10_199 lvz_10 dX10_use_6 (congrArg vI (by first | exact hi | simp [up3, hi])) ?_
  refine x_iald h kdf_33 lvz_33 dX10_use_9 rfl (by omega) ?_
  refine x_iconst h dX10_use_10 ?_
  refine x_ic_ne_T (tgt := 18) h (by omega) dX10_use_11 (by decide) (by omega) ?_
  refine x_iconst h dX10_use_18 ?_
  refine x_cV1 h kVX10_must lkX10_202 ⟨_, _, _, rfl, rfl⟩ dX10_use_19 (m_must0 (d := d) hf hi t2 t4 ⟨t8, t9⟩) lvz_10 rfl rfl (Nat.le_of_ble_eq_true rfl) (by omega) ?_
  refine x_if_eq_T (tgt := 81) h (by omega) dX10_use_22 (by decide) (by omega) ?_
  exact x_return h hr dX10_use_81 ⟨Nat.le_refl _, Nat.le_refl _⟩
theorem m_top0 {d : Nat} {σ : Mm} (hn : σ 10 0 26 = 0) : Ct d mX10_top 1 [vR 10 0] NALL σ (some (vI 0)) NALL σ 0 0 := by
  refine ct_of (by decide) (Nat.le_of_ble_eq_true rfl) (fun C h hr _ => ?_)
  have h : Ok C RX10 cX10_top 1 _ := h
  refine x_aload_n h dX10_top_0 rfl ?_
  refine x_get (q := vI (0)) h fl_10_224 lvz_10 dX10_top_1 (congrArg vI (by first | exact hn | simp [up3, hn])) ?_
  refine x_if_ne_F (tgt := 11) h (by omega) dX10_top_4 (by decide) (by omega) ?_
  refine x_iconst h dX10_top_7 ?_
  refine x_goto (tgt := 22) h dX10_top_8 (by decide) ?_
  exact x_ireturn h hr dX10_top_22 (Or.inl rfl) ⟨Nat.le_refl _, Nat.le_refl _⟩
theorem m_top1 {d n : Nat} {σ : Mm} {k : Int} (hn : σ 10 0 26 = ((n + 1 : Nat) : Int)) (hn2 : n < 64) (hk : σ 57 0 n = k) : Ct d mX10_top 1 [vR 10 0] NALL σ (some (vI k)) NALL σ 0 0 := by
  subst hk
  have e : ((n + 1 : Nat) : Int) - 1 = n := by omega
  refine ct_of (by decide) (Nat.le_of_ble_eq_true rfl) (fun C h hr _ => ?_)
  have h : Ok C RX10 cX10_top 1 _ := h
  refine x_aload_n h dX10_top_0 rfl ?_
  refine x_get (q := vI (((n + 1 : Nat) : Int))) h fl_10_224 lvz_10 dX10_top_1 (congrArg vI (by first | exact hn | simp [up3, hn])) ?_
  refine x_if_ne_T (tgt := 11) h (by omega) dX10_top_4 (by decide) (by omega) ?_
  refine x_aload_n h dX10_top_11 rfl ?_
  refine x_get h fl_10_67 lvz_10 dX10_top_12 (pvf_557 _ _) ?_
  refine x_aload_n h dX10_top_15 rfl ?_
  refine x_get (q := vI (((n + 1 : Nat) : Int))) h fl_10_224 lvz_10 dX10_top_16 (congrArg vI (by first | exact hn | simp [up3, hn])) ?_
  refine x_iconst h dX10_top_19 ?_
  refine x_isub h dX10_top_20 ?_
  rw [e]
  refine x_iald h kdf_57 lvz_57 dX10_top_21 rfl (by omega) ?_
  exact x_ireturn h hr dX10_top_22 (Or.inl rfl) ⟨Nat.le_refl _, Nat.le_refl _⟩
def actF (k : Int) : Int := if k = 43 then 6 else if k = 45 then 7 else if k = 42 then 8 else if k = 47 then 9 else 10
theorem m_actOf {d : Nat} {σ : Mm} {k : Int} (hk : 0 ≤ k ∧ k ≤ 255) : Ct d mX10_actOf 1 [vI k] NALL σ (some (vI (actF k))) NALL σ 0 0 := by
  unfold actF
  by_cases h1 : k = 43
  · rw [if_pos h1]
    refine ct_of (by decide) (Nat.le_of_ble_eq_true rfl) (fun C h hr _ => ?_)
    have h : Ok C RX10 cX10_actOf 1 _ := h
    refine x_iload_n h dX10_actOf_0 rfl ?_
    refine x_bipush h dX10_actOf_1 (by decide) ?_
    refine x_ic_ne_F (tgt := 11) h (by omega) dX10_actOf_3 (by decide) (by omega) ?_
    refine x_bipush h dX10_actOf_6 (by decide) ?_
    refine x_goto (tgt := 46) h dX10_actOf_8 (by decide) ?_
    exact x_ireturn h hr dX10_actOf_46 (Or.inl rfl) ⟨Nat.le_refl _, Nat.le_refl _⟩
  · rw [if_neg h1]
    by_cases h2 : k = 45
    · rw [if_pos h2]
      refine ct_of (by decide) (Nat.le_of_ble_eq_true rfl) (fun C h hr _ => ?_)
      have h : Ok C RX10 cX10_actOf 1 _ := h
      refine x_iload_n h dX10_actOf_0 rfl ?_
      refine x_bipush h dX10_actOf_1 (by decide) ?_
      refine x_ic_ne_T (tgt := 11) h (by omega) dX10_actOf_3 (by decide) (by omega) ?_
      refine x_iload_n h dX10_actOf_11 rfl ?_
      refine x_bipush h dX10_actOf_12 (by decide) ?_
      refine x_ic_ne_F (tgt := 22) h (by omega) dX10_actOf_14 (by decide) (by omega) ?_
      refine x_bipush h dX10_actOf_17 (by decide) ?_
      refine x_goto (tgt := 46) h dX10_actOf_19 (by decide) ?_
      exact x_ireturn h hr dX10_actOf_46 (Or.inl rfl) ⟨Nat.le_refl _, Nat.le_refl _⟩
    · rw [if_neg h2]
      by_cases h3 : k = 42
      · rw [if_pos h3]
        refine ct_of (by decide) (Nat.le_of_ble_eq_true rfl) (fun C h hr _ => ?_)
        have h : Ok C RX10 cX10_actOf 1 _ := h
        refine x_iload_n h dX10_actOf_0 rfl ?_
        refine x_bipush h dX10_actOf_1 (by decide) ?_
        refine x_ic_ne_T (tgt := 11) h (by omega) dX10_actOf_3 (by decide) (by omega) ?_
        refine x_iload_n h dX10_actOf_11 rfl ?_
        refine x_bipush h dX10_actOf_12 (by decide) ?_
        refine x_ic_ne_T (tgt := 22) h (by omega) dX10_actOf_14 (by decide) (by omega) ?_
        refine x_iload_n h dX10_actOf_22 rfl ?_
        refine x_bipush h dX10_actOf_23 (by decide) ?_
        refine x_ic_ne_F (tgt := 33) h (by omega) dX10_actOf_25 (by decide) (by omega) ?_
        refine x_bipush h dX10_actOf_28 (by decide) ?_
        refine x_goto (tgt := 46) h dX10_actOf_30 (by decide) ?_
        exact x_ireturn h hr dX10_actOf_46 (Or.inl rfl) ⟨Nat.le_refl _, Nat.le_refl _⟩
      · rw [if_neg h3]
        by_cases h4 : k = 47
        · rw [if_pos h4]
          refine ct_of (by decide) (Nat.le_of_ble_eq_true rfl) (fun C h hr _ => ?_)
          have h : Ok C RX10 cX10_actOf 1 _ := h
          refine x_iload_n h dX10_actOf_0 rfl ?_
          refine x_bipush h dX10_actOf_1 (by decide) ?_
          refine x_ic_ne_T (tgt := 11) h (by omega) dX10_actOf_3 (by decide) (by omega) ?_
          refine x_iload_n h dX10_actOf_11 rfl ?_
          refine x_bipush h dX10_actOf_12 (by decide) ?_
          refine x_ic_ne_T (tgt := 22) h (by omega) dX10_actOf_14 (by decide) (by omega) ?_
          refine x_iload_n h dX10_actOf_22 rfl ?_
          refine x_bipush h dX10_actOf_23 (by decide) ?_
          refine x_ic_ne_T (tgt := 33) h (by omega) dX10_actOf_25 (by decide) (by omega) ?_
          refine x_iload_n h dX10_actOf_33 rfl ?_
          refine x_bipush h dX10_actOf_34 (by decide) ?_
          refine x_ic_ne_F (tgt := 44) h (by omega) dX10_actOf_36 (by decide) (by omega) ?_
          refine x_bipush h dX10_actOf_39 (by decide) ?_
          refine x_goto (tgt := 46) h dX10_actOf_41 (by decide) ?_
          exact x_ireturn h hr dX10_actOf_46 (Or.inl rfl) ⟨Nat.le_refl _, Nat.le_refl _⟩
        · rw [if_neg h4]
          refine ct_of (by decide) (Nat.le_of_ble_eq_true rfl) (fun C h hr _ => ?_)
          have h : Ok C RX10 cX10_actOf 1 _ := h
          refine x_iload_n h dX10_actOf_0 rfl ?_
          refine x_bipush h dX10_actOf_1 (by decide) ?_
          refine x_ic_ne_T (tgt := 11) h (by omega) dX10_actOf_3 (by decide) (by omega) ?_
          refine x_iload_n h dX10_actOf_11 rfl ?_
          refine x_bipush h dX10_actOf_12 (by decide) ?_
          refine x_ic_ne_T (tgt := 22) h (by omega) dX10_actOf_14 (by decide) (by omega) ?_
          refine x_iload_n h dX10_actOf_22 rfl ?_
          refine x_bipush h dX10_actOf_23 (by decide) ?_
          refine x_ic_ne_T (tgt := 33) h (by omega) dX10_actOf_25 (by decide) (by omega) ?_
          refine x_iload_n h dX10_actOf_33 rfl ?_
          refine x_bipush h dX10_actOf_34 (by decide) ?_
          refine x_ic_ne_T (tgt := 44) h (by omega) dX10_actOf_36 (by decide) (by omega) ?_
          refine x_bipush h dX10_actOf_44 (by decide) ?_
          exact x_ireturn h hr dX10_actOf_46 (Or.inl rfl) ⟨Nat.le_refl _, Nat.le_refl _⟩
abbrev isLo (k : Int) : Prop := k = 43 ∨ k = 45
abbrev isHi (k : Int) : Prop := k = 42 ∨ k = 47 ∨ k = 37
theorem m_isLow {d : Nat} {σ : Mm} {k : Int} (hk : 0 ≤ k ∧ k ≤ 255) : Ct d mX10_isLow 1 [vR 10 0, vI k] NALL σ (some (vI (if isLo k then 1 else 0))) NALL σ 0 0 := by
  by_cases h1 : k = 43
  · rw [if_pos (Or.inl h1)]
    refine ct_of (by decide) (Nat.le_of_ble_eq_true rfl) (fun C h hr _ => ?_)
    have h : Ok C RX10 cX10_isLow 2 _ := h
    refine x_iload_n h dX10_isLow_0 rfl ?_
    refine x_bipush h dX10_isLow_1 (by decide) ?_
    refine x_ic_eq_T (tgt := 12) h (by omega) dX10_isLow_3 (by decide) (by omega) ?_
    refine x_iconst h dX10_isLow_12 ?_
    refine x_goto (tgt := 17) h dX10_isLow_13 (by decide) ?_
    exact x_ireturn h hr dX10_isLow_17 (Or.inr ⟨rfl, by omega⟩) ⟨Nat.le_refl _, Nat.le_refl _⟩
  · by_cases h2 : k = 45
    · rw [if_pos (Or.inr h2)]
      refine ct_of (by decide) (Nat.le_of_ble_eq_true rfl) (fun C h hr _ => ?_)
      have h : Ok C RX10 cX10_isLow 2 _ := h
      refine x_iload_n h dX10_isLow_0 rfl ?_
      refine x_bipush h dX10_isLow_1 (by decide) ?_
      refine x_ic_eq_F (tgt := 12) h (by omega) dX10_isLow_3 (by decide) (by omega) ?_
      refine x_iload_n h dX10_isLow_6 rfl ?_
      refine x_bipush h dX10_isLow_7 (by decide) ?_
      refine x_ic_ne_F (tgt := 16) h (by omega) dX10_isLow_9 (by decide) (by omega) ?_
      refine x_iconst h dX10_isLow_12 ?_
      refine x_goto (tgt := 17) h dX10_isLow_13 (by decide) ?_
      exact x_ireturn h hr dX10_isLow_17 (Or.inr ⟨rfl, by omega⟩) ⟨Nat.le_refl _, Nat.le_refl _⟩
    · rw [if_neg (by omega)]
      refine ct_of (by decide) (Nat.le_of_ble_eq_true rfl) (fun C h hr _ => ?_)
      have h : Ok C RX10 cX10_isLow 2 _ := h
      refine x_iload_n h dX10_isLow_0 rfl ?_
      refine x_bipush h dX10_isLow_1 (by decide) ?_
      refine x_ic_eq_F (tgt := 12) h (by omega) dX10_isLow_3 (by decide) (by omega) ?_
      refine x_iload_n h dX10_isLow_6 rfl ?_
      refine x_bipush h dX10_isLow_7 (by decide) ?_
      refine x_ic_ne_T (tgt := 16) h (by omega) dX10_isLow_9 (by decide) (by omega) ?_
      refine x_iconst h dX10_isLow_16 ?_
      exact x_ireturn h hr dX10_isLow_17 (Or.inr ⟨rfl, by omega⟩) ⟨Nat.le_refl _, Nat.le_refl _⟩
theorem m_isHigh {d : Nat} {σ : Mm} {k : Int} (hk : 0 ≤ k ∧ k ≤ 255) : Ct d mX10_isHigh 1 [vR 10 0, vI k] NALL σ (some (vI (if isHi k then 1 else 0))) NALL σ 0 0 := by
  by_cases h1 : k = 42
  · rw [if_pos (Or.inl h1)]
    refine ct_of (by decide) (Nat.le_of_ble_eq_true rfl) (fun C h hr _ => ?_)
    have h : Ok C RX10 cX10_isHigh 2 _ := h
    refine x_iload_n h dX10_isHigh_0 rfl ?_
    refine x_bipush h dX10_isHigh_1 (by decide) ?_
    refine x_ic_eq_T (tgt := 18) h (by omega) dX10_isHigh_3 (by decide) (by omega) ?_
    refine x_iconst h dX10_isHigh_18 ?_
    refine x_goto (tgt := 23) h dX10_isHigh_19 (by decide) ?_
    exact x_ireturn h hr dX10_isHigh_23 (Or.inr ⟨rfl, by omega⟩) ⟨Nat.le_refl _, Nat.le_refl _⟩
  · by_cases h2 : k = 47
    · rw [if_pos (Or.inr (Or.inl h2))]
      refine ct_of (by decide) (Nat.le_of_ble_eq_true rfl) (fun C h hr _ => ?_)
      have h : Ok C RX10 cX10_isHigh 2 _ := h
      refine x_iload_n h dX10_isHigh_0 rfl ?_
      refine x_bipush h dX10_isHigh_1 (by decide) ?_
      refine x_ic_eq_F (tgt := 18) h (by omega) dX10_isHigh_3 (by decide) (by omega) ?_
      refine x_iload_n h dX10_isHigh_6 rfl ?_
      refine x_bipush h dX10_isHigh_7 (by decide) ?_
      refine x_ic_eq_T (tgt := 18) h (by omega) dX10_isHigh_9 (by decide) (by omega) ?_
      refine x_iconst h dX10_isHigh_18 ?_
      refine x_goto (tgt := 23) h dX10_isHigh_19 (by decide) ?_
      exact x_ireturn h hr dX10_isHigh_23 (Or.inr ⟨rfl, by omega⟩) ⟨Nat.le_refl _, Nat.le_refl _⟩
    · by_cases h3 : k = 37
      · rw [if_pos (Or.inr (Or.inr h3))]
        refine ct_of (by decide) (Nat.le_of_ble_eq_true rfl) (fun C h hr _ => ?_)
        have h : Ok C RX10 cX10_isHigh 2 _ := h
        refine x_iload_n h dX10_isHigh_0 rfl ?_
        refine x_bipush h dX10_isHigh_1 (by decide) ?_
        refine x_ic_eq_F (tgt := 18) h (by omega) dX10_isHigh_3 (by decide) (by omega) ?_
        refine x_iload_n h dX10_isHigh_6 rfl ?_
        refine x_bipush h dX10_isHigh_7 (by decide) ?_
        refine x_ic_eq_F (tgt := 18) h (by omega) dX10_isHigh_9 (by decide) (by omega) ?_
        refine x_iload_n h dX10_isHigh_12 rfl ?_
        refine x_bipush h dX10_isHigh_13 (by decide) ?_
        refine x_ic_ne_F (tgt := 22) h (by omega) dX10_isHigh_15 (by decide) (by omega) ?_
        refine x_iconst h dX10_isHigh_18 ?_
        refine x_goto (tgt := 23) h dX10_isHigh_19 (by decide) ?_
        exact x_ireturn h hr dX10_isHigh_23 (Or.inr ⟨rfl, by omega⟩) ⟨Nat.le_refl _, Nat.le_refl _⟩
      · rw [if_neg (by omega)]
        refine ct_of (by decide) (Nat.le_of_ble_eq_true rfl) (fun C h hr _ => ?_)
        have h : Ok C RX10 cX10_isHigh 2 _ := h
        refine x_iload_n h dX10_isHigh_0 rfl ?_
        refine x_bipush h dX10_isHigh_1 (by decide) ?_
        refine x_ic_eq_F (tgt := 18) h (by omega) dX10_isHigh_3 (by decide) (by omega) ?_
        refine x_iload_n h dX10_isHigh_6 rfl ?_
        refine x_bipush h dX10_isHigh_7 (by decide) ?_
        refine x_ic_eq_F (tgt := 18) h (by omega) dX10_isHigh_9 (by decide) (by omega) ?_
        refine x_iload_n h dX10_isHigh_12 rfl ?_
        refine x_bipush h dX10_isHigh_13 (by decide) ?_
        refine x_ic_ne_T (tgt := 22) h (by omega) dX10_isHigh_15 (by decide) (by omega) ?_
        refine x_iconst h dX10_isHigh_22 ?_
        exact x_ireturn h hr dX10_isHigh_23 (Or.inr ⟨rfl, by omega⟩) ⟨Nat.le_refl _, Nat.le_refl _⟩
/-! the state of the reader changes -/
theorem StkR_fr {σ σ' : Mm} : ∀ (S : List Fr3), (∀ f j, (f = 57 ∨ f = 58 ∨ f = 59) → j < S.length → σ' f 0 j = σ f 0 j) → StkR σ S → StkR σ' S := by
  intro S
  induction S with
  | nil => intro _ _; trivial
  | cons z S ih =>
    intro h hs
    obtain ⟨a1, a2, a3, a4⟩ := hs
    exact ⟨by rw [h 57 _ (by omega) (by simp only [List.length_cons]; omega)]; exact a1, by rw [h 58 _ (by omega) (by simp only [List.length_cons]; omega)]; exact a2, by rw [h 59 _ (by omega) (by simp only [List.length_cons]; omega)]; exact a3, ih (fun f j hf hj => h f j hf (by simp only [List.length_cons]; omega)) a4⟩
theorem ActsR_fr {σ σ' : Mm} {A : List (Int × Int)} (h : ActsR σ A) (hf : ∀ f j, (f = 47 ∨ f = 48 ∨ (f = 10 ∧ j = 16)) → σ' f 0 j = σ f 0 j) : ActsR σ' A := ⟨by rw [hf _ _ (by omega)]; exact h.1, fun j hj => ⟨by rw [hf _ _ (by omega)]; exact (h.2 j hj).1, by rw [hf _ _ (by omega)]; exact (h.2 j hj).2⟩⟩
theorem UseR_fr {σ σ' : Mm} {U : List Us3} (h : UseR σ U) (hf : ∀ f j, (f = 53 ∨ f = 54 ∨ f = 55 ∨ (f = 10 ∧ j = 22)) → σ' f 0 j = σ f 0 j) : UseR σ' U := ⟨by rw [hf _ _ (by omega)]; exact h.1, fun j hj => ⟨by rw [hf _ _ (by omega)]; exact (h.2 j hj).1, by rw [hf _ _ (by omega)]; exact (h.2 j hj).2.1, by rw [hf _ _ (by omega)]; exact (h.2 j hj).2.2⟩⟩
theorem up3_n {σ : Mm} {f k j f' k' j' : Nat} (x : Int) (h : ¬ (f' = f ∧ j' = j)) : up3 σ f k j x f' k' j' = σ f' k' j' := by
  unfold up3
  rw [if_neg (fun z => h ⟨z.1, z.2.2⟩)]
theorem PR_tok {σ : Mm} {i u a : Nat} {A : List (Int × Int)} {S : List Fr3} {U : List Us3} (h : PRl σ i u a A S U) (x : Nat) : PRl (up3 σ 10 0 6 x) x u a A S U := by
  obtain ⟨h1, h2, h3, h4, h5, ⟨h6, h7⟩, h8⟩ := h
  exact ⟨up3_s _ _ _ _ _, by rw [up3_n _ (by omega)]; exact h2, by rw [up3_n _ (by omega)]; exact h3, by rw [up3_n _ (by omega)]; exact h4, ActsR_fr h5 (fun f j hf => up3_n _ (by omega)), ⟨by rw [up3_n _ (by omega)]; exact h6, StkR_fr S (fun f j hf _ => up3_n _ (by omega)) h7⟩, UseR_fr h8 (fun f j hf => up3_n _ (by omega))⟩
theorem PR_u {σ : Mm} {i u a : Nat} {A : List (Int × Int)} {S : List Fr3} {U : List Us3} (h : PRl σ i u a A S U) (x : Nat) : PRl (up3 σ 10 0 30 x) i x a A S U := by
  obtain ⟨h1, h2, h3, h4, h5, ⟨h6, h7⟩, h8⟩ := h
  exact ⟨by rw [up3_n _ (by omega)]; exact h1, by rw [up3_n _ (by omega)]; exact h2, up3_s _ _ _ _ _, by rw [up3_n _ (by omega)]; exact h4, ActsR_fr h5 (fun f j hf => up3_n _ (by omega)), ⟨by rw [up3_n _ (by omega)]; exact h6, StkR_fr S (fun f j hf _ => up3_n _ (by omega)) h7⟩, UseR_fr h8 (fun f j hf => up3_n _ (by omega))⟩
theorem PR_a {σ : Mm} {i u a : Nat} {A : List (Int × Int)} {S : List Fr3} {U : List Us3} (h : PRl σ i u a A S U) (x : Nat) : PRl (up3 σ 10 0 31 x) i u x A S U := by
  obtain ⟨h1, h2, h3, h4, h5, ⟨h6, h7⟩, h8⟩ := h
  exact ⟨by rw [up3_n _ (by omega)]; exact h1, by rw [up3_n _ (by omega)]; exact h2, by rw [up3_n _ (by omega)]; exact h3, up3_s _ _ _ _ _, ActsR_fr h5 (fun f j hf => up3_n _ (by omega)), ⟨by rw [up3_n _ (by omega)]; exact h6, StkR_fr S (fun f j hf _ => up3_n _ (by omega)) h7⟩, UseR_fr h8 (fun f j hf => up3_n _ (by omega))⟩
theorem PR_pop {σ : Mm} {i u a : Nat} {A : List (Int × Int)} {z : Fr3} {S : List Fr3} {U : List Us3} (h : PRl σ i u a A (z :: S) U) : PRl (up3 σ 10 0 26 S.length) i u a A S U := by
  obtain ⟨h1, h2, h3, h4, h5, ⟨h6, h7⟩, h8⟩ := h
  exact ⟨by rw [up3_n _ (by omega)]; exact h1, by rw [up3_n _ (by omega)]; exact h2, by rw [up3_n _ (by omega)]; exact h3, by rw [up3_n _ (by omega)]; exact h4, ActsR_fr h5 (fun f j hf => up3_n _ (by omega)), ⟨up3_s _ _ _ _ _, StkR_fr S (fun f j hf _ => up3_n _ (by omega)) h7.2.2.2⟩, UseR_fr h8 (fun f j hf => up3_n _ (by omega))⟩
theorem getD_app {α : Type} {l : List α} {x d : α} {j : Nat} (hj : j < (l ++ [x]).length) : (j < l.length ∧ (l ++ [x]).getD j d = l.getD j d) ∨ (j = l.length ∧ (l ++ [x]).getD j d = x) := by
  rcases Nat.lt_or_ge j l.length with h | h
  · refine Or.inl ⟨h, ?_⟩
    rw [List.getD_eq_getElem?_getD, List.getD_eq_getElem?_getD, List.getElem?_append_left h]
  · simp only [List.length_append, List.length_cons, List.length_nil] at hj
    obtain rfl : j = l.length := by omega
    refine Or.inr ⟨rfl, ?_⟩
    rw [List.getD_eq_getElem?_getD, List.getElem?_append_right (Nat.le_refl _), Nat.sub_self]
    rfl
theorem PR_emit {σ : Mm} {i u a : Nat} {A : List (Int × Int)} {S : List Fr3} {U : List Us3} (h : PRl σ i u a A S U) (x v : Int) : PRl (emS σ A.length x v) i u a (A ++ [(x, v)]) S U ∧ FrP (emS σ A.length x v) σ := by
  obtain ⟨h1, h2, h3, h4, ⟨h5, h5b⟩, ⟨h6, h7⟩, h8⟩ := h
  unfold emS
  refine ⟨⟨?_, ?_, ?_, ?_, ⟨?_, fun j hj => ?_⟩, ⟨?_, ?_⟩, ?_⟩, FrP_up (FrP_up (FrP_up (FrP_refl σ) _ (by omega)) _ (by omega)) _ (by omega)⟩
  · rw [up3_n _ (by omega), up3_n _ (by omega), up3_n _ (by omega)]; exact h1
  · rw [up3_n _ (by omega), up3_n _ (by omega), up3_n _ (by omega)]; exact h2
  · rw [up3_n _ (by omega), up3_n _ (by omega), up3_n _ (by omega)]; exact h3
  · rw [up3_n _ (by omega), up3_n _ (by omega), up3_n _ (by omega)]; exact h4
  · rw [up3_s, List.length_append]; rfl
  · rcases getD_app (d := ((0 : Int), (0 : Int))) hj with ⟨q1, q2⟩ | ⟨q1, q2⟩
    · rw [q2, up3_n _ (by omega), up3_n _ (by omega), up3_n _ (by omega), up3_n _ (by omega), up3_n _ (by omega), up3_n _ (by omega)]
      exact h5b j q1
    · rw [q2, q1]
      constructor
      · rw [up3_n _ (by omega), up3_n _ (by omega), up3_s]
      · rw [up3_n _ (by omega), up3_s]
  · rw [up3_n _ (by omega), up3_n _ (by omega), up3_n _ (by omega)]; exact h6
  · exact StkR_fr S (fun f j hf _ => by rw [up3_n _ (by omega), up3_n _ (by omega), up3_n _ (by omega)]) h7
  · exact UseR_fr h8 (fun f j hf => by rw [up3_n _ (by omega), up3_n _ (by omega), up3_n _ (by omega)])
theorem PR_push {σ : Mm} {i u a : Nat} {A : List (Int × Int)} {S : List Fr3} {U : List Us3} (h : PRl σ i u a A S U) (k v : Int) : PRl (puS σ S.length k v) i u a A ((k, 0, v) :: S) U ∧ FrP (puS σ S.length k v) σ := by
  obtain ⟨h1, h2, h3, h4, h5, ⟨h6, h7⟩, h8⟩ := h
  unfold puS
  refine ⟨⟨?_, ?_, ?_, ?_, ?_, ⟨?_, ?_, ?_, ?_, ?_⟩, ?_⟩, FrP_up (FrP_up (FrP_up (FrP_up (FrP_refl σ) _ (by omega)) _ (by omega)) _ (by omega)) _ (by omega)⟩
  · rw [up3_n _ (by omega), up3_n _ (by omega), up3_n _ (by omega), up3_n _ (by omega)]; exact h1
  · rw [up3_n _ (by omega), up3_n _ (by omega), up3_n _ (by omega), up3_n _ (by omega)]; exact h2
  · rw [up3_n _ (by omega), up3_n _ (by omega), up3_n _ (by omega), up3_n _ (by omega)]; exact h3
  · rw [up3_n _ (by omega), up3_n _ (by omega), up3_n _ (by omega), up3_n _ (by omega)]; exact h4
  · exact ActsR_fr h5 (fun f j hf => by rw [up3_n _ (by omega), up3_n _ (by omega), up3_n _ (by omega), up3_n _ (by omega)])
  · rw [up3_s]; rfl
  · rw [up3_n _ (by omega), up3_n _ (by omega), up3_n _ (by omega), up3_s]
  · rw [up3_n _ (by omega), up3_n _ (by omega), up3_s]
  · rw [up3_n _ (by omega), up3_s]
  · exact StkR_fr S (fun f j hf hj => by rw [up3_n _ (by omega), up3_n _ (by omega), up3_n _ (by omega), up3_n _ (by omega)]) h7
  · exact UseR_fr h8 (fun f j hf => by rw [up3_n _ (by omega), up3_n _ (by omega), up3_n _ (by omega), up3_n _ (by omega)])
theorem PR_use {σ : Mm} {i u a m b : Nat} {A : List (Int × Int)} {S : List Fr3} {U : List Us3} (h : PRl σ i u a A S U) : PRl (usS σ U.length m i b) (i + 1) u a A S (U ++ [(i, m, b)]) ∧ FrP (usS σ U.length m i b) σ := by
  obtain ⟨h1, h2, h3, h4, h5, ⟨h6, h7⟩, ⟨h8, h8b⟩⟩ := h
  unfold usS
  refine ⟨⟨?_, ?_, ?_, ?_, ?_, ⟨?_, ?_⟩, ⟨?_, fun j hj => ?_⟩⟩, FrP_up (FrP_up (FrP_up (FrP_up (FrP_up (FrP_refl σ) _ (by omega)) _ (by omega)) _ (by omega)) _ (by omega)) _ (by omega)⟩
  · rw [up3_s]; rfl
  · rw [up3_n _ (by omega), up3_n _ (by omega), up3_n _ (by omega), up3_n _ (by omega), up3_n _ (by omega)]; exact h2
  · rw [up3_n _ (by omega), up3_n _ (by omega), up3_n _ (by omega), up3_n _ (by omega), up3_n _ (by omega)]; exact h3
  · rw [up3_n _ (by omega), up3_n _ (by omega), up3_n _ (by omega), up3_n _ (by omega), up3_n _ (by omega)]; exact h4
  · exact ActsR_fr h5 (fun f j hf => by rw [up3_n _ (by omega), up3_n _ (by omega), up3_n _ (by omega), up3_n _ (by omega), up3_n _ (by omega)])
  · rw [up3_n _ (by omega), up3_n _ (by omega), up3_n _ (by omega), up3_n _ (by omega), up3_n _ (by omega)]; exact h6
  · exact StkR_fr S (fun f j hf hj => by rw [up3_n _ (by omega), up3_n _ (by omega), up3_n _ (by omega), up3_n _ (by omega), up3_n _ (by omega)]) h7
  · rw [up3_n _ (by omega), up3_s, List.length_append]; rfl
  · rcases getD_app (d := ((0 : Nat), (0 : Nat), (0 : Nat))) hj with ⟨q1, q2⟩ | ⟨q1, q2⟩
    · rw [q2]
      obtain ⟨g1, g2, g3⟩ := h8b j q1
      refine ⟨?_, ?_, ?_⟩
      · rw [up3_n _ (by omega), up3_n _ (by omega), up3_n _ (by omega), up3_n _ (by omega), up3_n _ (by omega)]; exact g1
      · rw [up3_n _ (by omega), up3_n _ (by omega), up3_n _ (by omega), up3_n _ (by omega), up3_n _ (by omega)]; exact g2
      · rw [up3_n _ (by omega), up3_n _ (by omega), up3_n _ (by omega), up3_n _ (by omega), up3_n _ (by omega)]; exact g3
    · rw [q2, q1]
      refine ⟨?_, ?_, ?_⟩
      · rw [up3_n _ (by omega), up3_n _ (by omega), up3_n _ (by omega), up3_n _ (by omega), up3_s]
      · rw [up3_n _ (by omega), up3_n _ (by omega), up3_n _ (by omega), up3_s]
      · rw [up3_n _ (by omega), up3_n _ (by omega), up3_s]
