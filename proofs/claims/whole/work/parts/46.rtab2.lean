/-! a whole TABLE of the reference -/
section RT2
variable {B : Nat → Int} {L N m : Nat}
def BRs (B : Nat → Int) (L m : Nat) (A : List (Int × Int)) (U : List Us3) (τ σ' : Mm) (i6 : Nat) (D : TabD) : Prop := tq B i6 ≤ L ∧ ∃ (N' : List (Int × Int)) (W : List Us3), NR (tK B) (tV B) (tQ B) A.length N' D.2.2.2.2.2 ∧ WN (tK B) (tV B) (tQ B) m W D.2.2.2.2.2 ∧ (A ++ N').length ≤ i6 ∧ (U ++ W).length ≤ i6 ∧ FrB m σ' τ ∧ PRw σ' i6 (A ++ N') (U ++ W) ∧ (σ' 10 0 8 = ((m + 1 : Nat) : Int) ∧ σ' 44 0 m = A.length ∧ σ' 44 0 (m + 1) = (A ++ N').length ∧ σ' 41 0 m = 1 - D.2.2.1 ∧ σ' 42 0 m = D.2.2.2.1 ∧ σ' 43 0 m = D.2.2.2.2.1)
theorem rf_take {i : Nat} {τ : Mm} {s : Int} {pc : Nat} (hT : TS B L N m τ) (k6 : τ 10 0 6 = i) (hi : tq B i ≤ L) (hr : ∀ τ', TS B L N m τ' → FA B L τ' i → RF B L pc i τ') : RF B L pc i (up3 τ 10 0 7 (tQ B i)) := hr _ (TS_frK hT (FrK_up (FrK_refl τ) _ (by omega))) ⟨by rw [up3_n _ (by omega)]; exact k6, up3_s _ _ _ _ _, hi⟩
theorem rf_pre {pc pc' e : Nat} {τ τ' : Mm} (h : RF B L pc' e τ') (hf : FrA τ' τ) (hx : ∀ C : Cx, Ok C RX10 cX10_readTable 2 6 → X C 1 pc' [(0, vR 10 0)] [] NALL τ' 0 0 → X C 1 pc [(0, vR 10 0)] [] NALL τ 0 0) : RF B L pc e τ := by
  obtain ⟨σ', q1, q2, q3⟩ := h
  exact ⟨σ', FrA_tr q1 hf, q2, fun C h hr => hx C h (q3 C h hr)⟩
/-- the body of a TABLE -/
theorem rt119 {i : Nat} {A : List (Int × Int)} {U : List Us3} {τ : Mm} {nm size nf : Int} (hm : m < 12) (hT : TS B L N m τ) (hP : PRw τ i A U) (hi : tq B i ≤ L) (hA : A.length ≤ i) (hU : U.length ≤ i) : match bodyF (tK B) (tV B) (tQ B) i nm size nf with
    | .inl e => RF B L 119 e τ
    | .inr (i6, D, nf') => (D.1 = nm ∧ D.2.1 = size ∧ nf' = nf) ∧ ∃ σ', BRs B L m A U τ σ' i6 D ∧ ∀ C : Cx, Ok C RX10 cX10_readTable 2 6 → Rt C 1 none none NALL σ' 0 0 → X C 1 119 [(0, vR 10 0)] [] NALL τ 0 0 := by
  have hB := hT.2.2.2.1
  have k6 := hP.1
  have k7 := hP.2.1
  unfold bodyF
  by_cases h93 : tK B i = 93
  · rw [if_pos h93]
    have hi1 : tq B (i + 1) ≤ L := adv_q hB hi (by omega)
    have ee : ((i : Nat) : Int) + 1 = ((i + 1 : Nat) : Int) := by omega
    have c1 := m_take1 (d := 0) (s := 93) hT k7 k6 hi h93
    rw [ee] at c1
    have w1 : ∀ C : Cx, Ok C RX10 cX10_readTable 2 6 → X C 1 126 [(0, vR 10 0)] [] NALL (up3 τ 10 0 6 ((i + 1 : Nat) : Int)) 0 0 → X C 1 119 [(0, vR 10 0)] [] NALL τ 0 0 := fun C h hx => by
      refine x_aload_n h dX10_readTable_119 rfl ?_
      refine x_bipush h dX10_readTable_120 (by decide) ?_
      refine x_cV1 h kVX10_take lkX10_241 ⟨_, _, _, rfl, rfl⟩ dX10_readTable_122 (c1) lvz_10 rfl rfl (Nat.le_of_ble_eq_true rfl) (by omega) ?_
      refine x_pop h dX10_readTable_125 rfl ?_
      exact hx
    have f1 : FrB m (up3 τ 10 0 6 ((i + 1 : Nat) : Int)) τ := FrB_up (fun _ _ _ _ => rfl) _ (by omega)
    have j1 : FrK (up3 τ 10 0 6 ((i + 1 : Nat) : Int)) τ := FrK_up (FrK_refl τ) _ (by omega)
    have hP1 := PW_tok hP (i + 1)
    generalize up3 τ 10 0 6 ((i + 1 : Nat) : Int) = τ1 at w1 f1 j1 hP1
    have hT1 : TS B L N m τ1 := TS_frK hT j1
    by_cases h65 : tK B (i + 1) = 6 ∨ tK B (i + 1) = 5
    · rw [if_pos h65]
      have hi2 : tq B (i + 2) ≤ L := adv_q hB hi1 (by omega)
      have w2 := rt126T (b := 1 - (if tK B (i + 1) = 6 then 1 else 0)) hm hT1 hP1.1 hP1.2.1 hi1 h65 rfl
      generalize hb : (1 : Int) - (if tK B (i + 1) = 6 then 1 else 0) = b at w2
      have f2 : FrB m (up3 (up3 τ1 41 0 m b) 10 0 6 ((i + 1 + 1 : Nat) : Int)) τ := FrB_up (FrB_up f1 _ (by omega)) _ (by omega)
      have j2 : FrJ m (up3 (up3 τ1 41 0 m b) 10 0 6 ((i + 1 + 1 : Nat) : Int)) τ1 := FrJ_up (FrJ_up (FrJ_refl m τ1) _ (by omega)) _ (by omega)
      have v41 : up3 (up3 τ1 41 0 m b) 10 0 6 ((i + 1 + 1 : Nat) : Int) 41 0 m = b := by rw [up3_n _ (by omega), up3_s]
      have hP2 : PRw (up3 (up3 τ1 41 0 m b) 10 0 6 ((i + 1 + 1 : Nat) : Int)) (i + 2) A U := PW_tok (PR_fr hP1 (fun f j q => up3_n _ (by omega))) (i + 1 + 1)
      generalize up3 (up3 τ1 41 0 m b) 10 0 6 ((i + 1 + 1 : Nat) : Int) = τ2 at w2 f2 j2 v41 hP2
      have hT2 : TS B L N m τ2 := TS_frK hT1 (FrJ_K j2)
      by_cases h61 : tK B (i + 2) = 61
      · rw [if_pos h61]
        have hi3 : tq B (i + 3) ≤ L := adv_q hB hi2 (by omega)
        have e3 : ((i + 2 : Nat) : Int) + 1 = ((i + 3 : Nat) : Int) := by omega
        have c3 := m_take1 (d := 0) (s := 61) hT2 hP2.2.1 hP2.1 hi2 h61
        rw [e3] at c3
        have w3 : ∀ C : Cx, Ok C RX10 cX10_readTable 2 6 → X C 1 208 [(0, vR 10 0)] [] NALL (up3 τ2 10 0 6 ((i + 3 : Nat) : Int)) 0 0 → X C 1 119 [(0, vR 10 0)] [] NALL τ 0 0 := fun C h hx => by
          refine w1 C h (w2 C h ?_)
          refine x_aload_n h dX10_readTable_201 rfl ?_
          refine x_bipush h dX10_readTable_202 (by decide) ?_
          refine x_cV1 h kVX10_take lkX10_241 ⟨_, _, _, rfl, rfl⟩ dX10_readTable_204 (c3) lvz_10 rfl rfl (Nat.le_of_ble_eq_true rfl) (by omega) ?_
          refine x_pop h dX10_readTable_207 rfl ?_
          exact hx
        have f3 : FrB m (up3 τ2 10 0 6 ((i + 3 : Nat) : Int)) τ := FrB_up f2 _ (by omega)
        have j3 : FrK (up3 τ2 10 0 6 ((i + 3 : Nat) : Int)) τ2 := FrK_up (FrK_refl τ2) _ (by omega)
        have v41' : up3 τ2 10 0 6 ((i + 3 : Nat) : Int) 41 0 m = b := by rw [up3_n _ (by omega)]; exact v41
        have hP3 := PW_tok hP2 (i + 3)
        generalize up3 τ2 10 0 6 ((i + 3 : Nat) : Int) = τ3 at w3 f3 j3 v41' hP3
        have hT3 : TS B L N m τ3 := TS_frK hT2 j3
        have g := rt208 hm hT3 hP3 hi3 (by omega) (by omega)
        cases hv : sumF (tK B) (uF (tK B) (tV B) (tQ B) 11) 0 (i + 3) with
        | inl e =>
          rw [hv] at g
          exact rf_pre g (FrB_A f3) w3
        | inr t =>
          obtain ⟨i5, u5, code⟩ := t
          rw [hv] at g
          have g : match (match endF (tK B) (tV B) i5 with | .inl e => (.inl e : Nat ⊕ (Nat × List Zs × Int × Int)) | .inr (i6, ip, pr) => .inr (i6, code, ip, pr)) with | .inl e => RF B L 208 e τ3 | .inr (i6, code, ip, pr) => _ := g
          show match (match endF (tK B) (tV B) i5 with | .inl e => (.inl e : Nat ⊕ (Nat × TabD × Int)) | .inr (i6, ip, pr) => .inr (i6, (nm, size, (if tK B (i + 1) = 6 then 1 else 0), ip, pr, code), nf)) with | .inl e => RF B L 119 e τ | .inr (i6, D, nf') => _
          cases he : endF (tK B) (tV B) i5 with
          | inl e =>
            rw [he] at g
            exact rf_pre g (FrB_A f3) w3
          | inr y =>
            obtain ⟨i6, ip, pr⟩ := y
            rw [he] at g
            obtain ⟨g1, N', W, g2, g3, g4, g5, σ', g6, g7, ⟨v8, v44, v44', v41b, v42, v43⟩, g8⟩ := g
            refine ⟨⟨rfl, rfl, rfl⟩, σ', ⟨g1, N', W, g2, g3, g4, g5, FrB_tr g6 f3, g7, v8, v44, v44', by rw [v41b, v41', ← hb], v42, v43⟩, fun C h hr => w3 C h (g8 C h hr)⟩
      · rw [if_neg h61]
        have c3 := m_take0 (d := 0) (s := 61) hT2 hP2.2.1 hP2.1 hi2 (by decide) h61
        refine rf_pre (rf_take (s := 0) hT2 hP2.1 hi2 (fun τ' ht hf => rf208 hm ht hf)) (FrA_tr (FrA_up (FrA_refl τ2) _ (by omega)) (FrB_A f2)) (fun C h hx => w1 C h (w2 C h ?_))
        refine x_aload_n h dX10_readTable_201 rfl ?_
        refine x_bipush h dX10_readTable_202 (by decide) ?_
        refine x_cV1 h kVX10_take lkX10_241 ⟨_, _, _, rfl, rfl⟩ dX10_readTable_204 (c3) lvz_10 rfl rfl (Nat.le_of_ble_eq_true rfl) (by omega) ?_
        refine x_pop h dX10_readTable_207 rfl ?_
        exact hx
    · rw [if_neg h65]
      exact rf_pre (rt126F hm hT1 hP1.1 hP1.2.1 hi1 h65) (FrB_A f1) w1
  · rw [if_neg h93]
    have c3 := m_take0 (d := 0) (s := 93) hT k7 k6 hi (by decide) h93
    refine rf_pre (rf_take (s := 0) hT k6 hi (fun τ' ht hf => rf126 hm ht hf)) (FrA_up (FrA_refl τ) _ (by omega)) (fun C h hx => ?_)
    refine x_aload_n h dX10_readTable_119 rfl ?_
    refine x_bipush h dX10_readTable_120 (by decide) ?_
    refine x_cV1 h kVX10_take lkX10_241 ⟨_, _, _, rfl, rfl⟩ dX10_readTable_122 (c3) lvz_10 rfl rfl (Nat.le_of_ble_eq_true rfl) (by omega) ?_
    refine x_pop h dX10_readTable_125 rfl ?_
    exact hx
/-- what readTable may change -/
def FrY (m : Nat) (σ' σ : Mm) : Prop := ∀ f k j, ¬ ((f = 10 ∧ 6 ≤ j ∧ j ≤ 31) ∨ (46 ≤ f ∧ f ≤ 59) ∨ (39 ≤ f ∧ f ≤ 45 ∧ m ≤ j)) → σ' f k j = σ f k j
theorem FrY_J {σ' σ : Mm} (h : FrJ m σ' σ) : FrY m σ' σ := fun f k j hf => h f k j (by omega)
theorem FrY_B {σ' σ : Mm} (h : FrB m σ' σ) : FrY m σ' σ := fun f k j hf => h f k j (by omega)
theorem FrY_tr {a b c : Mm} (h : FrY m a b) (h' : FrY m b c) : FrY m a c := fun f k j hf => (h f k j hf).trans (h' f k j hf)
/-- a TABLE told: its name, its SIZE, its body -/
def TabX (B : Nat → Int) (L m : Nat) (ds : List TabD) (nf : Int) (A P : List (Int × Int)) (U : List Us3) (τ σ' : Mm) (i6 : Nat) (D : TabD) (nf' : Int) : Prop := tq B i6 ≤ L ∧ FrY m σ' τ ∧ σ' 10 0 8 = ((m + 1 : Nat) : Int) ∧ ∃ (T : Nat) (M : List (Int × Int)) (W1 : List Us3) (N' : List (Int × Int)) (W : List Us3), (tq B T ≤ L ∧ tK B T = 2) ∧ D.1 = tV B T ∧ σ' 39 0 m = D.1 ∧ σ' 40 0 m = tQ B T ∧ nf' = nfW ds (tV B) (tQ B) (if nofD ds D.1 ≠ -9 then nfA nf (tQ B T) else nf) W1 ∧ M.length ≤ 8 ∧ D.2.1 = szV ds (tV B) 0 M ∧ (∀ t ∈ W1, t.2 = (m, 1) ∧ tK B t.1 = 2) ∧ (∀ x ∈ M, (sgz x.1 ∧ (0 ≤ x.2 → i64 x.2)) ∧ (x.2 < 0 → ∃ t ∈ W1, x.2 = -1 - (t.1 : Int))) ∧ NR (tK B) (tV B) (tQ B) A.length N' D.2.2.2.2.2 ∧ WN (tK B) (tV B) (tQ B) m W D.2.2.2.2.2 ∧ (A ++ N').length ≤ i6 ∧ (U ++ W1 ++ W).length ≤ i6 ∧ ZR σ' i6 (A ++ N') (P ++ M) (U ++ W1 ++ W) ∧ σ' 44 0 m = A.length ∧ σ' 44 0 (m + 1) = (A ++ N').length ∧ σ' 45 0 m = P.length ∧ σ' 45 0 (m + 1) = (P ++ M).length ∧ σ' 41 0 m = 1 - D.2.2.1 ∧ σ' 42 0 m = D.2.2.2.1 ∧ σ' 43 0 m = D.2.2.2.2.1
theorem rt0 {i : Nat} {ds : List TabD} {nf : Int} {A P : List (Int × Int)} {U : List Us3} {τ : Mm} (hm : m < 12) (hT : TS B L N m τ) (hz : ZR τ i A P U) (hi : tq B i ≤ L) (hA : A.length ≤ i) (hU : U.length ≤ i) (hPl : P.length ≤ 88) : match tabF (tK B) (tV B) (tQ B) ds nf i with
    | .inl e => RF B L 0 e τ
    | .inr (i6, D, nf') => ∃ σ', TabX B L m ds nf A P U τ σ' i6 D nf' ∧ ∀ C : Cx, Ok C RX10 cX10_readTable 2 6 → Rt C 1 none none NALL σ' 0 0 → X C 1 0 [(0, vR 10 0)] [] NALL τ 0 0 := by
  have hB := hT.2.2.2.1
  have hm8 := hT.2.2.2.2.1
  obtain ⟨hP, hPt⟩ := hz
  have k6 := hP.1
  have k7 := hP.2.1
  unfold tabF
  by_cases h4 : tK B i = 4
  · rw [if_pos h4]
    have hi1 : tq B (i + 1) ≤ L := adv_q hB hi (by omega)
    have ee : ((i : Nat) : Int) + 1 = ((i + 1 : Nat) : Int) := by omega
    have c1 := m_take1 (d := 0) (s := 4) hT k7 k6 hi h4
    rw [ee] at c1
    have w1 : ∀ C : Cx, Ok C RX10 cX10_readTable 2 6 → X C 1 28 [(0, vR 10 0)] [] NALL (up3 τ 10 0 6 ((i + 1 : Nat) : Int)) 0 0 → X C 1 0 [(0, vR 10 0)] [] NALL τ 0 0 := fun C h hx => by
      refine x_aload_n h dX10_readTable_0 rfl ?_
      refine x_aload_n h dX10_readTable_1 rfl ?_
      refine x_get (q := vI (m)) h fl_10_212 lvz_10 dX10_readTable_2 (congrArg vI (by first | exact hm8 | simp [up3, hm8])) ?_
      refine x_bipush h dX10_readTable_5 (by decide) ?_
      refine x_ic_ge_F (tgt := 14) h (by omega) dX10_readTable_7 (by decide) (by omega) ?_
      refine x_iconst h dX10_readTable_10 ?_
      refine x_goto (tgt := 15) h dX10_readTable_11 (by decide) ?_
      refine x_cV1 h kVX10_must lkX10_202 ⟨_, _, _, rfl, rfl⟩ dX10_readTable_15 (m_must1 (d := 0) k7) lvz_10 rfl rfl (Nat.le_of_ble_eq_true rfl) (by omega) ?_
      refine x_pop h dX10_readTable_18 rfl ?_
      refine x_aload_n h dX10_readTable_19 rfl ?_
      refine x_iconst h dX10_readTable_20 ?_
      refine x_cV1 h kVX10_take lkX10_241 ⟨_, _, _, rfl, rfl⟩ dX10_readTable_21 (c1) lvz_10 rfl rfl (Nat.le_of_ble_eq_true rfl) (by omega) ?_
      refine x_if_ne_T (tgt := 28) h (by omega) dX10_readTable_24 (by decide) (by omega) ?_
      exact hx
    have j1 : FrJ m (up3 τ 10 0 6 ((i + 1 : Nat) : Int)) τ := FrJ_up (FrJ_refl m τ) _ (by omega)
    have hP1 := PW_tok hP (i + 1)
    have hPt1 : PtR (up3 τ 10 0 6 ((i + 1 : Nat) : Int)) P := PtR_fr hPt (fun f j q => up3_n _ (by omega))
    generalize up3 τ 10 0 6 ((i + 1 : Nat) : Int) = τ1 at w1 j1 hP1 hPt1
    have hT1 : TS B L N m τ1 := TS_frK hT (FrJ_K j1)
    obtain ⟨t1, t2, t3, t4, t5, t6, t7, t8, t9⟩ := tok_in hT1 hi1
    have hm8b := hT1.2.2.2.2.1
    by_cases h2 : tK B (i + 1) = 2
    · rw [if_pos h2]
      have t5 := t5 (by omega)
      have hi2 : tq B (i + 2) ≤ L := adv_q hB hi1 (by omega)
      have e2 : ((i + 1 : Nat) : Int) + 1 = ((i + 2 : Nat) : Int) := by omega
      have g8 : up3 τ1 39 0 m (tV B (i + 1)) 10 0 8 = m := by rw [up3_n _ (by omega)]; exact hm8b
      have g6 : up3 τ1 39 0 m (tV B (i + 1)) 10 0 6 = ((i + 1 : Nat) : Int) := by rw [up3_n _ (by omega)]; exact hP1.1
      have g34 : up3 τ1 39 0 m (tV B (i + 1)) 34 0 (i + 1) = tQ B (i + 1) := by rw [up3_n _ (by omega)]; exact t4
      have g6b : up3 (up3 τ1 39 0 m (tV B (i + 1))) 40 0 m (tQ B (i + 1)) 10 0 6 = ((i + 1 : Nat) : Int) := by rw [up3_n _ (by omega)]; exact g6
      have w2 : ∀ C : Cx, Ok C RX10 cX10_readTable 2 6 → X C 1 99 [(0, vR 10 0)] [] NALL (up3 (up3 (up3 τ1 39 0 m (tV B (i + 1))) 40 0 m (tQ B (i + 1))) 10 0 6 ((i + 2 : Nat) : Int)) 0 0 → X C 1 28 [(0, vR 10 0)] [] NALL τ1 0 0 := fun C h hx => by
        refine x_aload_n h dX10_readTable_28 rfl ?_
        refine x_aload_n h dX10_readTable_29 rfl ?_
        refine x_get h fl_10_13 lvz_10 dX10_readTable_30 (pvf_533 _ _) ?_
        refine x_aload_n h dX10_readTable_33 rfl ?_
        refine x_get (q := vI ((i + 1 : Nat))) h fl_10_199 lvz_10 dX10_readTable_34 (congrArg vI (by first | exact hP1.1 | simp [up3, hP1.1])) ?_
        refine x_iald h kdf_33 lvz_33 dX10_readTable_37 rfl (by omega) ?_
        rw [t3]
        refine x_iconst h dX10_readTable_38 ?_
        refine x_ic_ne_F (tgt := 46) h (by omega) dX10_readTable_39 (by decide) (by omega) ?_
        refine x_iconst h dX10_readTable_42 ?_
        refine x_goto (tgt := 47) h dX10_readTable_43 (by decide) ?_
        refine x_cV1 h kVX10_must lkX10_202 ⟨_, _, _, rfl, rfl⟩ dX10_readTable_47 (m_must1 (d := 0) hP1.2.1) lvz_10 rfl rfl (Nat.le_of_ble_eq_true rfl) (by omega) ?_
        refine x_if_eq_F (tgt := 99) h (by omega) dX10_readTable_50 (by decide) (by omega) ?_
        refine x_aload_n h dX10_readTable_53 rfl ?_
        refine x_get h fl_10_24 lvz_10 dX10_readTable_54 (pvf_539 _ _) ?_
        refine x_aload_n h dX10_readTable_57 rfl ?_
        refine x_get (q := vI (m)) h fl_10_212 lvz_10 dX10_readTable_58 (congrArg vI (by first | exact hm8b | simp [up3, hm8b])) ?_
        refine x_aload_n h dX10_readTable_61 rfl ?_
        refine x_get h fl_10_20 lvz_10 dX10_readTable_62 (pvf_535 _ _) ?_
        refine x_aload_n h dX10_readTable_65 rfl ?_
        refine x_get (q := vI ((i + 1 : Nat))) h fl_10_199 lvz_10 dX10_readTable_66 (congrArg vI (by first | exact hP1.1 | simp [up3, hP1.1])) ?_
        refine x_lald h kdf_35 lvz_35 dX10_readTable_69 rfl (by omega) ?_
        rw [t5]
        refine x_last h kdf_39 lvz_39 dX10_readTable_70 rfl (by omega) ?_
        refine x_aload_n h dX10_readTable_71 rfl ?_
        refine x_get h fl_10_27 lvz_10 dX10_readTable_72 (pvf_540 _ _) ?_
        refine x_aload_n h dX10_readTable_75 rfl ?_
        refine x_get (q := vI (m)) h fl_10_212 lvz_10 dX10_readTable_76 (congrArg vI (by first | exact g8 | simp [up3, g8])) ?_
        refine x_aload_n h dX10_readTable_79 rfl ?_
        refine x_get h fl_10_17 lvz_10 dX10_readTable_80 (pvf_534 _ _) ?_
        refine x_aload_n h dX10_readTable_83 rfl ?_
        refine x_get (q := vI ((i + 1 : Nat))) h fl_10_199 lvz_10 dX10_readTable_84 (congrArg vI (by first | exact g6 | simp [up3, g6])) ?_
        refine x_iald h kdf_34 lvz_34 dX10_readTable_87 rfl (by omega) ?_
        rw [g34]
        refine x_iast h kdf_40 lvz_40 dX10_readTable_88 rfl (by omega) ?_
        refine x_aload_n h dX10_readTable_89 rfl ?_
        refine x_dup h dX10_readTable_90 rfl ?_
        refine x_get (q := vI ((i + 1 : Nat))) h fl_10_199 lvz_10 dX10_readTable_91 (congrArg vI (by first | exact g6b | simp [up3, g6b])) ?_
        refine x_iconst h dX10_readTable_94 ?_
        refine x_iadd h dX10_readTable_95 ?_
        rw [e2]
        refine x_put h fl_10_199 lvz_10 dX10_readTable_96 rfl (fun z => absurd z (by decide)) ?_
        exact hx
      have j2 : FrJ m (up3 (up3 (up3 τ1 39 0 m (tV B (i + 1))) 40 0 m (tQ B (i + 1))) 10 0 6 ((i + 2 : Nat) : Int)) τ1 := FrJ_up (FrJ_up (FrJ_up (FrJ_refl m τ1) _ (by omega)) _ (by omega)) _ (by omega)
      have hP2 : PRw (up3 (up3 (up3 τ1 39 0 m (tV B (i + 1))) 40 0 m (tQ B (i + 1))) 10 0 6 ((i + 2 : Nat) : Int)) (i + 2) A U := PW_tok (PR_fr hP1 (fun f j q => by rw [up3_n _ (by omega), up3_n _ (by omega)])) (i + 2)
      have hPt2 : PtR (up3 (up3 (up3 τ1 39 0 m (tV B (i + 1))) 40 0 m (tQ B (i + 1))) 10 0 6 ((i + 2 : Nat) : Int)) P := PtR_fr hPt1 (fun f j q => by rw [up3_n _ (by omega), up3_n _ (by omega), up3_n _ (by omega)])
      have v39 : up3 (up3 (up3 τ1 39 0 m (tV B (i + 1))) 40 0 m (tQ B (i + 1))) 10 0 6 ((i + 2 : Nat) : Int) 39 0 m = tV B (i + 1) := by rw [up3_n _ (by omega), up3_n _ (by omega), up3_s]
      have v40 : up3 (up3 (up3 τ1 39 0 m (tV B (i + 1))) 40 0 m (tQ B (i + 1))) 10 0 6 ((i + 2 : Nat) : Int) 40 0 m = tQ B (i + 1) := by rw [up3_n _ (by omega), up3_s]
      generalize up3 (up3 (up3 τ1 39 0 m (tV B (i + 1))) 40 0 m (tQ B (i + 1))) 10 0 6 ((i + 2 : Nat) : Int) = τ2 at w2 j2 hP2 hPt2 v39 v40
      have hT2 : TS B L N m τ2 := TS_frK hT1 (FrJ_K j2)
      have j2' := FrJ_tr j2 j1
      by_cases h91 : tK B (i + 2) = 91
      · rw [if_pos h91]
        have hi3 : tq B (i + 3) ≤ L := adv_q hB hi2 (by omega)
        have e3 : ((i + 2 : Nat) : Int) + 1 = ((i + 3 : Nat) : Int) := by omega
        have c3 := m_take1 (d := 0) (s := 91) hT2 hP2.2.1 hP2.1 hi2 h91
        rw [e3] at c3
        have j3 : FrJ m (up3 τ2 10 0 6 ((i + 3 : Nat) : Int)) τ2 := FrJ_up (FrJ_refl m τ2) _ (by omega)
        have hP3 := PW_tok hP2 (i + 3)
        have hPt3 : PtR (up3 τ2 10 0 6 ((i + 3 : Nat) : Int)) P := PtR_fr hPt2 (fun f j q => up3_n _ (by omega))
        have x39 : up3 τ2 10 0 6 ((i + 3 : Nat) : Int) 39 0 m = tV B (i + 1) := by rw [up3_n _ (by omega)]; exact v39
        have x40 : up3 τ2 10 0 6 ((i + 3 : Nat) : Int) 40 0 m = tQ B (i + 1) := by rw [up3_n _ (by omega)]; exact v40
        have w3 : ∀ C : Cx, Ok C RX10 cX10_readTable 2 6 → X C 1 115 [(0, vR 10 0)] [] NALL (up3 τ2 10 0 6 ((i + 3 : Nat) : Int)) 0 0 → X C 1 0 [(0, vR 10 0)] [] NALL τ 0 0 := fun C h hx => by
          refine w1 C h (w2 C h ?_)
          refine x_aload_n h dX10_readTable_99 rfl ?_
          refine x_bipush h dX10_readTable_100 (by decide) ?_
          refine x_cV1 h kVX10_take lkX10_241 ⟨_, _, _, rfl, rfl⟩ dX10_readTable_102 (c3) lvz_10 rfl rfl (Nat.le_of_ble_eq_true rfl) (by omega) ?_
          refine x_pop h dX10_readTable_105 rfl ?_
          refine x_aload_n h dX10_readTable_106 rfl ?_
          refine x_get (q := vI (-9)) h fl_10_196 lvz_10 dX10_readTable_107 (congrArg vI (by first | exact hP3.2.1 | simp [up3, hP3.2.1])) ?_
          refine x_bipush h dX10_readTable_110 (by decide) ?_
          refine x_ic_ne_F (tgt := 119) h (by omega) dX10_readTable_112 (by decide) (by omega) ?_
          exact hx
        generalize up3 τ2 10 0 6 ((i + 3 : Nat) : Int) = τ3 at j3 hP3 hPt3 x39 x40 w3
        have hT3 : TS B L N m τ3 := TS_frK hT2 (FrJ_K j3)
        have j3' := FrJ_tr j3 j2'
        obtain ⟨σ1, q1, ⟨q2, q2b⟩, q3⟩ := m_readSize hm hT3 ⟨hP3, hPt3⟩ hi3 (by omega) (by omega) hPl
        have q3 := q3 1
        have hsz := rz_sz (K := tK B) (V := tV B) (Q := tQ B) (m := m) (fun i hk => ⟨tok_nn i hk, tok_num hB i hk⟩) ds 8 (i + 3) 43 P U 0 (if nofD ds (tV B (i + 1)) ≠ -9 then nfA nf (tQ B (i + 1)) else nf) (Or.inl rfl)
        have w4 : ∀ C : Cx, Ok C RX10 cX10_readTable 2 6 → X C 1 119 [(0, vR 10 0)] [] NALL σ1 0 0 → X C 1 0 [(0, vR 10 0)] [] NALL τ 0 0 := fun C h hx => by
          refine w3 C h ?_
          refine x_aload_n h dX10_readTable_115 rfl ?_
          refine x_cV0 h kVX10_readSize lkX10_270 ⟨_, _, _, rfl, rfl⟩ dX10_readTable_116 (q3) lvz_10 rfl rfl (Nat.le_of_ble_eq_true rfl) (by omega) ?_
          exact hx
        have j4 := FrJ_tr (FrJ_S q1) j3'
        have hT4 : TS B L N m σ1 := TS_frK hT (FrJ_K j4)
        cases hv : szL (tK B) (tV B) (tQ B) ds 8 (i + 3) 0 43 (if nofD ds (tV B (i + 1)) ≠ -9 then nfA nf (tQ B (i + 1)) else nf) with
        | inl e =>
          rw [hv] at hsz
          rw [hsz] at q2
          exact rf_pre (rf119 hm hT4 q2) (FrA_T j4) w4
        | inr y =>
          obtain ⟨i4, size, nf2⟩ := y
          rw [hv] at hsz
          obtain ⟨M, W1, z1, z2, z3, z4, z5, z6⟩ := hsz
          obtain ⟨y1, y2⟩ := q2b _ z1
          rw [z1] at q2
          obtain ⟨⟨hP4, hPt4⟩, hi4, hA4, hU4, -⟩ := q2
          have g := rt119 (nm := tV B (i + 1)) (size := size) (nf := nf2) hm hT4 hP4 hi4 hA4 hU4
          show match bodyF (tK B) (tV B) (tQ B) i4 (tV B (i + 1)) size nf2 with | .inl e => RF B L 0 e τ | .inr (i6, D, nf') => _
          cases hb : bodyF (tK B) (tV B) (tQ B) i4 (tV B (i + 1)) size nf2 with
          | inl e =>
            rw [hb] at g
            exact rf_pre g (FrA_T j4) w4
          | inr x =>
            obtain ⟨i6, D, nf'⟩ := x
            rw [hb] at g
            obtain ⟨⟨d1, d2, d3⟩, σ', ⟨b0, N', W, b1, b2, b3, b4, b5, b6, v8, v44, v44', v41, v42, v43⟩, bx⟩ := g
            refine ⟨σ', ⟨b0, FrY_tr (FrY_B b5) (FrY_J j4), v8, i + 1, M, W1, N', W, ⟨hi1, h2⟩, d1, ?_, ?_, ?_, z2, by rw [d2]; exact z3, z5, z6, b1, b2, b3, b4, ⟨b6, PtR_fr hPt4 (fun f j q => b5 _ _ _ (by omega))⟩, v44, v44', ?_, ?_, v41, v42, v43⟩, fun C h hr => w4 C h (bx C h hr)⟩
            · rw [b5 _ _ _ (by omega), q1 _ _ _ (by omega), d1]; exact x39
            · rw [b5 _ _ _ (by omega), q1 _ _ _ (by omega)]; exact x40
            · rw [d3, z4, d1]
            · rw [b5 _ _ _ (by omega)]; exact y1
            · rw [b5 _ _ _ (by omega)]; exact y2
      · rw [if_neg h91]
        have c3 := m_take0 (d := 0) (s := 91) hT2 hP2.2.1 hP2.1 hi2 (by decide) h91
        refine rf_pre (rf_take (s := 0) hT2 hP2.1 hi2 (fun τ' ht hf => rf106 hm ht hf)) (FrA_tr (FrA_up (FrA_refl τ2) _ (by omega)) (FrA_T j2')) (fun C h hx => w1 C h (w2 C h ?_))
        refine x_aload_n h dX10_readTable_99 rfl ?_
        refine x_bipush h dX10_readTable_100 (by decide) ?_
        refine x_cV1 h kVX10_take lkX10_241 ⟨_, _, _, rfl, rfl⟩ dX10_readTable_102 (c3) lvz_10 rfl rfl (Nat.le_of_ble_eq_true rfl) (by omega) ?_
        refine x_pop h dX10_readTable_105 rfl ?_
        exact hx
    · rw [if_neg h2]
      refine rf_pre (rf_take (s := 0) hT1 hP1.1 hi1 (fun τ' ht hf => rf99 hm ht hf)) (FrA_tr (FrA_up (FrA_refl τ1) _ (by omega)) (FrA_T j1)) (fun C h hx => w1 C h ?_)
      refine x_aload_n h dX10_readTable_28 rfl ?_
      refine x_aload_n h dX10_readTable_29 rfl ?_
      refine x_get h fl_10_13 lvz_10 dX10_readTable_30 (pvf_533 _ _) ?_
      refine x_aload_n h dX10_readTable_33 rfl ?_
      refine x_get (q := vI ((i + 1 : Nat))) h fl_10_199 lvz_10 dX10_readTable_34 (congrArg vI (by first | exact hP1.1 | simp [up3, hP1.1])) ?_
      refine x_iald h kdf_33 lvz_33 dX10_readTable_37 rfl (by omega) ?_
      rw [t3]
      refine x_iconst h dX10_readTable_38 ?_
      refine x_ic_ne_T (tgt := 46) h (by omega) dX10_readTable_39 (by decide) (by omega) ?_
      refine x_iconst h dX10_readTable_46 ?_
      refine x_cV1 h kVX10_must lkX10_202 ⟨_, _, _, rfl, rfl⟩ dX10_readTable_47 (m_must0 (d := 0) hP1.2.1 hP1.1 t2 t4 ⟨t8, t9⟩) lvz_10 rfl rfl (Nat.le_of_ble_eq_true rfl) (by omega) ?_
      refine x_if_eq_T (tgt := 99) h (by omega) dX10_readTable_50 (by decide) (by omega) ?_
      exact hx
  · rw [if_neg h4]
    have c1 := m_take0 (d := 0) (s := 4) hT k7 k6 hi (by decide) h4
    refine ⟨up3 τ 10 0 7 (tQ B i), FrA_up (FrA_refl τ) _ (by omega), ⟨by rw [up3_n _ (by omega)]; exact k6, up3_s _ _ _ _ _, hi⟩, fun C h hr => ?_⟩
    refine x_aload_n h dX10_readTable_0 rfl ?_
    refine x_aload_n h dX10_readTable_1 rfl ?_
    refine x_get (q := vI (m)) h fl_10_212 lvz_10 dX10_readTable_2 (congrArg vI (by first | exact hm8 | simp [up3, hm8])) ?_
    refine x_bipush h dX10_readTable_5 (by decide) ?_
    refine x_ic_ge_F (tgt := 14) h (by omega) dX10_readTable_7 (by decide) (by omega) ?_
    refine x_iconst h dX10_readTable_10 ?_
    refine x_goto (tgt := 15) h dX10_readTable_11 (by decide) ?_
    refine x_cV1 h kVX10_must lkX10_202 ⟨_, _, _, rfl, rfl⟩ dX10_readTable_15 (m_must1 (d := 0) k7) lvz_10 rfl rfl (Nat.le_of_ble_eq_true rfl) (by omega) ?_
    refine x_pop h dX10_readTable_18 rfl ?_
    refine x_aload_n h dX10_readTable_19 rfl ?_
    refine x_iconst h dX10_readTable_20 ?_
    refine x_cV1 h kVX10_take lkX10_241 ⟨_, _, _, rfl, rfl⟩ dX10_readTable_21 (c1) lvz_10 rfl rfl (Nat.le_of_ble_eq_true rfl) (by omega) ?_
    refine x_if_ne_F (tgt := 28) h (by omega) dX10_readTable_24 (by decide) (by omega) ?_
    exact x_return h hr dX10_readTable_27 ⟨Nat.le_refl _, Nat.le_refl _⟩
/-- a thirteenth TABLE -/
theorem rt0_12 {i : Nat} {τ : Mm} (hT : TS B L N 12 τ) (k6 : τ 10 0 6 = i) (k7 : τ 10 0 7 = -9) (hi : tq B i ≤ L) : RF B L 0 i τ := by
  obtain ⟨t1, t2, t3, t4, t5, t6, t7, t8, t9⟩ := tok_in hT hi
  have hm8 : τ 10 0 8 = 12 := hT.2.2.2.2.1
  have hT1 : TS B L N 12 (up3 τ 10 0 7 (tQ B i)) := TS_frK hT (FrK_up (FrK_refl τ) _ (by omega))
  have c1 := m_takeF (d := 0) (s := 4) hT1 (up3_s _ _ _ _ _) ⟨t8, t9⟩ (by rw [up3_n _ (by omega)]; exact k6) hi (by decide)
  refine ⟨up3 τ 10 0 7 (tQ B i), FrA_up (FrA_refl τ) _ (by omega), ⟨by rw [up3_n _ (by omega)]; exact k6, up3_s _ _ _ _ _, hi⟩, fun C h hr => ?_⟩
  refine x_aload_n h dX10_readTable_0 rfl ?_
  refine x_aload_n h dX10_readTable_1 rfl ?_
  refine x_get (q := vI (12)) h fl_10_212 lvz_10 dX10_readTable_2 (congrArg vI (by first | exact hm8 | simp [up3, hm8])) ?_
  refine x_bipush h dX10_readTable_5 (by decide) ?_
  refine x_ic_ge_T (tgt := 14) h (by omega) dX10_readTable_7 (by decide) (by omega) ?_
  refine x_iconst h dX10_readTable_14 ?_
  refine x_cV1 h kVX10_must lkX10_202 ⟨_, _, _, rfl, rfl⟩ dX10_readTable_15 (m_must0 (d := 0) k7 k6 t2 t4 ⟨t8, t9⟩) lvz_10 rfl rfl (Nat.le_of_ble_eq_true rfl) (by omega) ?_
  refine x_pop h dX10_readTable_18 rfl ?_
  refine x_aload_n h dX10_readTable_19 rfl ?_
  refine x_iconst h dX10_readTable_20 ?_
  refine x_cV1 h kVX10_take lkX10_241 ⟨_, _, _, rfl, rfl⟩ dX10_readTable_21 (c1) lvz_10 rfl rfl (Nat.le_of_ble_eq_true rfl) (by omega) ?_
  refine x_if_ne_F (tgt := 28) h (by omega) dX10_readTable_24 (by decide) (by omega) ?_
  exact x_return h hr dX10_readTable_27 ⟨Nat.le_refl _, Nat.le_refl _⟩
end RT2
