/-! layOut, keepsPromise, fill, makeRow, wake -/
theorem totS_totS (σ : Mm) (m : Nat) (a b : Int) : totS (totS σ m a) m b = totS σ m b := by
  funext f k j
  unfold totS up3
  by_cases h1 : f = 9 ∧ k = m ∧ j = 1
  · simp only [if_pos h1]
  · by_cases h0 : f = 9 ∧ k = m ∧ j = 0
    · simp only [if_neg h1, if_pos h0]
    · simp only [if_neg h1, if_neg h0]
theorem totS_f (σ : Mm) (m : Nat) (S : Int) {f k j : Nat} (h : ¬ (f = 9 ∧ k = m)) : totS σ m S f k j = σ f k j := by
  unfold totS up3
  rw [if_neg (fun z => h ⟨z.1, z.2.1⟩), if_neg (fun z => h ⟨z.1, z.2.1⟩)]
theorem sumE_r {D : Mm} {k : Nat} : ∀ n : Nat, (∀ p, p < n → i64 (D 16 k p)) → -9223372036854775808 * n ≤ sumE D k n ∧ sumE D k n ≤ 9223372036854775808 * n := by
  intro n
  induction n with
  | zero => intro _; exact ⟨Int.le_refl _, Int.le_refl _⟩
  | succ n ih =>
    intro h
    have h1 := ih (fun p hp => h p (by omega))
    have h2 := h n (by omega)
    unfold i64 at h2
    unfold sumE
    omega
theorem c_keepsPromise {t n u w k : Nat} {S : Sd} {σ D : Mm} (hS : SOk S n) (hk : k < n) (hok : WOk t n S D u w σ) (hsz : 0 ≤ sSz S k ∧ sSz S k ≤ 200) : ∃ (b : Int) (σ' : Mm), WRes t σ u w false (promF S D k) b σ' ∧ Ct 3 mX8_keepsPromise 1 [vR 7 0, vR 5 (12 * t + k)] NALL σ (some (vI b)) NALL σ' 0 0 := by
  obtain ⟨h1, h2, hws, h4⟩ := hok
  have hn := hS.1
  have ht := h2.1
  have hk12 : k < 12 := by omega
  obtain ⟨s1, s2, s3, s4, s5, s6, s7⟩ := hS.2 k hk
  obtain ⟨tk1, tk2, tk3, tk4, tk5⟩ := (h2.2.2.2 k hk).1
  have tk2 : σ 5 (12 * t + k) 4 = sSz S k := tk2
  have tk4 : σ 5 (12 * t + k) 6 = sIp S k := tk4
  have tk5 : sIp S k = 1 → σ 5 (12 * t + k) 7 = sPr S k := tk5
  unfold promF
  by_cases hip : sIp S k = 0
  · rw [if_pos hip]
    refine ⟨1, σ, WRes_here h1 hws, ?_⟩
    refine ct_of (by decide) (Nat.le_of_ble_eq_true rfl) (fun C h hr _ => ?_)
    have h : Ok C RX8 cX8_keepsPromise 3 _ := h
    refine x_aload_n h dX8_keepsPromise_0 rfl ?_
    refine x_get (q := vI (0)) h fl_8_157 (lvm_5 (by omega)) dX8_keepsPromise_1 (congrArg vI (by first | exact tk4.trans hip | simp [up3, tk4.trans hip])) ?_
    refine x_if_ne_F (tgt := 9) h (by omega) dX8_keepsPromise_4 (by decide) (by omega) ?_
    refine x_iconst h dX8_keepsPromise_7 ?_
    exact x_ireturn h hr dX8_keepsPromise_8 (Or.inr ⟨rfl, by omega⟩) ⟨Nat.le_refl _, Nat.le_refl _⟩
  · rw [if_neg hip]
    have hip1 : sIp S k = 1 := by omega
    have hez : entsZ (sSz S k) = sSz S k := by unfold entsZ; omega
    rw [hez]
    have hsum := sumE_r (D := D) (k := k) (sSz S k).toNat (fun p hp => (h4.1 k hk12).2.2.1 p (by omega))
    unfold i64 at s4
    have hent : ∀ τ : Mm, τ 5 (12 * t + k) 4 = sSz S k → Ct 1 mX2_entriesInAll 1 [vR 5 (12 * t + k)] NALL τ (some (vI (sSz S k))) NALL τ 0 0 := fun τ e => by
      have := c_entriesInAll (d := 0) (σ := τ) (m := 12 * t + k) (by omega) (by rw [e]; exact s1)
      rw [e, hez] at this
      exact this
    have tT : ∀ x, totS σ 1 x 5 (12 * t + k) 4 = sSz S k := fun x => by rw [totS_f _ _ _ (by omega)]; exact tk2
    have loop : ∀ (c j : Nat) (C : Cx) (b : Int) (σ' : Mm), (j : Int) + c = sSz S k → Ok C RX8 cX8_keepsPromise 3 3 → (X C 1 47 [(0, vR 7 0), (1, vR 5 (12 * t + k))] [] NALL (totS σ 1 (sumE D k (sSz S k).toNat)) 0 0) → ∀ ls, lsub [(0, vR 7 0), (1, vR 5 (12 * t + k)), (2, vI j)] ls → X C 1 18 ls [] NALL (totS σ 1 (sumE D k j)) 0 0 := by
      intro c
      induction c with
      | zero =>
        intro j C b σ' hj h hx ls hls
        refine x_loc hls ?_
        rw [show (sSz S k).toNat = j by omega] at hx
        refine x_iload_n h dX8_keepsPromise_18 rfl ?_
        refine x_aload_n h dX8_keepsPromise_19 rfl ?_
        refine x_cV1 h kVX2_entriesInAll lkX8_90 ⟨_, _, _, rfl, rfl⟩ dX8_keepsPromise_20 (hent _ (tT _)) (lvm_5 (by omega)) rfl rfl (Nat.le_of_ble_eq_true rfl) (by omega) ?_
        refine x_ic_ge_T (tgt := 47) h (by omega) dX8_keepsPromise_23 (by decide) (by omega) ?_
        exact x_loc (ls' := [(0, vR 7 0), (1, vR 5 (12 * t + k))]) ⟨rfl, rfl, trivial⟩ hx
      | succ c ih =>
        intro j C b σ' hj h hx ls hls
        refine x_loc hls ?_
        have hj200 : j < 200 := by omega
        have hv := (h4.1 k hk12).2.2.1 j hj200
        have hat := c_atL (d := 0) (σ := totS σ 1 (sumE D k j)) (f := 16) (m := 12 * t + k) (k := j) kdf_16 (lvm_16 (by omega)) hj200
        rw [totS_f _ _ _ (by omega), show σ 16 (12 * t + k) j = D 16 k j from h1 16 k j (Or.inr (Or.inr (Or.inl ⟨rfl, hk12, hj200⟩)))] at hat
        have had := c_totadd (d := 0) (σ := totS σ 1 (sumE D k j)) (m := 1) (S := sumE D k j) (v := D 16 k j) (by decide) (totS_ok _ _ _) hv
        rw [totS_totS] at had
        refine x_iload_n h dX8_keepsPromise_18 rfl ?_
        refine x_aload_n h dX8_keepsPromise_19 rfl ?_
        refine x_cV1 h kVX2_entriesInAll lkX8_90 ⟨_, _, _, rfl, rfl⟩ dX8_keepsPromise_20 (hent _ (tT _)) (lvm_5 (by omega)) rfl rfl (Nat.le_of_ble_eq_true rfl) (by omega) ?_
        refine x_ic_ge_F (tgt := 47) h (by omega) dX8_keepsPromise_23 (by decide) (by omega) ?_
        refine x_aload_n h dX8_keepsPromise_26 rfl ?_
        refine x_get h fl_8_32 lvz_7 dX8_keepsPromise_27 (pvf_609 _ _) ?_
        refine x_aload_n h dX8_keepsPromise_30 rfl ?_
        refine x_get h fl_8_113 (lvm_5 (by omega)) dX8_keepsPromise_31 (pvf_716 _ _) ?_
        refine x_iload_n h dX8_keepsPromise_34 rfl ?_
        refine x_cN1 h kSX9_at_ lkNX8_116 dX8_keepsPromise_35 (hat) rfl rfl (Nat.le_of_ble_eq_true rfl) (by omega) ?_
        refine x_cV0 h kVX7_add lkX8_76 ⟨_, _, _, rfl, rfl⟩ dX8_keepsPromise_38 (had) (lvm_9 (by omega)) rfl rfl (Nat.le_of_ble_eq_true rfl) (by omega) ?_
        refine x_iinc h dX8_keepsPromise_41 rfl (by decide) ?_
        refine x_goto (tgt := 18) h dX8_keepsPromise_44 (by decide) ?_
        exact ih (j + 1) C b σ' (by omega) h hx _ ⟨rfl, rfl, rfl, trivial⟩
    have hcl := c_totclear (d := 0) (σ := σ) (m := 1) (by decide)
    rw [totS_0] at hcl
    have his := c_totis (d := 0) (σ := totS σ 1 (sumE D k (sSz S k).toNat)) (m := 1) (S := sumE D k (sSz S k).toNat) (v := sPr S k) (by decide) (totS_ok _ _ _) (by omega) s4
    have tpr : totS σ 1 (sumE D k (sSz S k).toNat) 5 (12 * t + k) 7 = sPr S k := by rw [totS_f _ _ _ (by omega)]; exact tk5 hip1
    have hfr : FrW t (totS σ 1 (sumE D k (sSz S k).toNat)) σ := FrW_up (FrW_up (FrW_refl t σ) _ (by omega)) _ (by omega)
    have hc2 : HC t D (totS σ 1 (sumE D k (sSz S k).toNat)) := HC_no (HC_no h1 (by omega)) (by omega)
    have hw2 : WS u w (totS σ 1 (sumE D k (sSz S k).toNat)) := WS_no (WS_no hws (by omega)) (by omega)
    by_cases he : sumE D k (sSz S k).toNat = sPr S k
    · rw [if_pos he]
      rw [if_pos he] at his
      refine ⟨1, totS σ 1 (sumE D k (sSz S k).toNat), ⟨hfr, rfl, hc2, hw2, fun j hj => totS_f _ _ _ (by omega), fun z => absurd z (by decide)⟩, ?_⟩
      refine ct_of (by decide) (Nat.le_of_ble_eq_true rfl) (fun C h hr _ => ?_)
      have h : Ok C RX8 cX8_keepsPromise 3 _ := h
      refine x_aload_n h dX8_keepsPromise_0 rfl ?_
      refine x_get (q := vI (1)) h fl_8_157 (lvm_5 (by omega)) dX8_keepsPromise_1 (congrArg vI (by first | exact tk4.trans hip1 | simp [up3, tk4.trans hip1])) ?_
      refine x_if_ne_T (tgt := 9) h (by omega) dX8_keepsPromise_4 (by decide) (by omega) ?_
      refine x_aload_n h dX8_keepsPromise_9 rfl ?_
      refine x_get h fl_8_32 lvz_7 dX8_keepsPromise_10 (pvf_609 _ _) ?_
      refine x_cV0 h kVX7_clear lkX8_75 ⟨_, _, _, rfl, rfl⟩ dX8_keepsPromise_13 (hcl) (lvm_9 (by omega)) rfl rfl (Nat.le_of_ble_eq_true rfl) (by omega) ?_
      refine x_iconst h dX8_keepsPromise_16 ?_
      refine x_istore_n h dX8_keepsPromise_17 (by decide) ?_
      refine loop (sSz S k).toNat 0 C 0 σ (by omega) h ?_ _ ⟨rfl, rfl, rfl, trivial⟩
      refine x_aload_n h dX8_keepsPromise_47 rfl ?_
      refine x_get h fl_8_32 lvz_7 dX8_keepsPromise_48 (pvf_609 _ _) ?_
      refine x_aload_n h dX8_keepsPromise_51 rfl ?_
      refine x_get (q := vL (sPr S k)) h fl_8_163 (lvm_5 (by omega)) dX8_keepsPromise_52 (congrArg vL (by first | exact tpr | simp [up3, tpr])) ?_
      refine x_cV1 h kVX7_is lkX8_166 ⟨_, _, _, rfl, rfl⟩ dX8_keepsPromise_55 (his) (lvm_9 (by omega)) rfl rfl (Nat.le_of_ble_eq_true rfl) (by omega) ?_
      refine x_if_ne_T (tgt := 69) h (by omega) dX8_keepsPromise_58 (by decide) (by omega) ?_
      refine x_iconst h dX8_keepsPromise_69 ?_
      refine x_goto (tgt := 74) h dX8_keepsPromise_70 (by decide) ?_
      exact x_ireturn h hr dX8_keepsPromise_74 (Or.inr ⟨rfl, by omega⟩) ⟨Nat.le_refl _, Nat.le_refl _⟩
    · rw [if_neg he]
      rw [if_neg he] at his
      refine ⟨0, _, WRes_fail hfr hc2 hw2.1 hw2.2.2.2, ?_⟩
      refine ct_of (by decide) (Nat.le_of_ble_eq_true rfl) (fun C h hr _ => ?_)
      have h : Ok C RX8 cX8_keepsPromise 3 _ := h
      refine x_aload_n h dX8_keepsPromise_0 rfl ?_
      refine x_get (q := vI (1)) h fl_8_157 (lvm_5 (by omega)) dX8_keepsPromise_1 (congrArg vI (by first | exact tk4.trans hip1 | simp [up3, tk4.trans hip1])) ?_
      refine x_if_ne_T (tgt := 9) h (by omega) dX8_keepsPromise_4 (by decide) (by omega) ?_
      refine x_aload_n h dX8_keepsPromise_9 rfl ?_
      refine x_get h fl_8_32 lvz_7 dX8_keepsPromise_10 (pvf_609 _ _) ?_
      refine x_cV0 h kVX7_clear lkX8_75 ⟨_, _, _, rfl, rfl⟩ dX8_keepsPromise_13 (hcl) (lvm_9 (by omega)) rfl rfl (Nat.le_of_ble_eq_true rfl) (by omega) ?_
      refine x_iconst h dX8_keepsPromise_16 ?_
      refine x_istore_n h dX8_keepsPromise_17 (by decide) ?_
      refine loop (sSz S k).toNat 0 C 0 σ (by omega) h ?_ _ ⟨rfl, rfl, rfl, trivial⟩
      refine x_aload_n h dX8_keepsPromise_47 rfl ?_
      refine x_get h fl_8_32 lvz_7 dX8_keepsPromise_48 (pvf_609 _ _) ?_
      refine x_aload_n h dX8_keepsPromise_51 rfl ?_
      refine x_get (q := vL (sPr S k)) h fl_8_163 (lvm_5 (by omega)) dX8_keepsPromise_52 (congrArg vL (by first | exact tpr | simp [up3, tpr])) ?_
      refine x_cV1 h kVX7_is lkX8_166 ⟨_, _, _, rfl, rfl⟩ dX8_keepsPromise_55 (his) (lvm_9 (by omega)) rfl rfl (Nat.le_of_ble_eq_true rfl) (by omega) ?_
      refine x_if_ne_F (tgt := 69) h (by omega) dX8_keepsPromise_58 (by decide) (by omega) ?_
      refine x_aload_n h dX8_keepsPromise_61 rfl ?_
      refine x_iconst h dX8_keepsPromise_62 ?_
      refine x_cV1 h kVX8_fail lkX8_96 ⟨_, _, _, rfl, rfl⟩ dX8_keepsPromise_63 (c_fail (d := 0) hw2.2.2.1) lvz_7 rfl rfl (Nat.le_of_ble_eq_true rfl) (by omega) ?_
      refine x_if_eq_T (tgt := 73) h (by omega) dX8_keepsPromise_66 (by decide) (by omega) ?_
      refine x_iconst h dX8_keepsPromise_73 ?_
      exact x_ireturn h hr dX8_keepsPromise_74 (Or.inr ⟨rfl, by omega⟩) ⟨Nat.le_refl _, Nat.le_refl _⟩
theorem c_fill {t n u w A R k δ : Nat} {S : Sd} {wk : WkT} {rw_ : RwT} {σ D : Mm} (hS : SOk S n) (hask : CAk t n S u (askF S wk rw_) A) (hrw : CRw t n S u rw_ R) (iask : AkOk S n δ (askF S wk rw_)) (ir : RwOk S n δ rw_) (hA : 4 ≤ A) (hR : R ≤ A) (hk : k < n) (hu : u ≤ 12) (hw : w + 24 ≤ 24 * u) (hok : WOk t n S D u w σ) (hP : Psi D + 12000 ≤ 2147483600) (h5 : D 5 k 8 = 1) (hz : ∀ j, j < 25 → D 17 k j = 0) : ∃ (b : Int) (σ' : Mm), WRes t σ u w false (fillF S wk rw_ D k) b σ' ∧ Ct (A + 3) mX8_fill 1 [vR 7 0, vR 5 (12 * t + k), vI k] NALL σ (some (vI b)) NALL σ' 0 0 := by
  have hn := hS.1
  have ht := hok.2.1.1
  have hk12 : k < 12 := by omega
  obtain ⟨s1, s2, s3, s4, s5, s6, s7⟩ := hS.2 k hk
  have hez := entsZ_r (sSz S k)
  have tab : ∀ τ : Mm, FrW t τ σ → τ 5 (12 * t + k) 4 = sSz S k ∧ τ 5 (12 * t + k) 5 = sBy S k ∧ τ 5 (12 * t + k) 6 = sIp S k := fun τ hf => by
    obtain ⟨tk1, tk2, tk3, tk4, tk5⟩ := ((KC_fr hok.2.1 hf).2.2.2 k hk).1
    exact ⟨tk2, tk3, tk4⟩
  obtain ⟨q2, q3, q4⟩ := tab σ (FrW_refl t σ)
  unfold fillF
  by_cases hb : sBy S k = 0
  · rw [if_pos hb]
    obtain ⟨e, he⟩ := Int.eq_ofNat_of_zero_le hez.1
    have hent := c_entriesInAll (d := 0) (σ := σ) (m := 12 * t + k) (by omega) (by rw [q2]; exact s1)
    rw [q2, he] at hent
    obtain ⟨b, σ', hres, hct⟩ := c_makeEntries (p := 0) (e := e) hS hask iask hA hk (Nat.zero_le _) (by omega) hu hw hok (by omega)
    refine ⟨b, σ', by rw [he]; exact hres, ?_⟩
    have hb01 : b = 0 ∨ b = 1 := by rcases WRes_g hres with ⟨x, -, q⟩ | ⟨x, -, q⟩ <;> omega
    refine ct_of (by decide) (Nat.le_of_ble_eq_true rfl) (fun C h hr _ => ?_)
    have h : Ok C RX8 cX8_fill 4 _ := h
    refine x_aload_n h dX8_fill_0 rfl ?_
    refine x_get (q := vI (0)) h fl_8_103 (lvm_5 (by omega)) dX8_fill_1 (congrArg vI (by first | exact q3.trans hb | simp [up3, q3.trans hb])) ?_
    refine x_if_ne_F (tgt := 19) h (by omega) dX8_fill_4 (by decide) (by omega) ?_
    refine x_aload_n h dX8_fill_7 rfl ?_
    refine x_aload_n h dX8_fill_8 rfl ?_
    refine x_iload_n h dX8_fill_9 rfl ?_
    refine x_iconst h dX8_fill_10 ?_
    refine x_aload_n h dX8_fill_11 rfl ?_
    refine x_cV1 h kVX2_entriesInAll lkX8_90 ⟨_, _, _, rfl, rfl⟩ dX8_fill_12 (hent) (lvm_5 (by omega)) rfl rfl (Nat.le_of_ble_eq_true rfl) (by omega) ?_
    refine x_cV1 h kVX8_makeEntries lkX8_154 ⟨_, _, _, rfl, rfl⟩ dX8_fill_15 (hct) lvz_7 rfl rfl (Nat.le_of_ble_eq_true rfl) (by omega) ?_
    exact x_ireturn h hr dX8_fill_18 (Or.inr ⟨rfl, by omega⟩) ⟨Nat.le_refl _, Nat.le_refl _⟩
  · rw [if_neg hb]
    have hb1 : sBy S k = 1 := by omega
    by_cases hip : sIp S k = 0
    · rw [if_pos hip]
      refine ⟨1, σ, WRes_here hok.1 hok.2.2.1, ?_⟩
      refine ct_of (by decide) (Nat.le_of_ble_eq_true rfl) (fun C h hr _ => ?_)
      have h : Ok C RX8 cX8_fill 4 _ := h
      refine x_aload_n h dX8_fill_0 rfl ?_
      refine x_get (q := vI (1)) h fl_8_103 (lvm_5 (by omega)) dX8_fill_1 (congrArg vI (by first | exact q3.trans hb1 | simp [up3, q3.trans hb1])) ?_
      refine x_if_ne_T (tgt := 19) h (by omega) dX8_fill_4 (by decide) (by omega) ?_
      refine x_iconst h dX8_fill_19 ?_
      refine x_istore_n h dX8_fill_20 (by decide) ?_
      refine x_aload_n h dX8_fill_21 rfl ?_
      refine x_get (q := vI (0)) h fl_8_157 (lvm_5 (by omega)) dX8_fill_22 (congrArg vI (by first | exact q4.trans hip | simp [up3, q4.trans hip])) ?_
      refine x_if_eq_T (tgt := 56) h (by omega) dX8_fill_25 (by decide) (by omega) ?_
      refine x_iconst h dX8_fill_56 ?_
      exact x_ireturn h hr dX8_fill_57 (Or.inr ⟨rfl, by omega⟩) ⟨Nat.le_refl _, Nat.le_refl _⟩
    · rw [if_neg hip]
      have hip1 : sIp S k = 1 := by omega
      have loop : ∀ (c r : Nat) (τ D : Mm), (r : Int) + c = (entsZ (sSz S k) + 7) / 8 → MB t σ u w D [] τ → DW S D → Psi D ≤ 2147483600 → D 5 k 8 = 1 → (∀ j, r ≤ j → j < 25 → D 17 k j = 0) → ∃ (b : Int) (σ' : Mm), WRes t σ u w false (rowsF rw_ k c r D) b σ' ∧ ∀ C : Cx, Ok C RX8 cX8_fill 4 (A + 3) → Rt C 1 (some .boolean) (some (vI b)) NALL σ' 0 0 → ∀ ls, lsub [(0, vR 7 0), (1, vR 5 (12 * t + k)), (2, vI k), (3, vI r)] ls → X C 1 21 ls [] NALL τ 0 0 := by
        intro c
        induction c with
        | zero =>
          intro r τ D hr hM hD hP h5 hz
          obtain ⟨z2, z3, z4⟩ := tab τ hM.1
          have hrows := c_rowsInAll (d := 0) (σ := τ) (m := 12 * t + k) (by omega) (by rw [z2]; exact s1)
          rw [z2] at hrows
          refine ⟨1, τ, ⟨hM.1, rfl, hM.2.1, hM.2.2.1, hM.2.2.2.1, fun z => absurd z (by decide)⟩, fun C h hr ls hls => x_loc hls ?_⟩
          refine x_aload_n h dX8_fill_21 rfl ?_
          refine x_get (q := vI (1)) h fl_8_157 (lvm_5 (by omega)) dX8_fill_22 (congrArg vI (by first | exact z4.trans hip1 | simp [up3, z4.trans hip1])) ?_
          refine x_if_eq_F (tgt := 56) h (by omega) dX8_fill_25 (by decide) (by omega) ?_
          refine x_iload_n h dX8_fill_28 rfl ?_
          refine x_aload_n h dX8_fill_29 rfl ?_
          refine x_cV1 h kVX2_rowsInAll lkX8_160 ⟨_, _, _, rfl, rfl⟩ dX8_fill_30 (hrows) (lvm_5 (by omega)) rfl rfl (Nat.le_of_ble_eq_true rfl) (by omega) ?_
          refine x_ic_ge_T (tgt := 56) h (by omega) dX8_fill_33 (by decide) (by omega) ?_
          refine x_iconst h dX8_fill_56 ?_
          exact x_ireturn h hr dX8_fill_57 (Or.inr ⟨rfl, by omega⟩) ⟨Nat.le_refl _, Nat.le_refl _⟩
        | succ c ih =>
          intro r τ D hr hM hD hP h5 hz
          obtain ⟨z2, z3, z4⟩ := tab τ hM.1
          have hrows := c_rowsInAll (d := 0) (σ := τ) (m := 12 * t + k) (by omega) (by rw [z2]; exact s1)
          rw [z2] at hrows
          have hr25 : r < 25 := by omega
          obtain ⟨b1, σ1, hres1, hct1⟩ := hrw τ D k r (-9) w ⟨hM.2.1, KC_fr hok.2.1 hM.1, hM.2.2.1, hD⟩ hP hk hr25 ⟨by omega, by omega⟩ (hz r (by omega) hr25) (by omega) hb (by omega)
          have hE := (ir D k r (-9) hD hk hr25 ⟨by omega, by omega⟩ (hz r (by omega) hr25) (by omega) hb).1
          rw [rowsF]
          cases hv : rw_ D k r (-9) with
          | inl y =>
            obtain ⟨why, m, D'⟩ := y
            rw [hv] at hres1
            obtain ⟨r1, rfl, r3, r4⟩ := hres1
            refine ⟨0, σ1, ⟨FrW_tr r1 hM.1, rfl, r3, r4⟩, fun C h hr ls hls => x_loc hls ?_⟩
            refine x_aload_n h dX8_fill_21 rfl ?_
            refine x_get (q := vI (1)) h fl_8_157 (lvm_5 (by omega)) dX8_fill_22 (congrArg vI (by first | exact z4.trans hip1 | simp [up3, z4.trans hip1])) ?_
            refine x_if_eq_F (tgt := 56) h (by omega) dX8_fill_25 (by decide) (by omega) ?_
            refine x_iload_n h dX8_fill_28 rfl ?_
            refine x_aload_n h dX8_fill_29 rfl ?_
            refine x_cV1 h kVX2_rowsInAll lkX8_160 ⟨_, _, _, rfl, rfl⟩ dX8_fill_30 (hrows) (lvm_5 (by omega)) rfl rfl (Nat.le_of_ble_eq_true rfl) (by omega) ?_
            refine x_ic_ge_F (tgt := 56) h (by omega) dX8_fill_33 (by decide) (by omega) ?_
            refine x_aload_n h dX8_fill_36 rfl ?_
            refine x_aload_n h dX8_fill_37 rfl ?_
            refine x_iload_n h dX8_fill_38 rfl ?_
            refine x_iload_n h dX8_fill_39 rfl ?_
            refine x_bipush h dX8_fill_40 (by decide) ?_
            refine x_cV1 h kVX8_makeRow lkX8_126 ⟨_, _, _, rfl, rfl⟩ dX8_fill_42 (hct1) lvz_7 rfl rfl (Nat.le_of_ble_eq_true rfl) (by omega) ?_
            refine x_if_ne_F (tgt := 50) h (by omega) dX8_fill_45 (by decide) (by omega) ?_
            refine x_iconst h dX8_fill_48 ?_
            exact x_ireturn h hr dX8_fill_49 (Or.inr ⟨rfl, by omega⟩) ⟨Nat.le_refl _, Nat.le_refl _⟩
          | inr y =>
            obtain ⟨v, D'⟩ := y
            rw [hv] at hres1 hE
            obtain ⟨r1, rfl, r3, r4, r5, -⟩ := hres1
            obtain ⟨e1, e2, e3, e4⟩ := hE
            have hM1 : MB t σ u w D' [] σ1 := ⟨FrW_tr r1 hM.1, r3, r4, fun j hj => (r5 j hj).trans (hM.2.2.2.1 j hj), trivial⟩
            have u0 := e3 k hk12
            obtain ⟨b, σ', hres, hx⟩ := ih (r + 1) σ1 D' (by omega) hM1 e1 (by omega) (by rw [u0.1 (by omega)]; exact h5) (fun j hj1 hj2 => by
              rw [(u0.2.2 j hj2).2.2 (fun z => by have := z.2; omega) h5]
              exact hz j (by omega) hj2)
            refine ⟨b, σ', hres, fun C h hr ls hls => x_loc hls ?_⟩
            refine x_aload_n h dX8_fill_21 rfl ?_
            refine x_get (q := vI (1)) h fl_8_157 (lvm_5 (by omega)) dX8_fill_22 (congrArg vI (by first | exact z4.trans hip1 | simp [up3, z4.trans hip1])) ?_
            refine x_if_eq_F (tgt := 56) h (by omega) dX8_fill_25 (by decide) (by omega) ?_
            refine x_iload_n h dX8_fill_28 rfl ?_
            refine x_aload_n h dX8_fill_29 rfl ?_
            refine x_cV1 h kVX2_rowsInAll lkX8_160 ⟨_, _, _, rfl, rfl⟩ dX8_fill_30 (hrows) (lvm_5 (by omega)) rfl rfl (Nat.le_of_ble_eq_true rfl) (by omega) ?_
            refine x_ic_ge_F (tgt := 56) h (by omega) dX8_fill_33 (by decide) (by omega) ?_
            refine x_aload_n h dX8_fill_36 rfl ?_
            refine x_aload_n h dX8_fill_37 rfl ?_
            refine x_iload_n h dX8_fill_38 rfl ?_
            refine x_iload_n h dX8_fill_39 rfl ?_
            refine x_bipush h dX8_fill_40 (by decide) ?_
            refine x_cV1 h kVX8_makeRow lkX8_126 ⟨_, _, _, rfl, rfl⟩ dX8_fill_42 (hct1) lvz_7 rfl rfl (Nat.le_of_ble_eq_true rfl) (by omega) ?_
            refine x_if_ne_T (tgt := 50) h (by omega) dX8_fill_45 (by decide) (by omega) ?_
            refine x_iinc h dX8_fill_50 rfl (by decide) ?_
            refine x_goto (tgt := 21) h dX8_fill_53 (by decide) ?_
            exact hx C h hr _ ⟨rfl, rfl, rfl, rfl, trivial⟩
      obtain ⟨b, σ', hres, hx⟩ := loop ((entsZ (sSz S k) + 7) / 8).toNat 0 σ D (by omega) ⟨FrW_refl t σ, hok.1, hok.2.2.1, fun _ _ => rfl, trivial⟩ hok.2.2.2 (by omega) h5 (fun j _ hj => hz j hj)
      refine ⟨b, σ', hres, ?_⟩
      refine ct_of (by decide) (Nat.le_of_ble_eq_true rfl) (fun C h hr _ => ?_)
      have h : Ok C RX8 cX8_fill 4 _ := h
      refine x_aload_n h dX8_fill_0 rfl ?_
      refine x_get (q := vI (1)) h fl_8_103 (lvm_5 (by omega)) dX8_fill_1 (congrArg vI (by first | exact q3.trans hb1 | simp [up3, q3.trans hb1])) ?_
      refine x_if_ne_T (tgt := 19) h (by omega) dX8_fill_4 (by decide) (by omega) ?_
      refine x_iconst h dX8_fill_19 ?_
      refine x_istore_n h dX8_fill_20 (by decide) ?_
      exact hx C h hr _ ⟨rfl, rfl, rfl, rfl, trivial⟩
/-- the body of wake -/
theorem c_body {t n u w A R k δ : Nat} {a : Int} {S : Sd} {wk : WkT} {rw_ : RwT} {σ D : Mm} (hS : SOk S n) (hask : CAk t n S u (askF S wk rw_) A) (hrw : CRw t n S u rw_ R) (iw : WkOk S n δ wk) (ir : RwOk S n δ rw_) (hA : 4 ≤ A) (hR : R ≤ A) (hk : k < n) (hu : u ≤ 12) (hw : w + 24 ≤ 24 * u) (hok : WOk t n S D u w σ) (hP : Psi D + 12000 ≤ 2147483600) (h5 : D 5 k 8 = 1) (hz : ∀ j, j < 25 → D 17 k j = 0) : ∃ (b : Int) (σ' : Mm), WRes t σ u w false (bodyW S wk rw_ D k) b σ' ∧ ∀ C : Cx, Ok C RX8 cX8_wake 5 (A + 4) → X C 1 76 [(0, vR 7 0), (1, vR 5 (12 * t + k)), (2, vI k), (3, vI a)] [vI b] NALL σ' 0 0 → X C 1 46 [(0, vR 7 0), (1, vR 5 (12 * t + k)), (2, vI k), (3, vI a)] [] NALL σ 0 0 := by
  have hn := hS.1
  have ht := hok.2.1.1
  have hk12 : k < 12 := by omega
  have iask := ask_i hn iw ir
  obtain ⟨s1, s2, s3, s4, s5, s6, s7⟩ := hS.2 k hk
  unfold i64 at s1
  obtain ⟨tk1, tk2, tk3, tk4, tk5⟩ := (hok.2.1.2.2.2 k hk).1
  have tk2 : σ 5 (12 * t + k) 4 = sSz S k := tk2
  unfold bodyW
  by_cases hlt : sSz S k < 0
  · rw [if_pos hlt]
    have hlay : Ct 3 mX8_layOut 1 [vR 7 0, vR 5 (12 * t + k)] NALL σ (some (vI 0)) NALL (addRS σ 0 3) 0 0 := by
      refine ct_of (by decide) (Nat.le_of_ble_eq_true rfl) (fun C h hr _ => ?_)
      have h : Ok C RX8 cX8_layOut 2 _ := h
      refine x_aload_n h dX8_layOut_0 rfl ?_
      refine x_get (q := vL (sSz S k)) h fl_8_146 (lvm_5 (by omega)) dX8_layOut_1 (congrArg vL (by first | exact tk2 | simp [up3, tk2])) ?_
      refine x_lconst0 h dX8_layOut_4 ?_
      refine x_lc_ge (tgt := 15) h (by omega) dX8_layOut_5 dX8_layOut_6 (by decide) (fun q => absurd q (by omega)) (fun _ => ?_)
      refine x_aload_n h dX8_layOut_9 rfl ?_
      refine x_iconst h dX8_layOut_10 ?_
      refine x_cV1 h kVX8_fail lkX8_96 ⟨_, _, _, rfl, rfl⟩ dX8_layOut_11 (c_fail (d := 0) hok.2.2.1.2.2.1) lvz_7 rfl rfl (Nat.le_of_ble_eq_true rfl) (by omega) ?_
      exact x_ireturn h hr dX8_layOut_14 (Or.inr ⟨rfl, by omega⟩) ⟨Nat.le_refl _, Nat.le_refl _⟩
    refine ⟨0, _, WRes_fail (FrW_refl t σ) hok.1 hok.2.2.1.1 hok.2.2.1.2.2.2, fun C h hx => ?_⟩
    refine x_aload_n h dX8_wake_46 rfl ?_
    refine x_aload_n h dX8_wake_47 rfl ?_
    refine x_cV1 h kVX8_layOut lkX8_131 ⟨_, _, _, rfl, rfl⟩ dX8_wake_48 (hlay) lvz_7 rfl rfl (Nat.le_of_ble_eq_true rfl) (by omega) ?_
    refine x_if_eq_T (tgt := 75) h (by omega) dX8_wake_51 (by decide) (by omega) ?_
    refine x_iconst h dX8_wake_75 ?_
    exact hx
  · rw [if_neg hlt]
    by_cases hgt : 200 < sSz S k
    · rw [if_pos hgt]
      have hlay : Ct 3 mX8_layOut 1 [vR 7 0, vR 5 (12 * t + k)] NALL σ (some (vI 0)) NALL (addRS σ 0 4) 0 0 := by
        refine ct_of (by decide) (Nat.le_of_ble_eq_true rfl) (fun C h hr _ => ?_)
        have h : Ok C RX8 cX8_layOut 2 _ := h
        refine x_aload_n h dX8_layOut_0 rfl ?_
        refine x_get (q := vL (sSz S k)) h fl_8_146 (lvm_5 (by omega)) dX8_layOut_1 (congrArg vL (by first | exact tk2 | simp [up3, tk2])) ?_
        refine x_lconst0 h dX8_layOut_4 ?_
        refine x_lc_ge (tgt := 15) h (by omega) dX8_layOut_5 dX8_layOut_6 (by decide) (fun _ => ?_) (fun q => absurd (by omega) q)
        refine x_aload_n h dX8_layOut_15 rfl ?_
        refine x_get (q := vL (sSz S k)) h fl_8_146 (lvm_5 (by omega)) dX8_layOut_16 (congrArg vL (by first | exact tk2 | simp [up3, tk2])) ?_
        refine x_ldc2 (x := 200) h dX8_layOut_19 klX8_149 (by decide) ?_
        refine x_lc_le (tgt := 32) h (by omega) dX8_layOut_22 dX8_layOut_23 (by decide) (fun q => absurd q (by omega)) (fun _ => ?_)
        refine x_aload_n h dX8_layOut_26 rfl ?_
        refine x_iconst h dX8_layOut_27 ?_
        refine x_cV1 h kVX8_fail lkX8_96 ⟨_, _, _, rfl, rfl⟩ dX8_layOut_28 (c_fail (d := 0) hok.2.2.1.2.2.1) lvz_7 rfl rfl (Nat.le_of_ble_eq_true rfl) (by omega) ?_
        exact x_ireturn h hr dX8_layOut_31 (Or.inr ⟨rfl, by omega⟩) ⟨Nat.le_refl _, Nat.le_refl _⟩
      refine ⟨0, _, WRes_fail (FrW_refl t σ) hok.1 hok.2.2.1.1 hok.2.2.1.2.2.2, fun C h hx => ?_⟩
      refine x_aload_n h dX8_wake_46 rfl ?_
      refine x_aload_n h dX8_wake_47 rfl ?_
      refine x_cV1 h kVX8_layOut lkX8_131 ⟨_, _, _, rfl, rfl⟩ dX8_wake_48 (hlay) lvz_7 rfl rfl (Nat.le_of_ble_eq_true rfl) (by omega) ?_
      refine x_if_eq_T (tgt := 75) h (by omega) dX8_wake_51 (by decide) (by omega) ?_
      refine x_iconst h dX8_wake_75 ?_
      exact hx
    · rw [if_neg hgt]
      have hlay : Ct 3 mX8_layOut 1 [vR 7 0, vR 5 (12 * t + k)] NALL σ (some (vI 1)) NALL (zeroA σ 16 (12 * t + k) 200) 0 0 := by
        refine ct_of (by decide) (Nat.le_of_ble_eq_true rfl) (fun C h hr _ => ?_)
        have h : Ok C RX8 cX8_layOut 2 _ := h
        refine x_aload_n h dX8_layOut_0 rfl ?_
        refine x_get (q := vL (sSz S k)) h fl_8_146 (lvm_5 (by omega)) dX8_layOut_1 (congrArg vL (by first | exact tk2 | simp [up3, tk2])) ?_
        refine x_lconst0 h dX8_layOut_4 ?_
        refine x_lc_ge (tgt := 15) h (by omega) dX8_layOut_5 dX8_layOut_6 (by decide) (fun _ => ?_) (fun q => absurd (by omega) q)
        refine x_aload_n h dX8_layOut_15 rfl ?_
        refine x_get (q := vL (sSz S k)) h fl_8_146 (lvm_5 (by omega)) dX8_layOut_16 (congrArg vL (by first | exact tk2 | simp [up3, tk2])) ?_
        refine x_ldc2 (x := 200) h dX8_layOut_19 klX8_149 (by decide) ?_
        refine x_lc_le (tgt := 32) h (by omega) dX8_layOut_22 dX8_layOut_23 (by decide) (fun _ => ?_) (fun q => absurd (by omega) q)
        refine x_aload_n h dX8_layOut_32 rfl ?_
        refine x_cV0 h kVX2_clearEntries lkX8_151 ⟨_, _, _, rfl, rfl⟩ dX8_layOut_33 (c_tclear (d := 0) (m := 12 * t + k) (by omega)) (lvm_5 (by omega)) rfl rfl (Nat.le_of_ble_eq_true rfl) (by omega) ?_
        refine x_iconst h dX8_layOut_36 ?_
        exact x_ireturn h hr dX8_layOut_37 (Or.inr ⟨rfl, by omega⟩) ⟨Nat.le_refl _, Nat.le_refl _⟩
      have zf : ∀ f j i, f ≠ 16 → zeroA σ 16 (12 * t + k) 200 f j i = σ f j i := fun f j i hf => by unfold zeroA; rw [if_neg (by omega)]
      have zd : ∀ f j i, f ≠ 16 → zeroA D 16 k 200 f j i = D f j i := fun f j i hf => by unfold zeroA; rw [if_neg (by omega)]
      have hfr0 : FrW t (zeroA σ 16 (12 * t + k) 200) σ := fun f j i hf => by unfold zeroA; rw [if_neg (by omega)]
      have hws0 : WS u w (zeroA σ 16 (12 * t + k) 200) := by
        obtain ⟨a1, a2, a3, a4⟩ := hok.2.2.1
        exact ⟨by rw [zf _ _ _ (by decide)]; exact a1, by rw [zf _ _ _ (by decide)]; exact a2, by rw [zf _ _ _ (by decide)]; exact a3, by rw [zf _ _ _ (by decide)]; exact a4⟩
      have hD0 : DW S (zeroA D 16 k 200) := DW_16 hok.2.2.2 zd (fun j p hj hp => by
        unfold zeroA
        split
        · exact i64z
        · exact (hok.2.2.2.1 j hj).2.2.1 p hp)
      have hlw0 : LowW w (zeroA σ 16 (12 * t + k) 200) σ := fun j _ => zf _ _ _ (by decide)
      have hok0 : WOk t n S (zeroA D 16 k 200) u w (zeroA σ 16 (12 * t + k) 200) := ⟨HC_clear hok.1 k, KC_fr hok.2.1 hfr0, hws0, hD0⟩
      have hP0 : Psi (zeroA D 16 k 200) + 12000 ≤ 2147483600 := by rw [Psi_16 zd]; exact hP
      have h50 : zeroA D 16 k 200 5 k 8 = 1 := by rw [zd _ _ _ (by decide)]; exact h5
      have hz0 : ∀ j, j < 25 → zeroA D 16 k 200 17 k j = 0 := fun j hj => by rw [zd _ _ _ (by decide)]; exact hz j hj
      obtain ⟨b1, σ1, hres1, hct1⟩ := c_fill hS hask hrw iask ir hA hR hk hu hw hok0 hP0 h50 hz0
      have hE := fill_i hS hk iw ir hD0 h50 hz0
      have hres1 := WRes_tr hfr0 hlw0 hres1
      cases hv : fillF S wk rw_ (zeroA D 16 k 200) k with
      | inl y =>
        rw [hv] at hres1
        have hb1 : b1 = 0 := hres1.2.1
        subst hb1
        refine ⟨0, σ1, hres1, fun C h hx => ?_⟩
        refine x_aload_n h dX8_wake_46 rfl ?_
        refine x_aload_n h dX8_wake_47 rfl ?_
        refine x_cV1 h kVX8_layOut lkX8_131 ⟨_, _, _, rfl, rfl⟩ dX8_wake_48 (hlay) lvz_7 rfl rfl (Nat.le_of_ble_eq_true rfl) (by omega) ?_
        refine x_if_eq_F (tgt := 75) h (by omega) dX8_wake_51 (by decide) (by omega) ?_
        refine x_aload_n h dX8_wake_54 rfl ?_
        refine x_aload_n h dX8_wake_55 rfl ?_
        refine x_iload_n h dX8_wake_56 rfl ?_
        refine x_cV1 h kVX8_fill lkX8_135 ⟨_, _, _, rfl, rfl⟩ dX8_wake_57 (hct1) lvz_7 rfl rfl (Nat.le_of_ble_eq_true rfl) (by omega) ?_
        refine x_if_eq_T (tgt := 75) h (by omega) dX8_wake_60 (by decide) (by omega) ?_
        refine x_iconst h dX8_wake_75 ?_
        exact hx
      | inr y =>
        obtain ⟨v, D'⟩ := y
        rw [hv] at hres1 hE
        obtain ⟨r1, hb1, r3, r4, r5, -⟩ := hres1
        subst hb1
        obtain ⟨b2, σ2, hres2, hct2⟩ := c_keepsPromise hS hk ⟨r3, KC_fr hok.2.1 r1, r4, hE.1⟩ (by omega)
        refine ⟨b2, σ2, WRes_tr r1 r5 hres2, fun C h hx => ?_⟩
        rcases WRes_g hres2 with ⟨x, -, rfl⟩ | ⟨x, -, rfl⟩
        · refine x_aload_n h dX8_wake_46 rfl ?_
          refine x_aload_n h dX8_wake_47 rfl ?_
          refine x_cV1 h kVX8_layOut lkX8_131 ⟨_, _, _, rfl, rfl⟩ dX8_wake_48 (hlay) lvz_7 rfl rfl (Nat.le_of_ble_eq_true rfl) (by omega) ?_
          refine x_if_eq_F (tgt := 75) h (by omega) dX8_wake_51 (by decide) (by omega) ?_
          refine x_aload_n h dX8_wake_54 rfl ?_
          refine x_aload_n h dX8_wake_55 rfl ?_
          refine x_iload_n h dX8_wake_56 rfl ?_
          refine x_cV1 h kVX8_fill lkX8_135 ⟨_, _, _, rfl, rfl⟩ dX8_wake_57 (hct1) lvz_7 rfl rfl (Nat.le_of_ble_eq_true rfl) (by omega) ?_
          refine x_if_eq_F (tgt := 75) h (by omega) dX8_wake_60 (by decide) (by omega) ?_
          refine x_aload_n h dX8_wake_63 rfl ?_
          refine x_aload_n h dX8_wake_64 rfl ?_
          refine x_cV1 h kVX8_keepsPromise lkX8_139 ⟨_, _, _, rfl, rfl⟩ dX8_wake_65 (hct2) lvz_7 rfl rfl (Nat.le_of_ble_eq_true rfl) (by omega) ?_
          refine x_if_eq_T (tgt := 75) h (by omega) dX8_wake_68 (by decide) (by omega) ?_
          refine x_iconst h dX8_wake_75 ?_
          exact hx
        · refine x_aload_n h dX8_wake_46 rfl ?_
          refine x_aload_n h dX8_wake_47 rfl ?_
          refine x_cV1 h kVX8_layOut lkX8_131 ⟨_, _, _, rfl, rfl⟩ dX8_wake_48 (hlay) lvz_7 rfl rfl (Nat.le_of_ble_eq_true rfl) (by omega) ?_
          refine x_if_eq_F (tgt := 75) h (by omega) dX8_wake_51 (by decide) (by omega) ?_
          refine x_aload_n h dX8_wake_54 rfl ?_
          refine x_aload_n h dX8_wake_55 rfl ?_
          refine x_iload_n h dX8_wake_56 rfl ?_
          refine x_cV1 h kVX8_fill lkX8_135 ⟨_, _, _, rfl, rfl⟩ dX8_wake_57 (hct1) lvz_7 rfl rfl (Nat.le_of_ble_eq_true rfl) (by omega) ?_
          refine x_if_eq_F (tgt := 75) h (by omega) dX8_wake_60 (by decide) (by omega) ?_
          refine x_aload_n h dX8_wake_63 rfl ?_
          refine x_aload_n h dX8_wake_64 rfl ?_
          refine x_cV1 h kVX8_keepsPromise lkX8_139 ⟨_, _, _, rfl, rfl⟩ dX8_wake_65 (hct2) lvz_7 rfl rfl (Nat.le_of_ble_eq_true rfl) (by omega) ?_
          refine x_if_eq_F (tgt := 75) h (by omega) dX8_wake_68 (by decide) (by omega) ?_
          refine x_iconst h dX8_wake_71 ?_
          refine x_goto (tgt := 76) h dX8_wake_72 (by decide) ?_
          exact hx
/-- underWay goes down, the condition is told -/
theorem end_frame {t u : Nat} {σ1 σ : Mm} {F k j : Nat} {x : Int} (hf : FrW t σ1 σ) (hF : (F = 5 ∧ j = 8 ∨ F = 17) ∧ k < 12) : FrW t (up3 (up3 σ1 7 0 8 u) F (trk t F k) j x) σ := by
  refine FrW_up (FrW_up hf _ (by omega)) _ ?_
  unfold trk
  rw [if_pos (by omega)]
  omega
theorem end_ok {t u w : Nat} {σ σ1 D' : Mm} {F k j : Nat} (hF : (F = 5 ∧ j = 8 ∨ F = 17) ∧ k < 12) (hf : FrW t σ1 σ) (hc : HC t D' σ1) (hw : WS (u + 1) w σ1) (hl : LowW w σ1 σ) : WRes t σ u w false (.inr (0, up3 D' F k j 2)) 1 (up3 (up3 σ1 7 0 8 u) F (trk t F k) j 2) := by
  obtain ⟨a1, a2, a3, a4⟩ := hw
  refine ⟨end_frame hf hF, rfl, HC_up (HC_no hc (by omega)) F k j 2, WS_no ⟨up3_s _ _ _ _ _, ?_, ?_, ?_⟩ (by omega), fun i hi => ?_, fun z => absurd z (by decide)⟩
  · rw [up3_j _ _ (by decide)]; exact a2
  · rw [up3_j _ _ (by decide)]; exact a3
  · rw [up3_j _ _ (by decide)]; exact a4
  · rw [up3_f _ _ (by omega), up3_f _ _ (by decide)]; exact hl i hi
theorem up3_o {σ : Mm} {F k j f' k' j' : Nat} (x : Int) (h : f' ≠ F) : up3 σ F k j x f' k' j' = σ f' k' j' := up3_f σ x h
theorem end_f0 {t u w : Nat} {σ σ1 D' : Mm} {F k j : Nat} {why : Int} (hF : (F = 5 ∧ j = 8 ∨ F = 17) ∧ k < 12) (hf : FrW t σ1 σ) (hc : HC t D' σ1) (hw : WF (u + 1) why 0 σ1) : WRes t σ u w false (.inl (why, 1, up3 D' F k j 3)) 0 (up3 (up3 (up3 σ1 7 0 8 u) F (trk t F k) j 3) 7 0 11 1) := by
  obtain ⟨a1, a2, a3, a4, a5⟩ := hw
  refine ⟨FrW_up (end_frame hf hF) _ (by omega), rfl, HC_no (HC_up (HC_no hc (by omega)) F k j 3) (by omega), ?_, ?_, ?_, ?_, fun i h1 h2 => by omega⟩
  · rw [up3_j _ _ (by decide), up3_f _ _ (by omega), up3_s]
  · rw [up3_j _ _ (by decide), up3_f _ _ (by omega), up3_j _ _ (by decide), a2]; rfl
  · rw [up3_s]; rfl
  · rw [up3_f _ _ (by decide), up3_f _ _ (by omega), up3_f _ _ (by decide)]; exact a4
theorem end_f1 {t u w m : Nat} {σ σ1 D' : Mm} {F k j : Nat} {why : Int} (hF : (F = 5 ∧ j = 8 ∨ F = 17) ∧ k < 12) (hf : FrW t σ1 σ) (hc : HC t D' σ1) (hw : WF (u + 1) why (m + 1) σ1) : WRes t σ u w false (.inl (why, m + 1 + 1, up3 D' F k j 3)) 0 (up3 (addRS (up3 (up3 σ1 7 0 8 u) F (trk t F k) j 3) (m + 1) 7) 7 0 11 1) := by
  obtain ⟨a1, a2, a3, a4, a5⟩ := hw
  unfold addRS
  refine ⟨FrW_up (FrW_up (FrW_up (end_frame hf hF) _ (by omega)) _ (by omega)) _ (by omega), rfl, HC_no (HC_no (HC_no (HC_up (HC_no hc (by omega)) F k j 3) (by omega)) (by omega)) (by omega), ?_, ?_, ?_, ?_, fun i h1 h2 => ?_⟩
  · rw [up3_j _ _ (by decide), up3_j _ _ (by decide), up3_f _ _ (by decide), up3_f _ _ (by omega), up3_s]
  · rw [up3_j _ _ (by decide), up3_s, if_neg (by omega)]; omega
  · rw [up3_s, if_neg (by omega)]
  · rw [up3_f _ _ (by decide), up3_f _ _ (by decide), up3_j _ _ (by omega), up3_f _ _ (by omega), up3_f _ _ (by decide)]; exact a4
  · rw [up3_f _ _ (by decide), up3_f _ _ (by decide)]
    by_cases q : i = m + 1
    · subst q; rw [up3_s]
    · rw [up3_j _ _ q, up3_f _ _ (by omega), up3_f _ _ (by decide)]
      exact a5 i h1 (by omega)
/-- noting a build: it's counted -/
theorem WS_note {u w : Nat} {σ : Mm} (h : WS u w σ) (m b : Nat) (x0 x1 x2 x3 : Int) : WS u w (noteS σ m b x0 x1 x2 x3) := by
  obtain ⟨a1, a2, a3, a4⟩ := h
  exact ⟨by rw [noteS_f _ _ _ _ _ _ _ ⟨by decide, by decide⟩]; exact a1, by rw [noteS_f _ _ _ _ _ _ _ ⟨by decide, by decide⟩]; exact a2, by rw [noteS_f _ _ _ _ _ _ _ ⟨by decide, by decide⟩]; exact a3, by rw [noteS_f _ _ _ _ _ _ _ ⟨by decide, by decide⟩]; exact a4⟩
theorem WS_upw {u u' w : Nat} {σ : Mm} (h : WS u w σ) : WS u' w (up3 σ 7 0 8 u') := by
  obtain ⟨a1, a2, a3, a4⟩ := h
  exact ⟨up3_s _ _ _ _ _, by rw [up3_j _ _ (by decide)]; exact a2, by rw [up3_j _ _ (by decide)]; exact a3, by rw [up3_j _ _ (by decide)]; exact a4⟩
theorem c_wake {t n u A R δ : Nat} {S : Sd} {wk : WkT} {rw_ : RwT} (hS : SOk S n) (hask : CAk t n S (u + 1) (askF S wk rw_) A) (hrw : CRw t n S (u + 1) rw_ R) (iw : WkOk S n δ wk) (ir : RwOk S n δ rw_) (hA : 4 ≤ A) (hR : R ≤ A) (hu : u + 1 + δ = 12) : CWk t n S u (wakeF S wk rw_) (A + 4) := by
  intro σ D k a w hok hP hk ha h0 hw
  have hn := hS.1
  have ht := hok.2.1.1
  have hk12 : k < 12 := by omega
  have h8 := hok.2.2.2.2.1
  have hps := Psi_c hok.2.2.2
  have d1 : DW S (up3 D 5 k 8 1) := DW_5 hok.2.2.2 hk12 (by omega)
  have d2 : DW S (bNote (up3 D 5 k 8 1) 0 k (-9) a 0) := DW_note d1 (by decide) ⟨by omega, by omega, ha⟩ i64z (fun _ => rfl)
  have p2 : Psi (bNote (up3 D 5 k 8 1) 0 k (-9) a 0) ≤ Psi D - 17499 := by
    have := Psi_wake hk12 h0
    rw [Psi_note d1 (by decide)]
    omega
  have e5 : bNote (up3 D 5 k 8 1) 0 k (-9) a 0 5 k 8 = 1 := by
    rw [show bNote (up3 D 5 k 8 1) 0 k (-9) a 0 5 k 8 = up3 D 5 k 8 1 5 k 8 from noteS_f _ _ _ _ _ _ _ ⟨by decide, by decide⟩ _ _, up3_s]
  have e17 : ∀ r, r < 25 → bNote (up3 D 5 k 8 1) 0 k (-9) a 0 17 k r = 0 := fun r hr => by
    rw [show bNote (up3 D 5 k 8 1) 0 k (-9) a 0 17 k r = up3 D 5 k 8 1 17 k r from noteS_f _ _ _ _ _ _ _ ⟨by decide, by decide⟩ _ _, up3_f _ _ (by decide)]
    exact (hok.2.2.2.1 k hk12).2.2.2 (Or.inl h0) r hr
  have et : trk t 5 k = 12 * t + k := by unfold trk; rw [if_pos (by omega)]
  have hτc : HC t (up3 D 5 k 8 1) (up3 (up3 σ 7 0 8 ((u + 1 : Nat) : Int)) 5 (12 * t + k) 8 1) := by
    have := HC_up (HC_no (f := 7) (k := 0) (j := 8) (x := ((u + 1 : Nat) : Int)) hok.1 (by omega)) 5 k 8 1
    rw [et] at this
    exact this
  have hbn : ∃ q : Nat, D 8 0 1 = q ∧ q < 2147483648 ∧ (up3 D 5 k 8 1 8 0 1).toNat = q := ⟨(D 8 0 1).toNat, by omega, by omega, by rw [up3_f _ _ (by decide)]⟩
  obtain ⟨q, hq1, hq2, hq3⟩ := hbn
  have hτ2 : HC t (bNote (up3 D 5 k 8 1) 0 k (-9) a 0) (noteS (up3 (up3 σ 7 0 8 ((u + 1 : Nat) : Int)) 5 (12 * t + k) 8 1) 0 q k (-9) a 0) := by
    have := HC_note hτc (m := 0) k (-9) a 0 (by decide)
    rw [hq3] at this
    exact this
  have hfr2 : FrW t (noteS (up3 (up3 σ 7 0 8 ((u + 1 : Nat) : Int)) 5 (12 * t + k) 8 1) 0 q k (-9) a 0) σ := FrW_note (FrW_up (FrW_up (FrW_refl t σ) _ (by omega)) _ (by omega)) _ _ _ _ _ _
  have hws2 : WS (u + 1) w (noteS (up3 (up3 σ 7 0 8 ((u + 1 : Nat) : Int)) 5 (12 * t + k) 8 1) 0 q k (-9) a 0) := WS_note (WS_no (WS_upw hok.2.2.1) (by omega)) _ _ _ _ _ _
  have hlw2 : LowW w (noteS (up3 (up3 σ 7 0 8 ((u + 1 : Nat) : Int)) 5 (12 * t + k) 8 1) 0 q k (-9) a 0) σ := fun j _ => by
    rw [noteS_f _ _ _ _ _ _ _ ⟨by decide, by decide⟩, up3_f _ _ (by decide), up3_f _ _ (by decide)]
  have hno := c_note (d := 0) (σ := up3 (up3 σ 7 0 8 ((u + 1 : Nat) : Int)) 5 (12 * t + k) 8 1) (m := 0) (b := q) (x0 := k) (x1 := -9) (x2 := a) (x3 := 0) (by decide) (by rw [up3_f _ _ (by decide), up3_f _ _ (by decide), HC_8 hok.1 (by decide)]; exact hq1) hq2
  obtain ⟨b1, σ1, hres1, hx1⟩ := c_body (a := a) hS hask hrw iw ir hA hR hk (by omega) (by omega) ⟨hτ2, KC_fr hok.2.1 hfr2, hws2, d2⟩ (by omega) e5 e17
  have hE := body_i hS hk iw ir d2 e5 e17
  have hres1 := WRes_tr hfr2 hlw2 hres1
  have ee : ((u + 1 : Nat) : Int) - 1 = u := by omega
  have e8 : σ 7 0 8 = u := hok.2.2.1.1
  unfold wakeF
  cases hv : bodyW S wk rw_ (bNote (up3 D 5 k 8 1) 0 k (-9) a 0) k with
  | inr y =>
    obtain ⟨v, D'⟩ := y
    rw [hv] at hres1
    obtain ⟨r1, hb1, r3, r4, r5, -⟩ := hres1
    subst hb1
    have hfin := end_ok (F := 5) (k := k) (j := 8) ⟨Or.inl ⟨rfl, rfl⟩, hk12⟩ r1 r3 r4 r5
    rw [et] at hfin
    refine ⟨1, _, hfin, ?_⟩
    have r48 : σ1 7 0 8 = ((u + 1 : Nat) : Int) := r4.1
    refine ct_of (by decide) (Nat.le_of_ble_eq_true rfl) (fun C h hr _ => ?_)
    have h : Ok C RX8 cX8_wake 5 _ := h
    refine x_aload_n h dX8_wake_0 rfl ?_
    refine x_get (q := vI (u)) h fl_8_47 lvz_7 dX8_wake_1 (congrArg vI (by first | exact e8 | simp [up3, e8])) ?_
    refine x_bipush h dX8_wake_4 (by decide) ?_
    refine x_ic_lt_T (tgt := 16) h (by omega) dX8_wake_6 (by decide) (by omega) ?_
    refine x_aload_n h dX8_wake_16 rfl ?_
    refine x_dup h dX8_wake_17 rfl ?_
    refine x_get (q := vI (u)) h fl_8_47 lvz_7 dX8_wake_18 (congrArg vI (by first | exact e8 | simp [up3, e8])) ?_
    refine x_iconst h dX8_wake_21 ?_
    refine x_iadd h dX8_wake_22 ?_
    refine x_put h fl_8_47 lvz_7 dX8_wake_23 rfl (fun z => absurd z (by decide)) ?_
    refine x_aload_n h dX8_wake_26 rfl ?_
    refine x_iconst h dX8_wake_27 ?_
    refine x_put h fl_8_100 (lvm_5 (by omega)) dX8_wake_28 rfl (fun z => absurd z (by decide)) ?_
    refine x_aload_n h dX8_wake_31 rfl ?_
    refine x_get h fl_8_12 lvz_7 dX8_wake_32 (pvf_508 _ _) ?_
    refine x_iload_n h dX8_wake_35 rfl ?_
    refine x_i2l h (by omega) dX8_wake_36 ?_
    refine x_ldc2 (x := (-9)) h dX8_wake_37 klX8_129 (by decide) ?_
    refine x_iload_n h dX8_wake_40 rfl ?_
    refine x_i2l h (by omega) dX8_wake_41 ?_
    refine x_lconst0 h dX8_wake_42 ?_
    refine x_cV0 h kVX1_note lkX8_119 ⟨_, _, _, rfl, rfl⟩ dX8_wake_43 (hno) (lvm_8 (by omega)) rfl rfl (Nat.le_of_ble_eq_true rfl) (by omega) ?_
    refine hx1 C h ?_
    refine x_istore h dX8_wake_76 (by decide) ?_
    refine x_aload_n h dX8_wake_78 rfl ?_
    refine x_dup h dX8_wake_79 rfl ?_
    refine x_get (q := vI (((u + 1 : Nat) : Int))) h fl_8_47 lvz_7 dX8_wake_80 (congrArg vI (by first | exact r48 | simp [up3, r48])) ?_
    refine x_iconst h dX8_wake_83 ?_
    refine x_isub h dX8_wake_84 ?_
    rw [ee]
    refine x_put h fl_8_47 lvz_7 dX8_wake_85 rfl (fun z => absurd z (by decide)) ?_
    refine x_aload_n h dX8_wake_88 rfl ?_
    refine x_iload h dX8_wake_89 rfl ?_
    refine x_if_eq_F (tgt := 98) h (by omega) dX8_wake_91 (by decide) (by omega) ?_
    refine x_iconst h dX8_wake_94 ?_
    refine x_goto (tgt := 99) h dX8_wake_95 (by decide) ?_
    refine x_put h fl_8_100 (lvm_5 (by omega)) dX8_wake_99 rfl (fun z => absurd z (by decide)) ?_
    refine x_iload h dX8_wake_102 rfl ?_
    refine x_if_ne_T (tgt := 114) h (by omega) dX8_wake_104 (by decide) (by omega) ?_
    refine x_iconst h dX8_wake_114 ?_
    refine x_goto (tgt := 119) h dX8_wake_115 (by decide) ?_
    exact x_ireturn h hr dX8_wake_119 (Or.inr ⟨rfl, by omega⟩) ⟨Nat.le_refl _, Nat.le_refl _⟩
  | inl y =>
    obtain ⟨why, m, D'⟩ := y
    rw [hv] at hres1 hE
    obtain ⟨r1, hb1, r3, r4⟩ := hres1
    subst hb1
    have hm := hE.2.2.2.2
    have r48 : σ1 7 0 8 = ((u + 1 : Nat) : Int) := r4.1
    cases m with
    | zero =>
      have hfin := end_f0 (w := w) (F := 5) (k := k) (j := 8) ⟨Or.inl ⟨rfl, rfl⟩, hk12⟩ r1 r3 r4
      rw [et] at hfin
      refine ⟨0, _, hfin, ?_⟩
      have hfw := c_failWR0 (d := 0) (σ := up3 (up3 σ1 7 0 8 u) 5 (12 * t + k) 8 3) (by rw [up3_f _ _ (by decide), up3_j _ _ (by decide)]; exact r4.2.2.1)
      refine ct_of (by decide) (Nat.le_of_ble_eq_true rfl) (fun C h hr _ => ?_)
      have h : Ok C RX8 cX8_wake 5 _ := h
      refine x_aload_n h dX8_wake_0 rfl ?_
      refine x_get (q := vI (u)) h fl_8_47 lvz_7 dX8_wake_1 (congrArg vI (by first | exact e8 | simp [up3, e8])) ?_
      refine x_bipush h dX8_wake_4 (by decide) ?_
      refine x_ic_lt_T (tgt := 16) h (by omega) dX8_wake_6 (by decide) (by omega) ?_
      refine x_aload_n h dX8_wake_16 rfl ?_
      refine x_dup h dX8_wake_17 rfl ?_
      refine x_get (q := vI (u)) h fl_8_47 lvz_7 dX8_wake_18 (congrArg vI (by first | exact e8 | simp [up3, e8])) ?_
      refine x_iconst h dX8_wake_21 ?_
      refine x_iadd h dX8_wake_22 ?_
      refine x_put h fl_8_47 lvz_7 dX8_wake_23 rfl (fun z => absurd z (by decide)) ?_
      refine x_aload_n h dX8_wake_26 rfl ?_
      refine x_iconst h dX8_wake_27 ?_
      refine x_put h fl_8_100 (lvm_5 (by omega)) dX8_wake_28 rfl (fun z => absurd z (by decide)) ?_
      refine x_aload_n h dX8_wake_31 rfl ?_
      refine x_get h fl_8_12 lvz_7 dX8_wake_32 (pvf_508 _ _) ?_
      refine x_iload_n h dX8_wake_35 rfl ?_
      refine x_i2l h (by omega) dX8_wake_36 ?_
      refine x_ldc2 (x := (-9)) h dX8_wake_37 klX8_129 (by decide) ?_
      refine x_iload_n h dX8_wake_40 rfl ?_
      refine x_i2l h (by omega) dX8_wake_41 ?_
      refine x_lconst0 h dX8_wake_42 ?_
      refine x_cV0 h kVX1_note lkX8_119 ⟨_, _, _, rfl, rfl⟩ dX8_wake_43 (hno) (lvm_8 (by omega)) rfl rfl (Nat.le_of_ble_eq_true rfl) (by omega) ?_
      refine hx1 C h ?_
      refine x_istore h dX8_wake_76 (by decide) ?_
      refine x_aload_n h dX8_wake_78 rfl ?_
      refine x_dup h dX8_wake_79 rfl ?_
      refine x_get (q := vI (((u + 1 : Nat) : Int))) h fl_8_47 lvz_7 dX8_wake_80 (congrArg vI (by first | exact r48 | simp [up3, r48])) ?_
      refine x_iconst h dX8_wake_83 ?_
      refine x_isub h dX8_wake_84 ?_
      rw [ee]
      refine x_put h fl_8_47 lvz_7 dX8_wake_85 rfl (fun z => absurd z (by decide)) ?_
      refine x_aload_n h dX8_wake_88 rfl ?_
      refine x_iload h dX8_wake_89 rfl ?_
      refine x_if_eq_T (tgt := 98) h (by omega) dX8_wake_91 (by decide) (by omega) ?_
      refine x_iconst h dX8_wake_98 ?_
      refine x_put h fl_8_100 (lvm_5 (by omega)) dX8_wake_99 rfl (fun z => absurd z (by decide)) ?_
      refine x_iload h dX8_wake_102 rfl ?_
      refine x_if_ne_F (tgt := 114) h (by omega) dX8_wake_104 (by decide) (by omega) ?_
      refine x_aload_n h dX8_wake_107 rfl ?_
      refine x_cV1 h kVX8_failWithReason lkX8_142 ⟨_, _, _, rfl, rfl⟩ dX8_wake_108 (hfw) lvz_7 rfl rfl (Nat.le_of_ble_eq_true rfl) (by omega) ?_
      refine x_if_eq_T (tgt := 118) h (by omega) dX8_wake_111 (by decide) (by omega) ?_
      refine x_iconst h dX8_wake_118 ?_
      exact x_ireturn h hr dX8_wake_119 (Or.inr ⟨rfl, by omega⟩) ⟨Nat.le_refl _, Nat.le_refl _⟩
    | succ m =>
      have hfin := end_f1 (w := w) (F := 5) (k := k) (j := 8) ⟨Or.inl ⟨rfl, rfl⟩, hk12⟩ r1 r3 r4
      rw [et] at hfin
      refine ⟨0, _, hfin, ?_⟩
      have hfw := c_failWR1 (d := 0) (σ := up3 (up3 σ1 7 0 8 u) 5 (12 * t + k) 8 3) (n := m + 1) (by rw [up3_f _ _ (by decide), up3_j _ _ (by decide), r4.2.2.1, if_neg (by omega)]) (by rw [up3_f _ _ (by decide), up3_j _ _ (by decide), r4.2.1, if_neg (by omega)]) (by omega)
      refine ct_of (by decide) (Nat.le_of_ble_eq_true rfl) (fun C h hr _ => ?_)
      have h : Ok C RX8 cX8_wake 5 _ := h
      refine x_aload_n h dX8_wake_0 rfl ?_
      refine x_get (q := vI (u)) h fl_8_47 lvz_7 dX8_wake_1 (congrArg vI (by first | exact e8 | simp [up3, e8])) ?_
      refine x_bipush h dX8_wake_4 (by decide) ?_
      refine x_ic_lt_T (tgt := 16) h (by omega) dX8_wake_6 (by decide) (by omega) ?_
      refine x_aload_n h dX8_wake_16 rfl ?_
      refine x_dup h dX8_wake_17 rfl ?_
      refine x_get (q := vI (u)) h fl_8_47 lvz_7 dX8_wake_18 (congrArg vI (by first | exact e8 | simp [up3, e8])) ?_
      refine x_iconst h dX8_wake_21 ?_
      refine x_iadd h dX8_wake_22 ?_
      refine x_put h fl_8_47 lvz_7 dX8_wake_23 rfl (fun z => absurd z (by decide)) ?_
      refine x_aload_n h dX8_wake_26 rfl ?_
      refine x_iconst h dX8_wake_27 ?_
      refine x_put h fl_8_100 (lvm_5 (by omega)) dX8_wake_28 rfl (fun z => absurd z (by decide)) ?_
      refine x_aload_n h dX8_wake_31 rfl ?_
      refine x_get h fl_8_12 lvz_7 dX8_wake_32 (pvf_508 _ _) ?_
      refine x_iload_n h dX8_wake_35 rfl ?_
      refine x_i2l h (by omega) dX8_wake_36 ?_
      refine x_ldc2 (x := (-9)) h dX8_wake_37 klX8_129 (by decide) ?_
      refine x_iload_n h dX8_wake_40 rfl ?_
      refine x_i2l h (by omega) dX8_wake_41 ?_
      refine x_lconst0 h dX8_wake_42 ?_
      refine x_cV0 h kVX1_note lkX8_119 ⟨_, _, _, rfl, rfl⟩ dX8_wake_43 (hno) (lvm_8 (by omega)) rfl rfl (Nat.le_of_ble_eq_true rfl) (by omega) ?_
      refine hx1 C h ?_
      refine x_istore h dX8_wake_76 (by decide) ?_
      refine x_aload_n h dX8_wake_78 rfl ?_
      refine x_dup h dX8_wake_79 rfl ?_
      refine x_get (q := vI (((u + 1 : Nat) : Int))) h fl_8_47 lvz_7 dX8_wake_80 (congrArg vI (by first | exact r48 | simp [up3, r48])) ?_
      refine x_iconst h dX8_wake_83 ?_
      refine x_isub h dX8_wake_84 ?_
      rw [ee]
      refine x_put h fl_8_47 lvz_7 dX8_wake_85 rfl (fun z => absurd z (by decide)) ?_
      refine x_aload_n h dX8_wake_88 rfl ?_
      refine x_iload h dX8_wake_89 rfl ?_
      refine x_if_eq_T (tgt := 98) h (by omega) dX8_wake_91 (by decide) (by omega) ?_
      refine x_iconst h dX8_wake_98 ?_
      refine x_put h fl_8_100 (lvm_5 (by omega)) dX8_wake_99 rfl (fun z => absurd z (by decide)) ?_
      refine x_iload h dX8_wake_102 rfl ?_
      refine x_if_ne_F (tgt := 114) h (by omega) dX8_wake_104 (by decide) (by omega) ?_
      refine x_aload_n h dX8_wake_107 rfl ?_
      refine x_cV1 h kVX8_failWithReason lkX8_142 ⟨_, _, _, rfl, rfl⟩ dX8_wake_108 (hfw) lvz_7 rfl rfl (Nat.le_of_ble_eq_true rfl) (by omega) ?_
      refine x_if_eq_T (tgt := 118) h (by omega) dX8_wake_111 (by decide) (by omega) ?_
      refine x_iconst h dX8_wake_118 ?_
      exact x_ireturn h hr dX8_wake_119 (Or.inr ⟨rfl, by omega⟩) ⟨Nat.le_refl _, Nat.le_refl _⟩
theorem c_makeRow {t n u A δ : Nat} {S : Sd} {wk : WkT} {rw_ : RwT} (hS : SOk S n) (hask : CAk t n S (u + 1) (askF S wk rw_) A) (iw : WkOk S n δ wk) (ir : RwOk S n δ rw_) (hA : 4 ≤ A) (hu : u + 1 + δ = 12) : CRw t n S u (rowF S wk rw_) (A + 4) := by
  intro σ D k r a w hok hP hk hr25 ha h0 h5 hb hw
  have hn := hS.1
  have ht := hok.2.1.1
  have hk12 : k < 12 := by omega
  have iask := ask_i hn iw ir
  have h8 := hok.2.2.2.2.1
  have hps := Psi_c hok.2.2.2
  have hez := entsZ_r (sSz S k)
  obtain ⟨s1, s2, s3, s4, s5, s6, s7⟩ := hS.2 k hk
  have d1 : DW S (up3 D 17 k r 1) := DW_17 hok.2.2.2 hk12 (by omega) h5 hb
  have d2 : DW S (bNote (up3 D 17 k r 1) 0 k r a 0) := DW_note d1 (by decide) ⟨by omega, by omega, ha⟩ i64z (fun _ => rfl)
  have p2 : Psi (bNote (up3 D 17 k r 1) 0 k r a 0) ≤ Psi D - 499 := by
    have := Psi_row hk12 hr25 h0 h5
    rw [Psi_note d1 (by decide)]
    omega
  have et : trk t 17 k = 12 * t + k := by unfold trk; rw [if_pos (by omega)]
  have hτc : HC t (up3 D 17 k r 1) (up3 (up3 σ 7 0 8 ((u + 1 : Nat) : Int)) 17 (12 * t + k) r 1) := by
    have := HC_up (HC_no (f := 7) (k := 0) (j := 8) (x := ((u + 1 : Nat) : Int)) hok.1 (by omega)) 17 k r 1
    rw [et] at this
    exact this
  have hbn : ∃ q : Nat, D 8 0 1 = q ∧ q < 2147483648 ∧ (up3 D 17 k r 1 8 0 1).toNat = q := ⟨(D 8 0 1).toNat, by omega, by omega, by rw [up3_f _ _ (by decide)]⟩
  obtain ⟨q, hq1, hq2, hq3⟩ := hbn
  have hτ2 : HC t (bNote (up3 D 17 k r 1) 0 k r a 0) (noteS (up3 (up3 σ 7 0 8 ((u + 1 : Nat) : Int)) 17 (12 * t + k) r 1) 0 q k r a 0) := by
    have := HC_note hτc (m := 0) k r a 0 (by decide)
    rw [hq3] at this
    exact this
  have hfr2 : FrW t (noteS (up3 (up3 σ 7 0 8 ((u + 1 : Nat) : Int)) 17 (12 * t + k) r 1) 0 q k r a 0) σ := FrW_note (FrW_up (FrW_up (FrW_refl t σ) _ (by omega)) _ (by omega)) _ _ _ _ _ _
  have hws2 : WS (u + 1) w (noteS (up3 (up3 σ 7 0 8 ((u + 1 : Nat) : Int)) 17 (12 * t + k) r 1) 0 q k r a 0) := WS_note (WS_no (WS_upw hok.2.2.1) (by omega)) _ _ _ _ _ _
  have hlw2 : LowW w (noteS (up3 (up3 σ 7 0 8 ((u + 1 : Nat) : Int)) 17 (12 * t + k) r 1) 0 q k r a 0) σ := fun j _ => by
    rw [noteS_f _ _ _ _ _ _ _ ⟨by decide, by decide⟩, up3_f _ _ (by decide), up3_f _ _ (by decide)]
  have hpu := c_put (d := 0) (σ := up3 σ 7 0 8 ((u + 1 : Nat) : Int)) (f := 17) (m := 12 * t + k) (k := r) (x := 1) kdf_17 (lvm_17 (by omega)) hr25
  have hno := c_note (d := 0) (σ := up3 (up3 σ 7 0 8 ((u + 1 : Nat) : Int)) 17 (12 * t + k) r 1) (m := 0) (b := q) (x0 := k) (x1 := r) (x2 := a) (x3 := 0) (by decide) (by rw [up3_f _ _ (by decide), up3_f _ _ (by decide), HC_8 hok.1 (by decide)]; exact hq1) hq2
  have hkr : -2147483648 ≤ (k : Int) ∧ (k : Int) < 2147483648 := by omega
  -- 8 * r .. end: where the row is empty (8 * r past the end), no entry is made
  obtain ⟨e, he⟩ := Int.eq_ofNat_of_zero_le (show 0 ≤ min (entsZ (sSz S k)) (8 * (r : Int) + 8) by omega)
  have hK2 := KC_fr hok.2.1 hfr2
  have hsz2 : noteS (up3 (up3 σ 7 0 8 ((u + 1 : Nat) : Int)) 17 (12 * t + k) r 1) 0 q k r a 0 5 (12 * t + k) 4 = sSz S k := (hK2.2.2.2 k hk).1.2.1
  have heor := c_endOfRow (d := 0) (m := 12 * t + k) (r := r) (σ := noteS (up3 (up3 σ 7 0 8 ((u + 1 : Nat) : Int)) 17 (12 * t + k) r 1) 0 q k r a 0) (by omega) (by rw [hsz2]; exact s1) (by omega)
  rw [hsz2, he] at heor
  have hgo : ∃ (b1 : Int) (σ1 : Mm), WRes t (noteS (up3 (up3 σ 7 0 8 ((u + 1 : Nat) : Int)) 17 (12 * t + k) r 1) 0 q k r a 0) (u + 1) w false (mkF S (askF S wk rw_) k (min (entsZ (sSz S k)) (8 * (r : Int) + 8) - 8 * r).toNat (8 * r) (bNote (up3 D 17 k r 1) 0 k r a 0)) b1 σ1 ∧ Ct (A + 2) mX8_makeEntries 1 [vR 7 0, vR 5 (12 * t + k), vI k, vI ((8 * r : Nat) : Int), vI e] NALL (noteS (up3 (up3 σ 7 0 8 ((u + 1 : Nat) : Int)) 17 (12 * t + k) r 1) 0 q k r a 0) (some (vI b1)) NALL σ1 0 0 := by
    rw [show (min (entsZ (sSz S k)) (8 * (r : Int) + 8) - 8 * r).toNat = e - 8 * r by omega]
    rcases Nat.lt_or_ge e (8 * r) with hlt | hge
    · rw [show e - 8 * r = 0 by omega]
      refine ⟨1, _, WRes_here hτ2 hws2, ?_⟩
      refine ct_of (by decide) (Nat.le_of_ble_eq_true rfl) (fun C h hr _ => ?_)
      have h : Ok C RX8 cX8_makeEntries 6 _ := h
      refine x_iload_n h dX8_makeEntries_0 rfl ?_
      refine x_istore h dX8_makeEntries_1 (by decide) ?_
      refine x_iload h dX8_makeEntries_3 rfl ?_
      refine x_iload h dX8_makeEntries_5 rfl ?_
      refine x_ic_ge_T (tgt := 45) h (by omega) dX8_makeEntries_7 (by decide) (by omega) ?_
      refine x_iconst h dX8_makeEntries_45 ?_
      exact x_ireturn h hr dX8_makeEntries_46 (Or.inr ⟨rfl, by omega⟩) ⟨Nat.le_refl _, Nat.le_refl _⟩
    · exact c_makeEntries hS hask iask hA hk hge (by omega) (by omega) (by omega) ⟨hτ2, hK2, hws2, d2⟩ (by omega)
  obtain ⟨b1, σ1, hres1, hct1⟩ := hgo
  have hE := mk_i (k := k) hS hk iask (min (entsZ (sSz S k)) (8 * (r : Int) + 8) - 8 * r).toNat (8 * r) _ d2 (by omega)
  have hres1 := WRes_tr hfr2 hlw2 hres1
  have ee : ((u + 1 : Nat) : Int) - 1 = u := by omega
  have e8 : σ 7 0 8 = u := hok.2.2.1.1
  have e88 : (8 : Int) * (r : Int) = ((8 * r : Nat) : Int) := by omega
  unfold rowF
  cases hv : mkF S (askF S wk rw_) k (min (entsZ (sSz S k)) (8 * (r : Int) + 8) - 8 * r).toNat (8 * r) (bNote (up3 D 17 k r 1) 0 k r a 0) with
  | inr y =>
    obtain ⟨v, D'⟩ := y
    rw [hv] at hres1
    obtain ⟨r1, hb1, r3, r4, r5, -⟩ := hres1
    subst hb1
    have hfin := end_ok (F := 17) (k := k) (j := r) ⟨Or.inr rfl, hk12⟩ r1 r3 r4 r5
    rw [et] at hfin
    refine ⟨1, _, hfin, ?_⟩
    have r48 : σ1 7 0 8 = ((u + 1 : Nat) : Int) := r4.1
    have hpu2 := c_put (d := 0) (σ := up3 σ1 7 0 8 (u : Int)) (f := 17) (m := 12 * t + k) (k := r) (x := 2) kdf_17 (lvm_17 (by omega)) hr25
    refine ct_of (by decide) (Nat.le_of_ble_eq_true rfl) (fun C h hr _ => ?_)
    have h : Ok C RX8 cX8_makeRow 6 _ := h
    refine x_aload_n h dX8_makeRow_0 rfl ?_
    refine x_get (q := vI (u)) h fl_8_47 lvz_7 dX8_makeRow_1 (congrArg vI (by first | exact e8 | simp [up3, e8])) ?_
    refine x_bipush h dX8_makeRow_4 (by decide) ?_
    refine x_ic_lt_T (tgt := 16) h (by omega) dX8_makeRow_6 (by decide) (by omega) ?_
    refine x_aload_n h dX8_makeRow_16 rfl ?_
    refine x_dup h dX8_makeRow_17 rfl ?_
    refine x_get (q := vI (u)) h fl_8_47 lvz_7 dX8_makeRow_18 (congrArg vI (by first | exact e8 | simp [up3, e8])) ?_
    refine x_iconst h dX8_makeRow_21 ?_
    refine x_iadd h dX8_makeRow_22 ?_
    refine x_put h fl_8_47 lvz_7 dX8_makeRow_23 rfl (fun z => absurd z (by decide)) ?_
    refine x_aload_n h dX8_makeRow_26 rfl ?_
    refine x_get h fl_8_110 (lvm_5 (by omega)) dX8_makeRow_27 (pvf_717 _ _) ?_
    refine x_iload_n h dX8_makeRow_30 rfl ?_
    refine x_iconst h dX8_makeRow_31 ?_
    refine x_cN0 h kSX9_put lkNX8_170 dX8_makeRow_32 (hpu) rfl rfl (Nat.le_of_ble_eq_true rfl) (by omega) ?_
    refine x_aload_n h dX8_makeRow_35 rfl ?_
    refine x_get h fl_8_12 lvz_7 dX8_makeRow_36 (pvf_508 _ _) ?_
    refine x_iload_n h dX8_makeRow_39 rfl ?_
    refine x_i2l h (by omega) dX8_makeRow_40 ?_
    refine x_iload_n h dX8_makeRow_41 rfl ?_
    refine x_i2l h (by omega) dX8_makeRow_42 ?_
    refine x_iload h dX8_makeRow_43 rfl ?_
    refine x_i2l h (by omega) dX8_makeRow_45 ?_
    refine x_lconst0 h dX8_makeRow_46 ?_
    refine x_cV0 h kVX1_note lkX8_119 ⟨_, _, _, rfl, rfl⟩ dX8_makeRow_47 (hno) (lvm_8 (by omega)) rfl rfl (Nat.le_of_ble_eq_true rfl) (by omega) ?_
    refine x_aload_n h dX8_makeRow_50 rfl ?_
    refine x_aload_n h dX8_makeRow_51 rfl ?_
    refine x_iload_n h dX8_makeRow_52 rfl ?_
    refine x_bipush h dX8_makeRow_53 (by decide) ?_
    refine x_iload_n h dX8_makeRow_55 rfl ?_
    refine x_imul h dX8_makeRow_56 ?_
    rw [e88]
    refine x_aload_n h dX8_makeRow_57 rfl ?_
    refine x_iload_n h dX8_makeRow_58 rfl ?_
    refine x_cV1 h kVX2_endOfRow lkX8_174 ⟨_, _, _, rfl, rfl⟩ dX8_makeRow_59 (heor) (lvm_5 (by omega)) rfl rfl (Nat.le_of_ble_eq_true rfl) (by omega) ?_
    refine x_cV1 h kVX8_makeEntries lkX8_154 ⟨_, _, _, rfl, rfl⟩ dX8_makeRow_62 (hct1) lvz_7 rfl rfl (Nat.le_of_ble_eq_true rfl) (by omega) ?_
    refine x_istore h dX8_makeRow_65 (by decide) ?_
    refine x_aload_n h dX8_makeRow_67 rfl ?_
    refine x_dup h dX8_makeRow_68 rfl ?_
    refine x_get (q := vI (((u + 1 : Nat) : Int))) h fl_8_47 lvz_7 dX8_makeRow_69 (congrArg vI (by first | exact r48 | simp [up3, r48])) ?_
    refine x_iconst h dX8_makeRow_72 ?_
    refine x_isub h dX8_makeRow_73 ?_
    rw [ee]
    refine x_put h fl_8_47 lvz_7 dX8_makeRow_74 rfl (fun z => absurd z (by decide)) ?_
    refine x_aload_n h dX8_makeRow_77 rfl ?_
    refine x_get h fl_8_110 (lvm_5 (by omega)) dX8_makeRow_78 (pvf_717 _ _) ?_
    refine x_iload_n h dX8_makeRow_81 rfl ?_
    refine x_iload h dX8_makeRow_82 rfl ?_
    refine x_if_eq_F (tgt := 91) h (by omega) dX8_makeRow_84 (by decide) (by omega) ?_
    refine x_iconst h dX8_makeRow_87 ?_
    refine x_goto (tgt := 92) h dX8_makeRow_88 (by decide) ?_
    refine x_cN0 h kSX9_put lkNX8_170 dX8_makeRow_92 (hpu2) rfl rfl (Nat.le_of_ble_eq_true rfl) (by omega) ?_
    refine x_iload h dX8_makeRow_95 rfl ?_
    refine x_if_ne_T (tgt := 107) h (by omega) dX8_makeRow_97 (by decide) (by omega) ?_
    refine x_iconst h dX8_makeRow_107 ?_
    refine x_goto (tgt := 112) h dX8_makeRow_108 (by decide) ?_
    exact x_ireturn h hr dX8_makeRow_112 (Or.inr ⟨rfl, by omega⟩) ⟨Nat.le_refl _, Nat.le_refl _⟩
  | inl y =>
    obtain ⟨why, m, D'⟩ := y
    rw [hv] at hres1 hE
    obtain ⟨r1, hb1, r3, r4⟩ := hres1
    subst hb1
    have hm := hE.2.2.2.2
    have r48 : σ1 7 0 8 = ((u + 1 : Nat) : Int) := r4.1
    have hpu2 := c_put (d := 0) (σ := up3 σ1 7 0 8 (u : Int)) (f := 17) (m := 12 * t + k) (k := r) (x := 3) kdf_17 (lvm_17 (by omega)) hr25
    cases m with
    | zero =>
      have hfin := end_f0 (w := w) (F := 17) (k := k) (j := r) ⟨Or.inr rfl, hk12⟩ r1 r3 r4
      rw [et] at hfin
      refine ⟨0, _, hfin, ?_⟩
      have hfw := c_failWR0 (d := 0) (σ := up3 (up3 σ1 7 0 8 u) 17 (12 * t + k) r 3) (by rw [up3_f _ _ (by decide), up3_j _ _ (by decide)]; exact r4.2.2.1)
      refine ct_of (by decide) (Nat.le_of_ble_eq_true rfl) (fun C h hr _ => ?_)
      have h : Ok C RX8 cX8_makeRow 6 _ := h
      refine x_aload_n h dX8_makeRow_0 rfl ?_
      refine x_get (q := vI (u)) h fl_8_47 lvz_7 dX8_makeRow_1 (congrArg vI (by first | exact e8 | simp [up3, e8])) ?_
      refine x_bipush h dX8_makeRow_4 (by decide) ?_
      refine x_ic_lt_T (tgt := 16) h (by omega) dX8_makeRow_6 (by decide) (by omega) ?_
      refine x_aload_n h dX8_makeRow_16 rfl ?_
      refine x_dup h dX8_makeRow_17 rfl ?_
      refine x_get (q := vI (u)) h fl_8_47 lvz_7 dX8_makeRow_18 (congrArg vI (by first | exact e8 | simp [up3, e8])) ?_
      refine x_iconst h dX8_makeRow_21 ?_
      refine x_iadd h dX8_makeRow_22 ?_
      refine x_put h fl_8_47 lvz_7 dX8_makeRow_23 rfl (fun z => absurd z (by decide)) ?_
      refine x_aload_n h dX8_makeRow_26 rfl ?_
      refine x_get h fl_8_110 (lvm_5 (by omega)) dX8_makeRow_27 (pvf_717 _ _) ?_
      refine x_iload_n h dX8_makeRow_30 rfl ?_
      refine x_iconst h dX8_makeRow_31 ?_
      refine x_cN0 h kSX9_put lkNX8_170 dX8_makeRow_32 (hpu) rfl rfl (Nat.le_of_ble_eq_true rfl) (by omega) ?_
      refine x_aload_n h dX8_makeRow_35 rfl ?_
      refine x_get h fl_8_12 lvz_7 dX8_makeRow_36 (pvf_508 _ _) ?_
      refine x_iload_n h dX8_makeRow_39 rfl ?_
      refine x_i2l h (by omega) dX8_makeRow_40 ?_
      refine x_iload_n h dX8_makeRow_41 rfl ?_
      refine x_i2l h (by omega) dX8_makeRow_42 ?_
      refine x_iload h dX8_makeRow_43 rfl ?_
      refine x_i2l h (by omega) dX8_makeRow_45 ?_
      refine x_lconst0 h dX8_makeRow_46 ?_
      refine x_cV0 h kVX1_note lkX8_119 ⟨_, _, _, rfl, rfl⟩ dX8_makeRow_47 (hno) (lvm_8 (by omega)) rfl rfl (Nat.le_of_ble_eq_true rfl) (by omega) ?_
      refine x_aload_n h dX8_makeRow_50 rfl ?_
      refine x_aload_n h dX8_makeRow_51 rfl ?_
      refine x_iload_n h dX8_makeRow_52 rfl ?_
      refine x_bipush h dX8_makeRow_53 (by decide) ?_
      refine x_iload_n h dX8_makeRow_55 rfl ?_
      refine x_imul h dX8_makeRow_56 ?_
      rw [e88]
      refine x_aload_n h dX8_makeRow_57 rfl ?_
      refine x_iload_n h dX8_makeRow_58 rfl ?_
      refine x_cV1 h kVX2_endOfRow lkX8_174 ⟨_, _, _, rfl, rfl⟩ dX8_makeRow_59 (heor) (lvm_5 (by omega)) rfl rfl (Nat.le_of_ble_eq_true rfl) (by omega) ?_
      refine x_cV1 h kVX8_makeEntries lkX8_154 ⟨_, _, _, rfl, rfl⟩ dX8_makeRow_62 (hct1) lvz_7 rfl rfl (Nat.le_of_ble_eq_true rfl) (by omega) ?_
      refine x_istore h dX8_makeRow_65 (by decide) ?_
      refine x_aload_n h dX8_makeRow_67 rfl ?_
      refine x_dup h dX8_makeRow_68 rfl ?_
      refine x_get (q := vI (((u + 1 : Nat) : Int))) h fl_8_47 lvz_7 dX8_makeRow_69 (congrArg vI (by first | exact r48 | simp [up3, r48])) ?_
      refine x_iconst h dX8_makeRow_72 ?_
      refine x_isub h dX8_makeRow_73 ?_
      rw [ee]
      refine x_put h fl_8_47 lvz_7 dX8_makeRow_74 rfl (fun z => absurd z (by decide)) ?_
      refine x_aload_n h dX8_makeRow_77 rfl ?_
      refine x_get h fl_8_110 (lvm_5 (by omega)) dX8_makeRow_78 (pvf_717 _ _) ?_
      refine x_iload_n h dX8_makeRow_81 rfl ?_
      refine x_iload h dX8_makeRow_82 rfl ?_
      refine x_if_eq_T (tgt := 91) h (by omega) dX8_makeRow_84 (by decide) (by omega) ?_
      refine x_iconst h dX8_makeRow_91 ?_
      refine x_cN0 h kSX9_put lkNX8_170 dX8_makeRow_92 (hpu2) rfl rfl (Nat.le_of_ble_eq_true rfl) (by omega) ?_
      refine x_iload h dX8_makeRow_95 rfl ?_
      refine x_if_ne_F (tgt := 107) h (by omega) dX8_makeRow_97 (by decide) (by omega) ?_
      refine x_aload_n h dX8_makeRow_100 rfl ?_
      refine x_cV1 h kVX8_failWithReason lkX8_142 ⟨_, _, _, rfl, rfl⟩ dX8_makeRow_101 (hfw) lvz_7 rfl rfl (Nat.le_of_ble_eq_true rfl) (by omega) ?_
      refine x_if_eq_T (tgt := 111) h (by omega) dX8_makeRow_104 (by decide) (by omega) ?_
      refine x_iconst h dX8_makeRow_111 ?_
      exact x_ireturn h hr dX8_makeRow_112 (Or.inr ⟨rfl, by omega⟩) ⟨Nat.le_refl _, Nat.le_refl _⟩
    | succ m =>
      have hfin := end_f1 (w := w) (F := 17) (k := k) (j := r) ⟨Or.inr rfl, hk12⟩ r1 r3 r4
      rw [et] at hfin
      refine ⟨0, _, hfin, ?_⟩
      have hfw := c_failWR1 (d := 0) (σ := up3 (up3 σ1 7 0 8 u) 17 (12 * t + k) r 3) (n := m + 1) (by rw [up3_f _ _ (by decide), up3_j _ _ (by decide), r4.2.2.1, if_neg (by omega)]) (by rw [up3_f _ _ (by decide), up3_j _ _ (by decide), r4.2.1, if_neg (by omega)]) (by omega)
      refine ct_of (by decide) (Nat.le_of_ble_eq_true rfl) (fun C h hr _ => ?_)
      have h : Ok C RX8 cX8_makeRow 6 _ := h
      refine x_aload_n h dX8_makeRow_0 rfl ?_
      refine x_get (q := vI (u)) h fl_8_47 lvz_7 dX8_makeRow_1 (congrArg vI (by first | exact e8 | simp [up3, e8])) ?_
      refine x_bipush h dX8_makeRow_4 (by decide) ?_
      refine x_ic_lt_T (tgt := 16) h (by omega) dX8_makeRow_6 (by decide) (by omega) ?_
      refine x_aload_n h dX8_makeRow_16 rfl ?_
      refine x_dup h dX8_makeRow_17 rfl ?_
      refine x_get (q := vI (u)) h fl_8_47 lvz_7 dX8_makeRow_18 (congrArg vI (by first | exact e8 | simp [up3, e8])) ?_
      refine x_iconst h dX8_makeRow_21 ?_
      refine x_iadd h dX8_makeRow_22 ?_
      refine x_put h fl_8_47 lvz_7 dX8_makeRow_23 rfl (fun z => absurd z (by decide)) ?_
      refine x_aload_n h dX8_makeRow_26 rfl ?_
      refine x_get h fl_8_110 (lvm_5 (by omega)) dX8_makeRow_27 (pvf_717 _ _) ?_
      refine x_iload_n h dX8_makeRow_30 rfl ?_
      refine x_iconst h dX8_makeRow_31 ?_
      refine x_cN0 h kSX9_put lkNX8_170 dX8_makeRow_32 (hpu) rfl rfl (Nat.le_of_ble_eq_true rfl) (by omega) ?_
      refine x_aload_n h dX8_makeRow_35 rfl ?_
      refine x_get h fl_8_12 lvz_7 dX8_makeRow_36 (pvf_508 _ _) ?_
      refine x_iload_n h dX8_makeRow_39 rfl ?_
      refine x_i2l h (by omega) dX8_makeRow_40 ?_
      refine x_iload_n h dX8_makeRow_41 rfl ?_
      refine x_i2l h (by omega) dX8_makeRow_42 ?_
      refine x_iload h dX8_makeRow_43 rfl ?_
      refine x_i2l h (by omega) dX8_makeRow_45 ?_
      refine x_lconst0 h dX8_makeRow_46 ?_
      refine x_cV0 h kVX1_note lkX8_119 ⟨_, _, _, rfl, rfl⟩ dX8_makeRow_47 (hno) (lvm_8 (by omega)) rfl rfl (Nat.le_of_ble_eq_true rfl) (by omega) ?_
      refine x_aload_n h dX8_makeRow_50 rfl ?_
      refine x_aload_n h dX8_makeRow_51 rfl ?_
      refine x_iload_n h dX8_makeRow_52 rfl ?_
      refine x_bipush h dX8_makeRow_53 (by decide) ?_
      refine x_iload_n h dX8_makeRow_55 rfl ?_
      refine x_imul h dX8_makeRow_56 ?_
      rw [e88]
      refine x_aload_n h dX8_makeRow_57 rfl ?_
      refine x_iload_n h dX8_makeRow_58 rfl ?_
      refine x_cV1 h kVX2_endOfRow lkX8_174 ⟨_, _, _, rfl, rfl⟩ dX8_makeRow_59 (heor) (lvm_5 (by omega)) rfl rfl (Nat.le_of_ble_eq_true rfl) (by omega) ?_
      refine x_cV1 h kVX8_makeEntries lkX8_154 ⟨_, _, _, rfl, rfl⟩ dX8_makeRow_62 (hct1) lvz_7 rfl rfl (Nat.le_of_ble_eq_true rfl) (by omega) ?_
      refine x_istore h dX8_makeRow_65 (by decide) ?_
      refine x_aload_n h dX8_makeRow_67 rfl ?_
      refine x_dup h dX8_makeRow_68 rfl ?_
      refine x_get (q := vI (((u + 1 : Nat) : Int))) h fl_8_47 lvz_7 dX8_makeRow_69 (congrArg vI (by first | exact r48 | simp [up3, r48])) ?_
      refine x_iconst h dX8_makeRow_72 ?_
      refine x_isub h dX8_makeRow_73 ?_
      rw [ee]
      refine x_put h fl_8_47 lvz_7 dX8_makeRow_74 rfl (fun z => absurd z (by decide)) ?_
      refine x_aload_n h dX8_makeRow_77 rfl ?_
      refine x_get h fl_8_110 (lvm_5 (by omega)) dX8_makeRow_78 (pvf_717 _ _) ?_
      refine x_iload_n h dX8_makeRow_81 rfl ?_
      refine x_iload h dX8_makeRow_82 rfl ?_
      refine x_if_eq_T (tgt := 91) h (by omega) dX8_makeRow_84 (by decide) (by omega) ?_
      refine x_iconst h dX8_makeRow_91 ?_
      refine x_cN0 h kSX9_put lkNX8_170 dX8_makeRow_92 (hpu2) rfl rfl (Nat.le_of_ble_eq_true rfl) (by omega) ?_
      refine x_iload h dX8_makeRow_95 rfl ?_
      refine x_if_ne_F (tgt := 107) h (by omega) dX8_makeRow_97 (by decide) (by omega) ?_
      refine x_aload_n h dX8_makeRow_100 rfl ?_
      refine x_cV1 h kVX8_failWithReason lkX8_142 ⟨_, _, _, rfl, rfl⟩ dX8_makeRow_101 (hfw) lvz_7 rfl rfl (Nat.le_of_ble_eq_true rfl) (by omega) ?_
      refine x_if_eq_T (tgt := 111) h (by omega) dX8_makeRow_104 (by decide) (by omega) ?_
      refine x_iconst h dX8_makeRow_111 ?_
      exact x_ireturn h hr dX8_makeRow_112 (Or.inr ⟨rfl, by omega⟩) ⟨Nat.le_refl _, Nat.le_refl _⟩
/-! the levels -/
theorem lv_c {t n : Nat} {S : Sd} (hS : SOk S n) : ∀ (δ u : Nat), u + δ = 12 → CWk t n S u (lvW S δ).1 (6 * δ + 4) ∧ CRw t n S u (lvW S δ).2 (6 * δ + 4) := by
  intro δ
  induction δ with
  | zero =>
    intro u hu
    obtain rfl : u = 12 := by omega
    constructor
    · intro σ D k a w hok hP hk ha h0 hw
      refine ⟨0, addRS σ 0 8, WRes_fail (FrW_refl t σ) hok.1 hok.2.2.1.1 hok.2.2.1.2.2.2, ?_⟩
      have ht := hok.2.1.1
      have hn := hS.1
      have e8 : σ 7 0 8 = 12 := hok.2.2.1.1
      refine ct_of (by decide) (Nat.le_of_ble_eq_true rfl) (fun C h hr _ => ?_)
      have h : Ok C RX8 cX8_wake 5 _ := h
      refine x_aload_n h dX8_wake_0 rfl ?_
      refine x_get (q := vI (12)) h fl_8_47 lvz_7 dX8_wake_1 (congrArg vI (by first | exact e8 | simp [up3, e8])) ?_
      refine x_bipush h dX8_wake_4 (by decide) ?_
      refine x_ic_lt_F (tgt := 16) h (by omega) dX8_wake_6 (by decide) (by omega) ?_
      refine x_aload_n h dX8_wake_9 rfl ?_
      refine x_bipush h dX8_wake_10 (by decide) ?_
      refine x_cV1 h kVX8_fail lkX8_96 ⟨_, _, _, rfl, rfl⟩ dX8_wake_12 (c_fail (d := 0) hok.2.2.1.2.2.1) lvz_7 rfl rfl (Nat.le_of_ble_eq_true rfl) (by omega) ?_
      exact x_ireturn h hr dX8_wake_15 (Or.inr ⟨rfl, by omega⟩) ⟨Nat.le_refl _, Nat.le_refl _⟩
    · intro σ D k r a w hok hP hk hr25 ha h0 h5 hb hw
      refine ⟨0, addRS σ 0 8, WRes_fail (FrW_refl t σ) hok.1 hok.2.2.1.1 hok.2.2.1.2.2.2, ?_⟩
      have ht := hok.2.1.1
      have hn := hS.1
      have e8 : σ 7 0 8 = 12 := hok.2.2.1.1
      refine ct_of (by decide) (Nat.le_of_ble_eq_true rfl) (fun C h hr _ => ?_)
      have h : Ok C RX8 cX8_makeRow 6 _ := h
      refine x_aload_n h dX8_makeRow_0 rfl ?_
      refine x_get (q := vI (12)) h fl_8_47 lvz_7 dX8_makeRow_1 (congrArg vI (by first | exact e8 | simp [up3, e8])) ?_
      refine x_bipush h dX8_makeRow_4 (by decide) ?_
      refine x_ic_lt_F (tgt := 16) h (by omega) dX8_makeRow_6 (by decide) (by omega) ?_
      refine x_aload_n h dX8_makeRow_9 rfl ?_
      refine x_bipush h dX8_makeRow_10 (by decide) ?_
      refine x_cV1 h kVX8_fail lkX8_96 ⟨_, _, _, rfl, rfl⟩ dX8_makeRow_12 (c_fail (d := 0) hok.2.2.1.2.2.1) lvz_7 rfl rfl (Nat.le_of_ble_eq_true rfl) (by omega) ?_
      exact x_ireturn h hr dX8_makeRow_15 (Or.inr ⟨rfl, by omega⟩) ⟨Nat.le_refl _, Nat.le_refl _⟩
  | succ δ ih =>
    intro u hu
    obtain ⟨h1, h2⟩ := ih (u + 1) (by omega)
    obtain ⟨i1, i2⟩ := lv_i hS δ
    have hask := c_ask (by omega) hS h1 h2 i1 i2
    exact ⟨c_wake hS hask h2 i1 i2 (by omega) (by omega) (by omega), c_makeRow hS hask i1 i2 (by omega) (by omega)⟩
theorem c_askTop {t n : Nat} {S : Sd} (hS : SOk S n) : CAk t n S 0 (askE S 12) 78 := by
  obtain ⟨h1, h2⟩ := lv_c (t := t) hS 12 0 rfl
  obtain ⟨i1, i2⟩ := lv_i hS 12
  exact c_ask (by omega) hS h1 h2 i1 i2
