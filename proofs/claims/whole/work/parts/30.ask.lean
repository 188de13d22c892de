/-! awaken, awakenRow, ask : over contracts of wake and makeRow -/
def CWk (t n : Nat) (S : Sd) (u : Nat) (wk : WkT) (d : Nat) : Prop := ∀ (σ D : Mm) (k : Nat) (a : Int) (w : Nat), WOk t n S D u w σ → Psi D ≤ 2147483600 → k < n → (-9 ≤ a ∧ a ≤ 1000) → D 5 k 8 = 0 → w ≤ 24 * u → ∃ (b : Int) (σ' : Mm), WRes t σ u w false (wk D k a) b σ' ∧ Ct d mX8_wake 1 [vR 7 0, vR 5 (12 * t + k), vI k, vI a] NALL σ (some (vI b)) NALL σ' 0 0
def CRw (t n : Nat) (S : Sd) (u : Nat) (rw_ : RwT) (d : Nat) : Prop := ∀ (σ D : Mm) (k r : Nat) (a : Int) (w : Nat), WOk t n S D u w σ → Psi D ≤ 2147483600 → k < n → r < 25 → (-9 ≤ a ∧ a ≤ 1000) → D 17 k r = 0 → D 5 k 8 ≠ 0 → sBy S k ≠ 0 → w ≤ 24 * u → ∃ (b : Int) (σ' : Mm), WRes t σ u w false (rw_ D k r a) b σ' ∧ Ct d mX8_makeRow 1 [vR 7 0, vR 5 (12 * t + k), vI k, vI r, vI a] NALL σ (some (vI b)) NALL σ' 0 0
def CAk (t n : Nat) (S : Sd) (u : Nat) (ask : Mm → Nat → Int → Int → ER) (d : Nat) : Prop := ∀ (σ D : Mm) (k : Nat) (x a : Int) (w : Nat), WOk t n S D u w σ → Psi D ≤ 2147483600 → k < n → i64 x → (-9 ≤ a ∧ a ≤ 1000) → w ≤ 24 * u → ∃ (b : Int) (σ' : Mm), WRes t σ u w true (ask D k x a) b σ' ∧ Ct d mX8_ask 1 [vR 7 0, vI k, vL x, vI a] NALL σ (some (vI b)) NALL σ' 0 0
theorem WRes_g {t u w : Nat} {σ σ' : Mm} {res : ER} {b : Int} (h : WRes t σ u w false res b σ') : (∃ x, res = .inl x ∧ b = 0) ∨ (∃ x, res = .inr x ∧ b = 1) := by
  cases res with
  | inl x => exact Or.inl ⟨x, rfl, h.2.1⟩
  | inr x => exact Or.inr ⟨x, rfl, h.2.1⟩
theorem WRes_here {t u w : Nat} {σ : Mm} {D : Mm} {v : Int} (hc : HC t D σ) (hs : WS u w σ) : WRes t σ u w false (.inr (v, D)) 1 σ := ⟨FrW_refl t σ, rfl, hc, hs, fun _ _ => rfl, fun z => absurd z (by decide)⟩
theorem c_awaken {d u w n t : Nat} {S : Sd} {wk : WkT} {D σ : Mm} {k : Nat} {a : Int} (hd : 2 ≤ d) (hw : CWk t n S u wk d) (hok : WOk t n S D u w σ) (hP : Psi D ≤ 2147483600) (hk : k < n) (hn : n ≤ 12) (ha : -9 ≤ a ∧ a ≤ 1000) (hww : w ≤ 24 * u) : ∃ (b : Int) (σ' : Mm), WRes t σ u w false (awkF wk D k a) b σ' ∧ Ct (d + 1) mX8_awaken 1 [vR 7 0, vR 5 (12 * t + k), vI k, vI a] NALL σ (some (vI b)) NALL σ' 0 0 := by
  have hc : σ 5 (12 * t + k) 8 = D 5 k 8 := hok.1 5 k 8 (Or.inl ⟨rfl, by omega, rfl⟩)
  have hr5 := (hok.2.2.2.1 k (by omega)).1
  obtain ⟨h1, h2, ⟨w8, w7, w10, w11⟩, h4⟩ := hok
  have ht := h2.1
  have hkr : -2147483648 ≤ (k : Int) ∧ (k : Int) < 2147483648 := by omega
  by_cases h3 : D 5 k 8 = 3
  · refine ⟨0, addRS σ 0 6, ?_, ?_⟩
    · rw [awkF, if_pos h3]
      exact WRes_fail (FrW_refl t σ) h1 w8 w11
    · refine ct_of (by decide) (Nat.le_of_ble_eq_true rfl) (fun C h hr _ => ?_)
      have h : Ok C RX8 cX8_awaken 4 _ := h
      refine x_aload_n h dX8_awaken_0 rfl ?_
      refine x_get (q := vI (3)) h fl_8_100 (lvm_5 (by omega)) dX8_awaken_1 (congrArg vI (by first | exact hc.trans h3 | simp [up3, hc.trans h3])) ?_
      refine x_iconst h dX8_awaken_4 ?_
      refine x_ic_ne_F (tgt := 15) h (by omega) dX8_awaken_5 (by decide) (by omega) ?_
      refine x_aload_n h dX8_awaken_8 rfl ?_
      refine x_bipush h dX8_awaken_9 (by decide) ?_
      refine x_cV1 h kVX8_fail lkX8_96 ⟨_, _, _, rfl, rfl⟩ dX8_awaken_11 (c_fail (d := 0) w10) lvz_7 rfl rfl (Nat.le_of_ble_eq_true rfl) (by omega) ?_
      exact x_ireturn h hr dX8_awaken_14 (Or.inr ⟨rfl, by omega⟩) ⟨Nat.le_refl _, Nat.le_refl _⟩
  · by_cases h0 : D 5 k 8 = 0
    · obtain ⟨b, σ', hres, hct⟩ := hw σ D k a w ⟨h1, h2, ⟨w8, w7, w10, w11⟩, h4⟩ hP hk ha h0 hww
      refine ⟨b, σ', by rw [awkF, if_neg h3, if_pos h0]; exact hres, ?_⟩
      rcases WRes_g hres with ⟨x, -, rfl⟩ | ⟨x, -, rfl⟩
      · refine ct_of (by decide) (Nat.le_of_ble_eq_true rfl) (fun C h hr _ => ?_)
        have h : Ok C RX8 cX8_awaken 4 _ := h
        refine x_aload_n h dX8_awaken_0 rfl ?_
        refine x_get (q := vI (0)) h fl_8_100 (lvm_5 (by omega)) dX8_awaken_1 (congrArg vI (by first | exact hc.trans h0 | simp [up3, hc.trans h0])) ?_
        refine x_iconst h dX8_awaken_4 ?_
        refine x_ic_ne_T (tgt := 15) h (by omega) dX8_awaken_5 (by decide) (by omega) ?_
        refine x_aload_n h dX8_awaken_15 rfl ?_
        refine x_get (q := vI (0)) h fl_8_100 (lvm_5 (by omega)) dX8_awaken_16 (congrArg vI (by first | exact hc.trans h0 | simp [up3, hc.trans h0])) ?_
        refine x_if_ne_F (tgt := 32) h (by omega) dX8_awaken_19 (by decide) (by omega) ?_
        refine x_aload_n h dX8_awaken_22 rfl ?_
        refine x_aload_n h dX8_awaken_23 rfl ?_
        refine x_iload_n h dX8_awaken_24 rfl ?_
        refine x_iload_n h dX8_awaken_25 rfl ?_
        refine x_cV1 h kVX8_wake lkX8_123 ⟨_, _, _, rfl, rfl⟩ dX8_awaken_26 (hct) lvz_7 rfl rfl (Nat.le_of_ble_eq_true rfl) (by omega) ?_
        refine x_if_eq_T (tgt := 36) h (by omega) dX8_awaken_29 (by decide) (by omega) ?_
        refine x_iconst h dX8_awaken_36 ?_
        exact x_ireturn h hr dX8_awaken_37 (Or.inr ⟨rfl, by omega⟩) ⟨Nat.le_refl _, Nat.le_refl _⟩
      · refine ct_of (by decide) (Nat.le_of_ble_eq_true rfl) (fun C h hr _ => ?_)
        have h : Ok C RX8 cX8_awaken 4 _ := h
        refine x_aload_n h dX8_awaken_0 rfl ?_
        refine x_get (q := vI (0)) h fl_8_100 (lvm_5 (by omega)) dX8_awaken_1 (congrArg vI (by first | exact hc.trans h0 | simp [up3, hc.trans h0])) ?_
        refine x_iconst h dX8_awaken_4 ?_
        refine x_ic_ne_T (tgt := 15) h (by omega) dX8_awaken_5 (by decide) (by omega) ?_
        refine x_aload_n h dX8_awaken_15 rfl ?_
        refine x_get (q := vI (0)) h fl_8_100 (lvm_5 (by omega)) dX8_awaken_16 (congrArg vI (by first | exact hc.trans h0 | simp [up3, hc.trans h0])) ?_
        refine x_if_ne_F (tgt := 32) h (by omega) dX8_awaken_19 (by decide) (by omega) ?_
        refine x_aload_n h dX8_awaken_22 rfl ?_
        refine x_aload_n h dX8_awaken_23 rfl ?_
        refine x_iload_n h dX8_awaken_24 rfl ?_
        refine x_iload_n h dX8_awaken_25 rfl ?_
        refine x_cV1 h kVX8_wake lkX8_123 ⟨_, _, _, rfl, rfl⟩ dX8_awaken_26 (hct) lvz_7 rfl rfl (Nat.le_of_ble_eq_true rfl) (by omega) ?_
        refine x_if_eq_F (tgt := 36) h (by omega) dX8_awaken_29 (by decide) (by omega) ?_
        refine x_iconst h dX8_awaken_32 ?_
        refine x_goto (tgt := 37) h dX8_awaken_33 (by decide) ?_
        exact x_ireturn h hr dX8_awaken_37 (Or.inr ⟨rfl, by omega⟩) ⟨Nat.le_refl _, Nat.le_refl _⟩
    · refine ⟨1, σ, by rw [awkF, if_neg h3, if_neg h0]; exact WRes_here h1 ⟨w8, w7, w10, w11⟩, ?_⟩
      refine ct_of (by decide) (Nat.le_of_ble_eq_true rfl) (fun C h hr _ => ?_)
      have h : Ok C RX8 cX8_awaken 4 _ := h
      refine x_aload_n h dX8_awaken_0 rfl ?_
      refine x_get (q := vI (D 5 k 8)) h fl_8_100 (lvm_5 (by omega)) dX8_awaken_1 (congrArg vI (by first | exact hc | simp [up3, hc])) ?_
      refine x_iconst h dX8_awaken_4 ?_
      refine x_ic_ne_T (tgt := 15) h (by omega) dX8_awaken_5 (by decide) (by omega) ?_
      refine x_aload_n h dX8_awaken_15 rfl ?_
      refine x_get (q := vI (D 5 k 8)) h fl_8_100 (lvm_5 (by omega)) dX8_awaken_16 (congrArg vI (by first | exact hc | simp [up3, hc])) ?_
      refine x_if_ne_T (tgt := 32) h (by omega) dX8_awaken_19 (by decide) (by omega) ?_
      refine x_iconst h dX8_awaken_32 ?_
      refine x_goto (tgt := 37) h dX8_awaken_33 (by decide) ?_
      exact x_ireturn h hr dX8_awaken_37 (Or.inr ⟨rfl, by omega⟩) ⟨Nat.le_refl _, Nat.le_refl _⟩
theorem c_awakenRow {d u w n t : Nat} {S : Sd} {rw_ : RwT} {D σ : Mm} {k r : Nat} {a : Int} (hd : 2 ≤ d) (hw : CRw t n S u rw_ d) (hok : WOk t n S D u w σ) (hP : Psi D ≤ 2147483600) (hk : k < n) (hn : n ≤ 12) (hr25 : r < 25) (ha : -9 ≤ a ∧ a ≤ 1000) (h5 : D 5 k 8 ≠ 0) (hb : sBy S k ≠ 0) (hww : w ≤ 24 * u) : ∃ (b : Int) (σ' : Mm), WRes t σ u w false (awrF rw_ D k r a) b σ' ∧ Ct (d + 1) mX8_awakenRow 1 [vR 7 0, vR 5 (12 * t + k), vI k, vI r, vI a] NALL σ (some (vI b)) NALL σ' 0 0 := by
  have hc : σ 17 (12 * t + k) r = D 17 k r := hok.1 17 k r (Or.inr (Or.inl ⟨rfl, by omega, hr25⟩))
  have hr5 := (hok.2.2.2.1 k (by omega)).2.1 r hr25
  obtain ⟨h1, h2, ⟨w8, w7, w10, w11⟩, h4⟩ := hok
  have ht := h2.1
  have hat := c_at (d := 0) (σ := σ) (f := 17) (m := 12 * t + k) (k := r) kdf_17 (lvm_17 (by omega)) hr25
  rw [hc] at hat
  by_cases h3 : D 17 k r = 3
  · refine ⟨0, addRS σ 0 6, ?_, ?_⟩
    · rw [awrF, if_pos h3]
      exact WRes_fail (FrW_refl t σ) h1 w8 w11
    · rw [h3] at hat
      refine ct_of (by decide) (Nat.le_of_ble_eq_true rfl) (fun C h hr _ => ?_)
      have h : Ok C RX8 cX8_awakenRow 6 _ := h
      refine x_aload_n h dX8_awakenRow_0 rfl ?_
      refine x_get h fl_8_110 (lvm_5 (by omega)) dX8_awakenRow_1 (pvf_717 _ _) ?_
      refine x_iload_n h dX8_awakenRow_4 rfl ?_
      refine x_cN1 h kSX9_at lkNX8_67 dX8_awakenRow_5 (hat) rfl rfl (Nat.le_of_ble_eq_true rfl) (by omega) ?_
      refine x_istore h dX8_awakenRow_8 (by decide) ?_
      refine x_iload h dX8_awakenRow_10 rfl ?_
      refine x_iconst h dX8_awakenRow_12 ?_
      refine x_ic_ne_F (tgt := 23) h (by omega) dX8_awakenRow_13 (by decide) (by omega) ?_
      refine x_aload_n h dX8_awakenRow_16 rfl ?_
      refine x_bipush h dX8_awakenRow_17 (by decide) ?_
      refine x_cV1 h kVX8_fail lkX8_96 ⟨_, _, _, rfl, rfl⟩ dX8_awakenRow_19 (c_fail (d := 0) w10) lvz_7 rfl rfl (Nat.le_of_ble_eq_true rfl) (by omega) ?_
      exact x_ireturn h hr dX8_awakenRow_22 (Or.inr ⟨rfl, by omega⟩) ⟨Nat.le_refl _, Nat.le_refl _⟩
  · by_cases h0 : D 17 k r = 0
    · obtain ⟨b, σ', hres, hct⟩ := hw σ D k r a w ⟨h1, h2, ⟨w8, w7, w10, w11⟩, h4⟩ hP hk hr25 ha h0 h5 hb hww
      refine ⟨b, σ', by rw [awrF, if_neg h3, if_pos h0]; exact hres, ?_⟩
      rw [h0] at hat
      rcases WRes_g hres with ⟨x, -, rfl⟩ | ⟨x, -, rfl⟩
      · refine ct_of (by decide) (Nat.le_of_ble_eq_true rfl) (fun C h hr _ => ?_)
        have h : Ok C RX8 cX8_awakenRow 6 _ := h
        refine x_aload_n h dX8_awakenRow_0 rfl ?_
        refine x_get h fl_8_110 (lvm_5 (by omega)) dX8_awakenRow_1 (pvf_717 _ _) ?_
        refine x_iload_n h dX8_awakenRow_4 rfl ?_
        refine x_cN1 h kSX9_at lkNX8_67 dX8_awakenRow_5 (hat) rfl rfl (Nat.le_of_ble_eq_true rfl) (by omega) ?_
        refine x_istore h dX8_awakenRow_8 (by decide) ?_
        refine x_iload h dX8_awakenRow_10 rfl ?_
        refine x_iconst h dX8_awakenRow_12 ?_
        refine x_ic_ne_T (tgt := 23) h (by omega) dX8_awakenRow_13 (by decide) (by omega) ?_
        refine x_iload h dX8_awakenRow_23 rfl ?_
        refine x_if_ne_F (tgt := 40) h (by omega) dX8_awakenRow_25 (by decide) (by omega) ?_
        refine x_aload_n h dX8_awakenRow_28 rfl ?_
        refine x_aload_n h dX8_awakenRow_29 rfl ?_
        refine x_iload_n h dX8_awakenRow_30 rfl ?_
        refine x_iload_n h dX8_awakenRow_31 rfl ?_
        refine x_iload h dX8_awakenRow_32 rfl ?_
        refine x_cV1 h kVX8_makeRow lkX8_126 ⟨_, _, _, rfl, rfl⟩ dX8_awakenRow_34 (hct) lvz_7 rfl rfl (Nat.le_of_ble_eq_true rfl) (by omega) ?_
        refine x_if_eq_T (tgt := 44) h (by omega) dX8_awakenRow_37 (by decide) (by omega) ?_
        refine x_iconst h dX8_awakenRow_44 ?_
        exact x_ireturn h hr dX8_awakenRow_45 (Or.inr ⟨rfl, by omega⟩) ⟨Nat.le_refl _, Nat.le_refl _⟩
      · refine ct_of (by decide) (Nat.le_of_ble_eq_true rfl) (fun C h hr _ => ?_)
        have h : Ok C RX8 cX8_awakenRow 6 _ := h
        refine x_aload_n h dX8_awakenRow_0 rfl ?_
        refine x_get h fl_8_110 (lvm_5 (by omega)) dX8_awakenRow_1 (pvf_717 _ _) ?_
        refine x_iload_n h dX8_awakenRow_4 rfl ?_
        refine x_cN1 h kSX9_at lkNX8_67 dX8_awakenRow_5 (hat) rfl rfl (Nat.le_of_ble_eq_true rfl) (by omega) ?_
        refine x_istore h dX8_awakenRow_8 (by decide) ?_
        refine x_iload h dX8_awakenRow_10 rfl ?_
        refine x_iconst h dX8_awakenRow_12 ?_
        refine x_ic_ne_T (tgt := 23) h (by omega) dX8_awakenRow_13 (by decide) (by omega) ?_
        refine x_iload h dX8_awakenRow_23 rfl ?_
        refine x_if_ne_F (tgt := 40) h (by omega) dX8_awakenRow_25 (by decide) (by omega) ?_
        refine x_aload_n h dX8_awakenRow_28 rfl ?_
        refine x_aload_n h dX8_awakenRow_29 rfl ?_
        refine x_iload_n h dX8_awakenRow_30 rfl ?_
        refine x_iload_n h dX8_awakenRow_31 rfl ?_
        refine x_iload h dX8_awakenRow_32 rfl ?_
        refine x_cV1 h kVX8_makeRow lkX8_126 ⟨_, _, _, rfl, rfl⟩ dX8_awakenRow_34 (hct) lvz_7 rfl rfl (Nat.le_of_ble_eq_true rfl) (by omega) ?_
        refine x_if_eq_F (tgt := 44) h (by omega) dX8_awakenRow_37 (by decide) (by omega) ?_
        refine x_iconst h dX8_awakenRow_40 ?_
        refine x_goto (tgt := 45) h dX8_awakenRow_41 (by decide) ?_
        exact x_ireturn h hr dX8_awakenRow_45 (Or.inr ⟨rfl, by omega⟩) ⟨Nat.le_refl _, Nat.le_refl _⟩
    · refine ⟨1, σ, by rw [awrF, if_neg h3, if_neg h0]; exact WRes_here h1 ⟨w8, w7, w10, w11⟩, ?_⟩
      refine ct_of (by decide) (Nat.le_of_ble_eq_true rfl) (fun C h hr _ => ?_)
      have h : Ok C RX8 cX8_awakenRow 6 _ := h
      refine x_aload_n h dX8_awakenRow_0 rfl ?_
      refine x_get h fl_8_110 (lvm_5 (by omega)) dX8_awakenRow_1 (pvf_717 _ _) ?_
      refine x_iload_n h dX8_awakenRow_4 rfl ?_
      refine x_cN1 h kSX9_at lkNX8_67 dX8_awakenRow_5 (hat) rfl rfl (Nat.le_of_ble_eq_true rfl) (by omega) ?_
      refine x_istore h dX8_awakenRow_8 (by decide) ?_
      refine x_iload h dX8_awakenRow_10 rfl ?_
      refine x_iconst h dX8_awakenRow_12 ?_
      refine x_ic_ne_T (tgt := 23) h (by omega) dX8_awakenRow_13 (by decide) (by omega) ?_
      refine x_iload h dX8_awakenRow_23 rfl ?_
      refine x_if_ne_T (tgt := 40) h (by omega) dX8_awakenRow_25 (by decide) (by omega) ?_
      refine x_iconst h dX8_awakenRow_40 ?_
      refine x_goto (tgt := 45) h dX8_awakenRow_41 (by decide) ?_
      exact x_ireturn h hr dX8_awakenRow_45 (Or.inr ⟨rfl, by omega⟩) ⟨Nat.le_refl _, Nat.le_refl _⟩
theorem Psi_c {S : Sd} {D : Mm} (h : DW S D) : D 8 0 1 ≤ Psi D ∧ D 8 1 1 ≤ Psi D := by
  have h8 := h.2.1
  have := tbW_r D 12
  unfold Psi
  omega
theorem HC_8 {t : Nat} {D σ : Mm} (h : HC t D σ) {m : Nat} (hm : m < 2) : σ 8 m 1 = D 8 m 1 := h 8 m 1 (Or.inr (Or.inr (Or.inr (Or.inl ⟨rfl, hm, rfl⟩))))
theorem WRes_got0 {t u w : Nat} {σ τ D : Mm} {v : Int} (hf : FrW t τ σ) (hc : HC t D τ) (hs : WS u w τ) (hl : LowW w τ σ) : WRes t σ u w true (.inr (v, D)) 1 (up3 τ 7 0 3 v) :=
  ⟨FrW_up hf _ (by omega), rfl, HC_no hc (by omega), WS_no hs (by omega), fun j hj => by rw [up3_f _ _ (by decide)]; exact hl j hj, fun _ => up3_s _ _ _ _ _⟩
theorem WRes_got1 {t u w : Nat} {σ τ D : Mm} {v : Int} {k p : Nat} {a : Int} (hf : FrW t τ σ) (hc : HC t D τ) (hs : WS u w τ) (hl : LowW w τ σ) : WRes t σ u w true (.inr (v, bNote D 1 k p a v)) 1 (noteS (up3 τ 7 0 3 v) 1 (D 8 1 1).toNat k p a v) := by
  refine ⟨FrW_note (FrW_up hf _ (by omega)) _ _ _ _ _ _, rfl, HC_note (HC_no hc (by omega)) _ _ _ _ (by decide), ?_, fun j hj => ?_, fun _ => ?_⟩
  · obtain ⟨a1, a2, a3, a4⟩ := WS_no (f := 7) (k := 0) (j := 3) (x := v) hs (by omega)
    exact ⟨by rw [noteS_f _ _ _ _ _ _ _ ⟨by decide, by decide⟩]; exact a1, by rw [noteS_f _ _ _ _ _ _ _ ⟨by decide, by decide⟩]; exact a2, by rw [noteS_f _ _ _ _ _ _ _ ⟨by decide, by decide⟩]; exact a3, by rw [noteS_f _ _ _ _ _ _ _ ⟨by decide, by decide⟩]; exact a4⟩
  · rw [noteS_f _ _ _ _ _ _ _ ⟨by decide, by decide⟩, up3_f _ _ (by decide)]; exact hl j hj
  · rw [noteS_f _ _ _ _ _ _ _ ⟨by decide, by decide⟩, up3_s]
theorem ask_tail0 {d t k p : Nat} {a v : Int} {τ : Mm} {C : Cx} {ls : List (Nat × PV)} (h : Ok C RX8 cX8_ask 9 (d + 1)) (hr : Rt C 1 (some .boolean) (some (vI 1)) NALL (up3 τ 7 0 3 v) 0 0) (ht : t < 2) (hk : k < 12) (hp : p < 200) (hv : τ 16 (12 * t + k) p = v) (hls : lsub [(0, vR 7 0), (1, vI k), (4, vI a), (5, vR 5 (12 * t + k)), (6, vI p), (7, vI 0)] ls) : X C 1 129 ls [] NALL τ 0 0 := by
  refine x_loc hls ?_
  have hat := c_atL (d := 0) (σ := τ) (f := 16) (m := 12 * t + k) (k := p) kdf_16 (lvm_16 (by omega)) hp
  rw [hv] at hat
  refine x_aload_n h dX8_ask_129 rfl ?_
  refine x_aload h dX8_ask_130 rfl ?_
  refine x_get h fl_8_113 (lvm_5 (by omega)) dX8_ask_132 (pvf_716 _ _) ?_
  refine x_iload h dX8_ask_135 rfl ?_
  refine x_cN1 h kSX9_at_ lkNX8_116 dX8_ask_137 (hat) rfl rfl (Nat.le_of_ble_eq_true rfl) (by omega) ?_
  refine x_put h fl_8_28 lvz_7 dX8_ask_140 rfl (fun z => absurd z (by decide)) ?_
  refine x_iload h dX8_ask_143 rfl ?_
  refine x_if_eq_T (tgt := 167) h (by omega) dX8_ask_145 (by decide) (by omega) ?_
  refine x_iconst h dX8_ask_167 ?_
  exact x_ireturn h hr dX8_ask_168 (Or.inr ⟨rfl, by omega⟩) ⟨Nat.le_refl _, Nat.le_refl _⟩
theorem ask_tail1 {d t k p b : Nat} {a v : Int} {τ : Mm} {C : Cx} {ls : List (Nat × PV)} (h : Ok C RX8 cX8_ask 9 (d + 2)) (hr : Rt C 1 (some .boolean) (some (vI 1)) NALL (noteS (up3 τ 7 0 3 v) 1 b k p a v) 0 0) (ht : t < 2) (hk : k < 12) (hp : p < 200) (ha : -9 ≤ a ∧ a ≤ 1000) (hb : τ 8 1 1 = b) (hb2 : b < 2147483648) (hv : τ 16 (12 * t + k) p = v) (hls : lsub [(0, vR 7 0), (1, vI k), (4, vI a), (5, vR 5 (12 * t + k)), (6, vI p), (7, vI 1)] ls) : X C 1 129 ls [] NALL τ 0 0 := by
  refine x_loc hls ?_
  have hat := c_atL (d := 0) (σ := τ) (f := 16) (m := 12 * t + k) (k := p) kdf_16 (lvm_16 (by omega)) hp
  rw [hv] at hat
  have hno := c_note (d := 0) (σ := up3 τ 7 0 3 v) (m := 1) (b := b) (x0 := k) (x1 := p) (x2 := a) (x3 := v) (by decide) (by rw [up3_f _ _ (by decide)]; exact hb) hb2
  refine x_aload_n h dX8_ask_129 rfl ?_
  refine x_aload h dX8_ask_130 rfl ?_
  refine x_get h fl_8_113 (lvm_5 (by omega)) dX8_ask_132 (pvf_716 _ _) ?_
  refine x_iload h dX8_ask_135 rfl ?_
  refine x_cN1 h kSX9_at_ lkNX8_116 dX8_ask_137 (hat) rfl rfl (Nat.le_of_ble_eq_true rfl) (by omega) ?_
  refine x_put h fl_8_28 lvz_7 dX8_ask_140 rfl (fun z => absurd z (by decide)) ?_
  refine x_iload h dX8_ask_143 rfl ?_
  refine x_if_eq_F (tgt := 167) h (by omega) dX8_ask_145 (by decide) (by omega) ?_
  refine x_aload_n h dX8_ask_148 rfl ?_
  refine x_get h fl_8_18 lvz_7 dX8_ask_149 (pvf_608 _ _) ?_
  refine x_iload_n h dX8_ask_152 rfl ?_
  refine x_i2l h (by omega) dX8_ask_153 ?_
  refine x_iload h dX8_ask_154 rfl ?_
  refine x_i2l h (by omega) dX8_ask_156 ?_
  refine x_iload h dX8_ask_157 rfl ?_
  refine x_i2l h (by omega) dX8_ask_159 ?_
  refine x_aload_n h dX8_ask_160 rfl ?_
  refine x_get (q := vL (v)) h fl_8_28 lvz_7 dX8_ask_161 (congrArg vL (by first | exact up3_s _ _ _ _ _ | simp [up3, up3_s _ _ _ _ _])) ?_
  refine x_cV0 h kVX1_note lkX8_119 ⟨_, _, _, rfl, rfl⟩ dX8_ask_164 (hno) (lvm_8 (by omega)) rfl rfl (Nat.le_of_ble_eq_true rfl) (by omega) ?_
  refine x_iconst h dX8_ask_167 ?_
  exact x_ireturn h hr dX8_ask_168 (Or.inr ⟨rfl, by omega⟩) ⟨Nat.le_refl _, Nat.le_refl _⟩
theorem c_ask {d u n t δ : Nat} {S : Sd} {wk : WkT} {rw_ : RwT} (hd : 2 ≤ d) (hS : SOk S n) (hw : CWk t n S u wk d) (hrw : CRw t n S u rw_ d) (iw : WkOk S n δ wk) (ir : RwOk S n δ rw_) : CAk t n S u (askF S wk rw_) (d + 2) := by
  intro σ D k x a w hok hP hk hx ha hww
  have hn := hS.1
  have hk12 : k < 12 := by omega
  obtain ⟨b1, σ1, hres1, hct1⟩ := c_awaken hd hw hok hP hk hn ha hww
  obtain ⟨h1, h2, hws, h4⟩ := hok
  obtain ⟨k1, k2, k3, k4⟩ := h2
  have hh2 : KC t n S σ := ⟨k1, k2, k3, k4⟩
  have hAw := awk_i iw h4 hk hn ha
  obtain ⟨tk1, tk2, tk3, tk4, tk5⟩ := (k4 k hk).1
  obtain ⟨s1, s2, s3, s4, s5, s6, s7⟩ := hS.2 k hk
  have htab := c_tableAt (d := 0) (σ := σ) (t := t) (k := k) (n := n) k1 k2 hn hk
  have hx' : -9223372036854775808 ≤ x ∧ x < 9223372036854775808 := hx
  cases hA : awkF wk D k a with
  | inl y =>
    rw [hA] at hres1
    have hb1 : b1 = 0 := hres1.2.1
    subst hb1
    refine ⟨0, σ1, by rw [askF, hA]; exact hres1, ?_⟩
    refine ct_of (by decide) (Nat.le_of_ble_eq_true rfl) (fun C h hr _ => ?_)
    have h : Ok C RX8 cX8_ask 9 _ := h
    refine x_aload_n h dX8_ask_0 rfl ?_
    refine x_get h fl_8_35 lvz_7 dX8_ask_1 (pvr k3 ⟨by decide, by decide⟩) ?_
    refine x_iload_n h dX8_ask_4 rfl ?_
    refine x_cV1 h kVX4_tableAt lkX8_80 ⟨_, _, _, rfl, rfl⟩ dX8_ask_5 (htab) (lvm_4 (by omega)) rfl rfl (Nat.le_of_ble_eq_true rfl) (by omega) ?_
    refine x_astore h dX8_ask_8 (by decide) ?_
    refine x_aload h dX8_ask_10 rfl ?_
    refine x_ifnull h dX8_ask_12 ?_
    refine x_aload_n h dX8_ask_15 rfl ?_
    refine x_aload h dX8_ask_16 rfl ?_
    refine x_iload_n h dX8_ask_18 rfl ?_
    refine x_iload h dX8_ask_19 rfl ?_
    refine x_cV1 h kVX8_awaken lkX8_86 ⟨_, _, _, rfl, rfl⟩ dX8_ask_21 (hct1) lvz_7 rfl rfl (Nat.le_of_ble_eq_true rfl) (by omega) ?_
    refine x_if_ne_F (tgt := 29) h (by omega) dX8_ask_24 (by decide) (by omega) ?_
    refine x_iconst h dX8_ask_27 ?_
    exact x_ireturn h hr dX8_ask_28 (Or.inr ⟨rfl, by omega⟩) ⟨Nat.le_refl _, Nat.le_refl _⟩
  | inr y =>
    obtain ⟨v1, D1⟩ := y
    rw [hA] at hres1 hAw
    obtain ⟨fr1, hb1, hc1, ws1, lw1, -⟩ := hres1
    subst hb1
    obtain ⟨⟨i1, i2, i3, i4⟩, i5⟩ := hAw
    have i5 := i5 v1 D1 rfl
    have hK1 := KC_fr hh2 fr1
    obtain ⟨uk1, uk2, uk3, uk4, uk5⟩ := (hK1.2.2.2 k hk).1
    have hszv : σ1 5 (12 * t + k) 4 = sSz S k := uk2
    have hent := c_entriesInAll (d := 0) (σ := σ1) (m := 12 * t + k) (by omega) (by rw [hszv]; exact s1)
    rw [hszv] at hent
    have hez := entsZ_r (sSz S k)
    rw [askF, hA]
    show ∃ b σ', WRes t σ u w true (if x < 0 ∨ entsZ (sSz S k) ≤ x then .inl (2, 0, D1) else gotF S rw_ D1 k x.toNat a) b σ' ∧ _
    by_cases hxr : x < 0 ∨ entsZ (sSz S k) ≤ x
    · rw [if_pos hxr]
      refine ⟨0, addRS σ1 0 2, WRes_fail fr1 hc1 ws1.1 ws1.2.2.2, ?_⟩
      by_cases hx0 : x < 0
      · refine ct_of (by decide) (Nat.le_of_ble_eq_true rfl) (fun C h hr _ => ?_)
        have h : Ok C RX8 cX8_ask 9 _ := h
        refine x_aload_n h dX8_ask_0 rfl ?_
        refine x_get h fl_8_35 lvz_7 dX8_ask_1 (pvr k3 ⟨by decide, by decide⟩) ?_
        refine x_iload_n h dX8_ask_4 rfl ?_
        refine x_cV1 h kVX4_tableAt lkX8_80 ⟨_, _, _, rfl, rfl⟩ dX8_ask_5 (htab) (lvm_4 (by omega)) rfl rfl (Nat.le_of_ble_eq_true rfl) (by omega) ?_
        refine x_astore h dX8_ask_8 (by decide) ?_
        refine x_aload h dX8_ask_10 rfl ?_
        refine x_ifnull h dX8_ask_12 ?_
        refine x_aload_n h dX8_ask_15 rfl ?_
        refine x_aload h dX8_ask_16 rfl ?_
        refine x_iload_n h dX8_ask_18 rfl ?_
        refine x_iload h dX8_ask_19 rfl ?_
        refine x_cV1 h kVX8_awaken lkX8_86 ⟨_, _, _, rfl, rfl⟩ dX8_ask_21 (hct1) lvz_7 rfl rfl (Nat.le_of_ble_eq_true rfl) (by omega) ?_
        refine x_if_ne_T (tgt := 29) h (by omega) dX8_ask_24 (by decide) (by omega) ?_
        refine x_lload_n h dX8_ask_29 rfl ?_
        refine x_lconst0 h dX8_ask_30 ?_
        refine x_lc_lt (tgt := 46) h (by omega) dX8_ask_31 dX8_ask_32 (by decide) (fun _ => ?_) (fun q => absurd (by omega) q)
        refine x_aload_n h dX8_ask_46 rfl ?_
        refine x_iconst h dX8_ask_47 ?_
        refine x_cV1 h kVX8_fail lkX8_96 ⟨_, _, _, rfl, rfl⟩ dX8_ask_48 (c_fail (d := 0) ws1.2.2.1) lvz_7 rfl rfl (Nat.le_of_ble_eq_true rfl) (by omega) ?_
        exact x_ireturn h hr dX8_ask_51 (Or.inr ⟨rfl, by omega⟩) ⟨Nat.le_refl _, Nat.le_refl _⟩
      · refine ct_of (by decide) (Nat.le_of_ble_eq_true rfl) (fun C h hr _ => ?_)
        have h : Ok C RX8 cX8_ask 9 _ := h
        refine x_aload_n h dX8_ask_0 rfl ?_
        refine x_get h fl_8_35 lvz_7 dX8_ask_1 (pvr k3 ⟨by decide, by decide⟩) ?_
        refine x_iload_n h dX8_ask_4 rfl ?_
        refine x_cV1 h kVX4_tableAt lkX8_80 ⟨_, _, _, rfl, rfl⟩ dX8_ask_5 (htab) (lvm_4 (by omega)) rfl rfl (Nat.le_of_ble_eq_true rfl) (by omega) ?_
        refine x_astore h dX8_ask_8 (by decide) ?_
        refine x_aload h dX8_ask_10 rfl ?_
        refine x_ifnull h dX8_ask_12 ?_
        refine x_aload_n h dX8_ask_15 rfl ?_
        refine x_aload h dX8_ask_16 rfl ?_
        refine x_iload_n h dX8_ask_18 rfl ?_
        refine x_iload h dX8_ask_19 rfl ?_
        refine x_cV1 h kVX8_awaken lkX8_86 ⟨_, _, _, rfl, rfl⟩ dX8_ask_21 (hct1) lvz_7 rfl rfl (Nat.le_of_ble_eq_true rfl) (by omega) ?_
        refine x_if_ne_T (tgt := 29) h (by omega) dX8_ask_24 (by decide) (by omega) ?_
        refine x_lload_n h dX8_ask_29 rfl ?_
        refine x_lconst0 h dX8_ask_30 ?_
        refine x_lc_lt (tgt := 46) h (by omega) dX8_ask_31 dX8_ask_32 (by decide) (fun q => absurd q (by omega)) (fun _ => ?_)
        refine x_lload_n h dX8_ask_35 rfl ?_
        refine x_aload h dX8_ask_36 rfl ?_
        refine x_cV1 h kVX2_entriesInAll lkX8_90 ⟨_, _, _, rfl, rfl⟩ dX8_ask_38 (hent) (lvm_5 (by omega)) rfl rfl (Nat.le_of_ble_eq_true rfl) (by omega) ?_
        refine x_i2l h (by omega) dX8_ask_41 ?_
        refine x_lc_lt (tgt := 52) h (by omega) dX8_ask_42 dX8_ask_43 (by decide) (fun q => absurd q (by omega)) (fun _ => ?_)
        refine x_aload_n h dX8_ask_46 rfl ?_
        refine x_iconst h dX8_ask_47 ?_
        refine x_cV1 h kVX8_fail lkX8_96 ⟨_, _, _, rfl, rfl⟩ dX8_ask_48 (c_fail (d := 0) ws1.2.2.1) lvz_7 rfl rfl (Nat.le_of_ble_eq_true rfl) (by omega) ?_
        exact x_ireturn h hr dX8_ask_51 (Or.inr ⟨rfl, by omega⟩) ⟨Nat.le_refl _, Nat.le_refl _⟩
    · rw [if_neg hxr]
      obtain ⟨p, rfl⟩ := Int.eq_ofNat_of_zero_le (show 0 ≤ x by omega)
      have hp : p < 200 := by omega
      have hpt : ((p : Nat) : Int).toNat = p := by omega
      rw [hpt]
      have hcond : σ1 5 (12 * t + k) 8 = D1 5 k 8 := hc1 5 k 8 (Or.inl ⟨rfl, hk12, rfl⟩)
      have hentr : σ1 16 (12 * t + k) p = D1 16 k p := hc1 16 k p (Or.inr (Or.inr (Or.inl ⟨rfl, hk12, hp⟩)))
      have hby : σ1 5 (12 * t + k) 5 = sBy S k := uk3
      have hps := Psi_c i1
      have h8 := i1.2.1
      rw [gotF]
      by_cases hu1 : D1 5 k 8 = 1
      · rw [if_pos hu1]
        refine ⟨1, _, WRes_got1 fr1 hc1 ws1 lw1, ?_⟩
        refine ct_of (by decide) (Nat.le_of_ble_eq_true rfl) (fun C h hr _ => ?_)
        have h : Ok C RX8 cX8_ask 9 _ := h
        refine x_aload_n h dX8_ask_0 rfl ?_
        refine x_get h fl_8_35 lvz_7 dX8_ask_1 (pvr k3 ⟨by decide, by decide⟩) ?_
        refine x_iload_n h dX8_ask_4 rfl ?_
        refine x_cV1 h kVX4_tableAt lkX8_80 ⟨_, _, _, rfl, rfl⟩ dX8_ask_5 (htab) (lvm_4 (by omega)) rfl rfl (Nat.le_of_ble_eq_true rfl) (by omega) ?_
        refine x_astore h dX8_ask_8 (by decide) ?_
        refine x_aload h dX8_ask_10 rfl ?_
        refine x_ifnull h dX8_ask_12 ?_
        refine x_aload_n h dX8_ask_15 rfl ?_
        refine x_aload h dX8_ask_16 rfl ?_
        refine x_iload_n h dX8_ask_18 rfl ?_
        refine x_iload h dX8_ask_19 rfl ?_
        refine x_cV1 h kVX8_awaken lkX8_86 ⟨_, _, _, rfl, rfl⟩ dX8_ask_21 (hct1) lvz_7 rfl rfl (Nat.le_of_ble_eq_true rfl) (by omega) ?_
        refine x_if_ne_T (tgt := 29) h (by omega) dX8_ask_24 (by decide) (by omega) ?_
        refine x_lload_n h dX8_ask_29 rfl ?_
        refine x_lconst0 h dX8_ask_30 ?_
        refine x_lc_lt (tgt := 46) h (by omega) dX8_ask_31 dX8_ask_32 (by decide) (fun q => absurd q (by omega)) (fun _ => ?_)
        refine x_lload_n h dX8_ask_35 rfl ?_
        refine x_aload h dX8_ask_36 rfl ?_
        refine x_cV1 h kVX2_entriesInAll lkX8_90 ⟨_, _, _, rfl, rfl⟩ dX8_ask_38 (hent) (lvm_5 (by omega)) rfl rfl (Nat.le_of_ble_eq_true rfl) (by omega) ?_
        refine x_i2l h (by omega) dX8_ask_41 ?_
        refine x_lc_lt (tgt := 52) h (by omega) dX8_ask_42 dX8_ask_43 (by decide) (fun _ => ?_) (fun q => absurd (by omega) q)
        refine x_lload_n h dX8_ask_52 rfl ?_
        refine x_l2i h dX8_ask_53 ?_
        refine x_istore h dX8_ask_54 (by decide) ?_
        refine x_aload h dX8_ask_56 rfl ?_
        refine x_get (q := vI (1)) h fl_8_100 (lvm_5 (by omega)) dX8_ask_58 (congrArg vI (by first | exact hcond.trans hu1 | simp [up3, hcond.trans hu1])) ?_
        refine x_iconst h dX8_ask_61 ?_
        refine x_ic_ne_F (tgt := 69) h (by omega) dX8_ask_62 (by decide) (by omega) ?_
        refine x_iconst h dX8_ask_65 ?_
        refine x_goto (tgt := 70) h dX8_ask_66 (by decide) ?_
        refine x_istore h dX8_ask_70 (by decide) ?_
        refine x_aload h dX8_ask_72 rfl ?_
        refine x_get (q := vI (sBy S k)) h fl_8_103 (lvm_5 (by omega)) dX8_ask_74 (congrArg vI (by first | exact hby | simp [up3, hby])) ?_
        rcases s2 with s2 | s2
        · refine x_if_eq_T (tgt := 129) h (by omega) dX8_ask_77 (by decide) (by omega) ?_
          exact ask_tail1 (d := d) h hr k1 hk12 hp ha (by rw [HC_8 hc1 (by decide)]; omega) (by omega) hentr ⟨rfl, rfl, rfl, rfl, rfl, rfl, trivial⟩
        · refine x_if_eq_F (tgt := 129) h (by omega) dX8_ask_77 (by decide) (by omega) ?_
          refine x_iload h dX8_ask_80 rfl ?_
          refine x_if_ne_T (tgt := 129) h (by omega) dX8_ask_82 (by decide) (by omega) ?_
          exact ask_tail1 (d := d) h hr k1 hk12 hp ha (by rw [HC_8 hc1 (by decide)]; omega) (by omega) hentr ⟨rfl, rfl, rfl, rfl, rfl, rfl, trivial⟩
      · rw [if_neg hu1]
        have hu2 : D1 5 k 8 = 2 := by omega
        by_cases hb0 : sBy S k = 0
        · rw [if_pos hb0]
          refine ⟨1, _, WRes_got0 fr1 hc1 ws1 lw1, ?_⟩
          refine ct_of (by decide) (Nat.le_of_ble_eq_true rfl) (fun C h hr _ => ?_)
          have h : Ok C RX8 cX8_ask 9 _ := h
          refine x_aload_n h dX8_ask_0 rfl ?_
          refine x_get h fl_8_35 lvz_7 dX8_ask_1 (pvr k3 ⟨by decide, by decide⟩) ?_
          refine x_iload_n h dX8_ask_4 rfl ?_
          refine x_cV1 h kVX4_tableAt lkX8_80 ⟨_, _, _, rfl, rfl⟩ dX8_ask_5 (htab) (lvm_4 (by omega)) rfl rfl (Nat.le_of_ble_eq_true rfl) (by omega) ?_
          refine x_astore h dX8_ask_8 (by decide) ?_
          refine x_aload h dX8_ask_10 rfl ?_
          refine x_ifnull h dX8_ask_12 ?_
          refine x_aload_n h dX8_ask_15 rfl ?_
          refine x_aload h dX8_ask_16 rfl ?_
          refine x_iload_n h dX8_ask_18 rfl ?_
          refine x_iload h dX8_ask_19 rfl ?_
          refine x_cV1 h kVX8_awaken lkX8_86 ⟨_, _, _, rfl, rfl⟩ dX8_ask_21 (hct1) lvz_7 rfl rfl (Nat.le_of_ble_eq_true rfl) (by omega) ?_
          refine x_if_ne_T (tgt := 29) h (by omega) dX8_ask_24 (by decide) (by omega) ?_
          refine x_lload_n h dX8_ask_29 rfl ?_
          refine x_lconst0 h dX8_ask_30 ?_
          refine x_lc_lt (tgt := 46) h (by omega) dX8_ask_31 dX8_ask_32 (by decide) (fun q => absurd q (by omega)) (fun _ => ?_)
          refine x_lload_n h dX8_ask_35 rfl ?_
          refine x_aload h dX8_ask_36 rfl ?_
          refine x_cV1 h kVX2_entriesInAll lkX8_90 ⟨_, _, _, rfl, rfl⟩ dX8_ask_38 (hent) (lvm_5 (by omega)) rfl rfl (Nat.le_of_ble_eq_true rfl) (by omega) ?_
          refine x_i2l h (by omega) dX8_ask_41 ?_
          refine x_lc_lt (tgt := 52) h (by omega) dX8_ask_42 dX8_ask_43 (by decide) (fun _ => ?_) (fun q => absurd (by omega) q)
          refine x_lload_n h dX8_ask_52 rfl ?_
          refine x_l2i h dX8_ask_53 ?_
          refine x_istore h dX8_ask_54 (by decide) ?_
          refine x_aload h dX8_ask_56 rfl ?_
          refine x_get (q := vI (2)) h fl_8_100 (lvm_5 (by omega)) dX8_ask_58 (congrArg vI (by first | exact hcond.trans hu2 | simp [up3, hcond.trans hu2])) ?_
          refine x_iconst h dX8_ask_61 ?_
          refine x_ic_ne_T (tgt := 69) h (by omega) dX8_ask_62 (by decide) (by omega) ?_
          refine x_iconst h dX8_ask_69 ?_
          refine x_istore h dX8_ask_70 (by decide) ?_
          refine x_aload h dX8_ask_72 rfl ?_
          refine x_get (q := vI (0)) h fl_8_103 (lvm_5 (by omega)) dX8_ask_74 (congrArg vI (by first | exact hby.trans hb0 | simp [up3, hby.trans hb0])) ?_
          refine x_if_eq_T (tgt := 129) h (by omega) dX8_ask_77 (by decide) (by omega) ?_
          exact ask_tail0 (d := d + 1) h hr k1 hk12 hp hentr ⟨rfl, rfl, rfl, rfl, rfl, rfl, trivial⟩
        · rw [if_neg hb0]
          have hb1 : sBy S k = 1 := by omega
          have hdiv : ((p : Nat) : Int) / 8 = ((p / 8 : Nat) : Int) := by omega
          obtain ⟨b2, σ2, hres2, hct2⟩ := c_awakenRow (k := k) (r := p / 8) (a := a) hd hrw ⟨hc1, hK1, ws1, i1⟩ (by omega) hk hn (by omega) ha (by omega) hb0 hww
          cases hB : awrF rw_ D1 k (p / 8) a with
          | inl y =>
            rw [hB] at hres2
            have hb2 : b2 = 0 := hres2.2.1
            subst hb2
            refine ⟨0, σ2, WRes_tr fr1 lw1 (g := true) ?_, ?_⟩
            · exact hres2
            · refine ct_of (by decide) (Nat.le_of_ble_eq_true rfl) (fun C h hr _ => ?_)
              have h : Ok C RX8 cX8_ask 9 _ := h
              refine x_aload_n h dX8_ask_0 rfl ?_
              refine x_get h fl_8_35 lvz_7 dX8_ask_1 (pvr k3 ⟨by decide, by decide⟩) ?_
              refine x_iload_n h dX8_ask_4 rfl ?_
              refine x_cV1 h kVX4_tableAt lkX8_80 ⟨_, _, _, rfl, rfl⟩ dX8_ask_5 (htab) (lvm_4 (by omega)) rfl rfl (Nat.le_of_ble_eq_true rfl) (by omega) ?_
              refine x_astore h dX8_ask_8 (by decide) ?_
              refine x_aload h dX8_ask_10 rfl ?_
              refine x_ifnull h dX8_ask_12 ?_
              refine x_aload_n h dX8_ask_15 rfl ?_
              refine x_aload h dX8_ask_16 rfl ?_
              refine x_iload_n h dX8_ask_18 rfl ?_
              refine x_iload h dX8_ask_19 rfl ?_
              refine x_cV1 h kVX8_awaken lkX8_86 ⟨_, _, _, rfl, rfl⟩ dX8_ask_21 (hct1) lvz_7 rfl rfl (Nat.le_of_ble_eq_true rfl) (by omega) ?_
              refine x_if_ne_T (tgt := 29) h (by omega) dX8_ask_24 (by decide) (by omega) ?_
              refine x_lload_n h dX8_ask_29 rfl ?_
              refine x_lconst0 h dX8_ask_30 ?_
              refine x_lc_lt (tgt := 46) h (by omega) dX8_ask_31 dX8_ask_32 (by decide) (fun q => absurd q (by omega)) (fun _ => ?_)
              refine x_lload_n h dX8_ask_35 rfl ?_
              refine x_aload h dX8_ask_36 rfl ?_
              refine x_cV1 h kVX2_entriesInAll lkX8_90 ⟨_, _, _, rfl, rfl⟩ dX8_ask_38 (hent) (lvm_5 (by omega)) rfl rfl (Nat.le_of_ble_eq_true rfl) (by omega) ?_
              refine x_i2l h (by omega) dX8_ask_41 ?_
              refine x_lc_lt (tgt := 52) h (by omega) dX8_ask_42 dX8_ask_43 (by decide) (fun _ => ?_) (fun q => absurd (by omega) q)
              refine x_lload_n h dX8_ask_52 rfl ?_
              refine x_l2i h dX8_ask_53 ?_
              refine x_istore h dX8_ask_54 (by decide) ?_
              refine x_aload h dX8_ask_56 rfl ?_
              refine x_get (q := vI (2)) h fl_8_100 (lvm_5 (by omega)) dX8_ask_58 (congrArg vI (by first | exact hcond.trans hu2 | simp [up3, hcond.trans hu2])) ?_
              refine x_iconst h dX8_ask_61 ?_
              refine x_ic_ne_T (tgt := 69) h (by omega) dX8_ask_62 (by decide) (by omega) ?_
              refine x_iconst h dX8_ask_69 ?_
              refine x_istore h dX8_ask_70 (by decide) ?_
              refine x_aload h dX8_ask_72 rfl ?_
              refine x_get (q := vI (1)) h fl_8_103 (lvm_5 (by omega)) dX8_ask_74 (congrArg vI (by first | exact hby.trans hb1 | simp [up3, hby.trans hb1])) ?_
              refine x_if_eq_F (tgt := 129) h (by omega) dX8_ask_77 (by decide) (by omega) ?_
              refine x_iload h dX8_ask_80 rfl ?_
              refine x_if_ne_F (tgt := 129) h (by omega) dX8_ask_82 (by decide) (by omega) ?_
              refine x_iload h dX8_ask_85 rfl ?_
              refine x_bipush h dX8_ask_87 (by decide) ?_
              refine x_idivP h (by omega) dX8_ask_89 ?_
              rw [hdiv]
              refine x_istore h dX8_ask_90 (by decide) ?_
              refine x_aload_n h dX8_ask_92 rfl ?_
              refine x_aload h dX8_ask_93 rfl ?_
              refine x_iload_n h dX8_ask_95 rfl ?_
              refine x_iload h dX8_ask_96 rfl ?_
              refine x_iload h dX8_ask_98 rfl ?_
              refine x_cV1 h kVX8_awakenRow lkX8_106 ⟨_, _, _, rfl, rfl⟩ dX8_ask_100 (hct2) lvz_7 rfl rfl (Nat.le_of_ble_eq_true rfl) (by omega) ?_
              refine x_if_ne_F (tgt := 108) h (by omega) dX8_ask_103 (by decide) (by omega) ?_
              refine x_iconst h dX8_ask_106 ?_
              exact x_ireturn h hr dX8_ask_107 (Or.inr ⟨rfl, by omega⟩) ⟨Nat.le_refl _, Nat.le_refl _⟩
          | inr y =>
            obtain ⟨v2, D2⟩ := y
            rw [hB] at hres2
            obtain ⟨fr2, hb2, hc2, ws2, lw2, -⟩ := hres2
            subst hb2
            have hE : EI S (Xr k (p / 8)) δ 0 D1 (awrF rw_ D1 k (p / 8) a) := by
              unfold awrF
              split
              · exact EI_fail i1 (by omega)
              split
              · next h3 h0 => exact (ir D1 k (p / 8) a i1 hk (by omega) ha h0 (by omega) hb0).1
              · exact EI_here i1 i64z
            rw [hB] at hE
            obtain ⟨j1, j2, j3, j4⟩ := hE
            have hps2 := Psi_c j1
            have h82 := j1.2.1
            have hentr2 : σ2 16 (12 * t + k) p = D2 16 k p := hc2 16 k p (Or.inr (Or.inr (Or.inl ⟨rfl, hk12, hp⟩)))
            have hrowv : σ2 17 (12 * t + k) (p / 8) = D2 17 k (p / 8) := hc2 17 k (p / 8) (Or.inr (Or.inl ⟨rfl, hk12, by omega⟩))
            have hat := c_at (d := 0) (σ := σ2) (f := 17) (m := 12 * t + k) (k := p / 8) kdf_17 (lvm_17 (by omega)) (by omega)
            rw [hrowv] at hat
            have hrr := (j1.1 k hk12).2.1 (p / 8) (by omega)
            show ∃ b σ', WRes t σ u w true (if D2 17 k (p / 8) = 1 then .inr (D2 16 k p, bNote D2 1 k p a (D2 16 k p)) else .inr (D2 16 k p, D2)) b σ' ∧ _
            have lw12 : LowW w σ2 σ := fun j hj => (lw2 j hj).trans (lw1 j hj)
            by_cases hr1 : D2 17 k (p / 8) = 1
            · rw [if_pos hr1]
              refine ⟨1, _, WRes_got1 (FrW_tr fr2 fr1) hc2 ws2 lw12, ?_⟩
              rw [hr1] at hat
              refine ct_of (by decide) (Nat.le_of_ble_eq_true rfl) (fun C h hr _ => ?_)
              have h : Ok C RX8 cX8_ask 9 _ := h
              refine x_aload_n h dX8_ask_0 rfl ?_
              refine x_get h fl_8_35 lvz_7 dX8_ask_1 (pvr k3 ⟨by decide, by decide⟩) ?_
              refine x_iload_n h dX8_ask_4 rfl ?_
              refine x_cV1 h kVX4_tableAt lkX8_80 ⟨_, _, _, rfl, rfl⟩ dX8_ask_5 (htab) (lvm_4 (by omega)) rfl rfl (Nat.le_of_ble_eq_true rfl) (by omega) ?_
              refine x_astore h dX8_ask_8 (by decide) ?_
              refine x_aload h dX8_ask_10 rfl ?_
              refine x_ifnull h dX8_ask_12 ?_
              refine x_aload_n h dX8_ask_15 rfl ?_
              refine x_aload h dX8_ask_16 rfl ?_
              refine x_iload_n h dX8_ask_18 rfl ?_
              refine x_iload h dX8_ask_19 rfl ?_
              refine x_cV1 h kVX8_awaken lkX8_86 ⟨_, _, _, rfl, rfl⟩ dX8_ask_21 (hct1) lvz_7 rfl rfl (Nat.le_of_ble_eq_true rfl) (by omega) ?_
              refine x_if_ne_T (tgt := 29) h (by omega) dX8_ask_24 (by decide) (by omega) ?_
              refine x_lload_n h dX8_ask_29 rfl ?_
              refine x_lconst0 h dX8_ask_30 ?_
              refine x_lc_lt (tgt := 46) h (by omega) dX8_ask_31 dX8_ask_32 (by decide) (fun q => absurd q (by omega)) (fun _ => ?_)
              refine x_lload_n h dX8_ask_35 rfl ?_
              refine x_aload h dX8_ask_36 rfl ?_
              refine x_cV1 h kVX2_entriesInAll lkX8_90 ⟨_, _, _, rfl, rfl⟩ dX8_ask_38 (hent) (lvm_5 (by omega)) rfl rfl (Nat.le_of_ble_eq_true rfl) (by omega) ?_
              refine x_i2l h (by omega) dX8_ask_41 ?_
              refine x_lc_lt (tgt := 52) h (by omega) dX8_ask_42 dX8_ask_43 (by decide) (fun _ => ?_) (fun q => absurd (by omega) q)
              refine x_lload_n h dX8_ask_52 rfl ?_
              refine x_l2i h dX8_ask_53 ?_
              refine x_istore h dX8_ask_54 (by decide) ?_
              refine x_aload h dX8_ask_56 rfl ?_
              refine x_get (q := vI (2)) h fl_8_100 (lvm_5 (by omega)) dX8_ask_58 (congrArg vI (by first | exact hcond.trans hu2 | simp [up3, hcond.trans hu2])) ?_
              refine x_iconst h dX8_ask_61 ?_
              refine x_ic_ne_T (tgt := 69) h (by omega) dX8_ask_62 (by decide) (by omega) ?_
              refine x_iconst h dX8_ask_69 ?_
              refine x_istore h dX8_ask_70 (by decide) ?_
              refine x_aload h dX8_ask_72 rfl ?_
              refine x_get (q := vI (1)) h fl_8_103 (lvm_5 (by omega)) dX8_ask_74 (congrArg vI (by first | exact hby.trans hb1 | simp [up3, hby.trans hb1])) ?_
              refine x_if_eq_F (tgt := 129) h (by omega) dX8_ask_77 (by decide) (by omega) ?_
              refine x_iload h dX8_ask_80 rfl ?_
              refine x_if_ne_F (tgt := 129) h (by omega) dX8_ask_82 (by decide) (by omega) ?_
              refine x_iload h dX8_ask_85 rfl ?_
              refine x_bipush h dX8_ask_87 (by decide) ?_
              refine x_idivP h (by omega) dX8_ask_89 ?_
              rw [hdiv]
              refine x_istore h dX8_ask_90 (by decide) ?_
              refine x_aload_n h dX8_ask_92 rfl ?_
              refine x_aload h dX8_ask_93 rfl ?_
              refine x_iload_n h dX8_ask_95 rfl ?_
              refine x_iload h dX8_ask_96 rfl ?_
              refine x_iload h dX8_ask_98 rfl ?_
              refine x_cV1 h kVX8_awakenRow lkX8_106 ⟨_, _, _, rfl, rfl⟩ dX8_ask_100 (hct2) lvz_7 rfl rfl (Nat.le_of_ble_eq_true rfl) (by omega) ?_
              refine x_if_ne_T (tgt := 108) h (by omega) dX8_ask_103 (by decide) (by omega) ?_
              refine x_aload h dX8_ask_108 rfl ?_
              refine x_get h fl_8_110 (lvm_5 (by omega)) dX8_ask_110 (pvf_717 _ _) ?_
              refine x_iload h dX8_ask_113 rfl ?_
              refine x_cN1 h kSX9_at lkNX8_67 dX8_ask_115 (hat) rfl rfl (Nat.le_of_ble_eq_true rfl) (by omega) ?_
              refine x_iconst h dX8_ask_118 ?_
              refine x_ic_ne_F (tgt := 126) h (by omega) dX8_ask_119 (by decide) (by omega) ?_
              refine x_iconst h dX8_ask_122 ?_
              refine x_goto (tgt := 127) h dX8_ask_123 (by decide) ?_
              refine x_istore h dX8_ask_127 (by decide) ?_
              exact ask_tail1 (d := d) h hr k1 hk12 hp ha (by rw [HC_8 hc2 (by decide)]; omega) (by omega) hentr2 ⟨rfl, rfl, rfl, rfl, rfl, rfl, trivial⟩
            · rw [if_neg hr1]
              refine ⟨1, _, WRes_got0 (FrW_tr fr2 fr1) hc2 ws2 lw12, ?_⟩
              refine ct_of (by decide) (Nat.le_of_ble_eq_true rfl) (fun C h hr _ => ?_)
              have h : Ok C RX8 cX8_ask 9 _ := h
              refine x_aload_n h dX8_ask_0 rfl ?_
              refine x_get h fl_8_35 lvz_7 dX8_ask_1 (pvr k3 ⟨by decide, by decide⟩) ?_
              refine x_iload_n h dX8_ask_4 rfl ?_
              refine x_cV1 h kVX4_tableAt lkX8_80 ⟨_, _, _, rfl, rfl⟩ dX8_ask_5 (htab) (lvm_4 (by omega)) rfl rfl (Nat.le_of_ble_eq_true rfl) (by omega) ?_
              refine x_astore h dX8_ask_8 (by decide) ?_
              refine x_aload h dX8_ask_10 rfl ?_
              refine x_ifnull h dX8_ask_12 ?_
              refine x_aload_n h dX8_ask_15 rfl ?_
              refine x_aload h dX8_ask_16 rfl ?_
              refine x_iload_n h dX8_ask_18 rfl ?_
              refine x_iload h dX8_ask_19 rfl ?_
              refine x_cV1 h kVX8_awaken lkX8_86 ⟨_, _, _, rfl, rfl⟩ dX8_ask_21 (hct1) lvz_7 rfl rfl (Nat.le_of_ble_eq_true rfl) (by omega) ?_
              refine x_if_ne_T (tgt := 29) h (by omega) dX8_ask_24 (by decide) (by omega) ?_
              refine x_lload_n h dX8_ask_29 rfl ?_
              refine x_lconst0 h dX8_ask_30 ?_
              refine x_lc_lt (tgt := 46) h (by omega) dX8_ask_31 dX8_ask_32 (by decide) (fun q => absurd q (by omega)) (fun _ => ?_)
              refine x_lload_n h dX8_ask_35 rfl ?_
              refine x_aload h dX8_ask_36 rfl ?_
              refine x_cV1 h kVX2_entriesInAll lkX8_90 ⟨_, _, _, rfl, rfl⟩ dX8_ask_38 (hent) (lvm_5 (by omega)) rfl rfl (Nat.le_of_ble_eq_true rfl) (by omega) ?_
              refine x_i2l h (by omega) dX8_ask_41 ?_
              refine x_lc_lt (tgt := 52) h (by omega) dX8_ask_42 dX8_ask_43 (by decide) (fun _ => ?_) (fun q => absurd (by omega) q)
              refine x_lload_n h dX8_ask_52 rfl ?_
              refine x_l2i h dX8_ask_53 ?_
              refine x_istore h dX8_ask_54 (by decide) ?_
              refine x_aload h dX8_ask_56 rfl ?_
              refine x_get (q := vI (2)) h fl_8_100 (lvm_5 (by omega)) dX8_ask_58 (congrArg vI (by first | exact hcond.trans hu2 | simp [up3, hcond.trans hu2])) ?_
              refine x_iconst h dX8_ask_61 ?_
              refine x_ic_ne_T (tgt := 69) h (by omega) dX8_ask_62 (by decide) (by omega) ?_
              refine x_iconst h dX8_ask_69 ?_
              refine x_istore h dX8_ask_70 (by decide) ?_
              refine x_aload h dX8_ask_72 rfl ?_
              refine x_get (q := vI (1)) h fl_8_103 (lvm_5 (by omega)) dX8_ask_74 (congrArg vI (by first | exact hby.trans hb1 | simp [up3, hby.trans hb1])) ?_
              refine x_if_eq_F (tgt := 129) h (by omega) dX8_ask_77 (by decide) (by omega) ?_
              refine x_iload h dX8_ask_80 rfl ?_
              refine x_if_ne_F (tgt := 129) h (by omega) dX8_ask_82 (by decide) (by omega) ?_
              refine x_iload h dX8_ask_85 rfl ?_
              refine x_bipush h dX8_ask_87 (by decide) ?_
              refine x_idivP h (by omega) dX8_ask_89 ?_
              rw [hdiv]
              refine x_istore h dX8_ask_90 (by decide) ?_
              refine x_aload_n h dX8_ask_92 rfl ?_
              refine x_aload h dX8_ask_93 rfl ?_
              refine x_iload_n h dX8_ask_95 rfl ?_
              refine x_iload h dX8_ask_96 rfl ?_
              refine x_iload h dX8_ask_98 rfl ?_
              refine x_cV1 h kVX8_awakenRow lkX8_106 ⟨_, _, _, rfl, rfl⟩ dX8_ask_100 (hct2) lvz_7 rfl rfl (Nat.le_of_ble_eq_true rfl) (by omega) ?_
              refine x_if_ne_T (tgt := 108) h (by omega) dX8_ask_103 (by decide) (by omega) ?_
              refine x_aload h dX8_ask_108 rfl ?_
              refine x_get h fl_8_110 (lvm_5 (by omega)) dX8_ask_110 (pvf_717 _ _) ?_
              refine x_iload h dX8_ask_113 rfl ?_
              refine x_cN1 h kSX9_at lkNX8_67 dX8_ask_115 (hat) rfl rfl (Nat.le_of_ble_eq_true rfl) (by omega) ?_
              refine x_iconst h dX8_ask_118 ?_
              refine x_ic_ne_T (tgt := 126) h (by omega) dX8_ask_119 (by decide) (by omega) ?_
              refine x_iconst h dX8_ask_126 ?_
              refine x_istore h dX8_ask_127 (by decide) ?_
              exact ask_tail0 (d := d + 1) h hr k1 hk12 hp hentr2 ⟨rfl, rfl, rfl, rfl, rfl, rfl, trivial⟩
