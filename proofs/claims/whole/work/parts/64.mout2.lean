/-! the reference's calls that build, and its count -/
section M2
variable {n L q : Nat} {B : Nat → Int} {S : Sd} {D σ : Mm} {why : Int}
theorem RI_H {D' σ' : Mm} {q' : Nat} {why' : Int} (hI : RI n L B S D q why σ) (hf : FrH σ' σ) (hH : HR n S D' σ') (h53 : σ' 10 0 53 = (q' : Int)) (h54 : 1 ≤ q' → σ' 10 0 54 = why') : RI n L B S D' q' why' σ' := by
  obtain ⟨r1, r2, r3, r4, r5, r6⟩ := hI
  refine ⟨⟨by rw [hf _ _ _ (by omega)]; exact r1.1, r1.2⟩, ?_, SRl_H r3 hf, hH, h53, h54⟩
  rw [← r2]
  funext j
  unfold tB
  rw [hf _ _ _ (by omega)]
/-- one get -/
theorem get1 (hS : SOk S n) (hD : DW S D) (hN : NU D) (hI : RI n L B S D q why σ) {k : Nat} {x : Int} (hk : k < n) (hx : i64 x) (hp : Psi D + 1 ≤ BD) : ∃ (σ' : Mm) (b : Int), FrH σ' σ ∧ RI n L B S (dF (askTop S D k x)) (qF (askTop S D k x)) (whyF (askTop S D k x)) σ' ∧ (match askTop S D k x with
    | .inl _ => b = 0
    | .inr (v, _) => b = 1 ∧ σ' 10 0 63 = v) ∧ Ct 5 mX10_get 1 [vR 10 0, vI k, vL x, vI 0] NALL σ (some (vI b)) NALL σ' 0 0 := by
  have hn := hS.1
  have o0 : ∀ f k' j, ¬ (f = 10 ∧ (j = 53 ∨ j = 55)) → up3 (up3 σ 10 0 55 0) 10 0 53 0 f k' j = σ f k' j := fun f k' j z => by rw [up3_n _ (by omega), up3_n _ (by omega)]
  have f0 : FrH (up3 (up3 σ 10 0 55 0) 10 0 53 0) σ := fun f k' j z => o0 _ _ _ (by omega)
  have hT : TpI n S D (up3 (up3 σ 10 0 55 0) 10 0 53 0) := ⟨HR_fr hI.2.2.2.1 (fun f j z => o0 _ _ _ (by omega)), SRl_H hI.2.2.1 f0, hD, fun j hj => hN j (by omega), by rw [up3_n _ (by omega), up3_s]⟩
  obtain ⟨σ', b, ⟨g1, g2⟩, g3⟩ := m_get (Or.inl rfl) (top_get hS hT hk hx hp)
  have g2 : match askTop S D k x with
    | .inl (w, m, D') => b = 0 ∧ HR n S D' σ' ∧ σ' 10 0 53 = ((if m = 0 then 1 else m : Nat) : Int) ∧ σ' 10 0 54 = w
    | .inr (y, D') => b = 1 ∧ HR n S D' σ' ∧ ((0 : Int) = 0 → σ' 10 0 63 = y) ∧ σ' 10 0 53 = up3 (up3 σ 10 0 55 0) 10 0 53 0 10 0 53 := g2
  have g1 := FrH_tr g1 f0
  refine ⟨σ', b, g1, ?_, ?_, g3⟩
  · cases hr : askTop S D k x with
    | inl y =>
      obtain ⟨w, m, D'⟩ := y
      rw [hr] at g2
      exact RI_H hI g1 g2.2.1 g2.2.2.1 (fun _ => g2.2.2.2)
    | inr y =>
      obtain ⟨v, D'⟩ := y
      rw [hr] at g2
      exact RI_H hI g1 g2.2.1 (by rw [g2.2.2.2, up3_s]; rfl) (fun z => absurd z (by show ¬ (1 ≤ 0); omega))
  · cases hr : askTop S D k x with
    | inl y => rw [hr] at g2; exact g2.1
    | inr y =>
      obtain ⟨v, D'⟩ := y
      rw [hr] at g2
      exact ⟨g2.1, g2.2.2.1 rfl⟩
theorem ask_E (hS : SOk S n) (hD : DW S D) {k : Nat} {x : Int} (hk : k < n) : EI S X0 12 1 D (askTop S D k x) := ask_i hS.1 (lv_i hS 12).1 (lv_i hS 12).2 D k x (-9) hD hk ⟨by omega, by omega⟩
theorem m9_entry {p : Int} {k : Nat} (hS : SOk S n) (hD : DW S D) (hN : NU D) (hI : RI n L B S D q why σ) (hk : k < n) (hp : i32 p) (hP : Psi D + 1 ≤ BD) : ∃ σ', FrH σ' σ ∧ RI n L B S (dF (askTop S D k p)) (qF (askTop S D k p)) (whyF (askTop S D k p)) σ' ∧ Ct 6 mX10_entry 1 [vR 10 0, vI k, vI p] NALL σ (some (vL (valF (askTop S D k p) 0))) NALL σ' 0 0 := by
  have h12 := hS.1
  unfold i32 at hp
  have f0 : FrH (up3 σ 10 0 53 0) σ := fun f k' j z => up3_n _ (by omega)
  have h320 : up3 σ 10 0 53 0 10 0 32 = (n : Int) := by rw [up3_n _ (by omega)]; exact hI.2.2.1.1
  have hI0 : RI n L B S D 0 why (up3 σ 10 0 53 0) := RI_H hI f0 (HR_fr hI.2.2.2.1 (fun f j z => up3_n _ (by omega))) (by rw [up3_s]; rfl) (fun z => absurd z (by omega))
  obtain ⟨σ', b, g1, g2, g3, g4⟩ := get1 (x := p) hS hD hN hI0 hk ⟨by omega, by omega⟩ hP
  refine ⟨σ', FrH_tr g1 f0, g2, ?_⟩
  have hit := isTable_y (d := 4) (x := (k : Int)) h320 h12 (by unfold i32; omega) ⟨by omega, by omega⟩
  cases hr : askTop S D k p with
  | inl y =>
    rw [hr] at g3
    have g3 : b = 0 := g3
    subst g3
    show Ct 6 mX10_entry 1 [vR 10 0, vI k, vI p] NALL σ (some (vL 0)) NALL σ' 0 0
    refine ct_of (by decide) (Nat.le_of_ble_eq_true rfl) (fun C h hr _ => ?_)
    have h : Ok C RX10 cX10_entry 3 _ := h
    refine x_aload_n h dX10_entry_0 rfl ?_
    refine x_iconst h dX10_entry_1 ?_
    refine x_put h fl_10_302 lvz_10 dX10_entry_2 rfl (fun z => absurd z (by decide)) ?_
    refine x_aload_n h dX10_entry_5 rfl ?_
    refine x_iload_n h dX10_entry_6 rfl ?_
    refine x_cV1 h kVX10_isTable lkX10_309 ⟨_, _, _, rfl, rfl⟩ dX10_entry_7 (hit) lvz_10 rfl rfl (Nat.le_of_ble_eq_true rfl) (by omega) ?_
    refine x_if_eq_F (tgt := 31) h (by omega) dX10_entry_10 (by decide) (by omega) ?_
    refine x_aload_n h dX10_entry_13 rfl ?_
    refine x_iload_n h dX10_entry_14 rfl ?_
    refine x_iload_n h dX10_entry_15 rfl ?_
    refine x_i2l h (by omega) dX10_entry_16 ?_
    refine x_iconst h dX10_entry_17 ?_
    refine x_cV1 h kVX10_get lkX10_375 ⟨_, _, _, rfl, rfl⟩ dX10_entry_18 (g4) lvz_10 rfl rfl (Nat.le_of_ble_eq_true rfl) (by omega) ?_
    refine x_if_eq_T (tgt := 31) h (by omega) dX10_entry_21 (by decide) (by omega) ?_
    refine x_lconst0 h dX10_entry_31 ?_
    exact x_lreturn h hr dX10_entry_32 ⟨Nat.le_refl _, Nat.le_refl _⟩
  | inr y =>
    obtain ⟨v, D'⟩ := y
    rw [hr] at g3
    obtain ⟨rfl, g5⟩ : b = 1 ∧ σ' 10 0 63 = v := g3
    show Ct 6 mX10_entry 1 [vR 10 0, vI k, vI p] NALL σ (some (vL v)) NALL σ' 0 0
    refine ct_of (by decide) (Nat.le_of_ble_eq_true rfl) (fun C h hr _ => ?_)
    have h : Ok C RX10 cX10_entry 3 _ := h
    refine x_aload_n h dX10_entry_0 rfl ?_
    refine x_iconst h dX10_entry_1 ?_
    refine x_put h fl_10_302 lvz_10 dX10_entry_2 rfl (fun z => absurd z (by decide)) ?_
    refine x_aload_n h dX10_entry_5 rfl ?_
    refine x_iload_n h dX10_entry_6 rfl ?_
    refine x_cV1 h kVX10_isTable lkX10_309 ⟨_, _, _, rfl, rfl⟩ dX10_entry_7 (hit) lvz_10 rfl rfl (Nat.le_of_ble_eq_true rfl) (by omega) ?_
    refine x_if_eq_F (tgt := 31) h (by omega) dX10_entry_10 (by decide) (by omega) ?_
    refine x_aload_n h dX10_entry_13 rfl ?_
    refine x_iload_n h dX10_entry_14 rfl ?_
    refine x_iload_n h dX10_entry_15 rfl ?_
    refine x_i2l h (by omega) dX10_entry_16 ?_
    refine x_iconst h dX10_entry_17 ?_
    refine x_cV1 h kVX10_get lkX10_375 ⟨_, _, _, rfl, rfl⟩ dX10_entry_18 (g4) lvz_10 rfl rfl (Nat.le_of_ble_eq_true rfl) (by omega) ?_
    refine x_if_eq_F (tgt := 31) h (by omega) dX10_entry_21 (by decide) (by omega) ?_
    refine x_aload_n h dX10_entry_24 rfl ?_
    refine x_get (q := vL (v)) h fl_10_328 lvz_10 dX10_entry_25 (congrArg vL (by first | exact g5 | simp [up3, g5])) ?_
    refine x_goto (tgt := 32) h dX10_entry_28 (by decide) ?_
    exact x_lreturn h hr dX10_entry_32 ⟨Nat.le_refl _, Nat.le_refl _⟩
theorem m9_entryN {x p : Int} (hS : SOk S n) (hI : RI n L B S D q why σ) (hx : i32 x) (hT : ¬ isT n x) : ∃ σ', FrH σ' σ ∧ RI n L B S D 0 0 σ' ∧ Ct 6 mX10_entry 1 [vR 10 0, vI x, vI p] NALL σ (some (vL 0)) NALL σ' 0 0 := by
  have h12 := hS.1
  have f0 : FrH (up3 σ 10 0 53 0) σ := fun f k' j z => up3_n _ (by omega)
  have h320 : up3 σ 10 0 53 0 10 0 32 = (n : Int) := by rw [up3_n _ (by omega)]; exact hI.2.2.1.1
  have hI0 : RI n L B S D 0 0 (up3 σ 10 0 53 0) := RI_H hI f0 (HR_fr hI.2.2.2.1 (fun f j z => up3_n _ (by omega))) (by rw [up3_s]; rfl) (fun z => absurd z (by omega))
  have hit := isTable_n (d := 4) (x := x) h320 h12 hx hT
  refine ⟨up3 σ 10 0 53 0, f0, hI0, ?_⟩
  refine ct_of (by decide) (Nat.le_of_ble_eq_true rfl) (fun C h hr _ => ?_)
  have h : Ok C RX10 cX10_entry 3 _ := h
  refine x_aload_n h dX10_entry_0 rfl ?_
  refine x_iconst h dX10_entry_1 ?_
  refine x_put h fl_10_302 lvz_10 dX10_entry_2 rfl (fun z => absurd z (by decide)) ?_
  refine x_aload_n h dX10_entry_5 rfl ?_
  refine x_iload_n h dX10_entry_6 rfl ?_
  refine x_cV1 h kVX10_isTable lkX10_309 ⟨_, _, _, rfl, rfl⟩ dX10_entry_7 (hit) lvz_10 rfl rfl (Nat.le_of_ble_eq_true rfl) (by omega) ?_
  refine x_if_eq_T (tgt := 31) h (by omega) dX10_entry_10 (by decide) (by omega) ?_
  refine x_lconst0 h dX10_entry_31 ?_
  exact x_lreturn h hr dX10_entry_32 ⟨Nat.le_refl _, Nat.le_refl _⟩
theorem m9_sumN {x a b k : Int} (hS : SOk S n) (hI : RI n L B S D q why σ) (hx : i32 x) (hT : ¬ isT n x) : Ct 6 mX10_sum 1 [vR 10 0, vI x, vI a, vI b, vI k] NALL σ (some (vL (-1))) NALL σ 0 0 := by
  have hit := isTable_n (d := 4) (x := x) hI.2.2.1.1 hS.1 hx hT
  refine ct_of (by decide) (Nat.le_of_ble_eq_true rfl) (fun C h hr _ => ?_)
  have h : Ok C RX10 cX10_sum 11 _ := h
  refine x_aload_n h dX10_sum_0 rfl ?_
  refine x_iload_n h dX10_sum_1 rfl ?_
  refine x_cV1 h kVX10_isTable lkX10_309 ⟨_, _, _, rfl, rfl⟩ dX10_sum_2 (hit) lvz_10 rfl rfl (Nat.le_of_ble_eq_true rfl) (by omega) ?_
  refine x_if_ne_F (tgt := 12) h (by omega) dX10_sum_5 (by decide) (by omega) ?_
  refine x_ldc2 (x := (-1)) h dX10_sum_8 klX10_222 (by decide) ?_
  exact x_lreturn h hr dX10_sum_11 ⟨Nat.le_refl _, Nat.le_refl _⟩
theorem m9_sumO {a b k : Int} {k0 : Nat} (hS : SOk S n) (hI : RI n L B S D q why σ) (hk0 : k0 < n) (ha : i32 a) (hb : i32 b) (hk : i32 k) (hbad : badSum a b k) : Ct 6 mX10_sum 1 [vR 10 0, vI k0, vI a, vI b, vI k] NALL σ (some (vL (-2))) NALL σ 0 0 := by
  have h12 := hS.1
  have hit := isTable_y (d := 4) (x := (k0 : Int)) hI.2.2.1.1 h12 (by unfold i32; omega) ⟨by omega, by omega⟩
  unfold i32 at ha hb hk
  have hin := m_in (d := 5) (σ := σ) (v := k) (a := 0) (b := 2) ⟨by omega, by omega⟩ i64z ⟨by omega, by omega⟩
  unfold badSum at hbad
  by_cases c1 : k < 0 ∨ 2 < k
  · rw [if_neg (by omega)] at hin
    refine ct_of (by decide) (Nat.le_of_ble_eq_true rfl) (fun C h hr _ => ?_)
    have h : Ok C RX10 cX10_sum 11 _ := h
    refine x_aload_n h dX10_sum_0 rfl ?_
    refine x_iload_n h dX10_sum_1 rfl ?_
    refine x_cV1 h kVX10_isTable lkX10_309 ⟨_, _, _, rfl, rfl⟩ dX10_sum_2 (hit) lvz_10 rfl rfl (Nat.le_of_ble_eq_true rfl) (by omega) ?_
    refine x_if_ne_T (tgt := 12) h (by omega) dX10_sum_5 (by decide) (by omega) ?_
    refine x_iload h dX10_sum_12 rfl ?_
    refine x_i2l h (by omega) dX10_sum_14 ?_
    refine x_lconst0 h dX10_sum_15 ?_
    refine x_ldc2 (x := 2) h dX10_sum_16 klX10_378 (by decide) ?_
    refine x_cS1 h kSX10_in lkX10_305 dX10_sum_19 (hin) rfl rfl (Nat.le_of_ble_eq_true rfl) (by omega) ?_
    refine x_if_eq_T (tgt := 42) h (by omega) dX10_sum_22 (by decide) (by omega) ?_
    refine x_ldc2 (x := (-2)) h dX10_sum_42 klX10_382 (by decide) ?_
    exact x_lreturn h hr dX10_sum_45 ⟨Nat.le_refl _, Nat.le_refl _⟩
  · rw [if_pos (by omega)] at hin
    by_cases c2 : b < a
    · refine ct_of (by decide) (Nat.le_of_ble_eq_true rfl) (fun C h hr _ => ?_)
      have h : Ok C RX10 cX10_sum 11 _ := h
      refine x_aload_n h dX10_sum_0 rfl ?_
      refine x_iload_n h dX10_sum_1 rfl ?_
      refine x_cV1 h kVX10_isTable lkX10_309 ⟨_, _, _, rfl, rfl⟩ dX10_sum_2 (hit) lvz_10 rfl rfl (Nat.le_of_ble_eq_true rfl) (by omega) ?_
      refine x_if_ne_T (tgt := 12) h (by omega) dX10_sum_5 (by decide) (by omega) ?_
      refine x_iload h dX10_sum_12 rfl ?_
      refine x_i2l h (by omega) dX10_sum_14 ?_
      refine x_lconst0 h dX10_sum_15 ?_
      refine x_ldc2 (x := 2) h dX10_sum_16 klX10_378 (by decide) ?_
      refine x_cS1 h kSX10_in lkX10_305 dX10_sum_19 (hin) rfl rfl (Nat.le_of_ble_eq_true rfl) (by omega) ?_
      refine x_if_eq_F (tgt := 42) h (by omega) dX10_sum_22 (by decide) (by omega) ?_
      refine x_iload_n h dX10_sum_25 rfl ?_
      refine x_iload_n h dX10_sum_26 rfl ?_
      refine x_ic_lt_T (tgt := 42) h (by omega) dX10_sum_27 (by decide) (by omega) ?_
      refine x_ldc2 (x := (-2)) h dX10_sum_42 klX10_382 (by decide) ?_
      exact x_lreturn h hr dX10_sum_45 ⟨Nat.le_refl _, Nat.le_refl _⟩
    · refine ct_of (by decide) (Nat.le_of_ble_eq_true rfl) (fun C h hr _ => ?_)
      have h : Ok C RX10 cX10_sum 11 _ := h
      refine x_aload_n h dX10_sum_0 rfl ?_
      refine x_iload_n h dX10_sum_1 rfl ?_
      refine x_cV1 h kVX10_isTable lkX10_309 ⟨_, _, _, rfl, rfl⟩ dX10_sum_2 (hit) lvz_10 rfl rfl (Nat.le_of_ble_eq_true rfl) (by omega) ?_
      refine x_if_ne_T (tgt := 12) h (by omega) dX10_sum_5 (by decide) (by omega) ?_
      refine x_iload h dX10_sum_12 rfl ?_
      refine x_i2l h (by omega) dX10_sum_14 ?_
      refine x_lconst0 h dX10_sum_15 ?_
      refine x_ldc2 (x := 2) h dX10_sum_16 klX10_378 (by decide) ?_
      refine x_cS1 h kSX10_in lkX10_305 dX10_sum_19 (hin) rfl rfl (Nat.le_of_ble_eq_true rfl) (by omega) ?_
      refine x_if_eq_F (tgt := 42) h (by omega) dX10_sum_22 (by decide) (by omega) ?_
      refine x_iload_n h dX10_sum_25 rfl ?_
      refine x_iload_n h dX10_sum_26 rfl ?_
      refine x_ic_lt_F (tgt := 42) h (by omega) dX10_sum_27 (by decide) (by omega) ?_
      refine x_iload_n h dX10_sum_30 rfl ?_
      refine x_i2l h (by omega) dX10_sum_31 ?_
      refine x_iload_n h dX10_sum_32 rfl ?_
      refine x_i2l h (by omega) dX10_sum_33 ?_
      refine x_ldc2 (x := 1000) h dX10_sum_34 klX10_380 (by decide) ?_
      refine x_ladd h dX10_sum_37 ?_
      refine x_lc_le (tgt := 46) h (by omega) dX10_sum_38 dX10_sum_39 (by decide) (fun q => absurd q (by omega)) (fun _ => ?_)
      refine x_ldc2 (x := (-2)) h dX10_sum_42 klX10_382 (by decide) ?_
      exact x_lreturn h hr dX10_sum_45 ⟨Nat.le_refl _, Nat.le_refl _⟩
theorem m9_sum {a b k : Int} {k0 : Nat} (hS : SOk S n) (hD : DW S D) (hN : NU D) (hI : RI n L B S D q why σ) (hk0 : k0 < n) (ha : i32 a) (hb : i32 b) (hk : i32 k) (hbad : ¬ badSum a b k) (hP : Psi D + 1001 ≤ BD) : ∃ σ', FrH σ' σ ∧ RI n L B S (dF (sumE9 S D k0 a b)) (qF (sumE9 S D k0 a b)) (whyF (sumE9 S D k0 a b)) σ' ∧ Ct 6 mX10_sum 1 [vR 10 0, vI k0, vI a, vI b, vI k] NALL σ (some (vL (match sumE9 S D k0 a b with | .inl _ => 0 | .inr (s, _) => partZ s k))) NALL σ' 0 0 := by
  have h12 := hS.1
  have hit := isTable_y (d := 4) (x := (k0 : Int)) hI.2.2.1.1 h12 (by unfold i32; omega) ⟨by omega, by omega⟩
  unfold i32 at ha hb hk
  have hin := m_in (d := 5) (σ := σ) (v := k) (a := 0) (b := 2) ⟨by omega, by omega⟩ i64z ⟨by omega, by omega⟩
  unfold badSum at hbad
  rw [if_pos (by omega)] at hin
  have hm32 : ∀ x : Int, andL x (4294967295 : Int) = x % 4294967296 := andL_32
  have hs32 : ∀ x : Int, shrL x (32 : Int) = w64 x / 4294967296 := shrL_32
  -- the loop
  have loop : ∀ (c : Nat) (p T : Int) (D1 σ1 : Mm) (q1 : Nat) (why1 : Int), p + c = b + 1 → a ≤ p → (-(9223372036854775808 * (p - a)) ≤ T ∧ T ≤ 9223372036854775808 * (p - a)) → DW S D1 → NU D1 → Psi D1 + c ≤ BD → RI n L B S D1 q1 why1 σ1 → (c = 0 → q1 = 0) → ∃ σ', FrH σ' σ1 ∧ RI n L B S (dF (sumR S k0 c p T D1)) (qF (sumR S k0 c p T D1)) (whyF (sumR S k0 c p T D1)) σ' ∧ ∀ C : Cx, Ok C RX10 cX10_sum 11 6 → Rt C 1 (some .long) (some (vL (match sumR S k0 c p T D1 with | .inl _ => 0 | .inr (s, _) => partZ s k))) NALL σ' 0 0 → ∀ ls, lsub [(0, vR 10 0), (1, vI k0), (3, vI b), (4, vI k), (5, vL (T / 4294967296)), (7, vL (T % 4294967296)), (9, vL p)] ls → X C 1 56 ls [] NALL σ1 0 0 := by
    intro c
    induction c with
    | zero =>
      intro p T D1 σ1 q1 why1 hpc hap hT hD1 hN1 hP1 hI1 hq1
      have hq0 := hq1 rfl
      subst hq0
      refine ⟨σ1, FrH_refl σ1, ⟨hI1.1, hI1.2.1, hI1.2.2.1, hI1.2.2.2.1, hI1.2.2.2.2.1, fun z => absurd z (by show ¬ (1 ≤ 0); omega)⟩, fun C h hr ls hls => ?_⟩
      have hr : Rt C 1 (some .long) (some (vL (partZ T k))) NALL σ1 0 0 := hr
      have ew : w64 (T / 4294967296) = T / 4294967296 := w64_id (by omega)
      refine x_loc hls ?_
      rcases (by omega : k = 0 ∨ k = 1 ∨ k = 2) with rfl | rfl | rfl
      · rw [show partZ T 0 = T % 4294967296 by unfold partZ; rw [if_pos rfl]] at hr
        refine x_lload h dX10_sum_56 rfl ?_
        refine x_iload_n h dX10_sum_58 rfl ?_
        refine x_i2l h (by omega) dX10_sum_59 ?_
        refine x_lc_gt (tgt := 125) h (by omega) dX10_sum_60 dX10_sum_61 (by decide) (fun _ => ?_) (fun q => absurd (by omega) q)
        refine x_iload h dX10_sum_125 rfl ?_
        refine x_if_ne_F (tgt := 135) h (by omega) dX10_sum_127 (by decide) (by omega) ?_
        refine x_lload h dX10_sum_130 rfl ?_
        refine x_goto (tgt := 159) h dX10_sum_132 (by decide) ?_
        exact x_lreturn h hr dX10_sum_159 ⟨Nat.le_refl _, Nat.le_refl _⟩
      · rw [show partZ T 1 = T / 4294967296 % 4294967296 by unfold partZ; rw [if_neg (by decide), if_pos rfl]] at hr
        refine x_lload h dX10_sum_56 rfl ?_
        refine x_iload_n h dX10_sum_58 rfl ?_
        refine x_i2l h (by omega) dX10_sum_59 ?_
        refine x_lc_gt (tgt := 125) h (by omega) dX10_sum_60 dX10_sum_61 (by decide) (fun _ => ?_) (fun q => absurd (by omega) q)
        refine x_iload h dX10_sum_125 rfl ?_
        refine x_if_ne_T (tgt := 135) h (by omega) dX10_sum_127 (by decide) (by omega) ?_
        refine x_iload h dX10_sum_135 rfl ?_
        refine x_iconst h dX10_sum_137 ?_
        refine x_ic_ne_F (tgt := 150) h (by omega) dX10_sum_138 (by decide) (by omega) ?_
        refine x_lload h dX10_sum_141 rfl ?_
        refine x_ldc2 (x := 4294967295) h dX10_sum_143 klX10_352 (by decide) ?_
        refine x_land h dX10_sum_146 ?_
        rw [hm32]
        refine x_goto (tgt := 159) h dX10_sum_147 (by decide) ?_
        exact x_lreturn h hr dX10_sum_159 ⟨Nat.le_refl _, Nat.le_refl _⟩
      · rw [show partZ T 2 = T / 4294967296 / 4294967296 % 4294967296 by unfold partZ; rw [if_neg (by decide), if_neg (by decide)]; omega] at hr
        refine x_lload h dX10_sum_56 rfl ?_
        refine x_iload_n h dX10_sum_58 rfl ?_
        refine x_i2l h (by omega) dX10_sum_59 ?_
        refine x_lc_gt (tgt := 125) h (by omega) dX10_sum_60 dX10_sum_61 (by decide) (fun _ => ?_) (fun q => absurd (by omega) q)
        refine x_iload h dX10_sum_125 rfl ?_
        refine x_if_ne_T (tgt := 135) h (by omega) dX10_sum_127 (by decide) (by omega) ?_
        refine x_iload h dX10_sum_135 rfl ?_
        refine x_iconst h dX10_sum_137 ?_
        refine x_ic_ne_T (tgt := 150) h (by omega) dX10_sum_138 (by decide) (by omega) ?_
        refine x_lload h dX10_sum_150 rfl ?_
        refine x_bipush h dX10_sum_152 (by decide) ?_
        refine x_lshr h dX10_sum_154 ?_
        rw [hs32, ew]
        refine x_ldc2 (x := 4294967295) h dX10_sum_155 klX10_352 (by decide) ?_
        refine x_land h dX10_sum_158 ?_
        rw [hm32]
        exact x_lreturn h hr dX10_sum_159 ⟨Nat.le_refl _, Nat.le_refl _⟩
    | succ c ih =>
      intro p T D1 σ1 q1 why1 hpc hap hT hD1 hN1 hP1 hI1 hq1
      obtain ⟨σ2, bb, g1, g2, g3, g4⟩ := get1 hS hD1 hN1 hI1 (k := k0) (x := p) hk0 ⟨by omega, by omega⟩ (by omega)
      have ei := ask_E hS hD1 (k := k0) (x := p) hk0
      show ∃ σ', FrH σ' σ1 ∧ RI n L B S (dF (bindE (askTop S D1 k0 p) (fun v D' => sumR S k0 c (p + 1) (T + v) D'))) (qF (bindE (askTop S D1 k0 p) (fun v D' => sumR S k0 c (p + 1) (T + v) D'))) (whyF (bindE (askTop S D1 k0 p) (fun v D' => sumR S k0 c (p + 1) (T + v) D'))) σ' ∧ ∀ C : Cx, Ok C RX10 cX10_sum 11 6 → Rt C 1 (some .long) (some (vL (match bindE (askTop S D1 k0 p) (fun v D' => sumR S k0 c (p + 1) (T + v) D') with | .inl _ => 0 | .inr (s, _) => partZ s k))) NALL σ' 0 0 → ∀ ls, lsub [(0, vR 10 0), (1, vI k0), (3, vI b), (4, vI k), (5, vL (T / 4294967296)), (7, vL (T % 4294967296)), (9, vL p)] ls → X C 1 56 ls [] NALL σ1 0 0
      revert g2 g3 ei
      generalize askTop S D1 k0 p = res
      intro g2 g3 ei
      cases res with
      | inl y =>
        have g3 : bb = 0 := g3
        subst g3
        refine ⟨σ2, g1, g2, fun C h hr ls hls => ?_⟩
        refine x_loc hls ?_
        refine x_lload h dX10_sum_56 rfl ?_
        refine x_iload_n h dX10_sum_58 rfl ?_
        refine x_i2l h (by omega) dX10_sum_59 ?_
        refine x_lc_gt (tgt := 125) h (by omega) dX10_sum_60 dX10_sum_61 (by decide) (fun q => absurd q (by omega)) (fun _ => ?_)
        refine x_aload_n h dX10_sum_64 rfl ?_
        refine x_iload_n h dX10_sum_65 rfl ?_
        refine x_lload h dX10_sum_66 rfl ?_
        refine x_iconst h dX10_sum_68 ?_
        refine x_cV1 h kVX10_get lkX10_375 ⟨_, _, _, rfl, rfl⟩ dX10_sum_69 (g4) lvz_10 rfl rfl (Nat.le_of_ble_eq_true rfl) (by omega) ?_
        refine x_if_ne_F (tgt := 77) h (by omega) dX10_sum_72 (by decide) (by omega) ?_
        refine x_lconst0 h dX10_sum_75 ?_
        exact x_lreturn h hr dX10_sum_76 ⟨Nat.le_refl _, Nat.le_refl _⟩
      | inr y =>
        obtain ⟨v, D2⟩ := y
        obtain ⟨rfl, g5⟩ : bb = 1 ∧ σ2 10 0 63 = v := g3
        obtain ⟨i1, i2, i3, i4⟩ := ei
        have i4' := i4
        obtain ⟨v1, v2⟩ := i4
        have ev : w64 v = v := w64_id ⟨v1, v2⟩
        have e1 : w64 (T % 4294967296 + v % 4294967296) = T % 4294967296 + v % 4294967296 := w64_id (by omega)
        have a1 : T / 4294967296 + (v / 4294967296 + (T % 4294967296 + v % 4294967296) / 4294967296) = (T + v) / 4294967296 := by omega
        have a2 : (T % 4294967296 + v % 4294967296) % 4294967296 = (T + v) % 4294967296 := by omega
        obtain ⟨σ', k1, k2, k3⟩ := ih (p + 1) (T + v) D2 σ2 0 0 (by omega) (by omega) (by omega) i1 (NU_up hN1 i3) (by omega) g2 (fun _ => rfl)
        refine ⟨σ', FrH_tr k1 g1, k2, fun C h hr ls hls => ?_⟩
        have goal := k3 C h hr
        refine x_loc hls ?_
        refine x_lload h dX10_sum_56 rfl ?_
        refine x_iload_n h dX10_sum_58 rfl ?_
        refine x_i2l h (by omega) dX10_sum_59 ?_
        refine x_lc_gt (tgt := 125) h (by omega) dX10_sum_60 dX10_sum_61 (by decide) (fun q => absurd q (by omega)) (fun _ => ?_)
        refine x_aload_n h dX10_sum_64 rfl ?_
        refine x_iload_n h dX10_sum_65 rfl ?_
        refine x_lload h dX10_sum_66 rfl ?_
        refine x_iconst h dX10_sum_68 ?_
        refine x_cV1 h kVX10_get lkX10_375 ⟨_, _, _, rfl, rfl⟩ dX10_sum_69 (g4) lvz_10 rfl rfl (Nat.le_of_ble_eq_true rfl) (by omega) ?_
        refine x_if_ne_T (tgt := 77) h (by omega) dX10_sum_72 (by decide) (by omega) ?_
        refine x_lload h dX10_sum_77 rfl ?_
        refine x_aload_n h dX10_sum_79 rfl ?_
        refine x_get (q := vL (v)) h fl_10_328 lvz_10 dX10_sum_80 (congrArg vL (by first | exact g5 | simp [up3, g5])) ?_
        refine x_ldc2 (x := 4294967295) h dX10_sum_83 klX10_352 (by decide) ?_
        refine x_land h dX10_sum_86 ?_
        rw [hm32]
        refine x_ladd h dX10_sum_87 ?_
        refine x_lstore h dX10_sum_88 (by decide) ?_
        refine x_lload h dX10_sum_90 rfl ?_
        refine x_aload_n h dX10_sum_92 rfl ?_
        refine x_get (q := vL (v)) h fl_10_328 lvz_10 dX10_sum_93 (congrArg vL (by first | exact g5 | simp [up3, g5])) ?_
        refine x_bipush h dX10_sum_96 (by decide) ?_
        refine x_lshr h dX10_sum_98 ?_
        rw [hs32, ev]
        refine x_lload h dX10_sum_99 rfl ?_
        refine x_bipush h dX10_sum_101 (by decide) ?_
        refine x_lshr h dX10_sum_103 ?_
        rw [hs32, e1]
        refine x_ladd h dX10_sum_104 ?_
        refine x_ladd h dX10_sum_105 ?_
        rw [a1]
        refine x_lstore h dX10_sum_106 (by decide) ?_
        refine x_lload h dX10_sum_108 rfl ?_
        refine x_ldc2 (x := 4294967295) h dX10_sum_110 klX10_352 (by decide) ?_
        refine x_land h dX10_sum_113 ?_
        rw [hm32, a2]
        refine x_lstore h dX10_sum_114 (by decide) ?_
        refine x_lload h dX10_sum_116 rfl ?_
        refine x_lconst1 h dX10_sum_118 ?_
        refine x_ladd h dX10_sum_119 ?_
        refine x_lstore h dX10_sum_120 (by decide) ?_
        refine x_goto (tgt := 56) h dX10_sum_122 (by decide) ?_
        exact goal _ ⟨rfl, rfl, rfl, rfl, rfl, rfl, rfl, trivial⟩
  obtain ⟨c, hc⟩ : ∃ c : Nat, (c : Int) = b - a + 1 := ⟨(b - a + 1).toNat, by omega⟩
  have ec : (b - a + 1).toNat = c := by omega
  unfold sumE9
  rw [ec]
  obtain ⟨σ', k1, k2, k3⟩ := loop c a 0 D σ q why (by omega) (Int.le_refl _) ⟨by omega, by omega⟩ hD hN (by omega) hI (fun z => by omega)
  refine ⟨σ', k1, k2, ?_⟩
  refine ct_of (by decide) (Nat.le_of_ble_eq_true rfl) (fun C h hr _ => ?_)
  have h : Ok C RX10 cX10_sum 11 _ := h
  refine x_aload_n h dX10_sum_0 rfl ?_
  refine x_iload_n h dX10_sum_1 rfl ?_
  refine x_cV1 h kVX10_isTable lkX10_309 ⟨_, _, _, rfl, rfl⟩ dX10_sum_2 (hit) lvz_10 rfl rfl (Nat.le_of_ble_eq_true rfl) (by omega) ?_
  refine x_if_ne_T (tgt := 12) h (by omega) dX10_sum_5 (by decide) (by omega) ?_
  refine x_iload h dX10_sum_12 rfl ?_
  refine x_i2l h (by omega) dX10_sum_14 ?_
  refine x_lconst0 h dX10_sum_15 ?_
  refine x_ldc2 (x := 2) h dX10_sum_16 klX10_378 (by decide) ?_
  refine x_cS1 h kSX10_in lkX10_305 dX10_sum_19 (hin) rfl rfl (Nat.le_of_ble_eq_true rfl) (by omega) ?_
  refine x_if_eq_F (tgt := 42) h (by omega) dX10_sum_22 (by decide) (by omega) ?_
  refine x_iload_n h dX10_sum_25 rfl ?_
  refine x_iload_n h dX10_sum_26 rfl ?_
  refine x_ic_lt_F (tgt := 42) h (by omega) dX10_sum_27 (by decide) (by omega) ?_
  refine x_iload_n h dX10_sum_30 rfl ?_
  refine x_i2l h (by omega) dX10_sum_31 ?_
  refine x_iload_n h dX10_sum_32 rfl ?_
  refine x_i2l h (by omega) dX10_sum_33 ?_
  refine x_ldc2 (x := 1000) h dX10_sum_34 klX10_380 (by decide) ?_
  refine x_ladd h dX10_sum_37 ?_
  refine x_lc_le (tgt := 46) h (by omega) dX10_sum_38 dX10_sum_39 (by decide) (fun _ => ?_) (fun q => absurd (by omega) q)
  refine x_lconst0 h dX10_sum_46 ?_
  refine x_lstore h dX10_sum_47 (by decide) ?_
  refine x_lconst0 h dX10_sum_49 ?_
  refine x_lstore h dX10_sum_50 (by decide) ?_
  refine x_iload_n h dX10_sum_52 rfl ?_
  refine x_i2l h (by omega) dX10_sum_53 ?_
  refine x_lstore h dX10_sum_54 (by decide) ?_
  exact k3 C h hr _ ⟨rfl, rfl, rfl, rfl, rfl, rfl, rfl, trivial⟩
/-- get of a TABLE alone -/
theorem get1O (hS : SOk S n) (hD : DW S D) (hN : NU D) (hI : RI n L B S D q why σ) {k : Nat} {x : Int} (hk : k < n) (hp : Psi D + 1 ≤ BD) : ∃ (σ' : Mm) (b : Int), FrH σ' σ ∧ RI n L B S (dF (awkF (lvW S 12).1 D k (-9))) (qF (awkF (lvW S 12).1 D k (-9))) (whyF (awkF (lvW S 12).1 D k (-9))) σ' ∧ (match awkF (lvW S 12).1 D k (-9) with
    | .inl _ => b = 0
    | .inr _ => b = 1) ∧ Ct 5 mX10_get 1 [vR 10 0, vI k, vL x, vI 1] NALL σ (some (vI b)) NALL σ' 0 0 := by
  have hn := hS.1
  have o0 : ∀ f k' j, ¬ (f = 10 ∧ (j = 53 ∨ j = 55)) → up3 (up3 σ 10 0 55 0) 10 0 53 0 f k' j = σ f k' j := fun f k' j z => by rw [up3_n _ (by omega), up3_n _ (by omega)]
  have f0 : FrH (up3 (up3 σ 10 0 55 0) 10 0 53 0) σ := fun f k' j z => o0 _ _ _ (by omega)
  have hT : TpI n S D (up3 (up3 σ 10 0 55 0) 10 0 53 0) := ⟨HR_fr hI.2.2.2.1 (fun f j z => o0 _ _ _ (by omega)), SRl_H hI.2.2.1 f0, hD, fun j hj => hN j (by omega), by rw [up3_n _ (by omega), up3_s]⟩
  obtain ⟨σ', b, ⟨g1, g2⟩, g3⟩ := m_get (Or.inr rfl) (top_getO (x := x) hS hT hk hp)
  revert g2
  generalize awkF (lvW S 12).1 D k (-9) = res
  intro g2
  have g1 := FrH_tr g1 f0
  refine ⟨σ', b, g1, ?_, ?_, g3⟩
  · cases res with
    | inl y =>
      obtain ⟨w, m, D'⟩ := y
      exact RI_H hI g1 g2.2.1 g2.2.2.1 (fun _ => g2.2.2.2)
    | inr y =>
      obtain ⟨v, D'⟩ := y
      exact RI_H hI g1 g2.2.1 (by rw [g2.2.2.2, up3_s]; rfl) (fun z => absurd z (by show ¬ (1 ≤ 0); omega))
  · cases res with
    | inl y => exact g2.1
    | inr y => exact g2.1
theorem m9_findN {x v : Int} (hS : SOk S n) (hI : RI n L B S D q why σ) (hx : i32 x) (hT : ¬ isT n x) : Ct 6 mX10_find 1 [vR 10 0, vI x, vL v] NALL σ (some (vI (-1))) NALL σ 0 0 := by
  have hit := isTable_n (d := 4) (x := x) hI.2.2.1.1 hS.1 hx hT
  refine ct_of (by decide) (Nat.le_of_ble_eq_true rfl) (fun C h hr _ => ?_)
  have h : Ok C RX10 cX10_find 5 _ := h
  refine x_aload_n h dX10_find_0 rfl ?_
  refine x_iload_n h dX10_find_1 rfl ?_
  refine x_cV1 h kVX10_isTable lkX10_309 ⟨_, _, _, rfl, rfl⟩ dX10_find_2 (hit) lvz_10 rfl rfl (Nat.le_of_ble_eq_true rfl) (by omega) ?_
  refine x_if_ne_F (tgt := 10) h (by omega) dX10_find_5 (by decide) (by omega) ?_
  refine x_iconst h dX10_find_8 ?_
  exact x_ireturn h hr dX10_find_9 (Or.inl rfl) ⟨Nat.le_refl _, Nat.le_refl _⟩
theorem m9_find {v : Int} {k0 : Nat} (hS : SOk S n) (hD : DW S D) (hN : NU D) (hI : RI n L B S D q why σ) (hk0 : k0 < n) (hv : i64 v) (hP : Psi D + 1001 ≤ BD) : ∃ σ', FrH σ' σ ∧ RI n L B S (dF (findE S D k0 v)) (qF (findE S D k0 v)) (whyF (findE S D k0 v)) σ' ∧ Ct 6 mX10_find 1 [vR 10 0, vI k0, vL v] NALL σ (some (vI (valF (findE S D k0 v) (-10)))) NALL σ' 0 0 := by
  have h12 := hS.1
  have hit := isTable_y (d := 4) (x := (k0 : Int)) hI.2.2.1.1 h12 (by unfold i32; omega) ⟨by omega, by omega⟩
  obtain ⟨hv1, hv2⟩ := hv
  obtain ⟨σ1, b, g1, g2, g3, g4⟩ := get1O (x := 0) hS hD hN hI hk0 (by omega)
  have hwk : EI S X0 12 0 D (awkF (lvW S 12).1 D k0 (-9)) ∧ ∀ v D', awkF (lvW S 12).1 D k0 (-9) = .inr (v, D') → (D' 5 k0 8 = 1 ∨ D' 5 k0 8 = 2) := awk_i (lv_i hS 12).1 hD hk0 h12 ⟨by omega, by omega⟩
  obtain ⟨ei, hst⟩ := hwk
  unfold findE
  revert g2 g3 ei hst
  generalize awkF (lvW S 12).1 D k0 (-9) = res
  intro g2 g3 ei hst
  cases res with
  | inl y =>
    have g3 : b = 0 := g3
    subst g3
    refine ⟨σ1, g1, g2, ?_⟩
    show Ct 6 mX10_find 1 [vR 10 0, vI k0, vL v] NALL σ (some (vI (-10))) NALL σ1 0 0
    refine ct_of (by decide) (Nat.le_of_ble_eq_true rfl) (fun C h hr _ => ?_)
    have h : Ok C RX10 cX10_find 5 _ := h
    refine x_aload_n h dX10_find_0 rfl ?_
    refine x_iload_n h dX10_find_1 rfl ?_
    refine x_cV1 h kVX10_isTable lkX10_309 ⟨_, _, _, rfl, rfl⟩ dX10_find_2 (hit) lvz_10 rfl rfl (Nat.le_of_ble_eq_true rfl) (by omega) ?_
    refine x_if_ne_T (tgt := 10) h (by omega) dX10_find_5 (by decide) (by omega) ?_
    refine x_aload_n h dX10_find_10 rfl ?_
    refine x_iload_n h dX10_find_11 rfl ?_
    refine x_lconst0 h dX10_find_12 ?_
    refine x_iconst h dX10_find_13 ?_
    refine x_cV1 h kVX10_get lkX10_375 ⟨_, _, _, rfl, rfl⟩ dX10_find_14 (g4) lvz_10 rfl rfl (Nat.le_of_ble_eq_true rfl) (by omega) ?_
    refine x_if_ne_F (tgt := 23) h (by omega) dX10_find_17 (by decide) (by omega) ?_
    refine x_bipush h dX10_find_20 (by decide) ?_
    exact x_ireturn h hr dX10_find_22 (Or.inl rfl) ⟨Nat.le_refl _, Nat.le_refl _⟩
  | inr y =>
    obtain ⟨y0, D1⟩ := y
    have g3 : b = 1 := g3
    subst g3
    obtain ⟨i1, i2, i3, -⟩ := ei
    have h5 := hst y0 D1 rfl
    have g2 : RI n L B S D1 0 0 σ1 := g2
    have hsz := ((g2.2.2.2.1.1 k0 hk0).2 h5).1
    obtain ⟨z, hz⟩ : ∃ z : Nat, sSz S k0 = z := ⟨(sSz S k0).toNat, by omega⟩
    show ∃ σ', FrH σ' σ ∧ RI n L B S (dF (findR S k0 v (entsZ (sSz S k0)).toNat 0 D1)) (qF (findR S k0 v (entsZ (sSz S k0)).toNat 0 D1)) (whyF (findR S k0 v (entsZ (sSz S k0)).toNat 0 D1)) σ' ∧ Ct 6 mX10_find 1 [vR 10 0, vI k0, vL v] NALL σ (some (vI (valF (findR S k0 v (entsZ (sSz S k0)).toNat 0 D1) (-10)))) NALL σ' 0 0
    rw [show (entsZ (sSz S k0)).toNat = z by rw [ents_in hsz]; omega]
    have loop : ∀ (c p : Nat) (D2 σ2 : Mm), p + c = z → DW S D2 → NU D2 → Psi D2 + c ≤ BD → RI n L B S D2 0 0 σ2 → ∃ σ', FrH σ' σ2 ∧ RI n L B S (dF (findR S k0 v c p D2)) (qF (findR S k0 v c p D2)) (whyF (findR S k0 v c p D2)) σ' ∧ ∀ C : Cx, Ok C RX10 cX10_find 5 6 → Rt C 1 (some .int) (some (vI (valF (findR S k0 v c p D2) (-10)))) NALL σ' 0 0 → ∀ ls, lsub [(0, vR 10 0), (1, vI k0), (2, vL v), (4, vI p)] ls → X C 1 26 ls [] NALL σ2 0 0 := by
      intro c
      induction c with
      | zero =>
        intro p D2 σ2 hpc hD2 hN2 hP2 hI2
        have e67 := (hI2.2.2.1.2 k0 hk0).1.2.2.2.2
        refine ⟨σ2, FrH_refl σ2, hI2, fun C h hr ls hls => ?_⟩
        have hr : Rt C 1 (some .int) (some (vI (-9))) NALL σ2 0 0 := hr
        refine x_loc hls ?_
        refine x_iload h dX10_find_26 rfl ?_
        refine x_i2l h (by omega) dX10_find_28 ?_
        refine x_aload_n h dX10_find_29 rfl ?_
        refine x_get h fl_10_88 lvz_10 dX10_find_30 (pvf_567 _ _) ?_
        refine x_iload_n h dX10_find_33 rfl ?_
        refine x_lald h kdf_67 lvz_67 dX10_find_34 rfl (by omega) ?_
        rw [e67, hz]
        refine x_lc_ge (tgt := 72) h (by omega) dX10_find_35 dX10_find_36 (by decide) (fun _ => ?_) (fun q => absurd (by omega) q)
        refine x_bipush h dX10_find_72 (by decide) ?_
        exact x_ireturn h hr dX10_find_74 (Or.inl rfl) ⟨Nat.le_refl _, Nat.le_refl _⟩
      | succ c ih =>
        intro p D2 σ2 hpc hD2 hN2 hP2 hI2
        have e67 := (hI2.2.2.1.2 k0 hk0).1.2.2.2.2
        obtain ⟨σ3, bb, f1, f2, f3, f4⟩ := get1 hS hD2 hN2 hI2 (k := k0) (x := (p : Int)) hk0 ⟨by omega, by omega⟩ (by omega)
        have ei := ask_E hS hD2 (k := k0) (x := (p : Int)) hk0
        show ∃ σ', FrH σ' σ2 ∧ RI n L B S (dF (bindE (askTop S D2 k0 p) (fun x D' => if x = v then .inr (p, D') else findR S k0 v c (p + 1) D'))) (qF (bindE (askTop S D2 k0 p) (fun x D' => if x = v then .inr (p, D') else findR S k0 v c (p + 1) D'))) (whyF (bindE (askTop S D2 k0 p) (fun x D' => if x = v then .inr (p, D') else findR S k0 v c (p + 1) D'))) σ' ∧ ∀ C : Cx, Ok C RX10 cX10_find 5 6 → Rt C 1 (some .int) (some (vI (valF (bindE (askTop S D2 k0 p) (fun x D' => if x = v then .inr (p, D') else findR S k0 v c (p + 1) D')) (-10)))) NALL σ' 0 0 → ∀ ls, lsub [(0, vR 10 0), (1, vI k0), (2, vL v), (4, vI p)] ls → X C 1 26 ls [] NALL σ2 0 0
        revert f2 f3 ei
        generalize askTop S D2 k0 p = res
        intro f2 f3 ei
        cases res with
        | inl y =>
          have f3 : bb = 0 := f3
          subst f3
          refine ⟨σ3, f1, f2, fun C h hr ls hls => ?_⟩
          have hr : Rt C 1 (some .int) (some (vI (-10))) NALL σ3 0 0 := hr
          refine x_loc hls ?_
          refine x_iload h dX10_find_26 rfl ?_
          refine x_i2l h (by omega) dX10_find_28 ?_
          refine x_aload_n h dX10_find_29 rfl ?_
          refine x_get h fl_10_88 lvz_10 dX10_find_30 (pvf_567 _ _) ?_
          refine x_iload_n h dX10_find_33 rfl ?_
          refine x_lald h kdf_67 lvz_67 dX10_find_34 rfl (by omega) ?_
          rw [e67, hz]
          refine x_lc_ge (tgt := 72) h (by omega) dX10_find_35 dX10_find_36 (by decide) (fun q => absurd q (by omega)) (fun _ => ?_)
          refine x_aload_n h dX10_find_39 rfl ?_
          refine x_iload_n h dX10_find_40 rfl ?_
          refine x_iload h dX10_find_41 rfl ?_
          refine x_i2l h (by omega) dX10_find_43 ?_
          refine x_iconst h dX10_find_44 ?_
          refine x_cV1 h kVX10_get lkX10_375 ⟨_, _, _, rfl, rfl⟩ dX10_find_45 (f4) lvz_10 rfl rfl (Nat.le_of_ble_eq_true rfl) (by omega) ?_
          refine x_if_ne_F (tgt := 54) h (by omega) dX10_find_48 (by decide) (by omega) ?_
          refine x_bipush h dX10_find_51 (by decide) ?_
          exact x_ireturn h hr dX10_find_53 (Or.inl rfl) ⟨Nat.le_refl _, Nat.le_refl _⟩
        | inr y =>
          obtain ⟨x, D3⟩ := y
          obtain ⟨rfl, f5⟩ : bb = 1 ∧ σ3 10 0 63 = x := f3
          obtain ⟨j1, j2, j3, j4⟩ := ei
          obtain ⟨x1, x2⟩ := j4
          have f2 : RI n L B S D3 0 0 σ3 := f2
          by_cases hxv : x = v
          · have e : bindE (.inr (x, D3) : ER) (fun x D' => if x = v then .inr ((p : Int), D') else findR S k0 v c (p + 1) D') = .inr ((p : Int), D3) := by
              show (if x = v then (.inr ((p : Int), D3) : ER) else findR S k0 v c (p + 1) D3) = _
              rw [if_pos hxv]
            rw [e]
            refine ⟨σ3, f1, f2, fun C h hr ls hls => ?_⟩
            have hr : Rt C 1 (some .int) (some (vI p)) NALL σ3 0 0 := hr
            refine x_loc hls ?_
            refine x_iload h dX10_find_26 rfl ?_
            refine x_i2l h (by omega) dX10_find_28 ?_
            refine x_aload_n h dX10_find_29 rfl ?_
            refine x_get h fl_10_88 lvz_10 dX10_find_30 (pvf_567 _ _) ?_
            refine x_iload_n h dX10_find_33 rfl ?_
            refine x_lald h kdf_67 lvz_67 dX10_find_34 rfl (by omega) ?_
            rw [e67, hz]
            refine x_lc_ge (tgt := 72) h (by omega) dX10_find_35 dX10_find_36 (by decide) (fun q => absurd q (by omega)) (fun _ => ?_)
            refine x_aload_n h dX10_find_39 rfl ?_
            refine x_iload_n h dX10_find_40 rfl ?_
            refine x_iload h dX10_find_41 rfl ?_
            refine x_i2l h (by omega) dX10_find_43 ?_
            refine x_iconst h dX10_find_44 ?_
            refine x_cV1 h kVX10_get lkX10_375 ⟨_, _, _, rfl, rfl⟩ dX10_find_45 (f4) lvz_10 rfl rfl (Nat.le_of_ble_eq_true rfl) (by omega) ?_
            refine x_if_ne_T (tgt := 54) h (by omega) dX10_find_48 (by decide) (by omega) ?_
            refine x_aload_n h dX10_find_54 rfl ?_
            refine x_get (q := vL (x)) h fl_10_328 lvz_10 dX10_find_55 (congrArg vL (by first | exact f5 | simp [up3, f5])) ?_
            refine x_lload_n h dX10_find_58 rfl ?_
            refine x_lc_ne (tgt := 66) h (by omega) dX10_find_59 dX10_find_60 (by decide) (fun q => absurd q (by omega)) (fun _ => ?_)
            refine x_iload h dX10_find_63 rfl ?_
            exact x_ireturn h hr dX10_find_65 (Or.inl rfl) ⟨Nat.le_refl _, Nat.le_refl _⟩
          · have e : bindE (.inr (x, D3) : ER) (fun x D' => if x = v then .inr ((p : Int), D') else findR S k0 v c (p + 1) D') = findR S k0 v c (p + 1) D3 := by
              show (if x = v then (.inr ((p : Int), D3) : ER) else findR S k0 v c (p + 1) D3) = _
              rw [if_neg hxv]
            rw [e]
            have e1 : (p : Int) + 1 = ((p + 1 : Nat) : Int) := by omega
            obtain ⟨σ', k1, k2, k3⟩ := ih (p + 1) D3 σ3 (by omega) j1 (NU_up hN2 j3) (by omega) f2
            refine ⟨σ', FrH_tr k1 f1, k2, fun C h hr ls hls => ?_⟩
            have goal := k3 C h hr
            rw [← e1] at goal
            refine x_loc hls ?_
            refine x_iload h dX10_find_26 rfl ?_
            refine x_i2l h (by omega) dX10_find_28 ?_
            refine x_aload_n h dX10_find_29 rfl ?_
            refine x_get h fl_10_88 lvz_10 dX10_find_30 (pvf_567 _ _) ?_
            refine x_iload_n h dX10_find_33 rfl ?_
            refine x_lald h kdf_67 lvz_67 dX10_find_34 rfl (by omega) ?_
            rw [e67, hz]
            refine x_lc_ge (tgt := 72) h (by omega) dX10_find_35 dX10_find_36 (by decide) (fun q => absurd q (by omega)) (fun _ => ?_)
            refine x_aload_n h dX10_find_39 rfl ?_
            refine x_iload_n h dX10_find_40 rfl ?_
            refine x_iload h dX10_find_41 rfl ?_
            refine x_i2l h (by omega) dX10_find_43 ?_
            refine x_iconst h dX10_find_44 ?_
            refine x_cV1 h kVX10_get lkX10_375 ⟨_, _, _, rfl, rfl⟩ dX10_find_45 (f4) lvz_10 rfl rfl (Nat.le_of_ble_eq_true rfl) (by omega) ?_
            refine x_if_ne_T (tgt := 54) h (by omega) dX10_find_48 (by decide) (by omega) ?_
            refine x_aload_n h dX10_find_54 rfl ?_
            refine x_get (q := vL (x)) h fl_10_328 lvz_10 dX10_find_55 (congrArg vL (by first | exact f5 | simp [up3, f5])) ?_
            refine x_lload_n h dX10_find_58 rfl ?_
            refine x_lc_ne (tgt := 66) h (by omega) dX10_find_59 dX10_find_60 (by decide) (fun _ => ?_) (fun q => absurd (by omega) q)
            refine x_iinc h dX10_find_66 rfl (by decide) ?_
            refine x_goto (tgt := 26) h dX10_find_69 (by decide) ?_
            exact goal _ ⟨rfl, rfl, rfl, rfl, trivial⟩
    obtain ⟨σ', k1, k2, k3⟩ := loop z 0 D1 σ1 (by omega) i1 (NU_up hN i3) (by omega) g2
    refine ⟨σ', FrH_tr k1 g1, k2, ?_⟩
    refine ct_of (by decide) (Nat.le_of_ble_eq_true rfl) (fun C h hr _ => ?_)
    have h : Ok C RX10 cX10_find 5 _ := h
    refine x_aload_n h dX10_find_0 rfl ?_
    refine x_iload_n h dX10_find_1 rfl ?_
    refine x_cV1 h kVX10_isTable lkX10_309 ⟨_, _, _, rfl, rfl⟩ dX10_find_2 (hit) lvz_10 rfl rfl (Nat.le_of_ble_eq_true rfl) (by omega) ?_
    refine x_if_ne_T (tgt := 10) h (by omega) dX10_find_5 (by decide) (by omega) ?_
    refine x_aload_n h dX10_find_10 rfl ?_
    refine x_iload_n h dX10_find_11 rfl ?_
    refine x_lconst0 h dX10_find_12 ?_
    refine x_iconst h dX10_find_13 ?_
    refine x_cV1 h kVX10_get lkX10_375 ⟨_, _, _, rfl, rfl⟩ dX10_find_14 (g4) lvz_10 rfl rfl (Nat.le_of_ble_eq_true rfl) (by omega) ?_
    refine x_if_ne_T (tgt := 23) h (by omega) dX10_find_17 (by decide) (by omega) ?_
    refine x_iconst h dX10_find_23 ?_
    refine x_istore h dX10_find_24 (by decide) ?_
    exact k3 C h hr _ ⟨rfl, rfl, rfl, rfl, trivial⟩
end M2
