/-! MANNER, END, a whole TABLE -/
theorem tB_up {σ : Mm} {f k j : Nat} {x : Int} (L : Nat) (h : f ≠ 11) : tB (up3 σ f k j x) 11 L = tB σ 11 L := by
  funext q
  unfold tB
  rw [up3_f _ _ (Ne.symm h)]
theorem tapeL_up {σ : Mm} {f k j L : Nat} {x : Int} (h : TapeL σ L) (hf : f ≠ 1) : TapeL (up3 σ f k j x) L := ⟨by rw [up3_f _ _ (Ne.symm hf)]; exact h.1, h.2⟩
theorem failOk_up {σ : Mm} {L m i u : Nat} {ss : List Zs} {x : Int} : FailOk σ m (up3 (psS σ L m i u ss) 2 0 3 x) x := failOk_ps σ L m i u ss x
theorem c_manner {σ : Mm} {L m i u : Nat} {ss : List Zs} (hL : TapeL σ L) (hB : BOk (tB σ 11 L) L) (hm : m < 24) (hi : tq (tB σ 11 L) i ≤ L) : ∃ (r : Int) (σ' : Mm), Ct 4 mX5_takeManner 1 [vR 2 0, vR 5 m] NALL (psS σ L m i u ss) (some (vI r)) NALL σ' 0 0 ∧
    ((tK (tB σ 11 L) i = 6 ∨ tK (tB σ 11 L) i = 5) ∧ r = 1 ∧ σ' = psS (up3 σ 5 m 5 (if tK (tB σ 11 L) i = 6 then 1 else 0)) L m (i + 1) u ss ∧ tq (tB σ 11 L) (i + 1) ≤ L ∨ ¬ (tK (tB σ 11 L) i = 6 ∨ tK (tB σ 11 L) i = 5) ∧ r = 0 ∧ σ' = up3 (psS (up3 σ 5 m 5 0) L m i u ss) 2 0 3 (tQ (tB σ 11 L) i)) := by
  have hkr := tkK_r hB (tq (tB σ 11 L) i)
  have hke : tK (tB σ 11 L) i = tkK (tB σ 11 L) (tq (tB σ 11 L) i) := rfl
  have ek := psS_kind σ L m i u ss
  have up : ∀ x : Int, up3 (psS σ L m i u ss) 5 m 5 x = psS (up3 σ 5 m 5 x) L m i u ss := fun x => psS_up (by decide) (by decide) (by omega) (by omega)
  have hL' : ∀ x : Int, TapeL (up3 σ 5 m 5 x) L := fun x => tapeL_up hL (by decide)
  have r5 : ∀ x : Int, psS (up3 σ 5 m 5 x) L m i u ss 5 m 5 = x := fun x => by unfold psS; rw [psT_f _ _ _ _ _ _ _ _ (by decide) (by omega) (by omega), up3_s]
  by_cases h6 : tK (tB σ 11 L) i = 6
  · have hn := tq_next hB hi (by omega)
    refine ⟨1, _, ?_, Or.inl ⟨Or.inl h6, rfl, rfl, hn.2.1⟩⟩
    rw [if_pos h6]
    have hx := c_pexpT (d := 0) (u := u) (ss := ss) (m := m) (hL' 1) hB hi h6 (by omega)
    have r1 := r5 1
    refine ct_of (by decide) (Nat.le_of_ble_eq_true rfl) (fun C h hr _ => ?_)
    have h : Ok C RX5 cX5_takeManner 2 _ := h
    refine x_aload_n h dX5_takeManner_0 rfl ?_
    refine x_aload_n h dX5_takeManner_1 rfl ?_
    refine x_get h fl_5_14 lvz_2 dX5_takeManner_2 (pvf_503 _ _) ?_
    refine x_get (q := vI (tK (tB σ 11 L) i)) h fl_5_50 lvz_3 dX5_takeManner_5 (congrArg vI (by first | exact ek | simp [up3, ek])) ?_
    refine x_bipush h dX5_takeManner_8 (by decide) ?_
    refine x_ic_ne_F (tgt := 17) h (by omega) dX5_takeManner_10 (by decide) (by omega) ?_
    refine x_iconst h dX5_takeManner_13 ?_
    refine x_goto (tgt := 18) h dX5_takeManner_14 (by decide) ?_
    refine x_put h fl_5_118 (lvm_5 (by omega)) dX5_takeManner_18 rfl (fun _ => by omega) ?_
    rw [up]
    refine x_aload_n h dX5_takeManner_21 rfl ?_
    refine x_get (q := vI (1)) h fl_5_118 (lvm_5 (by omega)) dX5_takeManner_22 (congrArg vI (by first | exact r1 | simp [up3, r1])) ?_
    refine x_if_eq_F (tgt := 37) h (by omega) dX5_takeManner_25 (by decide) (by omega) ?_
    refine x_aload_n h dX5_takeManner_28 rfl ?_
    refine x_bipush h dX5_takeManner_29 (by decide) ?_
    refine x_cV1 h kVX5_expect lkX5_67 ⟨_, _, _, rfl, rfl⟩ dX5_takeManner_31 (hx) lvz_2 rfl rfl (Nat.le_of_ble_eq_true rfl) (by omega) ?_
    refine x_goto (tgt := 42) h dX5_takeManner_34 (by decide) ?_
    exact x_ireturn h hr dX5_takeManner_42 (Or.inr ⟨rfl, by omega⟩) ⟨Nat.le_refl _, Nat.le_refl _⟩
  · have r0 := r5 0
    by_cases h5 : tK (tB σ 11 L) i = 5
    · have hn := tq_next hB hi (by omega)
      refine ⟨1, _, ?_, Or.inl ⟨Or.inr h5, rfl, rfl, hn.2.1⟩⟩
      rw [if_neg h6]
      have hx := c_pexpT (d := 0) (u := u) (ss := ss) (m := m) (hL' 0) hB hi h5 (by omega)
      refine ct_of (by decide) (Nat.le_of_ble_eq_true rfl) (fun C h hr _ => ?_)
      have h : Ok C RX5 cX5_takeManner 2 _ := h
      refine x_aload_n h dX5_takeManner_0 rfl ?_
      refine x_aload_n h dX5_takeManner_1 rfl ?_
      refine x_get h fl_5_14 lvz_2 dX5_takeManner_2 (pvf_503 _ _) ?_
      refine x_get (q := vI (tK (tB σ 11 L) i)) h fl_5_50 lvz_3 dX5_takeManner_5 (congrArg vI (by first | exact ek | simp [up3, ek])) ?_
      refine x_bipush h dX5_takeManner_8 (by decide) ?_
      refine x_ic_ne_T (tgt := 17) h (by omega) dX5_takeManner_10 (by decide) (by omega) ?_
      refine x_iconst h dX5_takeManner_17 ?_
      refine x_put h fl_5_118 (lvm_5 (by omega)) dX5_takeManner_18 rfl (fun _ => by omega) ?_
      rw [up]
      refine x_aload_n h dX5_takeManner_21 rfl ?_
      refine x_get (q := vI (0)) h fl_5_118 (lvm_5 (by omega)) dX5_takeManner_22 (congrArg vI (by first | exact r0 | simp [up3, r0])) ?_
      refine x_if_eq_T (tgt := 37) h (by omega) dX5_takeManner_25 (by decide) (by omega) ?_
      refine x_aload_n h dX5_takeManner_37 rfl ?_
      refine x_iconst h dX5_takeManner_38 ?_
      refine x_cV1 h kVX5_expect lkX5_67 ⟨_, _, _, rfl, rfl⟩ dX5_takeManner_39 (hx) lvz_2 rfl rfl (Nat.le_of_ble_eq_true rfl) (by omega) ?_
      exact x_ireturn h hr dX5_takeManner_42 (Or.inr ⟨rfl, by omega⟩) ⟨Nat.le_refl _, Nat.le_refl _⟩
    · refine ⟨0, _, ?_, Or.inr ⟨by omega, rfl, rfl⟩⟩
      have hx := c_pexpF (d := 0) (σ := up3 σ 5 m 5 0) (L := L) (m := m) (i := i) (u := u) (ss := ss) hB h5 (by omega)
      refine ct_of (by decide) (Nat.le_of_ble_eq_true rfl) (fun C h hr _ => ?_)
      have h : Ok C RX5 cX5_takeManner 2 _ := h
      refine x_aload_n h dX5_takeManner_0 rfl ?_
      refine x_aload_n h dX5_takeManner_1 rfl ?_
      refine x_get h fl_5_14 lvz_2 dX5_takeManner_2 (pvf_503 _ _) ?_
      refine x_get (q := vI (tK (tB σ 11 L) i)) h fl_5_50 lvz_3 dX5_takeManner_5 (congrArg vI (by first | exact ek | simp [up3, ek])) ?_
      refine x_bipush h dX5_takeManner_8 (by decide) ?_
      refine x_ic_ne_T (tgt := 17) h (by omega) dX5_takeManner_10 (by decide) (by omega) ?_
      refine x_iconst h dX5_takeManner_17 ?_
      refine x_put h fl_5_118 (lvm_5 (by omega)) dX5_takeManner_18 rfl (fun _ => by omega) ?_
      rw [up]
      refine x_aload_n h dX5_takeManner_21 rfl ?_
      refine x_get (q := vI (0)) h fl_5_118 (lvm_5 (by omega)) dX5_takeManner_22 (congrArg vI (by first | exact r0 | simp [up3, r0])) ?_
      refine x_if_eq_T (tgt := 37) h (by omega) dX5_takeManner_25 (by decide) (by omega) ?_
      refine x_aload_n h dX5_takeManner_37 rfl ?_
      refine x_iconst h dX5_takeManner_38 ?_
      refine x_cV1 h kVX5_expect lkX5_67 ⟨_, _, _, rfl, rfl⟩ dX5_takeManner_39 (hx) lvz_2 rfl rfl (Nat.le_of_ble_eq_true rfl) (by omega) ?_
      exact x_ireturn h hr dX5_takeManner_42 (Or.inr ⟨rfl, by omega⟩) ⟨Nat.le_refl _, Nat.le_refl _⟩
/-- what a TABLE's end leaves -/
def endS (σ : Mm) (m : Nat) (ip pr : Int) : Mm := if ip = 1 then up3 (up3 σ 5 m 6 1) 5 m 7 pr else up3 σ 5 m 6 0
def FrM (m : Nat) (τ σ : Mm) : Prop := ∀ f k j, ¬ (f = 3 ∨ f = 2 ∨ (k = m ∧ ((f = 5 ∧ j ≠ 8) ∨ f = 6 ∨ f = 13 ∨ f = 14 ∨ f = 15))) → τ f k j = σ f k j
theorem c_end {σ : Mm} {L m i u : Nat} {ss : List Zs} (hL : TapeL σ L) (hB : BOk (tB σ 11 L) L) (hm : m < 24) (hi : tq (tB σ 11 L) i ≤ L) : ∃ (r : Int) (σ' : Mm), Ct 4 mX5_takeEnd 1 [vR 2 0, vR 5 m] NALL (psS σ L m i u ss) (some (vI r)) NALL σ' 0 0 ∧
    (match endF (tK (tB σ 11 L)) (tV (tB σ 11 L)) i with
      | .inl e => r = 0 ∧ FailZ σ m σ' (tQ (tB σ 11 L) e)
      | .inr (i', ip, pr) => r = 1 ∧ σ' = psS (endS σ m ip pr) L m i' u ss ∧ tq (tB σ 11 L) i' ≤ L) := by
  have hkr : ∀ i, 0 ≤ tK (tB σ 11 L) i ∧ tK (tB σ 11 L) i ≤ 255 := fun i => tkK_r hB (tq (tB σ 11 L) i)
  have hki := hkr i
  have ek := psS_kind σ L m i u ss
  have up : ∀ (σ : Mm) (i : Nat) (j : Nat) (x : Int), up3 (psS σ L m i u ss) 5 m j x = psS (up3 σ 5 m j x) L m i u ss := fun σ i j x => psS_up (by decide) (by decide) (by omega) (by omega)
  have r6 : ∀ (i : Nat) (x : Int), psS (up3 σ 5 m 6 x) L m i u ss 5 m 6 = x := fun i x => by unfold psS; rw [psT_f _ _ _ _ _ _ _ _ (by decide) (by omega) (by omega), up3_s]
  have hL6 : TapeL (up3 σ 5 m 6 1) L := tapeL_up hL (by decide)
  have fr0 : ∀ x : Int, FrM m (up3 σ 5 m 6 x) σ := fun x f k j h => by unfold up3; rw [if_neg (by omega)]
  have fr1 : ∀ x y : Int, FrM m (up3 (up3 σ 5 m 6 x) 5 m 7 y) σ := fun x y f k j h => by unfold up3; rw [if_neg (by omega), if_neg (by omega)]
  unfold endF
  by_cases h7 : tK (tB σ 11 L) i = 7
  · rw [if_pos h7]
    have hn := tq_next hB hi (by omega)
    have r61 := r6 i 1
    have hk1 := hkr (i + 1)
    have ek1 := psS_kind (up3 σ 5 m 6 1) L m (i + 1) u ss
    have ek1 : psS (up3 σ 5 m 6 1) L m (i + 1) u ss 3 0 2 = tK (tB σ 11 L) (i + 1) := ek1
    have adv0 := c_padv (d := 0) (m := m) (u := u) (ss := ss) hL6 hB hi (show tK (tB σ 11 L) i ≠ 0 by omega)
    by_cases h45 : tK (tB σ 11 L) (i + 1) = 45
    · rw [if_pos h45]
      have hn1 := tq_next hB hn.2.1 (by omega)
      have adv1 := c_padv (d := 0) (m := m) (u := u) (ss := ss) hL6 hB hn.2.1 (show tK (tB σ 11 L) (i + 1) ≠ 0 by omega)
      have ev2 : psS (up3 σ 5 m 6 1) L m (i + 2) u ss 3 0 4 = tV (tB σ 11 L) (i + 2) := psS_value (up3 σ 5 m 6 1) L m (i + 2) u ss
      have hL7 : TapeL (up3 (up3 σ 5 m 6 1) 5 m 7 (-tV (tB σ 11 L) (i + 2))) L := tapeL_up hL6 (by decide)
      by_cases h1 : tK (tB σ 11 L) (i + 2) = 1
      · rw [if_pos h1]
        have hn2 := tq_next (i := i + 2) hB hn1.2.1 (by omega)
        have ex2 := c_pexpT (d := 0) (m := m) (u := u) (ss := ss) (i := i + 2) hL7 hB hn1.2.1 h1 (by omega)
        by_cases h59 : tK (tB σ 11 L) (i + 3) = 59
        · rw [if_pos h59]
          have hn3 := tq_next (i := i + 3) hB hn2.2.1 (by omega)
          have ex3 := c_pexpT (d := 0) (m := m) (u := u) (ss := ss) (i := i + 3) hL7 hB hn2.2.1 h59 (by omega)
          refine ⟨1, _, ?_, rfl, rfl, hn3.2.1⟩
          unfold endS
          rw [if_pos rfl]
          refine ct_of (by decide) (Nat.le_of_ble_eq_true rfl) (fun C h hr _ => ?_)
          have h : Ok C RX5 cX5_takeEnd 3 _ := h
          refine x_aload_n h dX5_takeEnd_0 rfl ?_
          refine x_aload_n h dX5_takeEnd_1 rfl ?_
          refine x_get h fl_5_14 lvz_2 dX5_takeEnd_2 (pvf_503 _ _) ?_
          refine x_get (q := vI (tK (tB σ 11 L) i)) h fl_5_50 lvz_3 dX5_takeEnd_5 (congrArg vI (by first | exact ek | simp [up3, ek])) ?_
          refine x_bipush h dX5_takeEnd_8 (by decide) ?_
          refine x_ic_ne_F (tgt := 17) h (by omega) dX5_takeEnd_10 (by decide) (by omega) ?_
          refine x_iconst h dX5_takeEnd_13 ?_
          refine x_goto (tgt := 18) h dX5_takeEnd_14 (by decide) ?_
          refine x_put h fl_5_122 (lvm_5 (by omega)) dX5_takeEnd_18 rfl (fun _ => by omega) ?_
          rw [up]
          refine x_aload_n h dX5_takeEnd_21 rfl ?_
          refine x_get (q := vI (1)) h fl_5_122 (lvm_5 (by omega)) dX5_takeEnd_22 (congrArg vI (by first | exact r61 | simp [up3, r61])) ?_
          refine x_if_eq_F (tgt := 100) h (by omega) dX5_takeEnd_25 (by decide) (by omega) ?_
          refine x_aload_n h dX5_takeEnd_28 rfl ?_
          refine x_get h fl_5_14 lvz_2 dX5_takeEnd_29 (pvf_503 _ _) ?_
          refine x_cV0 h kVX6_advance lkX5_64 ⟨_, _, _, rfl, rfl⟩ dX5_takeEnd_32 (adv0) lvz_3 rfl rfl (Nat.le_of_ble_eq_true rfl) (by omega) ?_
          refine x_aload_n h dX5_takeEnd_35 rfl ?_
          refine x_get h fl_5_14 lvz_2 dX5_takeEnd_36 (pvf_503 _ _) ?_
          refine x_get (q := vI (tK (tB σ 11 L) (i + 1))) h fl_5_50 lvz_3 dX5_takeEnd_39 (congrArg vI (by first | exact ek1 | simp [up3, ek1])) ?_
          refine x_bipush h dX5_takeEnd_42 (by decide) ?_
          refine x_ic_ne_F (tgt := 51) h (by omega) dX5_takeEnd_44 (by decide) (by omega) ?_
          refine x_iconst h dX5_takeEnd_47 ?_
          refine x_goto (tgt := 52) h dX5_takeEnd_48 (by decide) ?_
          refine x_istore_n h dX5_takeEnd_52 (by decide) ?_
          refine x_iload_n h dX5_takeEnd_53 rfl ?_
          refine x_if_eq_F (tgt := 64) h (by omega) dX5_takeEnd_54 (by decide) (by omega) ?_
          refine x_aload_n h dX5_takeEnd_57 rfl ?_
          refine x_get h fl_5_14 lvz_2 dX5_takeEnd_58 (pvf_503 _ _) ?_
          refine x_cV0 h kVX6_advance lkX5_64 ⟨_, _, _, rfl, rfl⟩ dX5_takeEnd_61 (adv1) lvz_3 rfl rfl (Nat.le_of_ble_eq_true rfl) (by omega) ?_
          refine x_aload_n h dX5_takeEnd_64 rfl ?_
          refine x_iload_n h dX5_takeEnd_65 rfl ?_
          refine x_if_eq_F (tgt := 80) h (by omega) dX5_takeEnd_66 (by decide) (by omega) ?_
          refine x_aload_n h dX5_takeEnd_69 rfl ?_
          refine x_get h fl_5_14 lvz_2 dX5_takeEnd_70 (pvf_503 _ _) ?_
          refine x_get (q := vL (tV (tB σ 11 L) (i + 2))) h fl_5_71 lvz_3 dX5_takeEnd_73 (congrArg vL (by first | exact ev2 | simp [up3, ev2])) ?_
          refine x_lneg h dX5_takeEnd_76 ?_
          refine x_goto (tgt := 87) h dX5_takeEnd_77 (by decide) ?_
          refine x_put h fl_5_125 (lvm_5 (by omega)) dX5_takeEnd_87 rfl (fun z => absurd z (by decide)) ?_
          rw [up]
          refine x_aload_n h dX5_takeEnd_90 rfl ?_
          refine x_iconst h dX5_takeEnd_91 ?_
          refine x_cV1 h kVX5_expect lkX5_67 ⟨_, _, _, rfl, rfl⟩ dX5_takeEnd_92 (ex2) lvz_2 rfl rfl (Nat.le_of_ble_eq_true rfl) (by omega) ?_
          refine x_if_ne_T (tgt := 100) h (by omega) dX5_takeEnd_95 (by decide) (by omega) ?_
          refine x_aload_n h dX5_takeEnd_100 rfl ?_
          refine x_bipush h dX5_takeEnd_101 (by decide) ?_
          refine x_cV1 h kVX5_expect lkX5_67 ⟨_, _, _, rfl, rfl⟩ dX5_takeEnd_103 (ex3) lvz_2 rfl rfl (Nat.le_of_ble_eq_true rfl) (by omega) ?_
          exact x_ireturn h hr dX5_takeEnd_106 (Or.inr ⟨rfl, by omega⟩) ⟨Nat.le_refl _, Nat.le_refl _⟩
        · rw [if_neg h59]
          refine ⟨0, _, ?_, rfl, failZ_ps (τ := up3 (up3 σ 5 m 6 1) 5 m 7 (-tV (tB σ 11 L) (i + 2))) (L := L) (i := i + 3) (u := u) (ss := ss) (fr1 _ _)⟩
          have ex3 := c_pexpF (d := 0) (σ := up3 (up3 σ 5 m 6 1) 5 m 7 (-tV (tB σ 11 L) (i + 2))) (L := L) (m := m) (u := u) (ss := ss) (i := i + 3) hB h59 (by omega)
          refine ct_of (by decide) (Nat.le_of_ble_eq_true rfl) (fun C h hr _ => ?_)
          have h : Ok C RX5 cX5_takeEnd 3 _ := h
          refine x_aload_n h dX5_takeEnd_0 rfl ?_
          refine x_aload_n h dX5_takeEnd_1 rfl ?_
          refine x_get h fl_5_14 lvz_2 dX5_takeEnd_2 (pvf_503 _ _) ?_
          refine x_get (q := vI (tK (tB σ 11 L) i)) h fl_5_50 lvz_3 dX5_takeEnd_5 (congrArg vI (by first | exact ek | simp [up3, ek])) ?_
          refine x_bipush h dX5_takeEnd_8 (by decide) ?_
          refine x_ic_ne_F (tgt := 17) h (by omega) dX5_takeEnd_10 (by decide) (by omega) ?_
          refine x_iconst h dX5_takeEnd_13 ?_
          refine x_goto (tgt := 18) h dX5_takeEnd_14 (by decide) ?_
          refine x_put h fl_5_122 (lvm_5 (by omega)) dX5_takeEnd_18 rfl (fun _ => by omega) ?_
          rw [up]
          refine x_aload_n h dX5_takeEnd_21 rfl ?_
          refine x_get (q := vI (1)) h fl_5_122 (lvm_5 (by omega)) dX5_takeEnd_22 (congrArg vI (by first | exact r61 | simp [up3, r61])) ?_
          refine x_if_eq_F (tgt := 100) h (by omega) dX5_takeEnd_25 (by decide) (by omega) ?_
          refine x_aload_n h dX5_takeEnd_28 rfl ?_
          refine x_get h fl_5_14 lvz_2 dX5_takeEnd_29 (pvf_503 _ _) ?_
          refine x_cV0 h kVX6_advance lkX5_64 ⟨_, _, _, rfl, rfl⟩ dX5_takeEnd_32 (adv0) lvz_3 rfl rfl (Nat.le_of_ble_eq_true rfl) (by omega) ?_
          refine x_aload_n h dX5_takeEnd_35 rfl ?_
          refine x_get h fl_5_14 lvz_2 dX5_takeEnd_36 (pvf_503 _ _) ?_
          refine x_get (q := vI (tK (tB σ 11 L) (i + 1))) h fl_5_50 lvz_3 dX5_takeEnd_39 (congrArg vI (by first | exact ek1 | simp [up3, ek1])) ?_
          refine x_bipush h dX5_takeEnd_42 (by decide) ?_
          refine x_ic_ne_F (tgt := 51) h (by omega) dX5_takeEnd_44 (by decide) (by omega) ?_
          refine x_iconst h dX5_takeEnd_47 ?_
          refine x_goto (tgt := 52) h dX5_takeEnd_48 (by decide) ?_
          refine x_istore_n h dX5_takeEnd_52 (by decide) ?_
          refine x_iload_n h dX5_takeEnd_53 rfl ?_
          refine x_if_eq_F (tgt := 64) h (by omega) dX5_takeEnd_54 (by decide) (by omega) ?_
          refine x_aload_n h dX5_takeEnd_57 rfl ?_
          refine x_get h fl_5_14 lvz_2 dX5_takeEnd_58 (pvf_503 _ _) ?_
          refine x_cV0 h kVX6_advance lkX5_64 ⟨_, _, _, rfl, rfl⟩ dX5_takeEnd_61 (adv1) lvz_3 rfl rfl (Nat.le_of_ble_eq_true rfl) (by omega) ?_
          refine x_aload_n h dX5_takeEnd_64 rfl ?_
          refine x_iload_n h dX5_takeEnd_65 rfl ?_
          refine x_if_eq_F (tgt := 80) h (by omega) dX5_takeEnd_66 (by decide) (by omega) ?_
          refine x_aload_n h dX5_takeEnd_69 rfl ?_
          refine x_get h fl_5_14 lvz_2 dX5_takeEnd_70 (pvf_503 _ _) ?_
          refine x_get (q := vL (tV (tB σ 11 L) (i + 2))) h fl_5_71 lvz_3 dX5_takeEnd_73 (congrArg vL (by first | exact ev2 | simp [up3, ev2])) ?_
          refine x_lneg h dX5_takeEnd_76 ?_
          refine x_goto (tgt := 87) h dX5_takeEnd_77 (by decide) ?_
          refine x_put h fl_5_125 (lvm_5 (by omega)) dX5_takeEnd_87 rfl (fun z => absurd z (by decide)) ?_
          rw [up]
          refine x_aload_n h dX5_takeEnd_90 rfl ?_
          refine x_iconst h dX5_takeEnd_91 ?_
          refine x_cV1 h kVX5_expect lkX5_67 ⟨_, _, _, rfl, rfl⟩ dX5_takeEnd_92 (ex2) lvz_2 rfl rfl (Nat.le_of_ble_eq_true rfl) (by omega) ?_
          refine x_if_ne_T (tgt := 100) h (by omega) dX5_takeEnd_95 (by decide) (by omega) ?_
          refine x_aload_n h dX5_takeEnd_100 rfl ?_
          refine x_bipush h dX5_takeEnd_101 (by decide) ?_
          refine x_cV1 h kVX5_expect lkX5_67 ⟨_, _, _, rfl, rfl⟩ dX5_takeEnd_103 (ex3) lvz_2 rfl rfl (Nat.le_of_ble_eq_true rfl) (by omega) ?_
          exact x_ireturn h hr dX5_takeEnd_106 (Or.inr ⟨rfl, by omega⟩) ⟨Nat.le_refl _, Nat.le_refl _⟩
      · rw [if_neg h1]
        refine ⟨0, _, ?_, rfl, failZ_ps (τ := up3 (up3 σ 5 m 6 1) 5 m 7 (-tV (tB σ 11 L) (i + 2))) (L := L) (i := i + 2) (u := u) (ss := ss) (fr1 _ _)⟩
        have ex2 := c_pexpF (d := 0) (σ := up3 (up3 σ 5 m 6 1) 5 m 7 (-tV (tB σ 11 L) (i + 2))) (L := L) (m := m) (u := u) (ss := ss) (i := i + 2) hB h1 (by omega)
        refine ct_of (by decide) (Nat.le_of_ble_eq_true rfl) (fun C h hr _ => ?_)
        have h : Ok C RX5 cX5_takeEnd 3 _ := h
        refine x_aload_n h dX5_takeEnd_0 rfl ?_
        refine x_aload_n h dX5_takeEnd_1 rfl ?_
        refine x_get h fl_5_14 lvz_2 dX5_takeEnd_2 (pvf_503 _ _) ?_
        refine x_get (q := vI (tK (tB σ 11 L) i)) h fl_5_50 lvz_3 dX5_takeEnd_5 (congrArg vI (by first | exact ek | simp [up3, ek])) ?_
        refine x_bipush h dX5_takeEnd_8 (by decide) ?_
        refine x_ic_ne_F (tgt := 17) h (by omega) dX5_takeEnd_10 (by decide) (by omega) ?_
        refine x_iconst h dX5_takeEnd_13 ?_
        refine x_goto (tgt := 18) h dX5_takeEnd_14 (by decide) ?_
        refine x_put h fl_5_122 (lvm_5 (by omega)) dX5_takeEnd_18 rfl (fun _ => by omega) ?_
        rw [up]
        refine x_aload_n h dX5_takeEnd_21 rfl ?_
        refine x_get (q := vI (1)) h fl_5_122 (lvm_5 (by omega)) dX5_takeEnd_22 (congrArg vI (by first | exact r61 | simp [up3, r61])) ?_
        refine x_if_eq_F (tgt := 100) h (by omega) dX5_takeEnd_25 (by decide) (by omega) ?_
        refine x_aload_n h dX5_takeEnd_28 rfl ?_
        refine x_get h fl_5_14 lvz_2 dX5_takeEnd_29 (pvf_503 _ _) ?_
        refine x_cV0 h kVX6_advance lkX5_64 ⟨_, _, _, rfl, rfl⟩ dX5_takeEnd_32 (adv0) lvz_3 rfl rfl (Nat.le_of_ble_eq_true rfl) (by omega) ?_
        refine x_aload_n h dX5_takeEnd_35 rfl ?_
        refine x_get h fl_5_14 lvz_2 dX5_takeEnd_36 (pvf_503 _ _) ?_
        refine x_get (q := vI (tK (tB σ 11 L) (i + 1))) h fl_5_50 lvz_3 dX5_takeEnd_39 (congrArg vI (by first | exact ek1 | simp [up3, ek1])) ?_
        refine x_bipush h dX5_takeEnd_42 (by decide) ?_
        refine x_ic_ne_F (tgt := 51) h (by omega) dX5_takeEnd_44 (by decide) (by omega) ?_
        refine x_iconst h dX5_takeEnd_47 ?_
        refine x_goto (tgt := 52) h dX5_takeEnd_48 (by decide) ?_
        refine x_istore_n h dX5_takeEnd_52 (by decide) ?_
        refine x_iload_n h dX5_takeEnd_53 rfl ?_
        refine x_if_eq_F (tgt := 64) h (by omega) dX5_takeEnd_54 (by decide) (by omega) ?_
        refine x_aload_n h dX5_takeEnd_57 rfl ?_
        refine x_get h fl_5_14 lvz_2 dX5_takeEnd_58 (pvf_503 _ _) ?_
        refine x_cV0 h kVX6_advance lkX5_64 ⟨_, _, _, rfl, rfl⟩ dX5_takeEnd_61 (adv1) lvz_3 rfl rfl (Nat.le_of_ble_eq_true rfl) (by omega) ?_
        refine x_aload_n h dX5_takeEnd_64 rfl ?_
        refine x_iload_n h dX5_takeEnd_65 rfl ?_
        refine x_if_eq_F (tgt := 80) h (by omega) dX5_takeEnd_66 (by decide) (by omega) ?_
        refine x_aload_n h dX5_takeEnd_69 rfl ?_
        refine x_get h fl_5_14 lvz_2 dX5_takeEnd_70 (pvf_503 _ _) ?_
        refine x_get (q := vL (tV (tB σ 11 L) (i + 2))) h fl_5_71 lvz_3 dX5_takeEnd_73 (congrArg vL (by first | exact ev2 | simp [up3, ev2])) ?_
        refine x_lneg h dX5_takeEnd_76 ?_
        refine x_goto (tgt := 87) h dX5_takeEnd_77 (by decide) ?_
        refine x_put h fl_5_125 (lvm_5 (by omega)) dX5_takeEnd_87 rfl (fun z => absurd z (by decide)) ?_
        rw [up]
        refine x_aload_n h dX5_takeEnd_90 rfl ?_
        refine x_iconst h dX5_takeEnd_91 ?_
        refine x_cV1 h kVX5_expect lkX5_67 ⟨_, _, _, rfl, rfl⟩ dX5_takeEnd_92 (ex2) lvz_2 rfl rfl (Nat.le_of_ble_eq_true rfl) (by omega) ?_
        refine x_if_ne_F (tgt := 100) h (by omega) dX5_takeEnd_95 (by decide) (by omega) ?_
        refine x_iconst h dX5_takeEnd_98 ?_
        exact x_ireturn h hr dX5_takeEnd_99 (Or.inr ⟨rfl, by omega⟩) ⟨Nat.le_refl _, Nat.le_refl _⟩
    · rw [if_neg h45]
      have ev2 : psS (up3 σ 5 m 6 1) L m (i + 1) u ss 3 0 4 = tV (tB σ 11 L) (i + 1) := psS_value (up3 σ 5 m 6 1) L m (i + 1) u ss
      have hL7 : TapeL (up3 (up3 σ 5 m 6 1) 5 m 7 (tV (tB σ 11 L) (i + 1))) L := tapeL_up hL6 (by decide)
      by_cases h1 : tK (tB σ 11 L) (i + 1) = 1
      · rw [if_pos h1]
        have hn2 := tq_next hB hn.2.1 (by omega)
        have ex2 := c_pexpT (d := 0) (m := m) (u := u) (ss := ss) (i := i + 1) hL7 hB hn.2.1 h1 (by omega)
        by_cases h59 : tK (tB σ 11 L) (i + 2) = 59
        · rw [if_pos h59]
          have hn3 := tq_next (i := i + 2) hB hn2.2.1 (by omega)
          have ex3 := c_pexpT (d := 0) (m := m) (u := u) (ss := ss) (i := i + 2) hL7 hB hn2.2.1 h59 (by omega)
          refine ⟨1, _, ?_, rfl, rfl, hn3.2.1⟩
          unfold endS
          rw [if_pos rfl]
          refine ct_of (by decide) (Nat.le_of_ble_eq_true rfl) (fun C h hr _ => ?_)
          have h : Ok C RX5 cX5_takeEnd 3 _ := h
          refine x_aload_n h dX5_takeEnd_0 rfl ?_
          refine x_aload_n h dX5_takeEnd_1 rfl ?_
          refine x_get h fl_5_14 lvz_2 dX5_takeEnd_2 (pvf_503 _ _) ?_
          refine x_get (q := vI (tK (tB σ 11 L) i)) h fl_5_50 lvz_3 dX5_takeEnd_5 (congrArg vI (by first | exact ek | simp [up3, ek])) ?_
          refine x_bipush h dX5_takeEnd_8 (by decide) ?_
          refine x_ic_ne_F (tgt := 17) h (by omega) dX5_takeEnd_10 (by decide) (by omega) ?_
          refine x_iconst h dX5_takeEnd_13 ?_
          refine x_goto (tgt := 18) h dX5_takeEnd_14 (by decide) ?_
          refine x_put h fl_5_122 (lvm_5 (by omega)) dX5_takeEnd_18 rfl (fun _ => by omega) ?_
          rw [up]
          refine x_aload_n h dX5_takeEnd_21 rfl ?_
          refine x_get (q := vI (1)) h fl_5_122 (lvm_5 (by omega)) dX5_takeEnd_22 (congrArg vI (by first | exact r61 | simp [up3, r61])) ?_
          refine x_if_eq_F (tgt := 100) h (by omega) dX5_takeEnd_25 (by decide) (by omega) ?_
          refine x_aload_n h dX5_takeEnd_28 rfl ?_
          refine x_get h fl_5_14 lvz_2 dX5_takeEnd_29 (pvf_503 _ _) ?_
          refine x_cV0 h kVX6_advance lkX5_64 ⟨_, _, _, rfl, rfl⟩ dX5_takeEnd_32 (adv0) lvz_3 rfl rfl (Nat.le_of_ble_eq_true rfl) (by omega) ?_
          refine x_aload_n h dX5_takeEnd_35 rfl ?_
          refine x_get h fl_5_14 lvz_2 dX5_takeEnd_36 (pvf_503 _ _) ?_
          refine x_get (q := vI (tK (tB σ 11 L) (i + 1))) h fl_5_50 lvz_3 dX5_takeEnd_39 (congrArg vI (by first | exact ek1 | simp [up3, ek1])) ?_
          refine x_bipush h dX5_takeEnd_42 (by decide) ?_
          refine x_ic_ne_T (tgt := 51) h (by omega) dX5_takeEnd_44 (by decide) (by omega) ?_
          refine x_iconst h dX5_takeEnd_51 ?_
          refine x_istore_n h dX5_takeEnd_52 (by decide) ?_
          refine x_iload_n h dX5_takeEnd_53 rfl ?_
          refine x_if_eq_T (tgt := 64) h (by omega) dX5_takeEnd_54 (by decide) (by omega) ?_
          refine x_aload_n h dX5_takeEnd_64 rfl ?_
          refine x_iload_n h dX5_takeEnd_65 rfl ?_
          refine x_if_eq_T (tgt := 80) h (by omega) dX5_takeEnd_66 (by decide) (by omega) ?_
          refine x_aload_n h dX5_takeEnd_80 rfl ?_
          refine x_get h fl_5_14 lvz_2 dX5_takeEnd_81 (pvf_503 _ _) ?_
          refine x_get (q := vL (tV (tB σ 11 L) (i + 1))) h fl_5_71 lvz_3 dX5_takeEnd_84 (congrArg vL (by first | exact ev2 | simp [up3, ev2])) ?_
          refine x_put h fl_5_125 (lvm_5 (by omega)) dX5_takeEnd_87 rfl (fun z => absurd z (by decide)) ?_
          rw [up]
          refine x_aload_n h dX5_takeEnd_90 rfl ?_
          refine x_iconst h dX5_takeEnd_91 ?_
          refine x_cV1 h kVX5_expect lkX5_67 ⟨_, _, _, rfl, rfl⟩ dX5_takeEnd_92 (ex2) lvz_2 rfl rfl (Nat.le_of_ble_eq_true rfl) (by omega) ?_
          refine x_if_ne_T (tgt := 100) h (by omega) dX5_takeEnd_95 (by decide) (by omega) ?_
          refine x_aload_n h dX5_takeEnd_100 rfl ?_
          refine x_bipush h dX5_takeEnd_101 (by decide) ?_
          refine x_cV1 h kVX5_expect lkX5_67 ⟨_, _, _, rfl, rfl⟩ dX5_takeEnd_103 (ex3) lvz_2 rfl rfl (Nat.le_of_ble_eq_true rfl) (by omega) ?_
          exact x_ireturn h hr dX5_takeEnd_106 (Or.inr ⟨rfl, by omega⟩) ⟨Nat.le_refl _, Nat.le_refl _⟩
        · rw [if_neg h59]
          refine ⟨0, _, ?_, rfl, failZ_ps (τ := up3 (up3 σ 5 m 6 1) 5 m 7 (tV (tB σ 11 L) (i + 1))) (L := L) (i := i + 2) (u := u) (ss := ss) (fr1 _ _)⟩
          have ex3 := c_pexpF (d := 0) (σ := up3 (up3 σ 5 m 6 1) 5 m 7 (tV (tB σ 11 L) (i + 1))) (L := L) (m := m) (u := u) (ss := ss) (i := i + 2) hB h59 (by omega)
          refine ct_of (by decide) (Nat.le_of_ble_eq_true rfl) (fun C h hr _ => ?_)
          have h : Ok C RX5 cX5_takeEnd 3 _ := h
          refine x_aload_n h dX5_takeEnd_0 rfl ?_
          refine x_aload_n h dX5_takeEnd_1 rfl ?_
          refine x_get h fl_5_14 lvz_2 dX5_takeEnd_2 (pvf_503 _ _) ?_
          refine x_get (q := vI (tK (tB σ 11 L) i)) h fl_5_50 lvz_3 dX5_takeEnd_5 (congrArg vI (by first | exact ek | simp [up3, ek])) ?_
          refine x_bipush h dX5_takeEnd_8 (by decide) ?_
          refine x_ic_ne_F (tgt := 17) h (by omega) dX5_takeEnd_10 (by decide) (by omega) ?_
          refine x_iconst h dX5_takeEnd_13 ?_
          refine x_goto (tgt := 18) h dX5_takeEnd_14 (by decide) ?_
          refine x_put h fl_5_122 (lvm_5 (by omega)) dX5_takeEnd_18 rfl (fun _ => by omega) ?_
          rw [up]
          refine x_aload_n h dX5_takeEnd_21 rfl ?_
          refine x_get (q := vI (1)) h fl_5_122 (lvm_5 (by omega)) dX5_takeEnd_22 (congrArg vI (by first | exact r61 | simp [up3, r61])) ?_
          refine x_if_eq_F (tgt := 100) h (by omega) dX5_takeEnd_25 (by decide) (by omega) ?_
          refine x_aload_n h dX5_takeEnd_28 rfl ?_
          refine x_get h fl_5_14 lvz_2 dX5_takeEnd_29 (pvf_503 _ _) ?_
          refine x_cV0 h kVX6_advance lkX5_64 ⟨_, _, _, rfl, rfl⟩ dX5_takeEnd_32 (adv0) lvz_3 rfl rfl (Nat.le_of_ble_eq_true rfl) (by omega) ?_
          refine x_aload_n h dX5_takeEnd_35 rfl ?_
          refine x_get h fl_5_14 lvz_2 dX5_takeEnd_36 (pvf_503 _ _) ?_
          refine x_get (q := vI (tK (tB σ 11 L) (i + 1))) h fl_5_50 lvz_3 dX5_takeEnd_39 (congrArg vI (by first | exact ek1 | simp [up3, ek1])) ?_
          refine x_bipush h dX5_takeEnd_42 (by decide) ?_
          refine x_ic_ne_T (tgt := 51) h (by omega) dX5_takeEnd_44 (by decide) (by omega) ?_
          refine x_iconst h dX5_takeEnd_51 ?_
          refine x_istore_n h dX5_takeEnd_52 (by decide) ?_
          refine x_iload_n h dX5_takeEnd_53 rfl ?_
          refine x_if_eq_T (tgt := 64) h (by omega) dX5_takeEnd_54 (by decide) (by omega) ?_
          refine x_aload_n h dX5_takeEnd_64 rfl ?_
          refine x_iload_n h dX5_takeEnd_65 rfl ?_
          refine x_if_eq_T (tgt := 80) h (by omega) dX5_takeEnd_66 (by decide) (by omega) ?_
          refine x_aload_n h dX5_takeEnd_80 rfl ?_
          refine x_get h fl_5_14 lvz_2 dX5_takeEnd_81 (pvf_503 _ _) ?_
          refine x_get (q := vL (tV (tB σ 11 L) (i + 1))) h fl_5_71 lvz_3 dX5_takeEnd_84 (congrArg vL (by first | exact ev2 | simp [up3, ev2])) ?_
          refine x_put h fl_5_125 (lvm_5 (by omega)) dX5_takeEnd_87 rfl (fun z => absurd z (by decide)) ?_
          rw [up]
          refine x_aload_n h dX5_takeEnd_90 rfl ?_
          refine x_iconst h dX5_takeEnd_91 ?_
          refine x_cV1 h kVX5_expect lkX5_67 ⟨_, _, _, rfl, rfl⟩ dX5_takeEnd_92 (ex2) lvz_2 rfl rfl (Nat.le_of_ble_eq_true rfl) (by omega) ?_
          refine x_if_ne_T (tgt := 100) h (by omega) dX5_takeEnd_95 (by decide) (by omega) ?_
          refine x_aload_n h dX5_takeEnd_100 rfl ?_
          refine x_bipush h dX5_takeEnd_101 (by decide) ?_
          refine x_cV1 h kVX5_expect lkX5_67 ⟨_, _, _, rfl, rfl⟩ dX5_takeEnd_103 (ex3) lvz_2 rfl rfl (Nat.le_of_ble_eq_true rfl) (by omega) ?_
          exact x_ireturn h hr dX5_takeEnd_106 (Or.inr ⟨rfl, by omega⟩) ⟨Nat.le_refl _, Nat.le_refl _⟩
      · rw [if_neg h1]
        refine ⟨0, _, ?_, rfl, failZ_ps (τ := up3 (up3 σ 5 m 6 1) 5 m 7 (tV (tB σ 11 L) (i + 1))) (L := L) (i := i + 1) (u := u) (ss := ss) (fr1 _ _)⟩
        have ex2 := c_pexpF (d := 0) (σ := up3 (up3 σ 5 m 6 1) 5 m 7 (tV (tB σ 11 L) (i + 1))) (L := L) (m := m) (u := u) (ss := ss) (i := i + 1) hB h1 (by omega)
        refine ct_of (by decide) (Nat.le_of_ble_eq_true rfl) (fun C h hr _ => ?_)
        have h : Ok C RX5 cX5_takeEnd 3 _ := h
        refine x_aload_n h dX5_takeEnd_0 rfl ?_
        refine x_aload_n h dX5_takeEnd_1 rfl ?_
        refine x_get h fl_5_14 lvz_2 dX5_takeEnd_2 (pvf_503 _ _) ?_
        refine x_get (q := vI (tK (tB σ 11 L) i)) h fl_5_50 lvz_3 dX5_takeEnd_5 (congrArg vI (by first | exact ek | simp [up3, ek])) ?_
        refine x_bipush h dX5_takeEnd_8 (by decide) ?_
        refine x_ic_ne_F (tgt := 17) h (by omega) dX5_takeEnd_10 (by decide) (by omega) ?_
        refine x_iconst h dX5_takeEnd_13 ?_
        refine x_goto (tgt := 18) h dX5_takeEnd_14 (by decide) ?_
        refine x_put h fl_5_122 (lvm_5 (by omega)) dX5_takeEnd_18 rfl (fun _ => by omega) ?_
        rw [up]
        refine x_aload_n h dX5_takeEnd_21 rfl ?_
        refine x_get (q := vI (1)) h fl_5_122 (lvm_5 (by omega)) dX5_takeEnd_22 (congrArg vI (by first | exact r61 | simp [up3, r61])) ?_
        refine x_if_eq_F (tgt := 100) h (by omega) dX5_takeEnd_25 (by decide) (by omega) ?_
        refine x_aload_n h dX5_takeEnd_28 rfl ?_
        refine x_get h fl_5_14 lvz_2 dX5_takeEnd_29 (pvf_503 _ _) ?_
        refine x_cV0 h kVX6_advance lkX5_64 ⟨_, _, _, rfl, rfl⟩ dX5_takeEnd_32 (adv0) lvz_3 rfl rfl (Nat.le_of_ble_eq_true rfl) (by omega) ?_
        refine x_aload_n h dX5_takeEnd_35 rfl ?_
        refine x_get h fl_5_14 lvz_2 dX5_takeEnd_36 (pvf_503 _ _) ?_
        refine x_get (q := vI (tK (tB σ 11 L) (i + 1))) h fl_5_50 lvz_3 dX5_takeEnd_39 (congrArg vI (by first | exact ek1 | simp [up3, ek1])) ?_
        refine x_bipush h dX5_takeEnd_42 (by decide) ?_
        refine x_ic_ne_T (tgt := 51) h (by omega) dX5_takeEnd_44 (by decide) (by omega) ?_
        refine x_iconst h dX5_takeEnd_51 ?_
        refine x_istore_n h dX5_takeEnd_52 (by decide) ?_
        refine x_iload_n h dX5_takeEnd_53 rfl ?_
        refine x_if_eq_T (tgt := 64) h (by omega) dX5_takeEnd_54 (by decide) (by omega) ?_
        refine x_aload_n h dX5_takeEnd_64 rfl ?_
        refine x_iload_n h dX5_takeEnd_65 rfl ?_
        refine x_if_eq_T (tgt := 80) h (by omega) dX5_takeEnd_66 (by decide) (by omega) ?_
        refine x_aload_n h dX5_takeEnd_80 rfl ?_
        refine x_get h fl_5_14 lvz_2 dX5_takeEnd_81 (pvf_503 _ _) ?_
        refine x_get (q := vL (tV (tB σ 11 L) (i + 1))) h fl_5_71 lvz_3 dX5_takeEnd_84 (congrArg vL (by first | exact ev2 | simp [up3, ev2])) ?_
        refine x_put h fl_5_125 (lvm_5 (by omega)) dX5_takeEnd_87 rfl (fun z => absurd z (by decide)) ?_
        rw [up]
        refine x_aload_n h dX5_takeEnd_90 rfl ?_
        refine x_iconst h dX5_takeEnd_91 ?_
        refine x_cV1 h kVX5_expect lkX5_67 ⟨_, _, _, rfl, rfl⟩ dX5_takeEnd_92 (ex2) lvz_2 rfl rfl (Nat.le_of_ble_eq_true rfl) (by omega) ?_
        refine x_if_ne_F (tgt := 100) h (by omega) dX5_takeEnd_95 (by decide) (by omega) ?_
        refine x_iconst h dX5_takeEnd_98 ?_
        exact x_ireturn h hr dX5_takeEnd_99 (Or.inr ⟨rfl, by omega⟩) ⟨Nat.le_refl _, Nat.le_refl _⟩
  · rw [if_neg h7]
    have r60 := r6 i 0
    have hL0 : TapeL (up3 σ 5 m 6 0) L := tapeL_up hL (by decide)
    by_cases h59 : tK (tB σ 11 L) i = 59
    · rw [if_pos h59]
      have hn := tq_next hB hi (by omega)
      have ex := c_pexpT (d := 0) (m := m) (u := u) (ss := ss) (i := i) hL0 hB hi h59 (by omega)
      refine ⟨1, _, ?_, rfl, rfl, hn.2.1⟩
      unfold endS
      rw [if_neg (by decide)]
      refine ct_of (by decide) (Nat.le_of_ble_eq_true rfl) (fun C h hr _ => ?_)
      have h : Ok C RX5 cX5_takeEnd 3 _ := h
      refine x_aload_n h dX5_takeEnd_0 rfl ?_
      refine x_aload_n h dX5_takeEnd_1 rfl ?_
      refine x_get h fl_5_14 lvz_2 dX5_takeEnd_2 (pvf_503 _ _) ?_
      refine x_get (q := vI (tK (tB σ 11 L) i)) h fl_5_50 lvz_3 dX5_takeEnd_5 (congrArg vI (by first | exact ek | simp [up3, ek])) ?_
      refine x_bipush h dX5_takeEnd_8 (by decide) ?_
      refine x_ic_ne_T (tgt := 17) h (by omega) dX5_takeEnd_10 (by decide) (by omega) ?_
      refine x_iconst h dX5_takeEnd_17 ?_
      refine x_put h fl_5_122 (lvm_5 (by omega)) dX5_takeEnd_18 rfl (fun _ => by omega) ?_
      rw [up]
      refine x_aload_n h dX5_takeEnd_21 rfl ?_
      refine x_get (q := vI (0)) h fl_5_122 (lvm_5 (by omega)) dX5_takeEnd_22 (congrArg vI (by first | exact r60 | simp [up3, r60])) ?_
      refine x_if_eq_T (tgt := 100) h (by omega) dX5_takeEnd_25 (by decide) (by omega) ?_
      refine x_aload_n h dX5_takeEnd_100 rfl ?_
      refine x_bipush h dX5_takeEnd_101 (by decide) ?_
      refine x_cV1 h kVX5_expect lkX5_67 ⟨_, _, _, rfl, rfl⟩ dX5_takeEnd_103 (ex) lvz_2 rfl rfl (Nat.le_of_ble_eq_true rfl) (by omega) ?_
      exact x_ireturn h hr dX5_takeEnd_106 (Or.inr ⟨rfl, by omega⟩) ⟨Nat.le_refl _, Nat.le_refl _⟩
    · rw [if_neg h59]
      refine ⟨0, _, ?_, rfl, failZ_ps (τ := up3 σ 5 m 6 0) (L := L) (i := i) (u := u) (ss := ss) (fr0 _)⟩
      have ex := c_pexpF (d := 0) (σ := up3 σ 5 m 6 0) (L := L) (m := m) (u := u) (ss := ss) (i := i) hB h59 (by omega)
      refine ct_of (by decide) (Nat.le_of_ble_eq_true rfl) (fun C h hr _ => ?_)
      have h : Ok C RX5 cX5_takeEnd 3 _ := h
      refine x_aload_n h dX5_takeEnd_0 rfl ?_
      refine x_aload_n h dX5_takeEnd_1 rfl ?_
      refine x_get h fl_5_14 lvz_2 dX5_takeEnd_2 (pvf_503 _ _) ?_
      refine x_get (q := vI (tK (tB σ 11 L) i)) h fl_5_50 lvz_3 dX5_takeEnd_5 (congrArg vI (by first | exact ek | simp [up3, ek])) ?_
      refine x_bipush h dX5_takeEnd_8 (by decide) ?_
      refine x_ic_ne_T (tgt := 17) h (by omega) dX5_takeEnd_10 (by decide) (by omega) ?_
      refine x_iconst h dX5_takeEnd_17 ?_
      refine x_put h fl_5_122 (lvm_5 (by omega)) dX5_takeEnd_18 rfl (fun _ => by omega) ?_
      rw [up]
      refine x_aload_n h dX5_takeEnd_21 rfl ?_
      refine x_get (q := vI (0)) h fl_5_122 (lvm_5 (by omega)) dX5_takeEnd_22 (congrArg vI (by first | exact r60 | simp [up3, r60])) ?_
      refine x_if_eq_T (tgt := 100) h (by omega) dX5_takeEnd_25 (by decide) (by omega) ?_
      refine x_aload_n h dX5_takeEnd_100 rfl ?_
      refine x_bipush h dX5_takeEnd_101 (by decide) ?_
      refine x_cV1 h kVX5_expect lkX5_67 ⟨_, _, _, rfl, rfl⟩ dX5_takeEnd_103 (ex) lvz_2 rfl rfl (Nat.le_of_ble_eq_true rfl) (by omega) ?_
      exact x_ireturn h hr dX5_takeEnd_106 (Or.inr ⟨rfl, by omega⟩) ⟨Nat.le_refl _, Nat.le_refl _⟩
