/-! entries, groups, choices, UNITS -/
theorem c_entry {σ : Mm} {L m dd : Nat} {ar : Int} {S : Nat → Nat → PR} (hL : TapeL σ L) (hB : BOk (tB σ 11 L) L) (hm : m < 24) (hf : σ 2 0 1 = m) (hdd : 6 ≤ dd) (hSb : PU S) (hS : RdOk σ L m dd mX5_takeSum (ar + 1) S) {u i : Nat} {ss : List Zs} (hu : u ≤ 24) (hlen : ss.length ≤ 2 * u) (hi : tq (tB σ 11 L) i ≤ L) (hki : tK (tB σ 11 L) i = 2) :
    ∃ (r : Int) (σ' : Mm), Ct (dd + 1) mX5_takeEntry 1 [vR 2 0, vI ar] NALL (psS σ L m i u ss) (some (vI r)) NALL σ' 0 0 ∧ PRes σ L m ss (entF (tK (tB σ 11 L)) (tV (tB σ 11 L)) (tQ (tB σ 11 L)) S u i) r σ' := by
  unfold entF
  have ev := psS_value σ L m i u ss
  have ep := psS_place σ L m i u ss
  have hn := tq_next hB hi (by omega)
  by_cases h91 : tK (tB σ 11 L) (i + 1) = 91
  · rw [if_pos h91]
    have hn2 := tq_next hB hn.2.1 (by omega)
    obtain ⟨r1, σ1, hct, hres⟩ := hS u (i + 2) ss hu hlen hn2.2.1
    have hb := hSb u (i + 2)
    cases hv : S u (i + 2) with
    | inl e =>
      rw [hv] at hres
      obtain ⟨rfl, hfl⟩ := hres
      refine ⟨0, σ1, ?_, ⟨rfl, hfl⟩⟩
      refine ct_of (by decide) (Nat.le_of_ble_eq_true rfl) (fun C h hr _ => ?_)
      have h : Ok C RX5 cX5_takeEntry 5 _ := h
      refine x_aload_n h dX5_takeEntry_0 rfl ?_
      refine x_get h fl_5_14 lvz_2 dX5_takeEntry_1 (pvf_503 _ _) ?_
      refine x_get (q := vL (tV (tB σ 11 L) i)) h fl_5_71 lvz_3 dX5_takeEntry_4 (congrArg vL (by first | exact ev | simp [up3, ev])) ?_
      refine x_lstore_n h dX5_takeEntry_7 (by decide) ?_
      refine x_aload_n h dX5_takeEntry_8 rfl ?_
      refine x_get h fl_5_14 lvz_2 dX5_takeEntry_9 (pvf_503 _ _) ?_
      refine x_get (q := vI (tQ (tB σ 11 L) i)) h fl_5_53 lvz_3 dX5_takeEntry_12 (congrArg vI (by first | exact ep | simp [up3, ep])) ?_
      refine x_istore h dX5_takeEntry_15 (by decide) ?_
      refine x_aload_n h dX5_takeEntry_17 rfl ?_
      refine x_iconst h dX5_takeEntry_18 ?_
      refine x_cV1 h kVX5_expect lkX5_67 ⟨_, _, _, rfl, rfl⟩ dX5_takeEntry_19 (c_pexpT (d := 0) hL hB hi hki (by omega)) lvz_2 rfl rfl (Nat.le_of_ble_eq_true rfl) (by omega) ?_
      refine x_if_eq_F (tgt := 53) h (by omega) dX5_takeEntry_22 (by decide) (by omega) ?_
      refine x_aload_n h dX5_takeEntry_25 rfl ?_
      refine x_bipush h dX5_takeEntry_26 (by decide) ?_
      refine x_cV1 h kVX5_expect lkX5_67 ⟨_, _, _, rfl, rfl⟩ dX5_takeEntry_28 (c_pexpT (d := 0) hL hB hn.2.1 h91 (by omega)) lvz_2 rfl rfl (Nat.le_of_ble_eq_true rfl) (by omega) ?_
      refine x_if_eq_F (tgt := 53) h (by omega) dX5_takeEntry_31 (by decide) (by omega) ?_
      refine x_aload_n h dX5_takeEntry_34 rfl ?_
      refine x_iload_n h dX5_takeEntry_35 rfl ?_
      refine x_iconst h dX5_takeEntry_36 ?_
      refine x_iadd h dX5_takeEntry_37 ?_
      refine x_cV1 h kVX5_takeSum lkX5_101 ⟨_, _, _, rfl, rfl⟩ dX5_takeEntry_38 (hct) lvz_2 rfl rfl (Nat.le_of_ble_eq_true rfl) (by omega) ?_
      refine x_if_eq_T (tgt := 53) h (by omega) dX5_takeEntry_41 (by decide) (by omega) ?_
      refine x_iconst h dX5_takeEntry_53 ?_
      exact x_ireturn h hr dX5_takeEntry_54 (Or.inr ⟨rfl, by omega⟩) ⟨Nat.le_refl _, Nat.le_refl _⟩
    | inr t =>
      obtain ⟨i', u', s⟩ := t
      rw [hv] at hres hb
      obtain ⟨rfl, rfl, hi'⟩ := hres
      obtain ⟨b1, b2, b3⟩ := hb
      by_cases h93 : tK (tB σ 11 L) i' = 93
      · have hn' := tq_next hB hi' (by omega)
        refine ⟨1, psS σ L m (i' + 1) u' (ss ++ (s ++ [(3, tV (tB σ 11 L) i, tQ (tB σ 11 L) i)])), ?_, ?_⟩
        · have hadd := c_addStep (d := 0) (L := L) (i := i' + 1) (u := u') (ss := ss ++ s) (x := 3) (y := tV (tB σ 11 L) i) (z := tQ (tB σ 11 L) i) hm hf (by simp only [List.length_append]; omega)
          rw [List.append_assoc] at hadd
          refine ct_of (by decide) (Nat.le_of_ble_eq_true rfl) (fun C h hr _ => ?_)
          have h : Ok C RX5 cX5_takeEntry 5 _ := h
          refine x_aload_n h dX5_takeEntry_0 rfl ?_
          refine x_get h fl_5_14 lvz_2 dX5_takeEntry_1 (pvf_503 _ _) ?_
          refine x_get (q := vL (tV (tB σ 11 L) i)) h fl_5_71 lvz_3 dX5_takeEntry_4 (congrArg vL (by first | exact ev | simp [up3, ev])) ?_
          refine x_lstore_n h dX5_takeEntry_7 (by decide) ?_
          refine x_aload_n h dX5_takeEntry_8 rfl ?_
          refine x_get h fl_5_14 lvz_2 dX5_takeEntry_9 (pvf_503 _ _) ?_
          refine x_get (q := vI (tQ (tB σ 11 L) i)) h fl_5_53 lvz_3 dX5_takeEntry_12 (congrArg vI (by first | exact ep | simp [up3, ep])) ?_
          refine x_istore h dX5_takeEntry_15 (by decide) ?_
          refine x_aload_n h dX5_takeEntry_17 rfl ?_
          refine x_iconst h dX5_takeEntry_18 ?_
          refine x_cV1 h kVX5_expect lkX5_67 ⟨_, _, _, rfl, rfl⟩ dX5_takeEntry_19 (c_pexpT (d := 0) hL hB hi hki (by omega)) lvz_2 rfl rfl (Nat.le_of_ble_eq_true rfl) (by omega) ?_
          refine x_if_eq_F (tgt := 53) h (by omega) dX5_takeEntry_22 (by decide) (by omega) ?_
          refine x_aload_n h dX5_takeEntry_25 rfl ?_
          refine x_bipush h dX5_takeEntry_26 (by decide) ?_
          refine x_cV1 h kVX5_expect lkX5_67 ⟨_, _, _, rfl, rfl⟩ dX5_takeEntry_28 (c_pexpT (d := 0) hL hB hn.2.1 h91 (by omega)) lvz_2 rfl rfl (Nat.le_of_ble_eq_true rfl) (by omega) ?_
          refine x_if_eq_F (tgt := 53) h (by omega) dX5_takeEntry_31 (by decide) (by omega) ?_
          refine x_aload_n h dX5_takeEntry_34 rfl ?_
          refine x_iload_n h dX5_takeEntry_35 rfl ?_
          refine x_iconst h dX5_takeEntry_36 ?_
          refine x_iadd h dX5_takeEntry_37 ?_
          refine x_cV1 h kVX5_takeSum lkX5_101 ⟨_, _, _, rfl, rfl⟩ dX5_takeEntry_38 (hct) lvz_2 rfl rfl (Nat.le_of_ble_eq_true rfl) (by omega) ?_
          refine x_if_eq_F (tgt := 53) h (by omega) dX5_takeEntry_41 (by decide) (by omega) ?_
          refine x_aload_n h dX5_takeEntry_44 rfl ?_
          refine x_bipush h dX5_takeEntry_45 (by decide) ?_
          refine x_cV1 h kVX5_expect lkX5_67 ⟨_, _, _, rfl, rfl⟩ dX5_takeEntry_47 (c_pexpT (d := 0) hL hB hi' h93 (by omega)) lvz_2 rfl rfl (Nat.le_of_ble_eq_true rfl) (by omega) ?_
          refine x_if_ne_T (tgt := 55) h (by omega) dX5_takeEntry_50 (by decide) (by omega) ?_
          refine x_aload_n h dX5_takeEntry_55 rfl ?_
          refine x_iconst h dX5_takeEntry_56 ?_
          refine x_lload_n h dX5_takeEntry_57 rfl ?_
          refine x_iload h dX5_takeEntry_58 rfl ?_
          refine x_cV0 h kVX5_addStep lkX5_135 ⟨_, _, _, rfl, rfl⟩ dX5_takeEntry_60 (hadd) lvz_2 rfl rfl (Nat.le_of_ble_eq_true rfl) (by omega) ?_
          refine x_iconst h dX5_takeEntry_63 ?_
          exact x_ireturn h hr dX5_takeEntry_64 (Or.inr ⟨rfl, by omega⟩) ⟨Nat.le_refl _, Nat.le_refl _⟩
        · show PRes σ L m ss (needR _ _ _ _ _) _ _
          unfold needR
          rw [if_pos h93]
          exact ⟨rfl, rfl, hn'.2.1⟩
      · refine ⟨0, up3 (psS σ L m i' u' (ss ++ s)) 2 0 3 (tQ (tB σ 11 L) i'), ?_, ?_⟩
        rotate_left
        · show PRes σ L m ss (needR _ _ _ _ _) _ _
          unfold needR
          rw [if_neg h93]
          exact ⟨rfl, failOk_ps σ L m i' u' (ss ++ s) _⟩
        · refine ct_of (by decide) (Nat.le_of_ble_eq_true rfl) (fun C h hr _ => ?_)
          have h : Ok C RX5 cX5_takeEntry 5 _ := h
          refine x_aload_n h dX5_takeEntry_0 rfl ?_
          refine x_get h fl_5_14 lvz_2 dX5_takeEntry_1 (pvf_503 _ _) ?_
          refine x_get (q := vL (tV (tB σ 11 L) i)) h fl_5_71 lvz_3 dX5_takeEntry_4 (congrArg vL (by first | exact ev | simp [up3, ev])) ?_
          refine x_lstore_n h dX5_takeEntry_7 (by decide) ?_
          refine x_aload_n h dX5_takeEntry_8 rfl ?_
          refine x_get h fl_5_14 lvz_2 dX5_takeEntry_9 (pvf_503 _ _) ?_
          refine x_get (q := vI (tQ (tB σ 11 L) i)) h fl_5_53 lvz_3 dX5_takeEntry_12 (congrArg vI (by first | exact ep | simp [up3, ep])) ?_
          refine x_istore h dX5_takeEntry_15 (by decide) ?_
          refine x_aload_n h dX5_takeEntry_17 rfl ?_
          refine x_iconst h dX5_takeEntry_18 ?_
          refine x_cV1 h kVX5_expect lkX5_67 ⟨_, _, _, rfl, rfl⟩ dX5_takeEntry_19 (c_pexpT (d := 0) hL hB hi hki (by omega)) lvz_2 rfl rfl (Nat.le_of_ble_eq_true rfl) (by omega) ?_
          refine x_if_eq_F (tgt := 53) h (by omega) dX5_takeEntry_22 (by decide) (by omega) ?_
          refine x_aload_n h dX5_takeEntry_25 rfl ?_
          refine x_bipush h dX5_takeEntry_26 (by decide) ?_
          refine x_cV1 h kVX5_expect lkX5_67 ⟨_, _, _, rfl, rfl⟩ dX5_takeEntry_28 (c_pexpT (d := 0) hL hB hn.2.1 h91 (by omega)) lvz_2 rfl rfl (Nat.le_of_ble_eq_true rfl) (by omega) ?_
          refine x_if_eq_F (tgt := 53) h (by omega) dX5_takeEntry_31 (by decide) (by omega) ?_
          refine x_aload_n h dX5_takeEntry_34 rfl ?_
          refine x_iload_n h dX5_takeEntry_35 rfl ?_
          refine x_iconst h dX5_takeEntry_36 ?_
          refine x_iadd h dX5_takeEntry_37 ?_
          refine x_cV1 h kVX5_takeSum lkX5_101 ⟨_, _, _, rfl, rfl⟩ dX5_takeEntry_38 (hct) lvz_2 rfl rfl (Nat.le_of_ble_eq_true rfl) (by omega) ?_
          refine x_if_eq_F (tgt := 53) h (by omega) dX5_takeEntry_41 (by decide) (by omega) ?_
          refine x_aload_n h dX5_takeEntry_44 rfl ?_
          refine x_bipush h dX5_takeEntry_45 (by decide) ?_
          refine x_cV1 h kVX5_expect lkX5_67 ⟨_, _, _, rfl, rfl⟩ dX5_takeEntry_47 (c_pexpF (d := 0) hB h93 (by omega)) lvz_2 rfl rfl (Nat.le_of_ble_eq_true rfl) (by omega) ?_
          refine x_if_ne_F (tgt := 55) h (by omega) dX5_takeEntry_50 (by decide) (by omega) ?_
          refine x_iconst h dX5_takeEntry_53 ?_
          exact x_ireturn h hr dX5_takeEntry_54 (Or.inr ⟨rfl, by omega⟩) ⟨Nat.le_refl _, Nat.le_refl _⟩
  · rw [if_neg h91]
    refine ⟨0, _, ?_, ⟨rfl, failOk_ps σ L m (i + 1) u ss _⟩⟩
    refine ct_of (by decide) (Nat.le_of_ble_eq_true rfl) (fun C h hr _ => ?_)
    have h : Ok C RX5 cX5_takeEntry 5 _ := h
    refine x_aload_n h dX5_takeEntry_0 rfl ?_
    refine x_get h fl_5_14 lvz_2 dX5_takeEntry_1 (pvf_503 _ _) ?_
    refine x_get (q := vL (tV (tB σ 11 L) i)) h fl_5_71 lvz_3 dX5_takeEntry_4 (congrArg vL (by first | exact ev | simp [up3, ev])) ?_
    refine x_lstore_n h dX5_takeEntry_7 (by decide) ?_
    refine x_aload_n h dX5_takeEntry_8 rfl ?_
    refine x_get h fl_5_14 lvz_2 dX5_takeEntry_9 (pvf_503 _ _) ?_
    refine x_get (q := vI (tQ (tB σ 11 L) i)) h fl_5_53 lvz_3 dX5_takeEntry_12 (congrArg vI (by first | exact ep | simp [up3, ep])) ?_
    refine x_istore h dX5_takeEntry_15 (by decide) ?_
    refine x_aload_n h dX5_takeEntry_17 rfl ?_
    refine x_iconst h dX5_takeEntry_18 ?_
    refine x_cV1 h kVX5_expect lkX5_67 ⟨_, _, _, rfl, rfl⟩ dX5_takeEntry_19 (c_pexpT (d := 0) hL hB hi hki (by omega)) lvz_2 rfl rfl (Nat.le_of_ble_eq_true rfl) (by omega) ?_
    refine x_if_eq_F (tgt := 53) h (by omega) dX5_takeEntry_22 (by decide) (by omega) ?_
    refine x_aload_n h dX5_takeEntry_25 rfl ?_
    refine x_bipush h dX5_takeEntry_26 (by decide) ?_
    refine x_cV1 h kVX5_expect lkX5_67 ⟨_, _, _, rfl, rfl⟩ dX5_takeEntry_28 (c_pexpF (d := 0) hB h91 (by omega)) lvz_2 rfl rfl (Nat.le_of_ble_eq_true rfl) (by omega) ?_
    refine x_if_eq_T (tgt := 53) h (by omega) dX5_takeEntry_31 (by decide) (by omega) ?_
    refine x_iconst h dX5_takeEntry_53 ?_
    exact x_ireturn h hr dX5_takeEntry_54 (Or.inr ⟨rfl, by omega⟩) ⟨Nat.le_refl _, Nat.le_refl _⟩
theorem c_paddF {d : Nat} {σ : Mm} {L m i u : Nat} {ss : List Zs} {x y z : Int} (hm : m < 24) (hlen : ss.length < 48) : Ct (d + 1) mX0_add 1 [vR 6 m, vI x, vL y, vI z] NALL (psS σ L m i u ss) none NALL (psS σ L m i u (ss ++ [(x, y, z)])) 0 0 := by
  have hlen2 : psS σ L m i u ss 6 m 3 = ss.length := by unfold psS; exact psT_len _ _ _ _ _ _ _ _
  have hadd : addS (psS σ L m i u ss) m ss.length x y z = psS σ L m i u (ss ++ [(x, y, z)]) := by unfold psS; exact psT_add _ _ _ _ _ _ _ _ _ _ _
  have hc := c_fadd (d := d) (a := x) (b := y) (c := z) hm hlen2 hlen
  rw [hadd] at hc
  exact hc
theorem c_pskip {d : Nat} {σ : Mm} {L m i u : Nat} {s1 s2 : List Zs} {x y z : Int} (hm : m < 24) (hlen : (s1 ++ [(x, y, z)] ++ s2).length ≤ 48) : Ct (d + 1) mX0_skipToHere 1 [vR 6 m, vI s1.length] NALL (psS σ L m i u (s1 ++ [(x, y, z)] ++ s2)) none NALL (psS σ L m i u (s1 ++ [(x, (s2.length : Int), z)] ++ s2)) 0 0 := by
  have hlen2 : psS σ L m i u (s1 ++ [(x, y, z)] ++ s2) 6 m 3 = (s1 ++ [(x, y, z)] ++ s2).length := by unfold psS; exact psT_len _ _ _ _ _ _ _ _
  have hl : (s1 ++ [(x, y, z)] ++ s2).length = s1.length + 1 + s2.length := by simp only [List.length_append, List.length_cons, List.length_nil]
  have hc := c_skipToHere (d := d) (k := s1.length) hm (by omega) hlen2 (by omega)
  have hset : up3 (psS σ L m i u (s1 ++ [(x, y, z)] ++ s2)) 14 m s1.length (((s1 ++ [(x, y, z)] ++ s2).length : Int) - s1.length - 1) = psS σ L m i u (s1 ++ [(x, (s2.length : Int), z)] ++ s2) := by
    unfold psS
    rw [psT_set]
    rw [show (((s1 ++ [(x, y, z)] ++ s2).length : Int) - s1.length - 1) = (s2.length : Int) by omega]
  rw [hset] at hc
  exact hc
theorem c_choice {σ : Mm} {L m dd : Nat} {ar : Int} {S : Nat → Nat → PR} (hL : TapeL σ L) (hB : BOk (tB σ 11 L) L) (hm : m < 24) (hf : σ 2 0 1 = m) (hdd : 6 ≤ dd) (hSb : PU S) (hS : RdOk σ L m dd mX5_takeSum (ar + 1) S) {u i : Nat} {ss : List Zs} (hu : u ≤ 24) (hlen : ss.length + 1 ≤ 2 * u) (hi : tq (tB σ 11 L) i ≤ L) (hki : tK (tB σ 11 L) i = 63) :
    ∃ (r : Int) (σ' : Mm), Ct (dd + 1) mX5_takeChoice 1 [vR 2 0, vI ar] NALL (psS σ L m i u ss) (some (vI r)) NALL σ' 0 0 ∧ PRes σ L m ss (choiF (tK (tB σ 11 L)) S u i) r σ' := by
  have hfp : ∀ (i u : Nat) (ss : List Zs), pv 1 16 0 (psS σ L m i u ss 2 0 1) = vR 6 m := fun i u ss => pvr (by unfold psS; rw [psT_f _ _ _ _ _ _ _ _ (by decide) (by omega) (by omega)]; exact hf) ⟨by decide, by decide⟩
  have hlp : ∀ (i u : Nat) (ss : List Zs), psS σ L m i u ss 6 m 3 = ss.length := fun i u ss => by unfold psS; exact psT_len _ _ _ _ _ _ _ _
  have hn := tq_next hB hi (by omega)
  have a1 := hlp (i + 1) u ss
  have p0 := hfp i u ss
  have p1 := hfp (i + 1) u ss
  have c1 := c_paddF (d := 0) (σ := σ) (L := L) (i := i + 1) (u := u) (ss := ss) (x := 6) (y := 0) (z := -9) hm (by omega)
  obtain ⟨r1, σ1, hct, hres⟩ := hS u (i + 1) (ss ++ [(6, 0, -9)]) hu (by simp only [List.length_append, List.length_cons, List.length_nil]; omega) hn.2.1
  have hb := hSb u (i + 1)
  unfold choiF
  cases hv : S u (i + 1) with
  | inl e =>
    rw [hv] at hres
    obtain ⟨rfl, hfl⟩ := hres
    refine ⟨0, σ1, ?_, ⟨rfl, hfl⟩⟩
    refine ct_of (by decide) (Nat.le_of_ble_eq_true rfl) (fun C h hr _ => ?_)
    have h : Ok C RX5 cX5_takeChoice 4 _ := h
    refine x_aload_n h dX5_takeChoice_0 rfl ?_
    refine x_get h fl_5_20 lvz_2 dX5_takeChoice_1 (p0) ?_
    refine x_ifnull h dX5_takeChoice_4 ?_
    refine x_aload_n h dX5_takeChoice_7 rfl ?_
    refine x_bipush h dX5_takeChoice_8 (by decide) ?_
    refine x_cV1 h kVX5_expect lkX5_67 ⟨_, _, _, rfl, rfl⟩ dX5_takeChoice_10 (c_pexpT (d := 0) hL hB hi hki (by omega)) lvz_2 rfl rfl (Nat.le_of_ble_eq_true rfl) (by omega) ?_
    refine x_if_ne_T (tgt := 18) h (by omega) dX5_takeChoice_13 (by decide) (by omega) ?_
    refine x_aload_n h dX5_takeChoice_18 rfl ?_
    refine x_get h fl_5_20 lvz_2 dX5_takeChoice_19 (p1) ?_
    refine x_get (q := vI (ss.length)) h fl_5_153 (lvm_6 (by omega)) dX5_takeChoice_22 (congrArg vI (by first | exact a1 | simp [up3, a1])) ?_
    refine x_istore_n h dX5_takeChoice_25 (by decide) ?_
    refine x_aload_n h dX5_takeChoice_26 rfl ?_
    refine x_get h fl_5_20 lvz_2 dX5_takeChoice_27 (p1) ?_
    refine x_bipush h dX5_takeChoice_30 (by decide) ?_
    refine x_lconst0 h dX5_takeChoice_32 ?_
    refine x_bipush h dX5_takeChoice_33 (by decide) ?_
    refine x_cV0 h kVX0_add lkX5_128 ⟨_, _, _, rfl, rfl⟩ dX5_takeChoice_35 (c1) (lvm_6 (by omega)) rfl rfl (Nat.le_of_ble_eq_true rfl) (by omega) ?_
    refine x_aload_n h dX5_takeChoice_38 rfl ?_
    refine x_iload_n h dX5_takeChoice_39 rfl ?_
    refine x_iconst h dX5_takeChoice_40 ?_
    refine x_iadd h dX5_takeChoice_41 ?_
    refine x_cV1 h kVX5_takeSum lkX5_101 ⟨_, _, _, rfl, rfl⟩ dX5_takeChoice_42 (hct) lvz_2 rfl rfl (Nat.le_of_ble_eq_true rfl) (by omega) ?_
    refine x_if_eq_T (tgt := 57) h (by omega) dX5_takeChoice_45 (by decide) (by omega) ?_
    refine x_iconst h dX5_takeChoice_57 ?_
    exact x_ireturn h hr dX5_takeChoice_58 (Or.inr ⟨rfl, by omega⟩) ⟨Nat.le_refl _, Nat.le_refl _⟩
  | inr t =>
    obtain ⟨i1, u1, s1⟩ := t
    rw [hv] at hres hb
    obtain ⟨rfl, rfl, hi1⟩ := hres
    obtain ⟨b1, b2, b3⟩ := hb
    show ∃ r σ', _ ∧ PRes σ L m ss (if tK (tB σ 11 L) i1 = 58 then _ else _) r σ'
    by_cases h58 : tK (tB σ 11 L) i1 = 58
    · rw [if_pos h58]
      have hn1 := tq_next hB hi1 (by omega)
      have l1 : (ss ++ [((6 : Int), (0 : Int), (-9 : Int))] ++ s1).length = ss.length + 1 + s1.length := by simp only [List.length_append, List.length_cons, List.length_nil]
      have a2 := hlp (i1 + 1) u1 (ss ++ [(6, 0, -9)] ++ s1)
      have p2 := hfp (i1 + 1) u1 (ss ++ [(6, 0, -9)] ++ s1)
      have c2 := c_paddF (d := 0) (σ := σ) (L := L) (i := i1 + 1) (u := u1) (ss := ss ++ [(6, 0, -9)] ++ s1) (x := 5) (y := 0) (z := -9) hm (by omega)
      have l2 : (s1 ++ [((5 : Int), (0 : Int), (-9 : Int))]).length = s1.length + 1 := by simp only [List.length_append, List.length_cons, List.length_nil]
      have p3 := hfp (i1 + 1) u1 (ss ++ [(6, 0, -9)] ++ s1 ++ [(5, 0, -9)])
      have c3 := c_pskip (d := 0) (σ := σ) (L := L) (i := i1 + 1) (u := u1) (s1 := ss) (s2 := s1 ++ [(5, 0, -9)]) (x := 6) (y := 0) (z := -9) hm (by simp only [List.length_append, List.length_cons, List.length_nil]; omega)
      rw [l2, ← List.append_assoc] at c3
      push_cast at c3
      rw [← List.append_assoc] at c3
      obtain ⟨r2, σ2, hct2, hres2⟩ := hS u1 (i1 + 1) (ss ++ [(6, (s1.length : Int) + 1, -9)] ++ s1 ++ [(5, 0, -9)]) b2 (by simp only [List.length_append, List.length_cons, List.length_nil]; omega) hn1.2.1
      have hb2 := hSb u1 (i1 + 1)
      cases hv2 : S u1 (i1 + 1) with
      | inl e =>
        rw [hv2] at hres2
        obtain ⟨rfl, hfl⟩ := hres2
        refine ⟨0, σ2, ?_, ⟨rfl, hfl⟩⟩
        refine ct_of (by decide) (Nat.le_of_ble_eq_true rfl) (fun C h hr _ => ?_)
        have h : Ok C RX5 cX5_takeChoice 4 _ := h
        refine x_aload_n h dX5_takeChoice_0 rfl ?_
        refine x_get h fl_5_20 lvz_2 dX5_takeChoice_1 (p0) ?_
        refine x_ifnull h dX5_takeChoice_4 ?_
        refine x_aload_n h dX5_takeChoice_7 rfl ?_
        refine x_bipush h dX5_takeChoice_8 (by decide) ?_
        refine x_cV1 h kVX5_expect lkX5_67 ⟨_, _, _, rfl, rfl⟩ dX5_takeChoice_10 (c_pexpT (d := 0) hL hB hi hki (by omega)) lvz_2 rfl rfl (Nat.le_of_ble_eq_true rfl) (by omega) ?_
        refine x_if_ne_T (tgt := 18) h (by omega) dX5_takeChoice_13 (by decide) (by omega) ?_
        refine x_aload_n h dX5_takeChoice_18 rfl ?_
        refine x_get h fl_5_20 lvz_2 dX5_takeChoice_19 (p1) ?_
        refine x_get (q := vI (ss.length)) h fl_5_153 (lvm_6 (by omega)) dX5_takeChoice_22 (congrArg vI (by first | exact a1 | simp [up3, a1])) ?_
        refine x_istore_n h dX5_takeChoice_25 (by decide) ?_
        refine x_aload_n h dX5_takeChoice_26 rfl ?_
        refine x_get h fl_5_20 lvz_2 dX5_takeChoice_27 (p1) ?_
        refine x_bipush h dX5_takeChoice_30 (by decide) ?_
        refine x_lconst0 h dX5_takeChoice_32 ?_
        refine x_bipush h dX5_takeChoice_33 (by decide) ?_
        refine x_cV0 h kVX0_add lkX5_128 ⟨_, _, _, rfl, rfl⟩ dX5_takeChoice_35 (c1) (lvm_6 (by omega)) rfl rfl (Nat.le_of_ble_eq_true rfl) (by omega) ?_
        refine x_aload_n h dX5_takeChoice_38 rfl ?_
        refine x_iload_n h dX5_takeChoice_39 rfl ?_
        refine x_iconst h dX5_takeChoice_40 ?_
        refine x_iadd h dX5_takeChoice_41 ?_
        refine x_cV1 h kVX5_takeSum lkX5_101 ⟨_, _, _, rfl, rfl⟩ dX5_takeChoice_42 (hct) lvz_2 rfl rfl (Nat.le_of_ble_eq_true rfl) (by omega) ?_
        refine x_if_eq_F (tgt := 57) h (by omega) dX5_takeChoice_45 (by decide) (by omega) ?_
        refine x_aload_n h dX5_takeChoice_48 rfl ?_
        refine x_bipush h dX5_takeChoice_49 (by decide) ?_
        refine x_cV1 h kVX5_expect lkX5_67 ⟨_, _, _, rfl, rfl⟩ dX5_takeChoice_51 (c_pexpT (d := 0) hL hB hi1 h58 (by omega)) lvz_2 rfl rfl (Nat.le_of_ble_eq_true rfl) (by omega) ?_
        refine x_if_ne_T (tgt := 59) h (by omega) dX5_takeChoice_54 (by decide) (by omega) ?_
        refine x_aload_n h dX5_takeChoice_59 rfl ?_
        refine x_get h fl_5_20 lvz_2 dX5_takeChoice_60 (p2) ?_
        refine x_get (q := vI (((ss ++ [((6 : Int), (0 : Int), (-9 : Int))] ++ s1).length))) h fl_5_153 (lvm_6 (by omega)) dX5_takeChoice_63 (congrArg vI (by first | exact a2 | simp [up3, a2])) ?_
        refine x_istore_n h dX5_takeChoice_66 (by decide) ?_
        refine x_aload_n h dX5_takeChoice_67 rfl ?_
        refine x_get h fl_5_20 lvz_2 dX5_takeChoice_68 (p2) ?_
        refine x_iconst h dX5_takeChoice_71 ?_
        refine x_lconst0 h dX5_takeChoice_72 ?_
        refine x_bipush h dX5_takeChoice_73 (by decide) ?_
        refine x_cV0 h kVX0_add lkX5_128 ⟨_, _, _, rfl, rfl⟩ dX5_takeChoice_75 (c2) (lvm_6 (by omega)) rfl rfl (Nat.le_of_ble_eq_true rfl) (by omega) ?_
        refine x_aload_n h dX5_takeChoice_78 rfl ?_
        refine x_get h fl_5_20 lvz_2 dX5_takeChoice_79 (p3) ?_
        refine x_iload_n h dX5_takeChoice_82 rfl ?_
        refine x_cV0 h kVX0_skipToHere lkX5_156 ⟨_, _, _, rfl, rfl⟩ dX5_takeChoice_83 (c3) (lvm_6 (by omega)) rfl rfl (Nat.le_of_ble_eq_true rfl) (by omega) ?_
        refine x_aload_n h dX5_takeChoice_86 rfl ?_
        refine x_iload_n h dX5_takeChoice_87 rfl ?_
        refine x_iconst h dX5_takeChoice_88 ?_
        refine x_iadd h dX5_takeChoice_89 ?_
        refine x_cV1 h kVX5_takeSum lkX5_101 ⟨_, _, _, rfl, rfl⟩ dX5_takeChoice_90 (hct2) lvz_2 rfl rfl (Nat.le_of_ble_eq_true rfl) (by omega) ?_
        refine x_if_ne_F (tgt := 98) h (by omega) dX5_takeChoice_93 (by decide) (by omega) ?_
        refine x_iconst h dX5_takeChoice_96 ?_
        exact x_ireturn h hr dX5_takeChoice_97 (Or.inr ⟨rfl, by omega⟩) ⟨Nat.le_refl _, Nat.le_refl _⟩
      | inr t =>
        obtain ⟨i2, u2, s2⟩ := t
        rw [hv2] at hres2 hb2
        obtain ⟨rfl, rfl, hi2⟩ := hres2
        obtain ⟨g1, g2, g3⟩ := hb2
        have p4 := hfp i2 u2 (ss ++ [(6, (s1.length : Int) + 1, -9)] ++ s1 ++ [(5, 0, -9)] ++ s2)
        have c4 := c_pskip (d := 0) (σ := σ) (L := L) (i := i2) (u := u2) (s1 := ss ++ [(6, (s1.length : Int) + 1, -9)] ++ s1) (s2 := s2) (x := 5) (y := 0) (z := -9) hm (by simp only [List.length_append, List.length_cons, List.length_nil]; omega)
        rw [show (ss ++ [((6 : Int), (s1.length : Int) + 1, (-9 : Int))] ++ s1).length = (ss ++ [((6 : Int), (0 : Int), (-9 : Int))] ++ s1).length by simp only [List.length_append, List.length_cons, List.length_nil]] at c4
        refine ⟨1, psS σ L m i2 u2 (ss ++ [(6, (s1.length : Int) + 1, -9)] ++ s1 ++ [(5, (s2.length : Int), -9)] ++ s2), ?_, ⟨rfl, ?_, hi2⟩⟩
        · refine ct_of (by decide) (Nat.le_of_ble_eq_true rfl) (fun C h hr _ => ?_)
          have h : Ok C RX5 cX5_takeChoice 4 _ := h
          refine x_aload_n h dX5_takeChoice_0 rfl ?_
          refine x_get h fl_5_20 lvz_2 dX5_takeChoice_1 (p0) ?_
          refine x_ifnull h dX5_takeChoice_4 ?_
          refine x_aload_n h dX5_takeChoice_7 rfl ?_
          refine x_bipush h dX5_takeChoice_8 (by decide) ?_
          refine x_cV1 h kVX5_expect lkX5_67 ⟨_, _, _, rfl, rfl⟩ dX5_takeChoice_10 (c_pexpT (d := 0) hL hB hi hki (by omega)) lvz_2 rfl rfl (Nat.le_of_ble_eq_true rfl) (by omega) ?_
          refine x_if_ne_T (tgt := 18) h (by omega) dX5_takeChoice_13 (by decide) (by omega) ?_
          refine x_aload_n h dX5_takeChoice_18 rfl ?_
          refine x_get h fl_5_20 lvz_2 dX5_takeChoice_19 (p1) ?_
          refine x_get (q := vI (ss.length)) h fl_5_153 (lvm_6 (by omega)) dX5_takeChoice_22 (congrArg vI (by first | exact a1 | simp [up3, a1])) ?_
          refine x_istore_n h dX5_takeChoice_25 (by decide) ?_
          refine x_aload_n h dX5_takeChoice_26 rfl ?_
          refine x_get h fl_5_20 lvz_2 dX5_takeChoice_27 (p1) ?_
          refine x_bipush h dX5_takeChoice_30 (by decide) ?_
          refine x_lconst0 h dX5_takeChoice_32 ?_
          refine x_bipush h dX5_takeChoice_33 (by decide) ?_
          refine x_cV0 h kVX0_add lkX5_128 ⟨_, _, _, rfl, rfl⟩ dX5_takeChoice_35 (c1) (lvm_6 (by omega)) rfl rfl (Nat.le_of_ble_eq_true rfl) (by omega) ?_
          refine x_aload_n h dX5_takeChoice_38 rfl ?_
          refine x_iload_n h dX5_takeChoice_39 rfl ?_
          refine x_iconst h dX5_takeChoice_40 ?_
          refine x_iadd h dX5_takeChoice_41 ?_
          refine x_cV1 h kVX5_takeSum lkX5_101 ⟨_, _, _, rfl, rfl⟩ dX5_takeChoice_42 (hct) lvz_2 rfl rfl (Nat.le_of_ble_eq_true rfl) (by omega) ?_
          refine x_if_eq_F (tgt := 57) h (by omega) dX5_takeChoice_45 (by decide) (by omega) ?_
          refine x_aload_n h dX5_takeChoice_48 rfl ?_
          refine x_bipush h dX5_takeChoice_49 (by decide) ?_
          refine x_cV1 h kVX5_expect lkX5_67 ⟨_, _, _, rfl, rfl⟩ dX5_takeChoice_51 (c_pexpT (d := 0) hL hB hi1 h58 (by omega)) lvz_2 rfl rfl (Nat.le_of_ble_eq_true rfl) (by omega) ?_
          refine x_if_ne_T (tgt := 59) h (by omega) dX5_takeChoice_54 (by decide) (by omega) ?_
          refine x_aload_n h dX5_takeChoice_59 rfl ?_
          refine x_get h fl_5_20 lvz_2 dX5_takeChoice_60 (p2) ?_
          refine x_get (q := vI (((ss ++ [((6 : Int), (0 : Int), (-9 : Int))] ++ s1).length))) h fl_5_153 (lvm_6 (by omega)) dX5_takeChoice_63 (congrArg vI (by first | exact a2 | simp [up3, a2])) ?_
          refine x_istore_n h dX5_takeChoice_66 (by decide) ?_
          refine x_aload_n h dX5_takeChoice_67 rfl ?_
          refine x_get h fl_5_20 lvz_2 dX5_takeChoice_68 (p2) ?_
          refine x_iconst h dX5_takeChoice_71 ?_
          refine x_lconst0 h dX5_takeChoice_72 ?_
          refine x_bipush h dX5_takeChoice_73 (by decide) ?_
          refine x_cV0 h kVX0_add lkX5_128 ⟨_, _, _, rfl, rfl⟩ dX5_takeChoice_75 (c2) (lvm_6 (by omega)) rfl rfl (Nat.le_of_ble_eq_true rfl) (by omega) ?_
          refine x_aload_n h dX5_takeChoice_78 rfl ?_
          refine x_get h fl_5_20 lvz_2 dX5_takeChoice_79 (p3) ?_
          refine x_iload_n h dX5_takeChoice_82 rfl ?_
          refine x_cV0 h kVX0_skipToHere lkX5_156 ⟨_, _, _, rfl, rfl⟩ dX5_takeChoice_83 (c3) (lvm_6 (by omega)) rfl rfl (Nat.le_of_ble_eq_true rfl) (by omega) ?_
          refine x_aload_n h dX5_takeChoice_86 rfl ?_
          refine x_iload_n h dX5_takeChoice_87 rfl ?_
          refine x_iconst h dX5_takeChoice_88 ?_
          refine x_iadd h dX5_takeChoice_89 ?_
          refine x_cV1 h kVX5_takeSum lkX5_101 ⟨_, _, _, rfl, rfl⟩ dX5_takeChoice_90 (hct2) lvz_2 rfl rfl (Nat.le_of_ble_eq_true rfl) (by omega) ?_
          refine x_if_ne_T (tgt := 98) h (by omega) dX5_takeChoice_93 (by decide) (by omega) ?_
          refine x_aload_n h dX5_takeChoice_98 rfl ?_
          refine x_get h fl_5_20 lvz_2 dX5_takeChoice_99 (p4) ?_
          refine x_iload_n h dX5_takeChoice_102 rfl ?_
          refine x_cV0 h kVX0_skipToHere lkX5_156 ⟨_, _, _, rfl, rfl⟩ dX5_takeChoice_103 (c4) (lvm_6 (by omega)) rfl rfl (Nat.le_of_ble_eq_true rfl) (by omega) ?_
          refine x_iconst h dX5_takeChoice_106 ?_
          exact x_ireturn h hr dX5_takeChoice_107 (Or.inr ⟨rfl, by omega⟩) ⟨Nat.le_refl _, Nat.le_refl _⟩
        · simp only [List.append_assoc]
    · rw [if_neg h58]
      refine ⟨0, _, ?_, ⟨rfl, failOk_ps σ L m i1 u1 (ss ++ [(6, 0, -9)] ++ s1) _⟩⟩
      refine ct_of (by decide) (Nat.le_of_ble_eq_true rfl) (fun C h hr _ => ?_)
      have h : Ok C RX5 cX5_takeChoice 4 _ := h
      refine x_aload_n h dX5_takeChoice_0 rfl ?_
      refine x_get h fl_5_20 lvz_2 dX5_takeChoice_1 (p0) ?_
      refine x_ifnull h dX5_takeChoice_4 ?_
      refine x_aload_n h dX5_takeChoice_7 rfl ?_
      refine x_bipush h dX5_takeChoice_8 (by decide) ?_
      refine x_cV1 h kVX5_expect lkX5_67 ⟨_, _, _, rfl, rfl⟩ dX5_takeChoice_10 (c_pexpT (d := 0) hL hB hi hki (by omega)) lvz_2 rfl rfl (Nat.le_of_ble_eq_true rfl) (by omega) ?_
      refine x_if_ne_T (tgt := 18) h (by omega) dX5_takeChoice_13 (by decide) (by omega) ?_
      refine x_aload_n h dX5_takeChoice_18 rfl ?_
      refine x_get h fl_5_20 lvz_2 dX5_takeChoice_19 (p1) ?_
      refine x_get (q := vI (ss.length)) h fl_5_153 (lvm_6 (by omega)) dX5_takeChoice_22 (congrArg vI (by first | exact a1 | simp [up3, a1])) ?_
      refine x_istore_n h dX5_takeChoice_25 (by decide) ?_
      refine x_aload_n h dX5_takeChoice_26 rfl ?_
      refine x_get h fl_5_20 lvz_2 dX5_takeChoice_27 (p1) ?_
      refine x_bipush h dX5_takeChoice_30 (by decide) ?_
      refine x_lconst0 h dX5_takeChoice_32 ?_
      refine x_bipush h dX5_takeChoice_33 (by decide) ?_
      refine x_cV0 h kVX0_add lkX5_128 ⟨_, _, _, rfl, rfl⟩ dX5_takeChoice_35 (c1) (lvm_6 (by omega)) rfl rfl (Nat.le_of_ble_eq_true rfl) (by omega) ?_
      refine x_aload_n h dX5_takeChoice_38 rfl ?_
      refine x_iload_n h dX5_takeChoice_39 rfl ?_
      refine x_iconst h dX5_takeChoice_40 ?_
      refine x_iadd h dX5_takeChoice_41 ?_
      refine x_cV1 h kVX5_takeSum lkX5_101 ⟨_, _, _, rfl, rfl⟩ dX5_takeChoice_42 (hct) lvz_2 rfl rfl (Nat.le_of_ble_eq_true rfl) (by omega) ?_
      refine x_if_eq_F (tgt := 57) h (by omega) dX5_takeChoice_45 (by decide) (by omega) ?_
      refine x_aload_n h dX5_takeChoice_48 rfl ?_
      refine x_bipush h dX5_takeChoice_49 (by decide) ?_
      refine x_cV1 h kVX5_expect lkX5_67 ⟨_, _, _, rfl, rfl⟩ dX5_takeChoice_51 (c_pexpF (d := 0) hB h58 (by omega)) lvz_2 rfl rfl (Nat.le_of_ble_eq_true rfl) (by omega) ?_
      refine x_if_ne_F (tgt := 59) h (by omega) dX5_takeChoice_54 (by decide) (by omega) ?_
      refine x_iconst h dX5_takeChoice_57 ?_
      exact x_ireturn h hr dX5_takeChoice_58 (Or.inr ⟨rfl, by omega⟩) ⟨Nat.le_refl _, Nat.le_refl _⟩
theorem c_group {σ : Mm} {L m dd : Nat} {ar : Int} {S : Nat → Nat → PR} (hL : TapeL σ L) (hB : BOk (tB σ 11 L) L) (hm : m < 24) (hf : σ 2 0 1 = m) (hdd : 6 ≤ dd) (hSb : PU S) (hS : RdOk σ L m dd mX5_takeSum (ar + 1) S) {u i : Nat} {ss : List Zs} (hu : u ≤ 24) (hlen : ss.length ≤ 2 * u) (hi : tq (tB σ 11 L) i ≤ L) (hki : tK (tB σ 11 L) i = 40) :
    ∃ (r : Int) (σ' : Mm), Ct (dd + 2) mX5_takeGroup 1 [vR 2 0, vI ar] NALL (psS σ L m i u ss) (some (vI r)) NALL σ' 0 0 ∧ PRes σ L m ss (grpF (tK (tB σ 11 L)) S u i) r σ' := by
  have hn := tq_next hB hi (by omega)
  obtain ⟨r1, σ1, hct, hres⟩ := hS u (i + 1) ss hu hlen hn.2.1
  have hb := hSb u (i + 1)
  -- the end of a group, from a state behind its SUMS
  have last : ∀ (i' u' : Nat) (s : List Zs), tq (tB σ 11 L) i' ≤ L → ∃ (r : Int) (σ' : Mm), PRes σ L m ss (needR (tK (tB σ 11 L)) 41 i' u' s) r σ' ∧ ∀ C : Cx, Ok C RX5 cX5_takeGroup 2 (dd + 2) → Rt C 1 (some .boolean) (some (vI r)) NALL σ' 0 0 → X C 1 86 [(0, vR 2 0), (1, vI ar)] [] NALL (psS σ L m i' u' (ss ++ s)) 0 0 := by
    intro i' u' s hi'
    unfold needR
    by_cases h41 : tK (tB σ 11 L) i' = 41
    · rw [if_pos h41]
      have hn' := tq_next hB hi' (by omega)
      refine ⟨1, _, ⟨rfl, rfl, hn'.2.1⟩, fun C h hr => ?_⟩
      refine x_aload_n h dX5_takeGroup_86 rfl ?_
      refine x_bipush h dX5_takeGroup_87 (by decide) ?_
      refine x_cV1 h kVX5_expect lkX5_67 ⟨_, _, _, rfl, rfl⟩ dX5_takeGroup_89 (c_pexpT (d := 0) hL hB hi' h41 (by omega)) lvz_2 rfl rfl (Nat.le_of_ble_eq_true rfl) (by omega) ?_
      exact x_ireturn h hr dX5_takeGroup_92 (Or.inr ⟨rfl, by omega⟩) ⟨Nat.le_refl _, Nat.le_refl _⟩
    · rw [if_neg h41]
      refine ⟨0, _, ⟨rfl, failOk_ps σ L m i' u' (ss ++ s) _⟩, fun C h hr => ?_⟩
      refine x_aload_n h dX5_takeGroup_86 rfl ?_
      refine x_bipush h dX5_takeGroup_87 (by decide) ?_
      refine x_cV1 h kVX5_expect lkX5_67 ⟨_, _, _, rfl, rfl⟩ dX5_takeGroup_89 (c_pexpF (d := 0) hB h41 (by omega)) lvz_2 rfl rfl (Nat.le_of_ble_eq_true rfl) (by omega) ?_
      exact x_ireturn h hr dX5_takeGroup_92 (Or.inr ⟨rfl, by omega⟩) ⟨Nat.le_refl _, Nat.le_refl _⟩
  unfold grpF
  cases hv : S u (i + 1) with
  | inl e =>
    rw [hv] at hres
    obtain ⟨rfl, hfl⟩ := hres
    refine ⟨0, σ1, ?_, ⟨rfl, hfl⟩⟩
    refine ct_of (by decide) (Nat.le_of_ble_eq_true rfl) (fun C h hr _ => ?_)
    have h : Ok C RX5 cX5_takeGroup 2 _ := h
    refine x_aload_n h dX5_takeGroup_0 rfl ?_
    refine x_bipush h dX5_takeGroup_1 (by decide) ?_
    refine x_cV1 h kVX5_expect lkX5_67 ⟨_, _, _, rfl, rfl⟩ dX5_takeGroup_3 (c_pexpT (d := 0) hL hB hi hki (by omega)) lvz_2 rfl rfl (Nat.le_of_ble_eq_true rfl) (by omega) ?_
    refine x_if_eq_F (tgt := 19) h (by omega) dX5_takeGroup_6 (by decide) (by omega) ?_
    refine x_aload_n h dX5_takeGroup_9 rfl ?_
    refine x_iload_n h dX5_takeGroup_10 rfl ?_
    refine x_iconst h dX5_takeGroup_11 ?_
    refine x_iadd h dX5_takeGroup_12 ?_
    refine x_cV1 h kVX5_takeSum lkX5_101 ⟨_, _, _, rfl, rfl⟩ dX5_takeGroup_13 (hct) lvz_2 rfl rfl (Nat.le_of_ble_eq_true rfl) (by omega) ?_
    refine x_if_ne_F (tgt := 21) h (by omega) dX5_takeGroup_16 (by decide) (by omega) ?_
    refine x_iconst h dX5_takeGroup_19 ?_
    exact x_ireturn h hr dX5_takeGroup_20 (Or.inr ⟨rfl, by omega⟩) ⟨Nat.le_refl _, Nat.le_refl _⟩
  | inr t =>
    obtain ⟨i0, u0, s0⟩ := t
    rw [hv] at hres hb
    obtain ⟨rfl, rfl, hi0⟩ := hres
    obtain ⟨b1, b2, b3⟩ := hb
    have hk0r := tkK_r hB (tq (tB σ 11 L) i0)
    have hk0e : tK (tB σ 11 L) i0 = tkK (tB σ 11 L) (tq (tB σ 11 L) i0) := rfl
    have ek := psS_kind σ L m i0 u0 (ss ++ s0)
    show ∃ r σ', _ ∧ PRes σ L m ss (if tK (tB σ 11 L) i0 = 60 then _ else _) r σ'
    by_cases h60 : tK (tB σ 11 L) i0 = 60
    · rw [if_pos h60]
      have hn0 := tq_next hB hi0 (by omega)
      obtain ⟨r2, σ2, hct2, hres2⟩ := hS u0 (i0 + 1) (ss ++ s0) b2 (by simp only [List.length_append]; omega) hn0.2.1
      have hb2 := hSb u0 (i0 + 1)
      cases hv2 : S u0 (i0 + 1) with
      | inl e =>
        rw [hv2] at hres2
        obtain ⟨rfl, hfl⟩ := hres2
        refine ⟨0, σ2, ?_, ⟨rfl, hfl⟩⟩
        refine ct_of (by decide) (Nat.le_of_ble_eq_true rfl) (fun C h hr _ => ?_)
        have h : Ok C RX5 cX5_takeGroup 2 _ := h
        refine x_aload_n h dX5_takeGroup_0 rfl ?_
        refine x_bipush h dX5_takeGroup_1 (by decide) ?_
        refine x_cV1 h kVX5_expect lkX5_67 ⟨_, _, _, rfl, rfl⟩ dX5_takeGroup_3 (c_pexpT (d := 0) hL hB hi hki (by omega)) lvz_2 rfl rfl (Nat.le_of_ble_eq_true rfl) (by omega) ?_
        refine x_if_eq_F (tgt := 19) h (by omega) dX5_takeGroup_6 (by decide) (by omega) ?_
        refine x_aload_n h dX5_takeGroup_9 rfl ?_
        refine x_iload_n h dX5_takeGroup_10 rfl ?_
        refine x_iconst h dX5_takeGroup_11 ?_
        refine x_iadd h dX5_takeGroup_12 ?_
        refine x_cV1 h kVX5_takeSum lkX5_101 ⟨_, _, _, rfl, rfl⟩ dX5_takeGroup_13 (hct) lvz_2 rfl rfl (Nat.le_of_ble_eq_true rfl) (by omega) ?_
        refine x_if_ne_T (tgt := 21) h (by omega) dX5_takeGroup_16 (by decide) (by omega) ?_
        refine x_aload_n h dX5_takeGroup_21 rfl ?_
        refine x_get h fl_5_14 lvz_2 dX5_takeGroup_22 (pvf_503 _ _) ?_
        refine x_get (q := vI (tK (tB σ 11 L) i0)) h fl_5_50 lvz_3 dX5_takeGroup_25 (congrArg vI (by first | exact ek | simp [up3, ek])) ?_
        refine x_bipush h dX5_takeGroup_28 (by decide) ?_
        refine x_ic_ne_F (tgt := 64) h (by omega) dX5_takeGroup_30 (by decide) (by omega) ?_
        refine x_aload_n h dX5_takeGroup_33 rfl ?_
        refine x_get h fl_5_14 lvz_2 dX5_takeGroup_34 (pvf_503 _ _) ?_
        refine x_cV0 h kVX6_advance lkX5_64 ⟨_, _, _, rfl, rfl⟩ dX5_takeGroup_37 (c_padv (d := 0) hL hB hi0 (by omega)) lvz_3 rfl rfl (Nat.le_of_ble_eq_true rfl) (by omega) ?_
        refine x_aload_n h dX5_takeGroup_40 rfl ?_
        refine x_iload_n h dX5_takeGroup_41 rfl ?_
        refine x_iconst h dX5_takeGroup_42 ?_
        refine x_iadd h dX5_takeGroup_43 ?_
        refine x_cV1 h kVX5_takeSum lkX5_101 ⟨_, _, _, rfl, rfl⟩ dX5_takeGroup_44 (hct2) lvz_2 rfl rfl (Nat.le_of_ble_eq_true rfl) (by omega) ?_
        refine x_if_ne_F (tgt := 52) h (by omega) dX5_takeGroup_47 (by decide) (by omega) ?_
        refine x_iconst h dX5_takeGroup_50 ?_
        exact x_ireturn h hr dX5_takeGroup_51 (Or.inr ⟨rfl, by omega⟩) ⟨Nat.le_refl _, Nat.le_refl _⟩
      | inr t =>
        obtain ⟨i1, u1, s1⟩ := t
        rw [hv2] at hres2 hb2
        obtain ⟨rfl, rfl, hi1⟩ := hres2
        obtain ⟨g1, g2, g3⟩ := hb2
        obtain ⟨r, σ', hp, hx⟩ := last i1 u1 (s0 ++ s1 ++ [(60, 0, -9)]) hi1
        refine ⟨r, σ', ?_, hp⟩
        have hadd := c_addStep (d := 0) (L := L) (i := i1) (u := u1) (ss := ss ++ s0 ++ s1) (x := 60) (y := 0) (z := -9) hm hf (by simp only [List.length_append]; omega)
        rw [show ss ++ s0 ++ s1 ++ [((60 : Int), (0 : Int), (-9 : Int))] = ss ++ (s0 ++ s1 ++ [(60, 0, -9)]) by simp only [List.append_assoc]] at hadd
        refine ct_of (by decide) (Nat.le_of_ble_eq_true rfl) (fun C h hr _ => ?_)
        have h : Ok C RX5 cX5_takeGroup 2 _ := h
        refine x_aload_n h dX5_takeGroup_0 rfl ?_
        refine x_bipush h dX5_takeGroup_1 (by decide) ?_
        refine x_cV1 h kVX5_expect lkX5_67 ⟨_, _, _, rfl, rfl⟩ dX5_takeGroup_3 (c_pexpT (d := 0) hL hB hi hki (by omega)) lvz_2 rfl rfl (Nat.le_of_ble_eq_true rfl) (by omega) ?_
        refine x_if_eq_F (tgt := 19) h (by omega) dX5_takeGroup_6 (by decide) (by omega) ?_
        refine x_aload_n h dX5_takeGroup_9 rfl ?_
        refine x_iload_n h dX5_takeGroup_10 rfl ?_
        refine x_iconst h dX5_takeGroup_11 ?_
        refine x_iadd h dX5_takeGroup_12 ?_
        refine x_cV1 h kVX5_takeSum lkX5_101 ⟨_, _, _, rfl, rfl⟩ dX5_takeGroup_13 (hct) lvz_2 rfl rfl (Nat.le_of_ble_eq_true rfl) (by omega) ?_
        refine x_if_ne_T (tgt := 21) h (by omega) dX5_takeGroup_16 (by decide) (by omega) ?_
        refine x_aload_n h dX5_takeGroup_21 rfl ?_
        refine x_get h fl_5_14 lvz_2 dX5_takeGroup_22 (pvf_503 _ _) ?_
        refine x_get (q := vI (tK (tB σ 11 L) i0)) h fl_5_50 lvz_3 dX5_takeGroup_25 (congrArg vI (by first | exact ek | simp [up3, ek])) ?_
        refine x_bipush h dX5_takeGroup_28 (by decide) ?_
        refine x_ic_ne_F (tgt := 64) h (by omega) dX5_takeGroup_30 (by decide) (by omega) ?_
        refine x_aload_n h dX5_takeGroup_33 rfl ?_
        refine x_get h fl_5_14 lvz_2 dX5_takeGroup_34 (pvf_503 _ _) ?_
        refine x_cV0 h kVX6_advance lkX5_64 ⟨_, _, _, rfl, rfl⟩ dX5_takeGroup_37 (c_padv (d := 0) hL hB hi0 (by omega)) lvz_3 rfl rfl (Nat.le_of_ble_eq_true rfl) (by omega) ?_
        refine x_aload_n h dX5_takeGroup_40 rfl ?_
        refine x_iload_n h dX5_takeGroup_41 rfl ?_
        refine x_iconst h dX5_takeGroup_42 ?_
        refine x_iadd h dX5_takeGroup_43 ?_
        refine x_cV1 h kVX5_takeSum lkX5_101 ⟨_, _, _, rfl, rfl⟩ dX5_takeGroup_44 (hct2) lvz_2 rfl rfl (Nat.le_of_ble_eq_true rfl) (by omega) ?_
        refine x_if_ne_T (tgt := 52) h (by omega) dX5_takeGroup_47 (by decide) (by omega) ?_
        refine x_aload_n h dX5_takeGroup_52 rfl ?_
        refine x_bipush h dX5_takeGroup_53 (by decide) ?_
        refine x_lconst0 h dX5_takeGroup_55 ?_
        refine x_bipush h dX5_takeGroup_56 (by decide) ?_
        refine x_cV0 h kVX5_addStep lkX5_135 ⟨_, _, _, rfl, rfl⟩ dX5_takeGroup_58 (hadd) lvz_2 rfl rfl (Nat.le_of_ble_eq_true rfl) (by omega) ?_
        refine x_goto (tgt := 86) h dX5_takeGroup_61 (by decide) ?_
        exact hx C h hr
    · rw [if_neg h60]
      by_cases h63 : tK (tB σ 11 L) i0 = 63
      · rw [if_pos h63]
        obtain ⟨r2, σ2, hct2, hres2⟩ := c_choice hL hB hm hf hdd hSb hS (ss := ss ++ s0) b2 (by simp only [List.length_append]; omega) hi0 h63
        cases hv2 : choiF (tK (tB σ 11 L)) S u0 i0 with
        | inl e =>
          rw [hv2] at hres2
          obtain ⟨rfl, hfl⟩ := hres2
          refine ⟨0, σ2, ?_, ⟨rfl, hfl⟩⟩
          refine ct_of (by decide) (Nat.le_of_ble_eq_true rfl) (fun C h hr _ => ?_)
          have h : Ok C RX5 cX5_takeGroup 2 _ := h
          refine x_aload_n h dX5_takeGroup_0 rfl ?_
          refine x_bipush h dX5_takeGroup_1 (by decide) ?_
          refine x_cV1 h kVX5_expect lkX5_67 ⟨_, _, _, rfl, rfl⟩ dX5_takeGroup_3 (c_pexpT (d := 0) hL hB hi hki (by omega)) lvz_2 rfl rfl (Nat.le_of_ble_eq_true rfl) (by omega) ?_
          refine x_if_eq_F (tgt := 19) h (by omega) dX5_takeGroup_6 (by decide) (by omega) ?_
          refine x_aload_n h dX5_takeGroup_9 rfl ?_
          refine x_iload_n h dX5_takeGroup_10 rfl ?_
          refine x_iconst h dX5_takeGroup_11 ?_
          refine x_iadd h dX5_takeGroup_12 ?_
          refine x_cV1 h kVX5_takeSum lkX5_101 ⟨_, _, _, rfl, rfl⟩ dX5_takeGroup_13 (hct) lvz_2 rfl rfl (Nat.le_of_ble_eq_true rfl) (by omega) ?_
          refine x_if_ne_T (tgt := 21) h (by omega) dX5_takeGroup_16 (by decide) (by omega) ?_
          refine x_aload_n h dX5_takeGroup_21 rfl ?_
          refine x_get h fl_5_14 lvz_2 dX5_takeGroup_22 (pvf_503 _ _) ?_
          refine x_get (q := vI (tK (tB σ 11 L) i0)) h fl_5_50 lvz_3 dX5_takeGroup_25 (congrArg vI (by first | exact ek | simp [up3, ek])) ?_
          refine x_bipush h dX5_takeGroup_28 (by decide) ?_
          refine x_ic_ne_T (tgt := 64) h (by omega) dX5_takeGroup_30 (by decide) (by omega) ?_
          refine x_aload_n h dX5_takeGroup_64 rfl ?_
          refine x_get h fl_5_14 lvz_2 dX5_takeGroup_65 (pvf_503 _ _) ?_
          refine x_get (q := vI (tK (tB σ 11 L) i0)) h fl_5_50 lvz_3 dX5_takeGroup_68 (congrArg vI (by first | exact ek | simp [up3, ek])) ?_
          refine x_bipush h dX5_takeGroup_71 (by decide) ?_
          refine x_ic_ne_F (tgt := 86) h (by omega) dX5_takeGroup_73 (by decide) (by omega) ?_
          refine x_aload_n h dX5_takeGroup_76 rfl ?_
          refine x_iload_n h dX5_takeGroup_77 rfl ?_
          refine x_cV1 h kVX5_takeChoice lkX5_150 ⟨_, _, _, rfl, rfl⟩ dX5_takeGroup_78 (hct2) lvz_2 rfl rfl (Nat.le_of_ble_eq_true rfl) (by omega) ?_
          refine x_if_ne_F (tgt := 86) h (by omega) dX5_takeGroup_81 (by decide) (by omega) ?_
          refine x_iconst h dX5_takeGroup_84 ?_
          exact x_ireturn h hr dX5_takeGroup_85 (Or.inr ⟨rfl, by omega⟩) ⟨Nat.le_refl _, Nat.le_refl _⟩
        | inr t =>
          obtain ⟨i1, u1, s1⟩ := t
          rw [hv2] at hres2
          obtain ⟨rfl, rfl, hi1⟩ := hres2
          obtain ⟨r, σ', hp, hx⟩ := last i1 u1 (s0 ++ s1) hi1
          refine ⟨r, σ', ?_, hp⟩
          rw [← List.append_assoc] at hx
          refine ct_of (by decide) (Nat.le_of_ble_eq_true rfl) (fun C h hr _ => ?_)
          have h : Ok C RX5 cX5_takeGroup 2 _ := h
          refine x_aload_n h dX5_takeGroup_0 rfl ?_
          refine x_bipush h dX5_takeGroup_1 (by decide) ?_
          refine x_cV1 h kVX5_expect lkX5_67 ⟨_, _, _, rfl, rfl⟩ dX5_takeGroup_3 (c_pexpT (d := 0) hL hB hi hki (by omega)) lvz_2 rfl rfl (Nat.le_of_ble_eq_true rfl) (by omega) ?_
          refine x_if_eq_F (tgt := 19) h (by omega) dX5_takeGroup_6 (by decide) (by omega) ?_
          refine x_aload_n h dX5_takeGroup_9 rfl ?_
          refine x_iload_n h dX5_takeGroup_10 rfl ?_
          refine x_iconst h dX5_takeGroup_11 ?_
          refine x_iadd h dX5_takeGroup_12 ?_
          refine x_cV1 h kVX5_takeSum lkX5_101 ⟨_, _, _, rfl, rfl⟩ dX5_takeGroup_13 (hct) lvz_2 rfl rfl (Nat.le_of_ble_eq_true rfl) (by omega) ?_
          refine x_if_ne_T (tgt := 21) h (by omega) dX5_takeGroup_16 (by decide) (by omega) ?_
          refine x_aload_n h dX5_takeGroup_21 rfl ?_
          refine x_get h fl_5_14 lvz_2 dX5_takeGroup_22 (pvf_503 _ _) ?_
          refine x_get (q := vI (tK (tB σ 11 L) i0)) h fl_5_50 lvz_3 dX5_takeGroup_25 (congrArg vI (by first | exact ek | simp [up3, ek])) ?_
          refine x_bipush h dX5_takeGroup_28 (by decide) ?_
          refine x_ic_ne_T (tgt := 64) h (by omega) dX5_takeGroup_30 (by decide) (by omega) ?_
          refine x_aload_n h dX5_takeGroup_64 rfl ?_
          refine x_get h fl_5_14 lvz_2 dX5_takeGroup_65 (pvf_503 _ _) ?_
          refine x_get (q := vI (tK (tB σ 11 L) i0)) h fl_5_50 lvz_3 dX5_takeGroup_68 (congrArg vI (by first | exact ek | simp [up3, ek])) ?_
          refine x_bipush h dX5_takeGroup_71 (by decide) ?_
          refine x_ic_ne_F (tgt := 86) h (by omega) dX5_takeGroup_73 (by decide) (by omega) ?_
          refine x_aload_n h dX5_takeGroup_76 rfl ?_
          refine x_iload_n h dX5_takeGroup_77 rfl ?_
          refine x_cV1 h kVX5_takeChoice lkX5_150 ⟨_, _, _, rfl, rfl⟩ dX5_takeGroup_78 (hct2) lvz_2 rfl rfl (Nat.le_of_ble_eq_true rfl) (by omega) ?_
          refine x_if_ne_T (tgt := 86) h (by omega) dX5_takeGroup_81 (by decide) (by omega) ?_
          exact hx C h hr
      · rw [if_neg h63]
        obtain ⟨r, σ', hp, hx⟩ := last i0 u0 s0 hi0
        refine ⟨r, σ', ?_, hp⟩
        refine ct_of (by decide) (Nat.le_of_ble_eq_true rfl) (fun C h hr _ => ?_)
        have h : Ok C RX5 cX5_takeGroup 2 _ := h
        refine x_aload_n h dX5_takeGroup_0 rfl ?_
        refine x_bipush h dX5_takeGroup_1 (by decide) ?_
        refine x_cV1 h kVX5_expect lkX5_67 ⟨_, _, _, rfl, rfl⟩ dX5_takeGroup_3 (c_pexpT (d := 0) hL hB hi hki (by omega)) lvz_2 rfl rfl (Nat.le_of_ble_eq_true rfl) (by omega) ?_
        refine x_if_eq_F (tgt := 19) h (by omega) dX5_takeGroup_6 (by decide) (by omega) ?_
        refine x_aload_n h dX5_takeGroup_9 rfl ?_
        refine x_iload_n h dX5_takeGroup_10 rfl ?_
        refine x_iconst h dX5_takeGroup_11 ?_
        refine x_iadd h dX5_takeGroup_12 ?_
        refine x_cV1 h kVX5_takeSum lkX5_101 ⟨_, _, _, rfl, rfl⟩ dX5_takeGroup_13 (hct) lvz_2 rfl rfl (Nat.le_of_ble_eq_true rfl) (by omega) ?_
        refine x_if_ne_T (tgt := 21) h (by omega) dX5_takeGroup_16 (by decide) (by omega) ?_
        refine x_aload_n h dX5_takeGroup_21 rfl ?_
        refine x_get h fl_5_14 lvz_2 dX5_takeGroup_22 (pvf_503 _ _) ?_
        refine x_get (q := vI (tK (tB σ 11 L) i0)) h fl_5_50 lvz_3 dX5_takeGroup_25 (congrArg vI (by first | exact ek | simp [up3, ek])) ?_
        refine x_bipush h dX5_takeGroup_28 (by decide) ?_
        refine x_ic_ne_T (tgt := 64) h (by omega) dX5_takeGroup_30 (by decide) (by omega) ?_
        refine x_aload_n h dX5_takeGroup_64 rfl ?_
        refine x_get h fl_5_14 lvz_2 dX5_takeGroup_65 (pvf_503 _ _) ?_
        refine x_get (q := vI (tK (tB σ 11 L) i0)) h fl_5_50 lvz_3 dX5_takeGroup_68 (congrArg vI (by first | exact ek | simp [up3, ek])) ?_
        refine x_bipush h dX5_takeGroup_71 (by decide) ?_
        refine x_ic_ne_T (tgt := 86) h (by omega) dX5_takeGroup_73 (by decide) (by omega) ?_
        exact hx C h hr
theorem psS_units (σ : Mm) (L m i u : Nat) (ss : List Zs) : up3 (psS σ L m i u ss) 2 0 2 ((u : Int) + 1) = psS σ L m i (u + 1) ss := by
  unfold psS
  rw [psT_u]
  push_cast
  rfl
theorem psS_r2 (σ : Mm) (L m i u : Nat) (ss : List Zs) : psS σ L m i u ss 2 0 2 = u := by unfold psS; exact psT_r2 _ _ _ _ _ _ _ _
/-- UNITS, at any depth -/
theorem c_unit {σ : Mm} {L m : Nat} (hL : TapeL σ L) (hB : BOk (tB σ 11 L) L) (hm : m < 24) (hf : σ 2 0 1 = m) : ∀ δ : Nat, δ ≤ 11 → RdOk σ L m (5 * δ + 6) mX5_takeUnit (11 - δ) (UnF σ L δ) := by
  intro δ
  induction δ with
  | zero =>
    intro _ u i ss hu hlen hi
    refine ⟨0, _, ?_, ⟨rfl, failOk_ps σ L m i u ss _⟩⟩
    have e2 := psS_r2 σ L m i u ss
    have hfh := c_faultHere (d := 0) (psS_place σ L m i u ss)
    refine ct_of (by decide) (Nat.le_of_ble_eq_true rfl) (fun C h hr _ => ?_)
    have h : Ok C RX5 cX5_takeUnit 2 _ := h
    rcases Nat.lt_or_ge u 24 with h24 | h24
    · refine x_aload_n h dX5_takeUnit_0 rfl ?_
      refine x_get (q := vI (u)) h fl_5_24 lvz_2 dX5_takeUnit_1 (congrArg vI (by first | exact e2 | simp [up3, e2])) ?_
      refine x_bipush h dX5_takeUnit_4 (by decide) ?_
      refine x_ic_ge_F (tgt := 15) h (by omega) dX5_takeUnit_6 (by decide) (by omega) ?_
      refine x_iload_n h dX5_takeUnit_9 rfl ?_
      refine x_bipush h dX5_takeUnit_10 (by decide) ?_
      refine x_ic_le_F (tgt := 20) h (by omega) dX5_takeUnit_12 (by decide) (by omega) ?_
      refine x_aload_n h dX5_takeUnit_15 rfl ?_
      refine x_cV1 h kVX5_faultHere lkX5_60 ⟨_, _, _, rfl, rfl⟩ dX5_takeUnit_16 (hfh) lvz_2 rfl rfl (Nat.le_of_ble_eq_true rfl) (by omega) ?_
      exact x_ireturn h hr dX5_takeUnit_19 (Or.inr ⟨rfl, by omega⟩) ⟨Nat.le_refl _, Nat.le_refl _⟩
    · refine x_aload_n h dX5_takeUnit_0 rfl ?_
      refine x_get (q := vI (u)) h fl_5_24 lvz_2 dX5_takeUnit_1 (congrArg vI (by first | exact e2 | simp [up3, e2])) ?_
      refine x_bipush h dX5_takeUnit_4 (by decide) ?_
      refine x_ic_ge_T (tgt := 15) h (by omega) dX5_takeUnit_6 (by decide) (by omega) ?_
      refine x_aload_n h dX5_takeUnit_15 rfl ?_
      refine x_cV1 h kVX5_faultHere lkX5_60 ⟨_, _, _, rfl, rfl⟩ dX5_takeUnit_16 (hfh) lvz_2 rfl rfl (Nat.le_of_ble_eq_true rfl) (by omega) ?_
      exact x_ireturn h hr dX5_takeUnit_19 (Or.inr ⟨rfl, by omega⟩) ⟨Nat.le_refl _, Nat.le_refl _⟩
  | succ δ ih =>
    intro hδ u i ss hu hlen hi
    have e2 := psS_r2 σ L m i u ss
    have hkr := tkK_r hB (tq (tB σ 11 L) i)
    have hke : tK (tB σ 11 L) i = tkK (tB σ 11 L) (tq (tB σ 11 L) i) := rfl
    unfold UnF uF
    rcases Nat.lt_or_ge u 24 with h24 | h24
    rotate_left
    · rw [if_pos h24]
      refine ⟨0, _, ?_, ⟨rfl, failOk_ps σ L m i u ss _⟩⟩
      have hfh := c_faultHere (d := 0) (psS_place σ L m i u ss)
      refine ct_of (by decide) (Nat.le_of_ble_eq_true rfl) (fun C h hr _ => ?_)
      have h : Ok C RX5 cX5_takeUnit 2 _ := h
      refine x_aload_n h dX5_takeUnit_0 rfl ?_
      refine x_get (q := vI (u)) h fl_5_24 lvz_2 dX5_takeUnit_1 (congrArg vI (by first | exact e2 | simp [up3, e2])) ?_
      refine x_bipush h dX5_takeUnit_4 (by decide) ?_
      refine x_ic_ge_T (tgt := 15) h (by omega) dX5_takeUnit_6 (by decide) (by omega) ?_
      refine x_aload_n h dX5_takeUnit_15 rfl ?_
      refine x_cV1 h kVX5_faultHere lkX5_60 ⟨_, _, _, rfl, rfl⟩ dX5_takeUnit_16 (hfh) lvz_2 rfl rfl (Nat.le_of_ble_eq_true rfl) (by omega) ?_
      exact x_ireturn h hr dX5_takeUnit_19 (Or.inr ⟨rfl, by omega⟩) ⟨Nat.le_refl _, Nat.le_refl _⟩
    rw [if_neg (by omega)]
    have hU := ih (by omega)
    have hun : PU (UnF σ L δ) := uF_b _ _ _ _
    have hS := c_sum hL hB hm hf (by omega) hun hU
    have har : (11 : Int) - (δ : Nat) = (11 - ((δ + 1 : Nat) : Int)) + 1 := by push_cast; omega
    rw [har] at hS hU
    have hSb : PU (sumF (tK (tB σ 11 L)) (UnF σ L δ)) := sumF_b hun
    have ek := psS_kind σ L m i (u + 1) ss
    have ev := psS_value σ L m i (u + 1) ss
    -- to the switch
    have head : ∀ C : Cx, Ok C RX5 cX5_takeUnit 2 (5 * (δ + 1) + 6) → X C 1 37 [(0, vR 2 0), (1, vI (11 - ((δ + 1 : Nat) : Int)))] [vI (tK (tB σ 11 L) i)] NALL (psS σ L m i (u + 1) ss) 0 0 → X C 1 0 [(0, vR 2 0), (1, vI (11 - ((δ + 1 : Nat) : Int)))] [] NALL (psS σ L m i u ss) 0 0 := by
      intro C h k1
      refine x_aload_n h dX5_takeUnit_0 rfl ?_
      refine x_get (q := vI (u)) h fl_5_24 lvz_2 dX5_takeUnit_1 (congrArg vI (by first | exact e2 | simp [up3, e2])) ?_
      refine x_bipush h dX5_takeUnit_4 (by decide) ?_
      refine x_ic_ge_F (tgt := 15) h (by omega) dX5_takeUnit_6 (by decide) (by omega) ?_
      refine x_iload_n h dX5_takeUnit_9 rfl ?_
      refine x_bipush h dX5_takeUnit_10 (by decide) ?_
      refine x_ic_le_T (tgt := 20) h (by omega) dX5_takeUnit_12 (by decide) (by omega) ?_
      refine x_aload_n h dX5_takeUnit_20 rfl ?_
      refine x_dup h dX5_takeUnit_21 rfl ?_
      refine x_get (q := vI (u)) h fl_5_24 lvz_2 dX5_takeUnit_22 (congrArg vI (by first | exact e2 | simp [up3, e2])) ?_
      refine x_iconst h dX5_takeUnit_25 ?_
      refine x_iadd h dX5_takeUnit_26 ?_
      refine x_put h fl_5_24 lvz_2 dX5_takeUnit_27 rfl (fun z => absurd z (by decide)) ?_
      rw [psS_units]
      refine x_aload_n h dX5_takeUnit_30 rfl ?_
      refine x_get h fl_5_14 lvz_2 dX5_takeUnit_31 (pvf_503 _ _) ?_
      refine x_get (q := vI (tK (tB σ 11 L) i)) h fl_5_50 lvz_3 dX5_takeUnit_34 (congrArg vI (by first | exact ek | simp [up3, ek])) ?_
      exact k1
    by_cases k1 : tK (tB σ 11 L) i = 1
    · rw [if_pos k1]
      have hn := tq_next hB hi (by omega)
      refine ⟨1, psS σ L m (i + 1) (u + 1) (ss ++ [(0, tV (tB σ 11 L) i, -9)]), ?_, ⟨rfl, rfl, hn.2.1⟩⟩
      have hadd := c_addStep (d := 0) (L := L) (i := i) (u := u + 1) (ss := ss) (x := 0) (y := tV (tB σ 11 L) i) (z := -9) hm hf (by omega)
      refine ct_of (by decide) (Nat.le_of_ble_eq_true rfl) (fun C h hr _ => ?_)
      have h : Ok C RX5 cX5_takeUnit 2 _ := h
      refine head C h ?_
      refine x_ls (tgt := 96) h dX5_takeUnit_37 (by decide) (by omega) (off := 59) (by rw [k1]; rfl) (by decide) ?_
      refine x_aload_n h dX5_takeUnit_96 rfl ?_
      refine x_iconst h dX5_takeUnit_97 ?_
      refine x_aload_n h dX5_takeUnit_98 rfl ?_
      refine x_get h fl_5_14 lvz_2 dX5_takeUnit_99 (pvf_503 _ _) ?_
      refine x_get (q := vL (tV (tB σ 11 L) i)) h fl_5_71 lvz_3 dX5_takeUnit_102 (congrArg vL (by first | exact ev | simp [up3, ev])) ?_
      refine x_bipush h dX5_takeUnit_105 (by decide) ?_
      refine x_cV0 h kVX5_addStep lkX5_135 ⟨_, _, _, rfl, rfl⟩ dX5_takeUnit_107 (hadd) lvz_2 rfl rfl (Nat.le_of_ble_eq_true rfl) (by omega) ?_
      refine x_aload_n h dX5_takeUnit_110 rfl ?_
      refine x_iconst h dX5_takeUnit_111 ?_
      refine x_cV1 h kVX5_expect lkX5_67 ⟨_, _, _, rfl, rfl⟩ dX5_takeUnit_112 (c_pexpT (d := 0) hL hB hi k1 (by omega)) lvz_2 rfl rfl (Nat.le_of_ble_eq_true rfl) (by omega) ?_
      exact x_ireturn h hr dX5_takeUnit_115 (Or.inr ⟨rfl, by omega⟩) ⟨Nat.le_refl _, Nat.le_refl _⟩
    rw [if_neg k1]
    by_cases k8 : tK (tB σ 11 L) i = 8
    · rw [if_pos k8]
      have hn := tq_next hB hi (by omega)
      refine ⟨1, psS σ L m (i + 1) (u + 1) (ss ++ [(1, 0, -9)]), ?_, ⟨rfl, rfl, hn.2.1⟩⟩
      have hadd := c_addStep (d := 0) (L := L) (i := i) (u := u + 1) (ss := ss) (x := 1) (y := 0) (z := -9) hm hf (by omega)
      refine ct_of (by decide) (Nat.le_of_ble_eq_true rfl) (fun C h hr _ => ?_)
      have h : Ok C RX5 cX5_takeUnit 2 _ := h
      refine head C h ?_
      refine x_ls (tgt := 116) h dX5_takeUnit_37 (by decide) (by omega) (off := 79) (by rw [k8]; rfl) (by decide) ?_
      refine x_aload_n h dX5_takeUnit_116 rfl ?_
      refine x_iconst h dX5_takeUnit_117 ?_
      refine x_lconst0 h dX5_takeUnit_118 ?_
      refine x_bipush h dX5_takeUnit_119 (by decide) ?_
      refine x_cV0 h kVX5_addStep lkX5_135 ⟨_, _, _, rfl, rfl⟩ dX5_takeUnit_121 (hadd) lvz_2 rfl rfl (Nat.le_of_ble_eq_true rfl) (by omega) ?_
      refine x_aload_n h dX5_takeUnit_124 rfl ?_
      refine x_bipush h dX5_takeUnit_125 (by decide) ?_
      refine x_cV1 h kVX5_expect lkX5_67 ⟨_, _, _, rfl, rfl⟩ dX5_takeUnit_127 (c_pexpT (d := 0) hL hB hi k8 (by omega)) lvz_2 rfl rfl (Nat.le_of_ble_eq_true rfl) (by omega) ?_
      exact x_ireturn h hr dX5_takeUnit_130 (Or.inr ⟨rfl, by omega⟩) ⟨Nat.le_refl _, Nat.le_refl _⟩
    rw [if_neg k8]
    by_cases k35 : tK (tB σ 11 L) i = 35
    · rw [if_pos k35]
      have hn := tq_next hB hi (by omega)
      have ev2 := psS_value σ L m (i + 1) (u + 1) ss
      have ep2 := psS_place σ L m (i + 1) (u + 1) ss
      have hadd := c_addStep (d := 0) (L := L) (i := i + 1) (u := u + 1) (ss := ss) (x := 2) (y := tV (tB σ 11 L) (i + 1)) (z := tQ (tB σ 11 L) (i + 1)) hm hf (by omega)
      unfold needR
      by_cases k2 : tK (tB σ 11 L) (i + 1) = 2
      · rw [if_pos k2]
        have hn2 := tq_next hB hn.2.1 (by omega)
        refine ⟨1, psS σ L m (i + 1 + 1) (u + 1) (ss ++ [(2, tV (tB σ 11 L) (i + 1), tQ (tB σ 11 L) (i + 1))]), ?_, ⟨rfl, rfl, hn2.2.1⟩⟩
        refine ct_of (by decide) (Nat.le_of_ble_eq_true rfl) (fun C h hr _ => ?_)
        have h : Ok C RX5 cX5_takeUnit 2 _ := h
        refine head C h ?_
        refine x_ls (tgt := 131) h dX5_takeUnit_37 (by decide) (by omega) (off := 94) (by rw [k35]; rfl) (by decide) ?_
        refine x_aload_n h dX5_takeUnit_131 rfl ?_
        refine x_get h fl_5_14 lvz_2 dX5_takeUnit_132 (pvf_503 _ _) ?_
        refine x_cV0 h kVX6_advance lkX5_64 ⟨_, _, _, rfl, rfl⟩ dX5_takeUnit_135 (c_padv (d := 0) hL hB hi (by omega)) lvz_3 rfl rfl (Nat.le_of_ble_eq_true rfl) (by omega) ?_
        refine x_aload_n h dX5_takeUnit_138 rfl ?_
        refine x_iconst h dX5_takeUnit_139 ?_
        refine x_aload_n h dX5_takeUnit_140 rfl ?_
        refine x_get h fl_5_14 lvz_2 dX5_takeUnit_141 (pvf_503 _ _) ?_
        refine x_get (q := vL (tV (tB σ 11 L) (i + 1))) h fl_5_71 lvz_3 dX5_takeUnit_144 (congrArg vL (by first | exact ev2 | simp [up3, ev2])) ?_
        refine x_aload_n h dX5_takeUnit_147 rfl ?_
        refine x_get h fl_5_14 lvz_2 dX5_takeUnit_148 (pvf_503 _ _) ?_
        refine x_get (q := vI (tQ (tB σ 11 L) (i + 1))) h fl_5_53 lvz_3 dX5_takeUnit_151 (congrArg vI (by first | exact ep2 | simp [up3, ep2])) ?_
        refine x_cV0 h kVX5_addStep lkX5_135 ⟨_, _, _, rfl, rfl⟩ dX5_takeUnit_154 (hadd) lvz_2 rfl rfl (Nat.le_of_ble_eq_true rfl) (by omega) ?_
        refine x_aload_n h dX5_takeUnit_157 rfl ?_
        refine x_iconst h dX5_takeUnit_158 ?_
        refine x_cV1 h kVX5_expect lkX5_67 ⟨_, _, _, rfl, rfl⟩ dX5_takeUnit_159 (c_pexpT (d := 0) hL hB hn.2.1 k2 (by omega)) lvz_2 rfl rfl (Nat.le_of_ble_eq_true rfl) (by omega) ?_
        exact x_ireturn h hr dX5_takeUnit_162 (Or.inr ⟨rfl, by omega⟩) ⟨Nat.le_refl _, Nat.le_refl _⟩
      · rw [if_neg k2]
        refine ⟨0, _, ?_, ⟨rfl, failOk_ps σ L m (i + 1) (u + 1) (ss ++ [(2, tV (tB σ 11 L) (i + 1), tQ (tB σ 11 L) (i + 1))]) _⟩⟩
        refine ct_of (by decide) (Nat.le_of_ble_eq_true rfl) (fun C h hr _ => ?_)
        have h : Ok C RX5 cX5_takeUnit 2 _ := h
        refine head C h ?_
        refine x_ls (tgt := 131) h dX5_takeUnit_37 (by decide) (by omega) (off := 94) (by rw [k35]; rfl) (by decide) ?_
        refine x_aload_n h dX5_takeUnit_131 rfl ?_
        refine x_get h fl_5_14 lvz_2 dX5_takeUnit_132 (pvf_503 _ _) ?_
        refine x_cV0 h kVX6_advance lkX5_64 ⟨_, _, _, rfl, rfl⟩ dX5_takeUnit_135 (c_padv (d := 0) hL hB hi (by omega)) lvz_3 rfl rfl (Nat.le_of_ble_eq_true rfl) (by omega) ?_
        refine x_aload_n h dX5_takeUnit_138 rfl ?_
        refine x_iconst h dX5_takeUnit_139 ?_
        refine x_aload_n h dX5_takeUnit_140 rfl ?_
        refine x_get h fl_5_14 lvz_2 dX5_takeUnit_141 (pvf_503 _ _) ?_
        refine x_get (q := vL (tV (tB σ 11 L) (i + 1))) h fl_5_71 lvz_3 dX5_takeUnit_144 (congrArg vL (by first | exact ev2 | simp [up3, ev2])) ?_
        refine x_aload_n h dX5_takeUnit_147 rfl ?_
        refine x_get h fl_5_14 lvz_2 dX5_takeUnit_148 (pvf_503 _ _) ?_
        refine x_get (q := vI (tQ (tB σ 11 L) (i + 1))) h fl_5_53 lvz_3 dX5_takeUnit_151 (congrArg vI (by first | exact ep2 | simp [up3, ep2])) ?_
        refine x_cV0 h kVX5_addStep lkX5_135 ⟨_, _, _, rfl, rfl⟩ dX5_takeUnit_154 (hadd) lvz_2 rfl rfl (Nat.le_of_ble_eq_true rfl) (by omega) ?_
        refine x_aload_n h dX5_takeUnit_157 rfl ?_
        refine x_iconst h dX5_takeUnit_158 ?_
        refine x_cV1 h kVX5_expect lkX5_67 ⟨_, _, _, rfl, rfl⟩ dX5_takeUnit_159 (c_pexpF (d := 0) hB k2 (by omega)) lvz_2 rfl rfl (Nat.le_of_ble_eq_true rfl) (by omega) ?_
        exact x_ireturn h hr dX5_takeUnit_162 (Or.inr ⟨rfl, by omega⟩) ⟨Nat.le_refl _, Nat.le_refl _⟩
    rw [if_neg k35]
    by_cases k2 : tK (tB σ 11 L) i = 2
    · rw [if_pos k2]
      obtain ⟨r, σ', hct, hres⟩ := c_entry hL hB hm hf (by omega) hSb hS (u := u + 1) (ss := ss) (by omega) (by omega) hi k2
      refine ⟨r, σ', ?_, hres⟩
      have hr01 : r = 0 ∨ r = 1 := by
        unfold PRes at hres
        split at hres
        · exact Or.inl hres.1
        · exact Or.inr hres.1
      refine ct_of (by decide) (Nat.le_of_ble_eq_true rfl) (fun C h hr _ => ?_)
      have h : Ok C RX5 cX5_takeUnit 2 _ := h
      refine head C h ?_
      refine x_ls (tgt := 163) h dX5_takeUnit_37 (by decide) (by omega) (off := 126) (by rw [k2]; rfl) (by decide) ?_
      refine x_aload_n h dX5_takeUnit_163 rfl ?_
      refine x_iload_n h dX5_takeUnit_164 rfl ?_
      refine x_cV1 h kVX5_takeEntry lkX5_144 ⟨_, _, _, rfl, rfl⟩ dX5_takeUnit_165 (hct) lvz_2 rfl rfl (Nat.le_of_ble_eq_true rfl) (by omega) ?_
      exact x_ireturn h hr dX5_takeUnit_168 (Or.inr ⟨rfl, by omega⟩) ⟨Nat.le_refl _, Nat.le_refl _⟩
    rw [if_neg k2]
    by_cases k45 : tK (tB σ 11 L) i = 45
    · rw [if_pos k45]
      have hn := tq_next hB hi (by omega)
      obtain ⟨r1, σ1, hct, hres⟩ := hU (u + 1) (i + 1) ss (by omega) (by omega) hn.2.1
      have hb := hun (u + 1) (i + 1)
      cases hv : uF (tK (tB σ 11 L)) (tV (tB σ 11 L)) (tQ (tB σ 11 L)) δ (u + 1) (i + 1) with
      | inl e =>
        unfold UnF at hres
        rw [hv] at hres
        obtain ⟨rfl, hfl⟩ := hres
        refine ⟨0, σ1, ?_, ⟨rfl, hfl⟩⟩
        refine ct_of (by decide) (Nat.le_of_ble_eq_true rfl) (fun C h hr _ => ?_)
        have h : Ok C RX5 cX5_takeUnit 2 _ := h
        refine head C h ?_
        refine x_ls (tgt := 169) h dX5_takeUnit_37 (by decide) (by omega) (off := 132) (by rw [k45]; rfl) (by decide) ?_
        refine x_aload_n h dX5_takeUnit_169 rfl ?_
        refine x_get h fl_5_14 lvz_2 dX5_takeUnit_170 (pvf_503 _ _) ?_
        refine x_cV0 h kVX6_advance lkX5_64 ⟨_, _, _, rfl, rfl⟩ dX5_takeUnit_173 (c_padv (d := 0) hL hB hi (by omega)) lvz_3 rfl rfl (Nat.le_of_ble_eq_true rfl) (by omega) ?_
        refine x_aload_n h dX5_takeUnit_176 rfl ?_
        refine x_iload_n h dX5_takeUnit_177 rfl ?_
        refine x_iconst h dX5_takeUnit_178 ?_
        refine x_iadd h dX5_takeUnit_179 ?_
        refine x_cV1 h kVX5_takeUnit lkX5_138 ⟨_, _, _, rfl, rfl⟩ dX5_takeUnit_180 (hct) lvz_2 rfl rfl (Nat.le_of_ble_eq_true rfl) (by omega) ?_
        refine x_if_ne_F (tgt := 188) h (by omega) dX5_takeUnit_183 (by decide) (by omega) ?_
        refine x_iconst h dX5_takeUnit_186 ?_
        exact x_ireturn h hr dX5_takeUnit_187 (Or.inr ⟨rfl, by omega⟩) ⟨Nat.le_refl _, Nat.le_refl _⟩
      | inr t =>
        obtain ⟨i', u', s⟩ := t
        unfold UnF at hres hb
        rw [hv] at hres hb
        obtain ⟨rfl, rfl, hi'⟩ := hres
        obtain ⟨b1, b2, b3⟩ := hb
        refine ⟨1, psS σ L m i' u' (ss ++ (s ++ [(4, 0, -9)])), ?_, ⟨rfl, rfl, hi'⟩⟩
        have hadd := c_addStep (d := 0) (L := L) (i := i') (u := u') (ss := ss ++ s) (x := 4) (y := 0) (z := -9) hm hf (by simp only [List.length_append]; omega)
        rw [List.append_assoc] at hadd
        refine ct_of (by decide) (Nat.le_of_ble_eq_true rfl) (fun C h hr _ => ?_)
        have h : Ok C RX5 cX5_takeUnit 2 _ := h
        refine head C h ?_
        refine x_ls (tgt := 169) h dX5_takeUnit_37 (by decide) (by omega) (off := 132) (by rw [k45]; rfl) (by decide) ?_
        refine x_aload_n h dX5_takeUnit_169 rfl ?_
        refine x_get h fl_5_14 lvz_2 dX5_takeUnit_170 (pvf_503 _ _) ?_
        refine x_cV0 h kVX6_advance lkX5_64 ⟨_, _, _, rfl, rfl⟩ dX5_takeUnit_173 (c_padv (d := 0) hL hB hi (by omega)) lvz_3 rfl rfl (Nat.le_of_ble_eq_true rfl) (by omega) ?_
        refine x_aload_n h dX5_takeUnit_176 rfl ?_
        refine x_iload_n h dX5_takeUnit_177 rfl ?_
        refine x_iconst h dX5_takeUnit_178 ?_
        refine x_iadd h dX5_takeUnit_179 ?_
        refine x_cV1 h kVX5_takeUnit lkX5_138 ⟨_, _, _, rfl, rfl⟩ dX5_takeUnit_180 (hct) lvz_2 rfl rfl (Nat.le_of_ble_eq_true rfl) (by omega) ?_
        refine x_if_ne_T (tgt := 188) h (by omega) dX5_takeUnit_183 (by decide) (by omega) ?_
        refine x_aload_n h dX5_takeUnit_188 rfl ?_
        refine x_iconst h dX5_takeUnit_189 ?_
        refine x_lconst0 h dX5_takeUnit_190 ?_
        refine x_bipush h dX5_takeUnit_191 (by decide) ?_
        refine x_cV0 h kVX5_addStep lkX5_135 ⟨_, _, _, rfl, rfl⟩ dX5_takeUnit_193 (hadd) lvz_2 rfl rfl (Nat.le_of_ble_eq_true rfl) (by omega) ?_
        refine x_iconst h dX5_takeUnit_196 ?_
        exact x_ireturn h hr dX5_takeUnit_197 (Or.inr ⟨rfl, by omega⟩) ⟨Nat.le_refl _, Nat.le_refl _⟩
    rw [if_neg k45]
    by_cases k40 : tK (tB σ 11 L) i = 40
    · rw [if_pos k40]
      obtain ⟨r, σ', hct, hres⟩ := c_group hL hB hm hf (by omega) hSb hS (u := u + 1) (ss := ss) (by omega) (by omega) hi k40
      refine ⟨r, σ', ?_, hres⟩
      have hr01 : r = 0 ∨ r = 1 := by
        unfold PRes at hres
        split at hres
        · exact Or.inl hres.1
        · exact Or.inr hres.1
      refine ct_of (by decide) (Nat.le_of_ble_eq_true rfl) (fun C h hr _ => ?_)
      have h : Ok C RX5 cX5_takeUnit 2 _ := h
      refine head C h ?_
      refine x_ls (tgt := 198) h dX5_takeUnit_37 (by decide) (by omega) (off := 161) (by rw [k40]; rfl) (by decide) ?_
      refine x_aload_n h dX5_takeUnit_198 rfl ?_
      refine x_iload_n h dX5_takeUnit_199 rfl ?_
      refine x_cV1 h kVX5_takeGroup lkX5_147 ⟨_, _, _, rfl, rfl⟩ dX5_takeUnit_200 (hct) lvz_2 rfl rfl (Nat.le_of_ble_eq_true rfl) (by omega) ?_
      exact x_ireturn h hr dX5_takeUnit_203 (Or.inr ⟨rfl, by omega⟩) ⟨Nat.le_refl _, Nat.le_refl _⟩
    rw [if_neg k40]
    refine ⟨0, _, ?_, ⟨rfl, failOk_ps σ L m i (u + 1) ss _⟩⟩
    refine ct_of (by decide) (Nat.le_of_ble_eq_true rfl) (fun C h hr _ => ?_)
    have h : Ok C RX5 cX5_takeUnit 2 _ := h
    refine head C h ?_
    refine x_ls (tgt := 204) h dX5_takeUnit_37 (by decide) (by omega) (off := 167) ?_ (by decide) ?_
    · simp [Op.lookupswitch.offset, Ne.symm k1, Ne.symm k2, Ne.symm k8, Ne.symm k35, Ne.symm k40, Ne.symm k45]
    refine x_aload_n h dX5_takeUnit_204 rfl ?_
    refine x_cV1 h kVX5_faultHere lkX5_60 ⟨_, _, _, rfl, rfl⟩ dX5_takeUnit_205 (c_faultHere (d := 0) (psS_place σ L m i (u + 1) ss)) lvz_2 rfl rfl (Nat.le_of_ble_eq_true rfl) (by omega) ?_
    exact x_ireturn h hr dX5_takeUnit_208 (Or.inr ⟨rfl, by omega⟩) ⟨Nat.le_refl _, Nat.le_refl _⟩
