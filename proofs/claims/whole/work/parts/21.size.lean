/-! SIZES -/
def FailZ (σ : Mm) (m : Nat) (σ' : Mm) (x : Int) : Prop := σ' 2 0 3 = x ∧ ∀ f k j, ¬ (f = 3 ∨ f = 2 ∨ (k = m ∧ ((f = 5 ∧ j ≠ 8) ∨ f = 6 ∨ f = 13 ∨ f = 14 ∨ f = 15))) → σ' f k j = σ f k j
theorem failZ_ps {σ τ : Mm} {L m i u : Nat} {ss : List Zs} {x : Int} (h : ∀ f k j, ¬ (f = 3 ∨ f = 2 ∨ (k = m ∧ ((f = 5 ∧ j ≠ 8) ∨ f = 6 ∨ f = 13 ∨ f = 14 ∨ f = 15))) → τ f k j = σ f k j) : FailZ σ m (up3 (psS τ L m i u ss) 2 0 3 x) x := by
  refine ⟨up3_s _ _ _ _ _, fun f k j hf => ?_⟩
  unfold up3
  rw [if_neg (by omega)]
  unfold psS
  rw [psT_f _ _ _ _ _ _ _ _ (by omega) (by omega) (by omega)]
  exact h f k j hf
theorem failZ_of {σ τ σ' : Mm} {m : Nat} {x : Int} (h : ∀ f k j, ¬ (f = 3 ∨ f = 2 ∨ (k = m ∧ ((f = 5 ∧ j ≠ 8) ∨ f = 6 ∨ f = 13 ∨ f = 14 ∨ f = 15))) → τ f k j = σ f k j) (hf : FailOk τ m σ' x) : FailZ σ m σ' x := ⟨hf.1, fun f k j hn => (hf.2 f k j (by omega)).trans (h f k j hn)⟩
theorem told_ps {σ : Mm} {L m i u s : Nat} {ss : List Zs} {ds : List TabD} (hT : Told σ s ds) (hs : s < 2) (hm : m = 12 * s + ds.length) (h12 : ds.length < 12) : psS σ L m i u ss 4 s 1 = ds.length ∧ ∀ k, k < ds.length → nameG (psS σ L m i u ss) s k = (ds.getD k (0, 0, 0, 0, 0, [])).1 ∧ psS σ L m i u ss 5 (12 * s + k) 4 = (ds.getD k (0, 0, 0, 0, 0, [])).2.1 := by
  have e : ∀ f k j, f ≠ 3 → f ≠ 2 → (f = 4 ∨ f = 5) → psS σ L m i u ss f k j = σ f k j := fun f k j h3 h2 h45 => by unfold psS; exact psT_f _ _ _ _ _ _ _ _ h3 (by omega) (by omega)
  refine ⟨(e 4 s 1 (by decide) (by decide) (Or.inl rfl)).trans hT.1, fun k hk => ?_⟩
  obtain ⟨⟨h1, h2, -⟩, -⟩ := hT.2 k hk
  unfold nameG
  exact ⟨(e 5 _ 3 (by decide) (by decide) (Or.inr rfl)).trans h1, (e 5 _ 4 (by decide) (by decide) (Or.inr rfl)).trans h2⟩
theorem c_pnof {d : Nat} {σ : Mm} {L m i u s : Nat} {ss : List Zs} {ds : List TabD} {x : Int} (hT : Told σ s ds) (hd : DsOk ds) (hs : s < 2) (hm : m = 12 * s + ds.length) (h12 : ds.length < 12) (hx : i64 x) : Ct (d + 1) mX4_numberOf 1 [vR 4 s, vL x] NALL (psS σ L m i u ss) (some (vI (nofD ds x))) NALL (psS σ L m i u ss) 0 0 := by
  obtain ⟨h1, h2⟩ := told_ps (L := L) (i := i) (u := u) (ss := ss) hT hs hm h12
  have hc := c_numberOf (d := d) (t := s) (n := ds.length) (x := x) hs h1 (by omega) hx (fun k hk => by rw [(h2 k hk).1]; exact (hd.2 k hk).1)
  rw [nof_ext (g' := fun k => (ds.getD k (0, 0, 0, 0, 0, [])).1) (fun j hj => (h2 j hj).1)] at hc
  exact hc
theorem c_psz {d : Nat} {σ : Mm} {L m i u s : Nat} {ss : List Zs} {ds : List TabD} {x : Int} (hT : Told σ s ds) (hs : s < 2) (hm : m = 12 * s + ds.length) (h12 : ds.length < 12) (hx : x = -9 ∨ ∃ j : Nat, x = j ∧ j < ds.length) : Ct (d + 2) mX4_sizeOf 1 [vR 4 s, vI x] NALL (psS σ L m i u ss) (some (vL (szD ds x))) NALL (psS σ L m i u ss) 0 0 := by
  obtain ⟨h1, h2⟩ := told_ps (L := L) (i := i) (u := u) (ss := ss) hT hs hm h12
  rcases hx with rfl | ⟨j, rfl, hj⟩
  · exact c_sizeOfN (d := d) hs h1 (by omega) (by omega) (Or.inl (by omega))
  · have hc := c_sizeOf (d := d) (k := j) hs h1 (by omega) hj
    rw [(h2 j hj).2] at hc
    unfold szD
    rw [if_pos (by omega)]
    exact hc
theorem c_staT {d : Nat} {σ : Mm} {L m i u s : Nat} {ss : List Zs} {ds : List TabD} {nf : Int} (hT : Told σ s ds) (hd : DsOk ds) (hs : s < 2) (hm : m = 12 * s + ds.length) (h12 : ds.length < 12) (hB : BOk (tB σ 11 L) L) (hi : tq (tB σ 11 L) i ≤ L) (hk : tK (tB σ 11 L) i = 2) (hnf : σ 2 0 4 = nf) (hnf2 : -2147483648 ≤ nf ∧ nf < 2147483648) : Ct (d + 3) mX5_sizeToldAhead 1 [vR 2 0, vR 4 s] NALL (psS σ L m i u ss) (some (vL (szD ds (nofD ds (tV (tB σ 11 L) i))))) NALL (psS (up3 σ 2 0 4 (if nofD ds (tV (tB σ 11 L) i) = -9 then nfA nf (tQ (tB σ 11 L) i) else nf)) L m i u ss) 0 0 := by
  have ek := psS_kind σ L m i u ss
  have ev := psS_value σ L m i u ss
  have ep := psS_place σ L m i u ss
  have hx : i64 (tV (tB σ 11 L) i) := tkV_le hk
  have hr9 : nofD ds (tV (tB σ 11 L) i) = -9 ∨ ∃ j : Nat, nofD ds (tV (tB σ 11 L) i) = j ∧ j < ds.length := by
    rcases nof_r (fun k => (ds.getD k (0, 0, 0, 0, 0, [])).1) (tV (tB σ 11 L) i) ds.length with h | ⟨j, h1, h2, -⟩
    · exact Or.inl h
    · exact Or.inr ⟨j, h1, h2⟩
  have hL900 := hB.1
  have hq : (tQ (tB σ 11 L) i : Int) = (tq (tB σ 11 L) i : Nat) := rfl
  refine ct_of (by decide) (Nat.le_of_ble_eq_true rfl) (fun C h hr _ => ?_)
  have h : Ok C RX5 cX5_sizeToldAhead 3 _ := h
  by_cases h9 : nofD ds (tV (tB σ 11 L) i) = -9
  · rw [if_pos h9] at hr
    have hT2 : Told (up3 σ 2 0 4 (nfA nf (tQ (tB σ 11 L) i))) s ds := by
      refine ⟨by rw [up3_f _ _ (by decide)]; exact hT.1, fun k hk => ?_⟩
      obtain ⟨⟨g1, g2, g3, g4, g5⟩, g6, g7⟩ := hT.2 k hk
      refine ⟨⟨?_, ?_, ?_, ?_, ?_⟩, ?_, ?_⟩
      all_goals simp only [up3_f _ _ (show (5 : Nat) ≠ 2 by decide), up3_f _ _ (show (6 : Nat) ≠ 2 by decide), up3_f _ _ (show (13 : Nat) ≠ 2 by decide), up3_f _ _ (show (14 : Nat) ≠ 2 by decide), up3_f _ _ (show (15 : Nat) ≠ 2 by decide)]
      all_goals assumption
    refine x_aload_n h dX5_sizeToldAhead_0 rfl ?_
    refine x_aload_n h dX5_sizeToldAhead_1 rfl ?_
    refine x_get h fl_5_14 lvz_2 dX5_sizeToldAhead_2 (pvf_503 _ _) ?_
    refine x_get (q := vL (tV (tB σ 11 L) i)) h fl_5_71 lvz_3 dX5_sizeToldAhead_5 (congrArg vL (by first | exact ev | simp [up3, ev])) ?_
    refine x_cV1 h kVX4_numberOf lkX5_75 ⟨_, _, _, rfl, rfl⟩ dX5_sizeToldAhead_8 (c_pnof (d := d) hT hd hs hm h12 hx) (lvm_4 (by omega)) rfl rfl (Nat.le_of_ble_eq_true rfl) (by omega) ?_
    refine x_istore_n h dX5_sizeToldAhead_11 (by decide) ?_
    refine x_aload_n h dX5_sizeToldAhead_12 rfl ?_
    refine x_get h fl_5_14 lvz_2 dX5_sizeToldAhead_13 (pvf_503 _ _) ?_
    refine x_get (q := vI (tK (tB σ 11 L) i)) h fl_5_50 lvz_3 dX5_sizeToldAhead_16 (congrArg vI (by first | exact ek | simp [up3, ek])) ?_
    refine x_iconst h dX5_sizeToldAhead_19 ?_
    refine x_ic_ne_F (tgt := 40) h (by omega) dX5_sizeToldAhead_20 (by decide) (by omega) ?_
    refine x_iload_n h dX5_sizeToldAhead_23 rfl ?_
    refine x_bipush h dX5_sizeToldAhead_24 (by decide) ?_
    refine x_ic_ne_F (tgt := 40) h (by omega) dX5_sizeToldAhead_26 (by decide) (by omega) ?_
    refine x_aload_n h dX5_sizeToldAhead_29 rfl ?_
    refine x_aload_n h dX5_sizeToldAhead_30 rfl ?_
    refine x_get h fl_5_14 lvz_2 dX5_sizeToldAhead_31 (pvf_503 _ _) ?_
    refine x_get (q := vI (tQ (tB σ 11 L) i)) h fl_5_53 lvz_3 dX5_sizeToldAhead_34 (congrArg vI (by first | exact ep | simp [up3, ep])) ?_
    refine x_cV0 h kVX5_noteNameFault lkX5_79 ⟨_, _, _, rfl, rfl⟩ dX5_sizeToldAhead_37 (c_pnote (d := 0) hnf (by omega) hnf2) lvz_2 rfl rfl (Nat.le_of_ble_eq_true rfl) (by omega) ?_
    refine x_aload_n h dX5_sizeToldAhead_40 rfl ?_
    refine x_iload_n h dX5_sizeToldAhead_41 rfl ?_
    refine x_cV1 h kVX4_sizeOf lkX5_114 ⟨_, _, _, rfl, rfl⟩ dX5_sizeToldAhead_42 (c_psz (d := d) hT2 hs hm h12 hr9) (lvm_4 (by omega)) rfl rfl (Nat.le_of_ble_eq_true rfl) (by omega) ?_
    exact x_lreturn h hr dX5_sizeToldAhead_45 ⟨Nat.le_refl _, Nat.le_refl _⟩
  · rw [if_neg h9, ← hnf, up3_id] at hr
    have hrr : -2147483648 ≤ nofD ds (tV (tB σ 11 L) i) ∧ nofD ds (tV (tB σ 11 L) i) < 2147483648 := by
      rcases hr9 with h | ⟨j, h1, h2⟩ <;> omega
    refine x_aload_n h dX5_sizeToldAhead_0 rfl ?_
    refine x_aload_n h dX5_sizeToldAhead_1 rfl ?_
    refine x_get h fl_5_14 lvz_2 dX5_sizeToldAhead_2 (pvf_503 _ _) ?_
    refine x_get (q := vL (tV (tB σ 11 L) i)) h fl_5_71 lvz_3 dX5_sizeToldAhead_5 (congrArg vL (by first | exact ev | simp [up3, ev])) ?_
    refine x_cV1 h kVX4_numberOf lkX5_75 ⟨_, _, _, rfl, rfl⟩ dX5_sizeToldAhead_8 (c_pnof (d := d) hT hd hs hm h12 hx) (lvm_4 (by omega)) rfl rfl (Nat.le_of_ble_eq_true rfl) (by omega) ?_
    refine x_istore_n h dX5_sizeToldAhead_11 (by decide) ?_
    refine x_aload_n h dX5_sizeToldAhead_12 rfl ?_
    refine x_get h fl_5_14 lvz_2 dX5_sizeToldAhead_13 (pvf_503 _ _) ?_
    refine x_get (q := vI (tK (tB σ 11 L) i)) h fl_5_50 lvz_3 dX5_sizeToldAhead_16 (congrArg vI (by first | exact ek | simp [up3, ek])) ?_
    refine x_iconst h dX5_sizeToldAhead_19 ?_
    refine x_ic_ne_F (tgt := 40) h (by omega) dX5_sizeToldAhead_20 (by decide) (by omega) ?_
    refine x_iload_n h dX5_sizeToldAhead_23 rfl ?_
    refine x_bipush h dX5_sizeToldAhead_24 (by decide) ?_
    refine x_ic_ne_T (tgt := 40) h (by omega) dX5_sizeToldAhead_26 (by decide) (by omega) ?_
    refine x_aload_n h dX5_sizeToldAhead_40 rfl ?_
    refine x_iload_n h dX5_sizeToldAhead_41 rfl ?_
    refine x_cV1 h kVX4_sizeOf lkX5_114 ⟨_, _, _, rfl, rfl⟩ dX5_sizeToldAhead_42 (c_psz (d := d) hT hs hm h12 hr9) (lvm_4 (by omega)) rfl rfl (Nat.le_of_ble_eq_true rfl) (by omega) ?_
    exact x_lreturn h hr dX5_sizeToldAhead_45 ⟨Nat.le_refl _, Nat.le_refl _⟩
theorem c_staF {d : Nat} {σ : Mm} {L m i u s : Nat} {ss : List Zs} {ds : List TabD} (hT : Told σ s ds) (hd : DsOk ds) (hs : s < 2) (hm : m = 12 * s + ds.length) (h12 : ds.length < 12) (hB : BOk (tB σ 11 L) L) (hk : tK (tB σ 11 L) i ≠ 2) : Ct (d + 3) mX5_sizeToldAhead 1 [vR 2 0, vR 4 s] NALL (psS σ L m i u ss) (some (vL (szD ds (nofD ds (w64 (tV (tB σ 11 L) i)))))) NALL (psS σ L m i u ss) 0 0 := by
  have ek := psS_kind σ L m i u ss
  have ev := psS_value σ L m i u ss
  have hx : i64 (w64 (tV (tB σ 11 L) i)) := w64_range _
  have hkr := tkK_r hB (tq (tB σ 11 L) i)
  have hke : tK (tB σ 11 L) i = tkK (tB σ 11 L) (tq (tB σ 11 L) i) := rfl
  have hr9 : nofD ds (w64 (tV (tB σ 11 L) i)) = -9 ∨ ∃ j : Nat, nofD ds (w64 (tV (tB σ 11 L) i)) = j ∧ j < ds.length := by
    rcases nof_r (fun k => (ds.getD k (0, 0, 0, 0, 0, [])).1) (w64 (tV (tB σ 11 L) i)) ds.length with h | ⟨j, h1, h2, -⟩
    · exact Or.inl h
    · exact Or.inr ⟨j, h1, h2⟩
  refine ct_of (by decide) (Nat.le_of_ble_eq_true rfl) (fun C h hr _ => ?_)
  have h : Ok C RX5 cX5_sizeToldAhead 3 _ := h
  refine x_aload_n h dX5_sizeToldAhead_0 rfl ?_
  refine x_aload_n h dX5_sizeToldAhead_1 rfl ?_
  refine x_get h fl_5_14 lvz_2 dX5_sizeToldAhead_2 (pvf_503 _ _) ?_
  refine x_get (q := vL (tV (tB σ 11 L) i)) h fl_5_71 lvz_3 dX5_sizeToldAhead_5 (congrArg vL (by first | exact ev | simp [up3, ev])) ?_
  refine x_wL ?_
  refine x_cV1 h kVX4_numberOf lkX5_75 ⟨_, _, _, rfl, rfl⟩ dX5_sizeToldAhead_8 (c_pnof (d := d) hT hd hs hm h12 hx) (lvm_4 (by omega)) rfl rfl (Nat.le_of_ble_eq_true rfl) (by omega) ?_
  refine x_istore_n h dX5_sizeToldAhead_11 (by decide) ?_
  refine x_aload_n h dX5_sizeToldAhead_12 rfl ?_
  refine x_get h fl_5_14 lvz_2 dX5_sizeToldAhead_13 (pvf_503 _ _) ?_
  refine x_get (q := vI (tK (tB σ 11 L) i)) h fl_5_50 lvz_3 dX5_sizeToldAhead_16 (congrArg vI (by first | exact ek | simp [up3, ek])) ?_
  refine x_iconst h dX5_sizeToldAhead_19 ?_
  refine x_ic_ne_T (tgt := 40) h (by omega) dX5_sizeToldAhead_20 (by decide) (by omega) ?_
  refine x_aload_n h dX5_sizeToldAhead_40 rfl ?_
  refine x_iload_n h dX5_sizeToldAhead_41 rfl ?_
  refine x_cV1 h kVX4_sizeOf lkX5_114 ⟨_, _, _, rfl, rfl⟩ dX5_sizeToldAhead_42 (c_psz (d := d) hT hs hm h12 hr9) (lvm_4 (by omega)) rfl rfl (Nat.le_of_ble_eq_true rfl) (by omega) ?_
  exact x_lreturn h hr dX5_sizeToldAhead_45 ⟨Nat.le_refl _, Nat.le_refl _⟩
def ZRes (σ : Mm) (L m u : Nat) (ss : List Zs) (res : Nat ⊕ (Nat × Int × Int)) (r : Int) (σ' : Mm) : Prop := match res with
  | .inl e => r = 0 ∧ FailZ σ m σ' (tQ (tB σ 11 L) e)
  | .inr (i', sz, nf') => r = 1 ∧ σ' = psS (up3 (up3 σ 2 0 4 nf') 5 m 4 sz) L m i' u ss ∧ tq (tB σ 11 L) i' ≤ L ∧ i64 sz ∧ (-2147483648 ≤ nf' ∧ nf' < 2147483648)
theorem told_nf {σ : Mm} {s : Nat} {ds : List TabD} {x : Int} (hT : Told σ s ds) : Told (up3 σ 2 0 4 x) s ds := by
  refine ⟨by rw [up3_f _ _ (by decide)]; exact hT.1, fun k hk => ?_⟩
  obtain ⟨⟨g1, g2, g3, g4, g5⟩, g6, g7⟩ := hT.2 k hk
  refine ⟨⟨?_, ?_, ?_, ?_, ?_⟩, ?_, ?_⟩
  all_goals simp only [up3_f _ _ (show (5 : Nat) ≠ 2 by decide), up3_f _ _ (show (6 : Nat) ≠ 2 by decide), up3_f _ _ (show (13 : Nat) ≠ 2 by decide), up3_f _ _ (show (14 : Nat) ≠ 2 by decide), up3_f _ _ (show (15 : Nat) ≠ 2 by decide)]
  all_goals assumption
theorem nfA_r {nf x : Int} (h1 : -2147483648 ≤ nf ∧ nf < 2147483648) (h2 : -2147483648 ≤ x ∧ x < 2147483648) : -2147483648 ≤ nfA nf x ∧ nfA nf x < 2147483648 := by unfold nfA; split <;> omega
theorem size_loop {σ : Mm} {L m u s : Nat} {ss : List Zs} {ds : List TabD} (hL : TapeL σ L) (hB : BOk (tB σ 11 L) L) (hT : Told σ s ds) (hd : DsOk ds) (hs : s < 2) (hm : m = 12 * s + ds.length) (h12 : ds.length < 12) :
    ∀ (c k i : Nat) (acc sign nf : Int), k + c = 8 → i64 acc → (-2147483648 ≤ nf ∧ nf < 2147483648) → (0 ≤ sign ∧ sign ≤ 255) → tq (tB σ 11 L) i ≤ L → ∃ (r : Int) (σ' : Mm), ZRes σ L m u ss (szL (tK (tB σ 11 L)) (tV (tB σ 11 L)) (tQ (tB σ 11 L)) ds c i acc sign nf) r σ' ∧ ∀ C : Cx, Ok C RX5 cX5_takeSize 10 8 → Rt C 1 (some .boolean) (some (vI r)) NALL σ' 0 0 → ∀ ls, lsub [(0, vR 2 0), (1, vR 4 s), (2, vR 5 m), (3, vL acc), (5, vI sign), (6, vI k)] ls → X C 1 9 ls [] NALL (psS (up3 σ 2 0 4 nf) L m i u ss) 0 0 := by
  have hm24 : m < 24 := by omega
  have hBn : ∀ x : Int, tB (up3 σ 2 0 4 x) 11 L = tB σ 11 L := fun x => rfl
  have hLn : ∀ x : Int, TapeL (up3 σ 2 0 4 x) L := fun x => ⟨by rw [up3_f _ _ (by decide)]; exact hL.1, hL.2⟩
  have hq900 : ∀ i, tq (tB σ 11 L) i ≤ L → (-2147483648 ≤ tQ (tB σ 11 L) i ∧ tQ (tB σ 11 L) i < 2147483648) := fun i h => by
    have h1 := hB.1
    have h2 : (tQ (tB σ 11 L) i : Int) = (tq (tB σ 11 L) i : Nat) := rfl
    omega
  have frame : ∀ nf : Int, ∀ f k j, ¬ (f = 3 ∨ f = 2 ∨ (k = m ∧ ((f = 5 ∧ j ≠ 8) ∨ f = 6 ∨ f = 13 ∨ f = 14 ∨ f = 15))) → up3 σ 2 0 4 nf f k j = σ f k j := fun nf f k j h => up3_f _ _ (by omega)
  intro c
  induction c with
  | zero =>
    intro k i acc sign nf hk hacc hnf hsg hi
    refine ⟨0, _, ⟨rfl, failZ_ps (τ := up3 σ 2 0 4 nf) (L := L) (i := i) (u := u) (ss := ss) (frame nf)⟩, fun C h hr ls hls => ?_⟩
    refine x_loc hls ?_
    have hfh := c_faultHere (d := 0) (psS_place (up3 σ 2 0 4 nf) L m i u ss)
    refine x_iload h dX5_takeSize_9 rfl ?_
    refine x_bipush h dX5_takeSize_11 (by decide) ?_
    refine x_ic_ge_T (tgt := 171) h (by omega) dX5_takeSize_13 (by decide) (by omega) ?_
    refine x_aload_n h dX5_takeSize_171 rfl ?_
    refine x_cV1 h kVX5_faultHere lkX5_60 ⟨_, _, _, rfl, rfl⟩ dX5_takeSize_172 (hfh) lvz_2 rfl rfl (Nat.le_of_ble_eq_true rfl) (by omega) ?_
    exact x_ireturn h hr dX5_takeSize_175 (Or.inr ⟨rfl, by omega⟩) ⟨Nat.le_refl _, Nat.le_refl _⟩
  | succ c ih =>
    intro k i acc sign nf hk hacc hnf hsg hi
    have hkr : ∀ i, 0 ≤ tK (tB σ 11 L) i ∧ tK (tB σ 11 L) i ≤ 255 := fun i => tkK_r hB (tq (tB σ 11 L) i)
    have ek : ∀ i nf, psS (up3 σ 2 0 4 nf) L m i u ss 3 0 2 = tK (tB σ 11 L) i := fun i nf => psS_kind _ L m i u ss
    have ev : ∀ i nf, psS (up3 σ 2 0 4 nf) L m i u ss 3 0 4 = tV (tB σ 11 L) i := fun i nf => psS_value _ L m i u ss
    -- behind the PART
    have step : ∀ (i2 : Nat) (part nf2 : Int), tq (tB σ 11 L) i2 ≤ L → (-2147483648 ≤ nf2 ∧ nf2 < 2147483648) → ∃ (r : Int) (σ' : Mm), ZRes σ L m u ss (if tK (tB σ 11 L) i2 = 43 ∨ tK (tB σ 11 L) i2 = 45 ∨ tK (tB σ 11 L) i2 = 42 then szL (tK (tB σ 11 L)) (tV (tB σ 11 L)) (tQ (tB σ 11 L)) ds c (i2 + 1) (szOp sign acc part) (tK (tB σ 11 L) i2) nf2 else .inr (i2, szOp sign acc part, nf2)) r σ' ∧ ∀ C : Cx, Ok C RX5 cX5_takeSize 10 8 → Rt C 1 (some .boolean) (some (vI r)) NALL σ' 0 0 → ∀ ls, lsub [(0, vR 2 0), (1, vR 4 s), (2, vR 5 m), (3, vL acc), (5, vI sign), (6, vI k), (8, vL part)] ls → X C 1 88 ls [] NALL (psS (up3 σ 2 0 4 nf2) L m i2 u ss) 0 0 := by
      intro i2 part nf2 hi2 hnf2
      have hk2 := hkr i2
      have hso : i64 (szOp sign acc part) := w64_range _
      -- to 121, with the new sum
      have head : ∀ C : Cx, Ok C RX5 cX5_takeSize 10 8 → (∀ ls, lsub [(0, vR 2 0), (1, vR 4 s), (2, vR 5 m), (3, vL (szOp sign acc part)), (6, vI k)] ls → X C 1 121 ls [] NALL (psS (up3 σ 2 0 4 nf2) L m i2 u ss) 0 0) → ∀ ls, lsub [(0, vR 2 0), (1, vR 4 s), (2, vR 5 m), (3, vL acc), (5, vI sign), (6, vI k), (8, vL part)] ls → X C 1 88 ls [] NALL (psS (up3 σ 2 0 4 nf2) L m i2 u ss) 0 0 := by
        intro C h kk ls hls
        refine x_loc hls ?_
        unfold szOp at kk
        by_cases h43 : sign = 43
        · rw [if_pos h43] at kk
          refine x_iload h dX5_takeSize_88 rfl ?_
          refine x_bipush h dX5_takeSize_90 (by decide) ?_
          refine x_ic_ne_F (tgt := 102) h (by omega) dX5_takeSize_92 (by decide) (by omega) ?_
          refine x_lload_n h dX5_takeSize_95 rfl ?_
          refine x_lload h dX5_takeSize_96 rfl ?_
          refine x_ladd h dX5_takeSize_98 ?_
          refine x_goto (tgt := 120) h dX5_takeSize_99 (by decide) ?_
          refine x_wL ?_
          refine x_lstore_n h dX5_takeSize_120 (by decide) ?_
          exact kk _ ⟨rfl, rfl, rfl, rfl, rfl, trivial⟩
        · rw [if_neg h43] at kk
          by_cases h45 : sign = 45
          · rw [if_pos h45] at kk
            refine x_iload h dX5_takeSize_88 rfl ?_
            refine x_bipush h dX5_takeSize_90 (by decide) ?_
            refine x_ic_ne_T (tgt := 102) h (by omega) dX5_takeSize_92 (by decide) (by omega) ?_
            refine x_iload h dX5_takeSize_102 rfl ?_
            refine x_bipush h dX5_takeSize_104 (by decide) ?_
            refine x_ic_ne_F (tgt := 116) h (by omega) dX5_takeSize_106 (by decide) (by omega) ?_
            refine x_lload_n h dX5_takeSize_109 rfl ?_
            refine x_lload h dX5_takeSize_110 rfl ?_
            refine x_lsub h dX5_takeSize_112 ?_
            refine x_goto (tgt := 120) h dX5_takeSize_113 (by decide) ?_
            refine x_wL ?_
            refine x_lstore_n h dX5_takeSize_120 (by decide) ?_
            exact kk _ ⟨rfl, rfl, rfl, rfl, rfl, trivial⟩
          · rw [if_neg h45] at kk
            refine x_iload h dX5_takeSize_88 rfl ?_
            refine x_bipush h dX5_takeSize_90 (by decide) ?_
            refine x_ic_ne_T (tgt := 102) h (by omega) dX5_takeSize_92 (by decide) (by omega) ?_
            refine x_iload h dX5_takeSize_102 rfl ?_
            refine x_bipush h dX5_takeSize_104 (by decide) ?_
            refine x_ic_ne_T (tgt := 116) h (by omega) dX5_takeSize_106 (by decide) (by omega) ?_
            refine x_lload_n h dX5_takeSize_116 rfl ?_
            refine x_lload h dX5_takeSize_117 rfl ?_
            refine x_lmul h dX5_takeSize_119 ?_
            refine x_wL ?_
            refine x_lstore_n h dX5_takeSize_120 (by decide) ?_
            exact kk _ ⟨rfl, rfl, rfl, rfl, rfl, trivial⟩
      by_cases hmore : tK (tB σ 11 L) i2 = 43 ∨ tK (tB σ 11 L) i2 = 45 ∨ tK (tB σ 11 L) i2 = 42
      · rw [if_pos hmore]
        have hn := tq_next hB hi2 (by omega)
        obtain ⟨r, σ', hz, hx⟩ := ih (k + 1) (i2 + 1) (szOp sign acc part) (tK (tB σ 11 L) i2) nf2 (by omega) hso hnf2 hk2 hn.2.1
        refine ⟨r, σ', hz, fun C h hr ls hls => ?_⟩
        refine head C h (fun ls hls => ?_) ls hls
        refine x_loc hls ?_
        have e2 := ek i2 nf2
        have tail : X C 1 158 [(5, vI (tK (tB σ 11 L) i2)), (0, vR 2 0), (1, vR 4 s), (2, vR 5 m), (3, vL (szOp sign acc part)), (6, vI k)] [] NALL (psS (up3 σ 2 0 4 nf2) L m i2 u ss) 0 0 := by
          refine x_aload_n h dX5_takeSize_158 rfl ?_
          refine x_get h fl_5_14 lvz_2 dX5_takeSize_159 (pvf_503 _ _) ?_
          refine x_cV0 h kVX6_advance lkX5_64 ⟨_, _, _, rfl, rfl⟩ dX5_takeSize_162 (c_padv (d := 0) (hLn nf2) hB hi2 (show tK (tB σ 11 L) i2 ≠ 0 by omega)) lvz_3 rfl rfl (Nat.le_of_ble_eq_true rfl) (by omega) ?_
          refine x_iinc h dX5_takeSize_165 rfl (by decide) ?_
          refine x_goto (tgt := 9) h dX5_takeSize_168 (by decide) ?_
          exact hx C h hr _ ⟨rfl, rfl, rfl, rfl, rfl, rfl, trivial⟩
        by_cases h43 : tK (tB σ 11 L) i2 = 43
        · refine x_aload_n h dX5_takeSize_121 rfl ?_
          refine x_get h fl_5_14 lvz_2 dX5_takeSize_122 (pvf_503 _ _) ?_
          refine x_get (q := vI (tK (tB σ 11 L) i2)) h fl_5_50 lvz_3 dX5_takeSize_125 (congrArg vI (by first | exact e2 | simp [up3, e2])) ?_
          refine x_istore h dX5_takeSize_128 (by decide) ?_
          refine x_iload h dX5_takeSize_130 rfl ?_
          refine x_bipush h dX5_takeSize_132 (by decide) ?_
          refine x_ic_eq_T (tgt := 158) h (by omega) dX5_takeSize_134 (by decide) (by omega) ?_
          exact tail
        · by_cases h45 : tK (tB σ 11 L) i2 = 45
          · refine x_aload_n h dX5_takeSize_121 rfl ?_
            refine x_get h fl_5_14 lvz_2 dX5_takeSize_122 (pvf_503 _ _) ?_
            refine x_get (q := vI (tK (tB σ 11 L) i2)) h fl_5_50 lvz_3 dX5_takeSize_125 (congrArg vI (by first | exact e2 | simp [up3, e2])) ?_
            refine x_istore h dX5_takeSize_128 (by decide) ?_
            refine x_iload h dX5_takeSize_130 rfl ?_
            refine x_bipush h dX5_takeSize_132 (by decide) ?_
            refine x_ic_eq_F (tgt := 158) h (by omega) dX5_takeSize_134 (by decide) (by omega) ?_
            refine x_iload h dX5_takeSize_137 rfl ?_
            refine x_bipush h dX5_takeSize_139 (by decide) ?_
            refine x_ic_eq_T (tgt := 158) h (by omega) dX5_takeSize_141 (by decide) (by omega) ?_
            exact tail
          · refine x_aload_n h dX5_takeSize_121 rfl ?_
            refine x_get h fl_5_14 lvz_2 dX5_takeSize_122 (pvf_503 _ _) ?_
            refine x_get (q := vI (tK (tB σ 11 L) i2)) h fl_5_50 lvz_3 dX5_takeSize_125 (congrArg vI (by first | exact e2 | simp [up3, e2])) ?_
            refine x_istore h dX5_takeSize_128 (by decide) ?_
            refine x_iload h dX5_takeSize_130 rfl ?_
            refine x_bipush h dX5_takeSize_132 (by decide) ?_
            refine x_ic_eq_F (tgt := 158) h (by omega) dX5_takeSize_134 (by decide) (by omega) ?_
            refine x_iload h dX5_takeSize_137 rfl ?_
            refine x_bipush h dX5_takeSize_139 (by decide) ?_
            refine x_ic_eq_F (tgt := 158) h (by omega) dX5_takeSize_141 (by decide) (by omega) ?_
            refine x_iload h dX5_takeSize_144 rfl ?_
            refine x_bipush h dX5_takeSize_146 (by decide) ?_
            refine x_ic_eq_T (tgt := 158) h (by omega) dX5_takeSize_148 (by decide) (by omega) ?_
            exact tail
      · rw [if_neg hmore]
        refine ⟨1, _, ⟨rfl, rfl, hi2, hso, hnf2⟩, fun C h hr ls hls => ?_⟩
        refine head C h (fun ls hls => ?_) ls hls
        refine x_loc hls ?_
        have e2 := ek i2 nf2
        have hsz : up3 (psS (up3 σ 2 0 4 nf2) L m i2 u ss) 5 m 4 (szOp sign acc part) = psS (up3 (up3 σ 2 0 4 nf2) 5 m 4 (szOp sign acc part)) L m i2 u ss := psS_up (by decide) (by decide) (by omega) (by omega)
        refine x_aload_n h dX5_takeSize_121 rfl ?_
        refine x_get h fl_5_14 lvz_2 dX5_takeSize_122 (pvf_503 _ _) ?_
        refine x_get (q := vI (tK (tB σ 11 L) i2)) h fl_5_50 lvz_3 dX5_takeSize_125 (congrArg vI (by first | exact e2 | simp [up3, e2])) ?_
        refine x_istore h dX5_takeSize_128 (by decide) ?_
        refine x_iload h dX5_takeSize_130 rfl ?_
        refine x_bipush h dX5_takeSize_132 (by decide) ?_
        refine x_ic_eq_F (tgt := 158) h (by omega) dX5_takeSize_134 (by decide) (by omega) ?_
        refine x_iload h dX5_takeSize_137 rfl ?_
        refine x_bipush h dX5_takeSize_139 (by decide) ?_
        refine x_ic_eq_F (tgt := 158) h (by omega) dX5_takeSize_141 (by decide) (by omega) ?_
        refine x_iload h dX5_takeSize_144 rfl ?_
        refine x_bipush h dX5_takeSize_146 (by decide) ?_
        refine x_ic_eq_F (tgt := 158) h (by omega) dX5_takeSize_148 (by decide) (by omega) ?_
        refine x_aload_n h dX5_takeSize_151 rfl ?_
        refine x_lload_n h dX5_takeSize_152 rfl ?_
        refine x_put h fl_5_111 (lvm_5 (by omega)) dX5_takeSize_153 rfl (fun z => absurd z (by decide)) ?_
        rw [hsz]
        refine x_iconst h dX5_takeSize_156 ?_
        exact x_ireturn h hr dX5_takeSize_157 (Or.inr ⟨rfl, by omega⟩) ⟨Nat.le_refl _, Nat.le_refl _⟩
    have e1 := ek i nf
    have hki := hkr i
    unfold szL
    by_cases h35 : tK (tB σ 11 L) i = 35
    · rw [if_pos h35]
      have hn := tq_next hB hi (by omega)
      by_cases h2 : tK (tB σ 11 L) (i + 1) = 2
      · rw [if_pos h2]
        have hn2 := tq_next hB hn.2.1 (by omega)
        have hnf' : -2147483648 ≤ (if nofD ds (tV (tB σ 11 L) (i + 1)) = -9 then nfA nf (tQ (tB σ 11 L) (i + 1)) else nf) ∧ (if nofD ds (tV (tB σ 11 L) (i + 1)) = -9 then nfA nf (tQ (tB σ 11 L) (i + 1)) else nf) < 2147483648 := by
          split
          · exact nfA_r hnf (hq900 _ hn.2.1)
          · exact hnf
        obtain ⟨r, σ', hz, hx⟩ := step (i + 2) (szD ds (nofD ds (tV (tB σ 11 L) (i + 1)))) (if nofD ds (tV (tB σ 11 L) (i + 1)) = -9 then nfA nf (tQ (tB σ 11 L) (i + 1)) else nf) hn2.2.1 hnf'
        refine ⟨r, σ', hz, fun C h hr ls hls => ?_⟩
        refine x_loc hls ?_
        have hsta := c_staT (d := 0) (L := L) (i := i + 1) (u := u) (ss := ss) (nf := nf) (σ := up3 σ 2 0 4 nf) (told_nf hT) hd hs hm h12 hB hn.2.1 h2 (by rw [up3_s]) hnf
        have huu : ∀ y : Int, up3 (up3 σ 2 0 4 nf) 2 0 4 y = up3 σ 2 0 4 y := fun y => by
          funext f' k' j'
          unfold up3
          by_cases hh : f' = 2 ∧ k' = 0 ∧ j' = 4
          · rw [if_pos hh, if_pos hh]
          · rw [if_neg hh, if_neg hh, if_neg hh]
        rw [huu] at hsta
        refine x_iload h dX5_takeSize_9 rfl ?_
        refine x_bipush h dX5_takeSize_11 (by decide) ?_
        refine x_ic_ge_F (tgt := 171) h (by omega) dX5_takeSize_13 (by decide) (by omega) ?_
        refine x_aload_n h dX5_takeSize_16 rfl ?_
        refine x_get h fl_5_14 lvz_2 dX5_takeSize_17 (pvf_503 _ _) ?_
        refine x_get (q := vI (tK (tB σ 11 L) i)) h fl_5_50 lvz_3 dX5_takeSize_20 (congrArg vI (by first | exact e1 | simp [up3, e1])) ?_
        refine x_bipush h dX5_takeSize_23 (by decide) ?_
        refine x_ic_ne_F (tgt := 32) h (by omega) dX5_takeSize_25 (by decide) (by omega) ?_
        refine x_iconst h dX5_takeSize_28 ?_
        refine x_goto (tgt := 33) h dX5_takeSize_29 (by decide) ?_
        refine x_istore h dX5_takeSize_33 (by decide) ?_
        refine x_iload h dX5_takeSize_35 rfl ?_
        refine x_if_eq_F (tgt := 47) h (by omega) dX5_takeSize_37 (by decide) (by omega) ?_
        refine x_aload_n h dX5_takeSize_40 rfl ?_
        refine x_get h fl_5_14 lvz_2 dX5_takeSize_41 (pvf_503 _ _) ?_
        refine x_cV0 h kVX6_advance lkX5_64 ⟨_, _, _, rfl, rfl⟩ dX5_takeSize_44 (c_padv (d := 0) (hLn nf) hB hi (show tK (tB σ 11 L) i ≠ 0 by omega)) lvz_3 rfl rfl (Nat.le_of_ble_eq_true rfl) (by omega) ?_
        refine x_iload h dX5_takeSize_47 rfl ?_
        refine x_if_eq_F (tgt := 60) h (by omega) dX5_takeSize_49 (by decide) (by omega) ?_
        refine x_aload_n h dX5_takeSize_52 rfl ?_
        refine x_aload_n h dX5_takeSize_53 rfl ?_
        refine x_cV1 h kVX5_sizeToldAhead lkX5_107 ⟨_, _, _, rfl, rfl⟩ dX5_takeSize_54 (hsta) lvz_2 rfl rfl (Nat.le_of_ble_eq_true rfl) (by omega) ?_
        refine x_goto (tgt := 67) h dX5_takeSize_57 (by decide) ?_
        refine x_lstore h dX5_takeSize_67 (by decide) ?_
        refine x_aload_n h dX5_takeSize_69 rfl ?_
        refine x_iload h dX5_takeSize_70 rfl ?_
        refine x_if_eq_F (tgt := 79) h (by omega) dX5_takeSize_72 (by decide) (by omega) ?_
        refine x_iconst h dX5_takeSize_75 ?_
        refine x_goto (tgt := 80) h dX5_takeSize_76 (by decide) ?_
        refine x_cV1 h kVX5_expect lkX5_67 ⟨_, _, _, rfl, rfl⟩ dX5_takeSize_80 (c_pexpT (d := 0) (hLn _) hB hn.2.1 h2 (by omega)) lvz_2 rfl rfl (Nat.le_of_ble_eq_true rfl) (by omega) ?_
        refine x_if_ne_T (tgt := 88) h (by omega) dX5_takeSize_83 (by decide) (by omega) ?_
        exact hx C h hr _ ⟨rfl, rfl, rfl, rfl, rfl, rfl, rfl, trivial⟩
      · rw [if_neg h2]
        refine ⟨0, _, ⟨rfl, failZ_ps (τ := up3 σ 2 0 4 nf) (L := L) (i := i + 1) (u := u) (ss := ss) (frame nf)⟩, fun C h hr ls hls => ?_⟩
        refine x_loc hls ?_
        have hsta := c_staF (d := 0) (L := L) (i := i + 1) (u := u) (ss := ss) (σ := up3 σ 2 0 4 nf) (told_nf hT) hd hs hm h12 hB h2
        refine x_iload h dX5_takeSize_9 rfl ?_
        refine x_bipush h dX5_takeSize_11 (by decide) ?_
        refine x_ic_ge_F (tgt := 171) h (by omega) dX5_takeSize_13 (by decide) (by omega) ?_
        refine x_aload_n h dX5_takeSize_16 rfl ?_
        refine x_get h fl_5_14 lvz_2 dX5_takeSize_17 (pvf_503 _ _) ?_
        refine x_get (q := vI (tK (tB σ 11 L) i)) h fl_5_50 lvz_3 dX5_takeSize_20 (congrArg vI (by first | exact e1 | simp [up3, e1])) ?_
        refine x_bipush h dX5_takeSize_23 (by decide) ?_
        refine x_ic_ne_F (tgt := 32) h (by omega) dX5_takeSize_25 (by decide) (by omega) ?_
        refine x_iconst h dX5_takeSize_28 ?_
        refine x_goto (tgt := 33) h dX5_takeSize_29 (by decide) ?_
        refine x_istore h dX5_takeSize_33 (by decide) ?_
        refine x_iload h dX5_takeSize_35 rfl ?_
        refine x_if_eq_F (tgt := 47) h (by omega) dX5_takeSize_37 (by decide) (by omega) ?_
        refine x_aload_n h dX5_takeSize_40 rfl ?_
        refine x_get h fl_5_14 lvz_2 dX5_takeSize_41 (pvf_503 _ _) ?_
        refine x_cV0 h kVX6_advance lkX5_64 ⟨_, _, _, rfl, rfl⟩ dX5_takeSize_44 (c_padv (d := 0) (hLn nf) hB hi (show tK (tB σ 11 L) i ≠ 0 by omega)) lvz_3 rfl rfl (Nat.le_of_ble_eq_true rfl) (by omega) ?_
        refine x_iload h dX5_takeSize_47 rfl ?_
        refine x_if_eq_F (tgt := 60) h (by omega) dX5_takeSize_49 (by decide) (by omega) ?_
        refine x_aload_n h dX5_takeSize_52 rfl ?_
        refine x_aload_n h dX5_takeSize_53 rfl ?_
        refine x_cV1 h kVX5_sizeToldAhead lkX5_107 ⟨_, _, _, rfl, rfl⟩ dX5_takeSize_54 (hsta) lvz_2 rfl rfl (Nat.le_of_ble_eq_true rfl) (by omega) ?_
        refine x_goto (tgt := 67) h dX5_takeSize_57 (by decide) ?_
        refine x_lstore h dX5_takeSize_67 (by decide) ?_
        refine x_aload_n h dX5_takeSize_69 rfl ?_
        refine x_iload h dX5_takeSize_70 rfl ?_
        refine x_if_eq_F (tgt := 79) h (by omega) dX5_takeSize_72 (by decide) (by omega) ?_
        refine x_iconst h dX5_takeSize_75 ?_
        refine x_goto (tgt := 80) h dX5_takeSize_76 (by decide) ?_
        refine x_cV1 h kVX5_expect lkX5_67 ⟨_, _, _, rfl, rfl⟩ dX5_takeSize_80 (c_pexpF (d := 0) hB h2 (by omega)) lvz_2 rfl rfl (Nat.le_of_ble_eq_true rfl) (by omega) ?_
        refine x_if_ne_F (tgt := 88) h (by omega) dX5_takeSize_83 (by decide) (by omega) ?_
        refine x_iconst h dX5_takeSize_86 ?_
        exact x_ireturn h hr dX5_takeSize_87 (Or.inr ⟨rfl, by omega⟩) ⟨Nat.le_refl _, Nat.le_refl _⟩
    · rw [if_neg h35]
      have ev1 := ev i nf
      by_cases h1 : tK (tB σ 11 L) i = 1
      · rw [if_pos h1]
        have hn := tq_next hB hi (by omega)
        obtain ⟨r, σ', hz, hx⟩ := step (i + 1) (tV (tB σ 11 L) i) nf hn.2.1 hnf
        refine ⟨r, σ', hz, fun C h hr ls hls => ?_⟩
        refine x_loc hls ?_
        refine x_iload h dX5_takeSize_9 rfl ?_
        refine x_bipush h dX5_takeSize_11 (by decide) ?_
        refine x_ic_ge_F (tgt := 171) h (by omega) dX5_takeSize_13 (by decide) (by omega) ?_
        refine x_aload_n h dX5_takeSize_16 rfl ?_
        refine x_get h fl_5_14 lvz_2 dX5_takeSize_17 (pvf_503 _ _) ?_
        refine x_get (q := vI (tK (tB σ 11 L) i)) h fl_5_50 lvz_3 dX5_takeSize_20 (congrArg vI (by first | exact e1 | simp [up3, e1])) ?_
        refine x_bipush h dX5_takeSize_23 (by decide) ?_
        refine x_ic_ne_T (tgt := 32) h (by omega) dX5_takeSize_25 (by decide) (by omega) ?_
        refine x_iconst h dX5_takeSize_32 ?_
        refine x_istore h dX5_takeSize_33 (by decide) ?_
        refine x_iload h dX5_takeSize_35 rfl ?_
        refine x_if_eq_T (tgt := 47) h (by omega) dX5_takeSize_37 (by decide) (by omega) ?_
        refine x_iload h dX5_takeSize_47 rfl ?_
        refine x_if_eq_T (tgt := 60) h (by omega) dX5_takeSize_49 (by decide) (by omega) ?_
        refine x_aload_n h dX5_takeSize_60 rfl ?_
        refine x_get h fl_5_14 lvz_2 dX5_takeSize_61 (pvf_503 _ _) ?_
        refine x_get (q := vL (tV (tB σ 11 L) i)) h fl_5_71 lvz_3 dX5_takeSize_64 (congrArg vL (by first | exact ev1 | simp [up3, ev1])) ?_
        refine x_lstore h dX5_takeSize_67 (by decide) ?_
        refine x_aload_n h dX5_takeSize_69 rfl ?_
        refine x_iload h dX5_takeSize_70 rfl ?_
        refine x_if_eq_T (tgt := 79) h (by omega) dX5_takeSize_72 (by decide) (by omega) ?_
        refine x_iconst h dX5_takeSize_79 ?_
        refine x_cV1 h kVX5_expect lkX5_67 ⟨_, _, _, rfl, rfl⟩ dX5_takeSize_80 (c_pexpT (d := 0) (hLn nf) hB hi h1 (by omega)) lvz_2 rfl rfl (Nat.le_of_ble_eq_true rfl) (by omega) ?_
        refine x_if_ne_T (tgt := 88) h (by omega) dX5_takeSize_83 (by decide) (by omega) ?_
        exact hx C h hr _ ⟨rfl, rfl, rfl, rfl, rfl, rfl, rfl, trivial⟩
      · rw [if_neg h1]
        refine ⟨0, _, ⟨rfl, failZ_ps (τ := up3 σ 2 0 4 nf) (L := L) (i := i) (u := u) (ss := ss) (frame nf)⟩, fun C h hr ls hls => ?_⟩
        refine x_loc hls ?_
        refine x_iload h dX5_takeSize_9 rfl ?_
        refine x_bipush h dX5_takeSize_11 (by decide) ?_
        refine x_ic_ge_F (tgt := 171) h (by omega) dX5_takeSize_13 (by decide) (by omega) ?_
        refine x_aload_n h dX5_takeSize_16 rfl ?_
        refine x_get h fl_5_14 lvz_2 dX5_takeSize_17 (pvf_503 _ _) ?_
        refine x_get (q := vI (tK (tB σ 11 L) i)) h fl_5_50 lvz_3 dX5_takeSize_20 (congrArg vI (by first | exact e1 | simp [up3, e1])) ?_
        refine x_bipush h dX5_takeSize_23 (by decide) ?_
        refine x_ic_ne_T (tgt := 32) h (by omega) dX5_takeSize_25 (by decide) (by omega) ?_
        refine x_iconst h dX5_takeSize_32 ?_
        refine x_istore h dX5_takeSize_33 (by decide) ?_
        refine x_iload h dX5_takeSize_35 rfl ?_
        refine x_if_eq_T (tgt := 47) h (by omega) dX5_takeSize_37 (by decide) (by omega) ?_
        refine x_iload h dX5_takeSize_47 rfl ?_
        refine x_if_eq_T (tgt := 60) h (by omega) dX5_takeSize_49 (by decide) (by omega) ?_
        refine x_aload_n h dX5_takeSize_60 rfl ?_
        refine x_get h fl_5_14 lvz_2 dX5_takeSize_61 (pvf_503 _ _) ?_
        refine x_get (q := vL (tV (tB σ 11 L) i)) h fl_5_71 lvz_3 dX5_takeSize_64 (congrArg vL (by first | exact ev1 | simp [up3, ev1])) ?_
        refine x_lstore h dX5_takeSize_67 (by decide) ?_
        refine x_aload_n h dX5_takeSize_69 rfl ?_
        refine x_iload h dX5_takeSize_70 rfl ?_
        refine x_if_eq_T (tgt := 79) h (by omega) dX5_takeSize_72 (by decide) (by omega) ?_
        refine x_iconst h dX5_takeSize_79 ?_
        refine x_cV1 h kVX5_expect lkX5_67 ⟨_, _, _, rfl, rfl⟩ dX5_takeSize_80 (c_pexpF (d := 0) hB h1 (by omega)) lvz_2 rfl rfl (Nat.le_of_ble_eq_true rfl) (by omega) ?_
        refine x_if_ne_F (tgt := 88) h (by omega) dX5_takeSize_83 (by decide) (by omega) ?_
        refine x_iconst h dX5_takeSize_86 ?_
        exact x_ireturn h hr dX5_takeSize_87 (Or.inr ⟨rfl, by omega⟩) ⟨Nat.le_refl _, Nat.le_refl _⟩
theorem c_takeSize {σ : Mm} {L m i u s : Nat} {ss : List Zs} {ds : List TabD} {nf : Int} (hL : TapeL σ L) (hB : BOk (tB σ 11 L) L) (hT : Told σ s ds) (hd : DsOk ds) (hs : s < 2) (hm : m = 12 * s + ds.length) (h12 : ds.length < 12) (hnf : σ 2 0 4 = nf) (hnf2 : -2147483648 ≤ nf ∧ nf < 2147483648) (hi : tq (tB σ 11 L) i ≤ L) : ∃ (r : Int) (σ' : Mm), ZRes σ L m u ss (szL (tK (tB σ 11 L)) (tV (tB σ 11 L)) (tQ (tB σ 11 L)) ds 8 i 0 43 nf) r σ' ∧ Ct 8 mX5_takeSize 1 [vR 2 0, vR 4 s, vR 5 m] NALL (psS σ L m i u ss) (some (vI r)) NALL σ' 0 0 := by
  obtain ⟨r, σ', hz, hx⟩ := size_loop (u := u) (ss := ss) hL hB hT hd hs hm h12 8 0 i 0 43 nf rfl (by unfold i64; omega) hnf2 (by omega) hi
  refine ⟨r, σ', hz, ?_⟩
  have e : up3 σ 2 0 4 nf = σ := by rw [← hnf, up3_id]
  rw [e] at hx
  refine ct_of (by decide) (Nat.le_of_ble_eq_true rfl) (fun C h hr _ => ?_)
  have h : Ok C RX5 cX5_takeSize 10 _ := h
  refine x_lconst0 h dX5_takeSize_0 ?_
  refine x_lstore_n h dX5_takeSize_1 (by decide) ?_
  refine x_bipush h dX5_takeSize_2 (by decide) ?_
  refine x_istore h dX5_takeSize_4 (by decide) ?_
  refine x_iconst h dX5_takeSize_6 ?_
  refine x_istore h dX5_takeSize_7 (by decide) ?_
  exact hx C h hr _ ⟨rfl, rfl, rfl, rfl, rfl, rfl, trivial⟩
