/-! a whole TABLE -/
def AtTok (τ : Mm) (L i : Nat) : Prop := τ 3 0 1 = tkE (tB τ 11 L) (tq (tB τ 11 L) i) ∧ τ 3 0 2 = tK (tB τ 11 L) i ∧ τ 3 0 3 = tQ (tB τ 11 L) i ∧ τ 3 0 4 = tV (tB τ 11 L) i
theorem psS_form (σ : Mm) (L m i u : Nat) (ss : List Zs) : FormOk (psS σ L m i u ss) m ss := by
  unfold psS
  refine ⟨psT_len _ _ _ _ _ _ _ _, fun j hj => ⟨?_, ?_, ?_⟩⟩
  · unfold psT up3 lsS
    rw [if_neg (by omega), if_pos ⟨rfl, rfl, hj⟩]
  · exact psT_14 _ _ _ _ _ _ _ _ _ hj
  · unfold psT up3 lsS
    rw [if_neg (by omega), if_neg (by omega), if_neg (by omega), if_pos ⟨rfl, rfl, hj⟩]
theorem psS_B (σ : Mm) (L m i u : Nat) (ss : List Zs) : tB (psS σ L m i u ss) 11 L = tB σ 11 L := by unfold psS; exact psT_B _ _ _ _ _ _ _ _ _
theorem psS_at (σ : Mm) (L m i u : Nat) (ss : List Zs) : AtTok (psS σ L m i u ss) L i := by
  unfold AtTok
  rw [psS_B]
  exact ⟨psS_next _ _ _ _ _ _, psS_kind _ _ _ _ _ _, psS_place _ _ _ _ _ _, psS_value _ _ _ _ _ _⟩
theorem psS_5 (σ : Mm) (L m i u : Nat) (ss : List Zs) (k j : Nat) : psS σ L m i u ss 5 k j = σ 5 k j := by unfold psS; exact psT_f _ _ _ _ _ _ _ _ (by decide) (by omega) (by omega)
theorem psS_fr {σ τ : Mm} {L m i u : Nat} {ss : List Zs} (h : FrM m τ σ) : FrM m (psS τ L m i u ss) σ := by
  intro f k j hf
  unfold psS
  rw [psT_f _ _ _ _ _ _ _ _ (by omega) (by omega) (by omega)]
  exact h f k j hf
theorem frM_up {m f k j : Nat} {τ σ : Mm} {x : Int} (h : FrM m τ σ) (hf : f = 3 ∨ f = 2 ∨ (k = m ∧ ((f = 5 ∧ j ≠ 8) ∨ f = 6 ∨ f = 13 ∨ f = 14 ∨ f = 15))) : FrM m (up3 τ f k j x) σ := by
  intro f' k' j' hn
  have e : up3 τ f k j x f' k' j' = τ f' k' j' := by
    unfold up3
    rw [if_neg (fun z => hn (by obtain ⟨rfl, rfl, rfl⟩ := z; exact hf))]
  rw [e]
  exact h f' k' j' hn
theorem frM_rf (m : Nat) (σ : Mm) : FrM m σ σ := fun _ _ _ _ => rfl
theorem frM_end {m : Nat} {τ σ : Mm} {ip pr : Int} (h : FrM m τ σ) : FrM m (endS τ m ip pr) σ := by
  unfold endS
  split
  · exact frM_up (frM_up h (by omega)) (by omega)
  · exact frM_up h (by omega)
theorem frM_tr {m : Nat} {ρ τ σ : Mm} (h : FrM m ρ τ) (h2 : FrM m τ σ) : FrM m ρ σ := fun f k j hf => (h f k j hf).trans (h2 f k j hf)
theorem frM_B {m L : Nat} {τ σ : Mm} (h : FrM m τ σ) : tB τ 11 L = tB σ 11 L := by
  funext j
  unfold tB
  rw [h 11 0 j (by omega)]
def TRes (τ : Mm) (L m : Nat) (res : Nat ⊕ (Nat × TabD × Int)) (r : Int) (σ' : Mm) : Prop := match res with
  | .inl e => r = 0 ∧ FailZ τ m σ' (tQ (tB τ 11 L) e)
  | .inr (i', D, nf') => r = 1 ∧ FrM m σ' τ ∧ TabOk σ' m D ∧ FormOk σ' m D.2.2.2.2.2 ∧ AtTok σ' L i' ∧ σ' 2 0 4 = nf' ∧ tq (tB τ 11 L) i' ≤ L ∧ i64 D.1 ∧ i64 D.2.1 ∧ (-2147483648 ≤ nf' ∧ nf' < 2147483648) ∧ (D.2.2.1 = 0 ∨ D.2.2.1 = 1) ∧ (D.2.2.2.1 = 0 ∨ D.2.2.2.1 = 1)
theorem failZ_tr {m : Nat} {σ' τ σ : Mm} {x : Int} (h : FailZ τ m σ' x) (h2 : FrM m τ σ) : FailZ σ m σ' x := ⟨h.1, fun f k j hf => (h.2 f k j hf).trans (h2 f k j hf)⟩
theorem endS_7 (σ : Mm) (m : Nat) (ip pr : Int) (j : Nat) (h : j ≠ 6 ∧ j ≠ 7) : endS σ m ip pr 5 m j = σ 5 m j := by
  unfold endS
  split
  · rw [up3_j _ _ h.2, up3_j _ _ h.1]
  · rw [up3_j _ _ h.1]
theorem endF_ip {K V : Nat → Int} {i i' : Nat} {ip pr : Int} (h : endF K V i = .inr (i', ip, pr)) : ip = 0 ∨ ip = 1 := by
  unfold endF at h
  repeat' split at h
  all_goals first | (cases h; done) | (injection h with h; injection h with h1 h2; injection h2 with h2 h3; omega)
/-- from the body's NAME on -/
theorem c_tbody {σ : Mm} {L m i s : Nat} {ds : List TabD} {nm nf : Int} (hL : TapeL σ L) (hB : BOk (tB σ 11 L) L) (hT : Told σ s ds) (hd : DsOk ds) (hs : s < 2) (hm : m = 12 * s + ds.length) (h12 : ds.length < 12) (hf : σ 2 0 1 = m) (hnf : σ 2 0 4 = nf) (hnf2 : -2147483648 ≤ nf ∧ nf < 2147483648) (hnm : σ 5 m 3 = nm) (hnm2 : tK (tB σ 11 L) i = 2 → i64 nm) (hi : tq (tB σ 11 L) i ≤ L) : ∃ (r : Int) (σ' : Mm), TRes σ L m (if tK (tB σ 11 L) i = 2 then (if tK (tB σ 11 L) (i + 1) = 91 then (match szL (tK (tB σ 11 L)) (tV (tB σ 11 L)) (tQ (tB σ 11 L)) ds 8 (i + 2) 0 43 nf with | .inl e => .inl e | .inr (i4, size, nf2) => bodyF (tK (tB σ 11 L)) (tV (tB σ 11 L)) (tQ (tB σ 11 L)) i4 nm size nf2) else .inl (i + 1)) else .inl i) r σ' ∧ ∀ C : Cx, Ok C RX5 cX5_takeTable 3 64 → Rt C 1 (some .boolean) (some (vI r)) NALL σ' 0 0 → ∀ ls, lsub [(0, vR 2 0), (1, vR 4 s), (2, vR 5 m)] ls → X C 1 79 ls [] NALL (psS σ L m i 0 []) 0 0 := by
  have hm24 : m < 24 := by omega
  have fps : ∀ (τ : Mm) (i u : Nat) (ss : List Zs), FrM m τ σ → FailZ σ m (up3 (psS τ L m i u ss) 2 0 3 (tQ (tB σ 11 L) i)) (tQ (tB σ 11 L) i) := fun τ i u ss h => failZ_ps h
  by_cases k2 : tK (tB σ 11 L) i = 2
  rotate_left
  · rw [if_neg k2]
    refine ⟨0, _, ⟨rfl, fps σ i 0 [] (frM_rf m σ)⟩, fun C h hr ls hls => x_loc hls ?_⟩
    refine x_aload_n h dX5_takeTable_79 rfl ?_
    refine x_iconst h dX5_takeTable_80 ?_
    refine x_cV1 h kVX5_expect lkX5_67 ⟨_, _, _, rfl, rfl⟩ dX5_takeTable_81 (c_pexpF (d := 0) hB k2 (by omega)) lvz_2 rfl rfl (Nat.le_of_ble_eq_true rfl) (by omega) ?_
    refine x_if_eq_T (tgt := 151) h (by omega) dX5_takeTable_84 (by decide) (by omega) ?_
    refine x_iconst h dX5_takeTable_151 ?_
    exact x_ireturn h hr dX5_takeTable_152 (Or.inr ⟨rfl, by omega⟩) ⟨Nat.le_refl _, Nat.le_refl _⟩
  rw [if_pos k2]
  have hn := tq_next hB hi (by omega)
  have e1 := c_pexpT (d := 0) (m := m) (u := 0) (ss := []) hL hB hi k2 (by omega)
  by_cases k91 : tK (tB σ 11 L) (i + 1) = 91
  rotate_left
  · rw [if_neg k91]
    refine ⟨0, _, ⟨rfl, fps σ (i + 1) 0 [] (frM_rf m σ)⟩, fun C h hr ls hls => x_loc hls ?_⟩
    refine x_aload_n h dX5_takeTable_79 rfl ?_
    refine x_iconst h dX5_takeTable_80 ?_
    refine x_cV1 h kVX5_expect lkX5_67 ⟨_, _, _, rfl, rfl⟩ dX5_takeTable_81 (e1) lvz_2 rfl rfl (Nat.le_of_ble_eq_true rfl) (by omega) ?_
    refine x_if_eq_F (tgt := 151) h (by omega) dX5_takeTable_84 (by decide) (by omega) ?_
    refine x_aload_n h dX5_takeTable_87 rfl ?_
    refine x_bipush h dX5_takeTable_88 (by decide) ?_
    refine x_cV1 h kVX5_expect lkX5_67 ⟨_, _, _, rfl, rfl⟩ dX5_takeTable_90 (c_pexpF (d := 0) hB k91 (by omega)) lvz_2 rfl rfl (Nat.le_of_ble_eq_true rfl) (by omega) ?_
    refine x_if_eq_T (tgt := 151) h (by omega) dX5_takeTable_93 (by decide) (by omega) ?_
    refine x_iconst h dX5_takeTable_151 ?_
    exact x_ireturn h hr dX5_takeTable_152 (Or.inr ⟨rfl, by omega⟩) ⟨Nat.le_refl _, Nat.le_refl _⟩
  rw [if_pos k91]
  have hn1 := tq_next (i := i + 1) hB hn.2.1 (by omega)
  have e2 := c_pexpT (d := 0) (m := m) (u := 0) (ss := []) (i := i + 1) hL hB hn.2.1 k91 (by omega)
  obtain ⟨r1, σ1, hz, hct⟩ := c_takeSize (i := i + 2) (u := 0) (ss := []) hL hB hT hd hs hm h12 hnf hnf2 hn1.2.1
  cases hv : szL (tK (tB σ 11 L)) (tV (tB σ 11 L)) (tQ (tB σ 11 L)) ds 8 (i + 2) 0 43 nf with
  | inl e =>
    rw [hv] at hz
    obtain ⟨rfl, hfl⟩ := hz
    refine ⟨0, σ1, ⟨rfl, hfl⟩, fun C h hr ls hls => x_loc hls ?_⟩
    refine x_aload_n h dX5_takeTable_79 rfl ?_
    refine x_iconst h dX5_takeTable_80 ?_
    refine x_cV1 h kVX5_expect lkX5_67 ⟨_, _, _, rfl, rfl⟩ dX5_takeTable_81 (e1) lvz_2 rfl rfl (Nat.le_of_ble_eq_true rfl) (by omega) ?_
    refine x_if_eq_F (tgt := 151) h (by omega) dX5_takeTable_84 (by decide) (by omega) ?_
    refine x_aload_n h dX5_takeTable_87 rfl ?_
    refine x_bipush h dX5_takeTable_88 (by decide) ?_
    refine x_cV1 h kVX5_expect lkX5_67 ⟨_, _, _, rfl, rfl⟩ dX5_takeTable_90 (e2) lvz_2 rfl rfl (Nat.le_of_ble_eq_true rfl) (by omega) ?_
    refine x_if_eq_F (tgt := 151) h (by omega) dX5_takeTable_93 (by decide) (by omega) ?_
    refine x_aload_n h dX5_takeTable_96 rfl ?_
    refine x_aload_n h dX5_takeTable_97 rfl ?_
    refine x_aload_n h dX5_takeTable_98 rfl ?_
    refine x_cV1 h kVX5_takeSize lkX5_94 ⟨_, _, _, rfl, rfl⟩ dX5_takeTable_99 (hct) lvz_2 rfl rfl (Nat.le_of_ble_eq_true rfl) (by omega) ?_
    refine x_if_eq_T (tgt := 151) h (by omega) dX5_takeTable_102 (by decide) (by omega) ?_
    refine x_iconst h dX5_takeTable_151 ?_
    exact x_ireturn h hr dX5_takeTable_152 (Or.inr ⟨rfl, by omega⟩) ⟨Nat.le_refl _, Nat.le_refl _⟩
  | inr t =>
    obtain ⟨i4, sz, nf2⟩ := t
    rw [hv] at hz
    obtain ⟨rfl, rfl, hi4, hsz, hnf3⟩ := hz
    show ∃ r σ', TRes σ L m (bodyF (tK (tB σ 11 L)) (tV (tB σ 11 L)) (tQ (tB σ 11 L)) i4 nm sz nf2) r σ' ∧ _
    unfold bodyF
    generalize hτ1 : up3 (up3 σ 2 0 4 nf2) 5 m 4 sz = τ1 at hct
    have fr1 : FrM m τ1 σ := by rw [← hτ1]; exact frM_up (frM_up (frM_rf m σ) (by omega)) (by omega)
    have B1 : tB τ1 11 L = tB σ 11 L := frM_B fr1
    have hL1 : TapeL τ1 L := ⟨by rw [fr1 1 0 1 (by omega)]; exact hL.1, hL.2⟩
    have hB1 : BOk (tB τ1 11 L) L := by rw [B1]; exact hB
    have hk4 := tkK_r hB (tq (tB σ 11 L) i4)
    by_cases k93 : tK (tB σ 11 L) i4 = 93
    rotate_left
    · rw [if_neg k93]
      refine ⟨0, _, ⟨rfl, fps τ1 i4 0 [] fr1⟩, fun C h hr ls hls => x_loc hls ?_⟩
      have ex := c_pexpF (d := 0) (σ := τ1) (L := L) (m := m) (i := i4) (u := 0) (ss := []) (k := 93) hB1 (by rw [B1]; exact k93) (by omega)
      rw [B1] at ex
      refine x_aload_n h dX5_takeTable_79 rfl ?_
      refine x_iconst h dX5_takeTable_80 ?_
      refine x_cV1 h kVX5_expect lkX5_67 ⟨_, _, _, rfl, rfl⟩ dX5_takeTable_81 (e1) lvz_2 rfl rfl (Nat.le_of_ble_eq_true rfl) (by omega) ?_
      refine x_if_eq_F (tgt := 151) h (by omega) dX5_takeTable_84 (by decide) (by omega) ?_
      refine x_aload_n h dX5_takeTable_87 rfl ?_
      refine x_bipush h dX5_takeTable_88 (by decide) ?_
      refine x_cV1 h kVX5_expect lkX5_67 ⟨_, _, _, rfl, rfl⟩ dX5_takeTable_90 (e2) lvz_2 rfl rfl (Nat.le_of_ble_eq_true rfl) (by omega) ?_
      refine x_if_eq_F (tgt := 151) h (by omega) dX5_takeTable_93 (by decide) (by omega) ?_
      refine x_aload_n h dX5_takeTable_96 rfl ?_
      refine x_aload_n h dX5_takeTable_97 rfl ?_
      refine x_aload_n h dX5_takeTable_98 rfl ?_
      refine x_cV1 h kVX5_takeSize lkX5_94 ⟨_, _, _, rfl, rfl⟩ dX5_takeTable_99 (hct) lvz_2 rfl rfl (Nat.le_of_ble_eq_true rfl) (by omega) ?_
      refine x_if_eq_F (tgt := 151) h (by omega) dX5_takeTable_102 (by decide) (by omega) ?_
      refine x_aload_n h dX5_takeTable_105 rfl ?_
      refine x_bipush h dX5_takeTable_106 (by decide) ?_
      refine x_cV1 h kVX5_expect lkX5_67 ⟨_, _, _, rfl, rfl⟩ dX5_takeTable_108 (ex) lvz_2 rfl rfl (Nat.le_of_ble_eq_true rfl) (by omega) ?_
      refine x_if_eq_T (tgt := 151) h (by omega) dX5_takeTable_111 (by decide) (by omega) ?_
      refine x_iconst h dX5_takeTable_151 ?_
      exact x_ireturn h hr dX5_takeTable_152 (Or.inr ⟨rfl, by omega⟩) ⟨Nat.le_refl _, Nat.le_refl _⟩
    rw [if_pos k93]
    have hn4 := tq_next (i := i4) hB hi4 (by omega)
    have e4 := c_pexpT (d := 0) (σ := τ1) (L := L) (m := m) (i := i4) (u := 0) (ss := []) (k := 93) hL1 hB1 (by rw [B1]; exact hi4) (by rw [B1]; exact k93) (by omega)
    obtain ⟨r5, σ5, hct5, h5⟩ := c_manner (σ := τ1) (L := L) (m := m) (i := i4 + 1) (u := 0) (ss := []) hL1 hB1 hm24 (by rw [B1]; exact hn4.2.1)
    rw [B1] at h5
    rcases h5 with ⟨hman, rfl, rfl, hi5⟩ | ⟨hman, rfl, rfl⟩
    rotate_left
    · rw [if_neg hman]
      refine ⟨0, _, ⟨rfl, fps (up3 τ1 5 m 5 0) (i4 + 1) 0 [] (frM_up fr1 (by omega))⟩, fun C h hr ls hls => x_loc hls ?_⟩
      refine x_aload_n h dX5_takeTable_79 rfl ?_
      refine x_iconst h dX5_takeTable_80 ?_
      refine x_cV1 h kVX5_expect lkX5_67 ⟨_, _, _, rfl, rfl⟩ dX5_takeTable_81 (e1) lvz_2 rfl rfl (Nat.le_of_ble_eq_true rfl) (by omega) ?_
      refine x_if_eq_F (tgt := 151) h (by omega) dX5_takeTable_84 (by decide) (by omega) ?_
      refine x_aload_n h dX5_takeTable_87 rfl ?_
      refine x_bipush h dX5_takeTable_88 (by decide) ?_
      refine x_cV1 h kVX5_expect lkX5_67 ⟨_, _, _, rfl, rfl⟩ dX5_takeTable_90 (e2) lvz_2 rfl rfl (Nat.le_of_ble_eq_true rfl) (by omega) ?_
      refine x_if_eq_F (tgt := 151) h (by omega) dX5_takeTable_93 (by decide) (by omega) ?_
      refine x_aload_n h dX5_takeTable_96 rfl ?_
      refine x_aload_n h dX5_takeTable_97 rfl ?_
      refine x_aload_n h dX5_takeTable_98 rfl ?_
      refine x_cV1 h kVX5_takeSize lkX5_94 ⟨_, _, _, rfl, rfl⟩ dX5_takeTable_99 (hct) lvz_2 rfl rfl (Nat.le_of_ble_eq_true rfl) (by omega) ?_
      refine x_if_eq_F (tgt := 151) h (by omega) dX5_takeTable_102 (by decide) (by omega) ?_
      refine x_aload_n h dX5_takeTable_105 rfl ?_
      refine x_bipush h dX5_takeTable_106 (by decide) ?_
      refine x_cV1 h kVX5_expect lkX5_67 ⟨_, _, _, rfl, rfl⟩ dX5_takeTable_108 (e4) lvz_2 rfl rfl (Nat.le_of_ble_eq_true rfl) (by omega) ?_
      refine x_if_eq_F (tgt := 151) h (by omega) dX5_takeTable_111 (by decide) (by omega) ?_
      refine x_aload_n h dX5_takeTable_114 rfl ?_
      refine x_aload_n h dX5_takeTable_115 rfl ?_
      refine x_cV1 h kVX5_takeManner lkX5_97 ⟨_, _, _, rfl, rfl⟩ dX5_takeTable_116 (hct5) lvz_2 rfl rfl (Nat.le_of_ble_eq_true rfl) (by omega) ?_
      refine x_if_eq_T (tgt := 151) h (by omega) dX5_takeTable_119 (by decide) (by omega) ?_
      refine x_iconst h dX5_takeTable_151 ?_
      exact x_ireturn h hr dX5_takeTable_152 (Or.inr ⟨rfl, by omega⟩) ⟨Nat.le_refl _, Nat.le_refl _⟩
    rw [if_pos hman]
    generalize hτ2 : up3 τ1 5 m 5 (if tK (tB σ 11 L) (i4 + 1) = 6 then 1 else 0) = τ2 at hct5
    have fr2 : FrM m τ2 σ := by rw [← hτ2]; exact frM_up fr1 (by omega)
    have B2 : tB τ2 11 L = tB σ 11 L := frM_B fr2
    have hL2 : TapeL τ2 L := ⟨by rw [fr2 1 0 1 (by omega)]; exact hL.1, hL.2⟩
    have hB2 : BOk (tB τ2 11 L) L := by rw [B2]; exact hB
    have hf2 : τ2 2 0 1 = m := by
      rw [← hτ2, ← hτ1, up3_f _ _ (by decide), up3_f _ _ (by decide), up3_j _ _ (by decide)]; exact hf
    by_cases k61 : tK (tB σ 11 L) (i4 + 2) = 61
    rotate_left
    · rw [if_neg k61]
      refine ⟨0, _, ⟨rfl, fps τ2 (i4 + 2) 0 [] fr2⟩, fun C h hr ls hls => x_loc hls ?_⟩
      have ex := c_pexpF (d := 0) (σ := τ2) (L := L) (m := m) (i := i4 + 2) (u := 0) (ss := []) (k := 61) hB2 (by rw [B2]; exact k61) (by omega)
      rw [B2] at ex
      refine x_aload_n h dX5_takeTable_79 rfl ?_
      refine x_iconst h dX5_takeTable_80 ?_
      refine x_cV1 h kVX5_expect lkX5_67 ⟨_, _, _, rfl, rfl⟩ dX5_takeTable_81 (e1) lvz_2 rfl rfl (Nat.le_of_ble_eq_true rfl) (by omega) ?_
      refine x_if_eq_F (tgt := 151) h (by omega) dX5_takeTable_84 (by decide) (by omega) ?_
      refine x_aload_n h dX5_takeTable_87 rfl ?_
      refine x_bipush h dX5_takeTable_88 (by decide) ?_
      refine x_cV1 h kVX5_expect lkX5_67 ⟨_, _, _, rfl, rfl⟩ dX5_takeTable_90 (e2) lvz_2 rfl rfl (Nat.le_of_ble_eq_true rfl) (by omega) ?_
      refine x_if_eq_F (tgt := 151) h (by omega) dX5_takeTable_93 (by decide) (by omega) ?_
      refine x_aload_n h dX5_takeTable_96 rfl ?_
      refine x_aload_n h dX5_takeTable_97 rfl ?_
      refine x_aload_n h dX5_takeTable_98 rfl ?_
      refine x_cV1 h kVX5_takeSize lkX5_94 ⟨_, _, _, rfl, rfl⟩ dX5_takeTable_99 (hct) lvz_2 rfl rfl (Nat.le_of_ble_eq_true rfl) (by omega) ?_
      refine x_if_eq_F (tgt := 151) h (by omega) dX5_takeTable_102 (by decide) (by omega) ?_
      refine x_aload_n h dX5_takeTable_105 rfl ?_
      refine x_bipush h dX5_takeTable_106 (by decide) ?_
      refine x_cV1 h kVX5_expect lkX5_67 ⟨_, _, _, rfl, rfl⟩ dX5_takeTable_108 (e4) lvz_2 rfl rfl (Nat.le_of_ble_eq_true rfl) (by omega) ?_
      refine x_if_eq_F (tgt := 151) h (by omega) dX5_takeTable_111 (by decide) (by omega) ?_
      refine x_aload_n h dX5_takeTable_114 rfl ?_
      refine x_aload_n h dX5_takeTable_115 rfl ?_
      refine x_cV1 h kVX5_takeManner lkX5_97 ⟨_, _, _, rfl, rfl⟩ dX5_takeTable_116 (hct5) lvz_2 rfl rfl (Nat.le_of_ble_eq_true rfl) (by omega) ?_
      refine x_if_eq_F (tgt := 151) h (by omega) dX5_takeTable_119 (by decide) (by omega) ?_
      refine x_aload_n h dX5_takeTable_122 rfl ?_
      refine x_bipush h dX5_takeTable_123 (by decide) ?_
      refine x_cV1 h kVX5_expect lkX5_67 ⟨_, _, _, rfl, rfl⟩ dX5_takeTable_125 (ex) lvz_2 rfl rfl (Nat.le_of_ble_eq_true rfl) (by omega) ?_
      refine x_if_eq_T (tgt := 151) h (by omega) dX5_takeTable_128 (by decide) (by omega) ?_
      refine x_iconst h dX5_takeTable_151 ?_
      exact x_ireturn h hr dX5_takeTable_152 (Or.inr ⟨rfl, by omega⟩) ⟨Nat.le_refl _, Nat.le_refl _⟩
    rw [if_pos k61]
    have hn6 := tq_next (i := i4 + 2) hB hi5 (by omega)
    have e6 := c_pexpT (d := 0) (σ := τ2) (L := L) (m := m) (i := i4 + 2) (u := 0) (ss := []) (k := 61) hL2 hB2 (by rw [B2]; exact hi5) (by rw [B2]; exact k61) (by omega)
    have hUn := c_unit hL2 hB2 hm24 hf2 11 (Nat.le_refl _)
    have hSu := c_sum hL2 hB2 hm24 hf2 (by omega) (uF_b _ _ _ _) hUn
    obtain ⟨r7, σ7, hct7, h7⟩ := hSu 0 (i4 + 3) [] (by omega) (by simp) (by rw [B2]; exact hn6.2.1)
    rw [B2] at h7
    cases hv7 : sumF (tK (tB σ 11 L)) (uF (tK (tB σ 11 L)) (tV (tB σ 11 L)) (tQ (tB σ 11 L)) 11) 0 (i4 + 3) with
    | inl e =>
      rw [hv7] at h7
      obtain ⟨rfl, hfl⟩ := h7
      rw [B2] at hfl
      refine ⟨0, σ7, ⟨rfl, failZ_of fr2 hfl⟩, fun C h hr ls hls => x_loc hls ?_⟩
      refine x_aload_n h dX5_takeTable_79 rfl ?_
      refine x_iconst h dX5_takeTable_80 ?_
      refine x_cV1 h kVX5_expect lkX5_67 ⟨_, _, _, rfl, rfl⟩ dX5_takeTable_81 (e1) lvz_2 rfl rfl (Nat.le_of_ble_eq_true rfl) (by omega) ?_
      refine x_if_eq_F (tgt := 151) h (by omega) dX5_takeTable_84 (by decide) (by omega) ?_
      refine x_aload_n h dX5_takeTable_87 rfl ?_
      refine x_bipush h dX5_takeTable_88 (by decide) ?_
      refine x_cV1 h kVX5_expect lkX5_67 ⟨_, _, _, rfl, rfl⟩ dX5_takeTable_90 (e2) lvz_2 rfl rfl (Nat.le_of_ble_eq_true rfl) (by omega) ?_
      refine x_if_eq_F (tgt := 151) h (by omega) dX5_takeTable_93 (by decide) (by omega) ?_
      refine x_aload_n h dX5_takeTable_96 rfl ?_
      refine x_aload_n h dX5_takeTable_97 rfl ?_
      refine x_aload_n h dX5_takeTable_98 rfl ?_
      refine x_cV1 h kVX5_takeSize lkX5_94 ⟨_, _, _, rfl, rfl⟩ dX5_takeTable_99 (hct) lvz_2 rfl rfl (Nat.le_of_ble_eq_true rfl) (by omega) ?_
      refine x_if_eq_F (tgt := 151) h (by omega) dX5_takeTable_102 (by decide) (by omega) ?_
      refine x_aload_n h dX5_takeTable_105 rfl ?_
      refine x_bipush h dX5_takeTable_106 (by decide) ?_
      refine x_cV1 h kVX5_expect lkX5_67 ⟨_, _, _, rfl, rfl⟩ dX5_takeTable_108 (e4) lvz_2 rfl rfl (Nat.le_of_ble_eq_true rfl) (by omega) ?_
      refine x_if_eq_F (tgt := 151) h (by omega) dX5_takeTable_111 (by decide) (by omega) ?_
      refine x_aload_n h dX5_takeTable_114 rfl ?_
      refine x_aload_n h dX5_takeTable_115 rfl ?_
      refine x_cV1 h kVX5_takeManner lkX5_97 ⟨_, _, _, rfl, rfl⟩ dX5_takeTable_116 (hct5) lvz_2 rfl rfl (Nat.le_of_ble_eq_true rfl) (by omega) ?_
      refine x_if_eq_F (tgt := 151) h (by omega) dX5_takeTable_119 (by decide) (by omega) ?_
      refine x_aload_n h dX5_takeTable_122 rfl ?_
      refine x_bipush h dX5_takeTable_123 (by decide) ?_
      refine x_cV1 h kVX5_expect lkX5_67 ⟨_, _, _, rfl, rfl⟩ dX5_takeTable_125 (e6) lvz_2 rfl rfl (Nat.le_of_ble_eq_true rfl) (by omega) ?_
      refine x_if_eq_F (tgt := 151) h (by omega) dX5_takeTable_128 (by decide) (by omega) ?_
      refine x_aload_n h dX5_takeTable_131 rfl ?_
      refine x_iconst h dX5_takeTable_132 ?_
      refine x_cV1 h kVX5_takeSum lkX5_101 ⟨_, _, _, rfl, rfl⟩ dX5_takeTable_133 (hct7) lvz_2 rfl rfl (Nat.le_of_ble_eq_true rfl) (by omega) ?_
      refine x_if_eq_T (tgt := 151) h (by omega) dX5_takeTable_136 (by decide) (by omega) ?_
      refine x_iconst h dX5_takeTable_151 ?_
      exact x_ireturn h hr dX5_takeTable_152 (Or.inr ⟨rfl, by omega⟩) ⟨Nat.le_refl _, Nat.le_refl _⟩
    | inr t7 =>
      obtain ⟨i7, u7, code⟩ := t7
      rw [hv7] at h7
      obtain ⟨rfl, rfl, hi7⟩ := h7
      rw [B2] at hi7
      obtain ⟨r8, σ8, hct8, h8⟩ := c_end (σ := τ2) (L := L) (m := m) (i := i7) (u := u7) (ss := [] ++ code) hL2 hB2 hm24 (by rw [B2]; exact hi7)
      rw [B2] at h8
      show ∃ r σ', TRes σ L m (match endF (tK (tB σ 11 L)) (tV (tB σ 11 L)) i7 with | .inl e => .inl e | .inr (i6, ip, pr) => .inr (i6, (nm, sz, (if tK (tB σ 11 L) (i4 + 1) = 6 then 1 else 0), ip, pr, code), nf2)) r σ' ∧ _
      cases hv8 : endF (tK (tB σ 11 L)) (tV (tB σ 11 L)) i7 with
      | inl e =>
        rw [hv8] at h8
        obtain ⟨rfl, hfl⟩ := h8
        refine ⟨0, σ8, ⟨rfl, failZ_tr hfl fr2⟩, fun C h hr ls hls => x_loc hls ?_⟩
        refine x_aload_n h dX5_takeTable_79 rfl ?_
        refine x_iconst h dX5_takeTable_80 ?_
        refine x_cV1 h kVX5_expect lkX5_67 ⟨_, _, _, rfl, rfl⟩ dX5_takeTable_81 (e1) lvz_2 rfl rfl (Nat.le_of_ble_eq_true rfl) (by omega) ?_
        refine x_if_eq_F (tgt := 151) h (by omega) dX5_takeTable_84 (by decide) (by omega) ?_
        refine x_aload_n h dX5_takeTable_87 rfl ?_
        refine x_bipush h dX5_takeTable_88 (by decide) ?_
        refine x_cV1 h kVX5_expect lkX5_67 ⟨_, _, _, rfl, rfl⟩ dX5_takeTable_90 (e2) lvz_2 rfl rfl (Nat.le_of_ble_eq_true rfl) (by omega) ?_
        refine x_if_eq_F (tgt := 151) h (by omega) dX5_takeTable_93 (by decide) (by omega) ?_
        refine x_aload_n h dX5_takeTable_96 rfl ?_
        refine x_aload_n h dX5_takeTable_97 rfl ?_
        refine x_aload_n h dX5_takeTable_98 rfl ?_
        refine x_cV1 h kVX5_takeSize lkX5_94 ⟨_, _, _, rfl, rfl⟩ dX5_takeTable_99 (hct) lvz_2 rfl rfl (Nat.le_of_ble_eq_true rfl) (by omega) ?_
        refine x_if_eq_F (tgt := 151) h (by omega) dX5_takeTable_102 (by decide) (by omega) ?_
        refine x_aload_n h dX5_takeTable_105 rfl ?_
        refine x_bipush h dX5_takeTable_106 (by decide) ?_
        refine x_cV1 h kVX5_expect lkX5_67 ⟨_, _, _, rfl, rfl⟩ dX5_takeTable_108 (e4) lvz_2 rfl rfl (Nat.le_of_ble_eq_true rfl) (by omega) ?_
        refine x_if_eq_F (tgt := 151) h (by omega) dX5_takeTable_111 (by decide) (by omega) ?_
        refine x_aload_n h dX5_takeTable_114 rfl ?_
        refine x_aload_n h dX5_takeTable_115 rfl ?_
        refine x_cV1 h kVX5_takeManner lkX5_97 ⟨_, _, _, rfl, rfl⟩ dX5_takeTable_116 (hct5) lvz_2 rfl rfl (Nat.le_of_ble_eq_true rfl) (by omega) ?_
        refine x_if_eq_F (tgt := 151) h (by omega) dX5_takeTable_119 (by decide) (by omega) ?_
        refine x_aload_n h dX5_takeTable_122 rfl ?_
        refine x_bipush h dX5_takeTable_123 (by decide) ?_
        refine x_cV1 h kVX5_expect lkX5_67 ⟨_, _, _, rfl, rfl⟩ dX5_takeTable_125 (e6) lvz_2 rfl rfl (Nat.le_of_ble_eq_true rfl) (by omega) ?_
        refine x_if_eq_F (tgt := 151) h (by omega) dX5_takeTable_128 (by decide) (by omega) ?_
        refine x_aload_n h dX5_takeTable_131 rfl ?_
        refine x_iconst h dX5_takeTable_132 ?_
        refine x_cV1 h kVX5_takeSum lkX5_101 ⟨_, _, _, rfl, rfl⟩ dX5_takeTable_133 (hct7) lvz_2 rfl rfl (Nat.le_of_ble_eq_true rfl) (by omega) ?_
        refine x_if_eq_F (tgt := 151) h (by omega) dX5_takeTable_136 (by decide) (by omega) ?_
        refine x_aload_n h dX5_takeTable_139 rfl ?_
        refine x_aload_n h dX5_takeTable_140 rfl ?_
        refine x_cV1 h kVX5_takeEnd lkX5_104 ⟨_, _, _, rfl, rfl⟩ dX5_takeTable_141 (hct8) lvz_2 rfl rfl (Nat.le_of_ble_eq_true rfl) (by omega) ?_
        refine x_if_eq_T (tgt := 151) h (by omega) dX5_takeTable_144 (by decide) (by omega) ?_
        refine x_iconst h dX5_takeTable_151 ?_
        exact x_ireturn h hr dX5_takeTable_152 (Or.inr ⟨rfl, by omega⟩) ⟨Nat.le_refl _, Nat.le_refl _⟩
      | inr t8 =>
        obtain ⟨i9, ip, pr⟩ := t8
        rw [hv8] at h8
        obtain ⟨rfl, rfl, hi9⟩ := h8
        have hip := endF_ip hv8
        refine ⟨1, psS (endS τ2 m ip pr) L m i9 u7 ([] ++ code), ?_, fun C h hr ls hls => x_loc hls ?_⟩
        rotate_left
        · refine x_aload_n h dX5_takeTable_79 rfl ?_
          refine x_iconst h dX5_takeTable_80 ?_
          refine x_cV1 h kVX5_expect lkX5_67 ⟨_, _, _, rfl, rfl⟩ dX5_takeTable_81 (e1) lvz_2 rfl rfl (Nat.le_of_ble_eq_true rfl) (by omega) ?_
          refine x_if_eq_F (tgt := 151) h (by omega) dX5_takeTable_84 (by decide) (by omega) ?_
          refine x_aload_n h dX5_takeTable_87 rfl ?_
          refine x_bipush h dX5_takeTable_88 (by decide) ?_
          refine x_cV1 h kVX5_expect lkX5_67 ⟨_, _, _, rfl, rfl⟩ dX5_takeTable_90 (e2) lvz_2 rfl rfl (Nat.le_of_ble_eq_true rfl) (by omega) ?_
          refine x_if_eq_F (tgt := 151) h (by omega) dX5_takeTable_93 (by decide) (by omega) ?_
          refine x_aload_n h dX5_takeTable_96 rfl ?_
          refine x_aload_n h dX5_takeTable_97 rfl ?_
          refine x_aload_n h dX5_takeTable_98 rfl ?_
          refine x_cV1 h kVX5_takeSize lkX5_94 ⟨_, _, _, rfl, rfl⟩ dX5_takeTable_99 (hct) lvz_2 rfl rfl (Nat.le_of_ble_eq_true rfl) (by omega) ?_
          refine x_if_eq_F (tgt := 151) h (by omega) dX5_takeTable_102 (by decide) (by omega) ?_
          refine x_aload_n h dX5_takeTable_105 rfl ?_
          refine x_bipush h dX5_takeTable_106 (by decide) ?_
          refine x_cV1 h kVX5_expect lkX5_67 ⟨_, _, _, rfl, rfl⟩ dX5_takeTable_108 (e4) lvz_2 rfl rfl (Nat.le_of_ble_eq_true rfl) (by omega) ?_
          refine x_if_eq_F (tgt := 151) h (by omega) dX5_takeTable_111 (by decide) (by omega) ?_
          refine x_aload_n h dX5_takeTable_114 rfl ?_
          refine x_aload_n h dX5_takeTable_115 rfl ?_
          refine x_cV1 h kVX5_takeManner lkX5_97 ⟨_, _, _, rfl, rfl⟩ dX5_takeTable_116 (hct5) lvz_2 rfl rfl (Nat.le_of_ble_eq_true rfl) (by omega) ?_
          refine x_if_eq_F (tgt := 151) h (by omega) dX5_takeTable_119 (by decide) (by omega) ?_
          refine x_aload_n h dX5_takeTable_122 rfl ?_
          refine x_bipush h dX5_takeTable_123 (by decide) ?_
          refine x_cV1 h kVX5_expect lkX5_67 ⟨_, _, _, rfl, rfl⟩ dX5_takeTable_125 (e6) lvz_2 rfl rfl (Nat.le_of_ble_eq_true rfl) (by omega) ?_
          refine x_if_eq_F (tgt := 151) h (by omega) dX5_takeTable_128 (by decide) (by omega) ?_
          refine x_aload_n h dX5_takeTable_131 rfl ?_
          refine x_iconst h dX5_takeTable_132 ?_
          refine x_cV1 h kVX5_takeSum lkX5_101 ⟨_, _, _, rfl, rfl⟩ dX5_takeTable_133 (hct7) lvz_2 rfl rfl (Nat.le_of_ble_eq_true rfl) (by omega) ?_
          refine x_if_eq_F (tgt := 151) h (by omega) dX5_takeTable_136 (by decide) (by omega) ?_
          refine x_aload_n h dX5_takeTable_139 rfl ?_
          refine x_aload_n h dX5_takeTable_140 rfl ?_
          refine x_cV1 h kVX5_takeEnd lkX5_104 ⟨_, _, _, rfl, rfl⟩ dX5_takeTable_141 (hct8) lvz_2 rfl rfl (Nat.le_of_ble_eq_true rfl) (by omega) ?_
          refine x_if_eq_F (tgt := 151) h (by omega) dX5_takeTable_144 (by decide) (by omega) ?_
          refine x_iconst h dX5_takeTable_147 ?_
          refine x_goto (tgt := 152) h dX5_takeTable_148 (by decide) ?_
          exact x_ireturn h hr dX5_takeTable_152 (Or.inr ⟨rfl, by omega⟩) ⟨Nat.le_refl _, Nat.le_refl _⟩
        · have fr3 : FrM m (endS τ2 m ip pr) σ := frM_end fr2
          refine ⟨rfl, psS_fr fr3, ⟨?_, ?_, ?_, ?_, ?_⟩, ?_, psS_at _ _ _ _ _ _, ?_, hi9, hnm2 k2, hsz, hnf3, ?_, hip⟩
          · rw [psS_5, endS_7 _ _ _ _ _ (by decide), ← hτ2, ← hτ1, up3_j _ _ (by decide), up3_j _ _ (by decide), up3_f _ _ (by decide)]; exact hnm
          · rw [psS_5, endS_7 _ _ _ _ _ (by decide), ← hτ2, ← hτ1, up3_j _ _ (by decide), up3_s]
          · rw [psS_5, endS_7 _ _ _ _ _ (by decide), ← hτ2, up3_s]
          · rw [psS_5]
            unfold endS
            rcases hip with rfl | rfl
            · rw [if_neg (by decide), up3_s]
            · rw [if_pos rfl, up3_j _ _ (by decide), up3_s]
          · intro h1
            have h1 : ip = 1 := h1
            rw [psS_5]
            unfold endS
            rw [if_pos h1, up3_s]
          · exact psS_form _ _ _ _ _ _
          · rw [psS_r24]
            have e : endS τ2 m ip pr 2 0 4 = τ2 2 0 4 := by
              unfold endS
              split
              · rw [up3_f _ _ (by decide), up3_f _ _ (by decide)]
              · rw [up3_f _ _ (by decide)]
            rw [e, ← hτ2, ← hτ1, up3_f _ _ (by decide), up3_f _ _ (by decide), up3_s]
          · show (if tK (tB σ 11 L) (i4 + 1) = 6 then (1 : Int) else 0) = 0 ∨ (if tK (tB σ 11 L) (i4 + 1) = 6 then (1 : Int) else 0) = 1
            split
            · exact Or.inr rfl
            · exact Or.inl rfl
/-- the class Tokens at TOKEN i -/
def tokS (τ : Mm) (L i : Nat) : Mm := tkS τ (tkE (tB τ 11 L) (tq (tB τ 11 L) i)) (tK (tB τ 11 L) i) (tQ (tB τ 11 L) i) (tV (tB τ 11 L) i)
theorem adv_tok {τ : Mm} {L i : Nat} : advS τ L (tkE (tB τ 11 L) (tq (tB τ 11 L) i)) = tokS τ L (i + 1) := rfl
/-- a TABLE's first words done, as a state of the reader -/
theorem head_ps (τ : Mm) (L m i : Nat) (nf nm : Int) (hm : m < 24) : up3 (up3 (up3 (up3 (up3 (tokS τ L i) 2 0 4 nf) 5 m 3 nm) 6 m 3 0) 2 0 1 m) 2 0 2 0 = psS (up3 (up3 (up3 τ 2 0 4 nf) 5 m 3 nm) 2 0 1 m) L m i 0 [] := by
  have hB : tB (up3 (up3 (up3 τ 2 0 4 nf) 5 m 3 nm) 2 0 1 m) 11 L = tB τ 11 L := rfl
  unfold psS tokS
  rw [hB]
  generalize ((tkE (tB τ 11 L) (tq (tB τ 11 L) i) : Nat) : Int) = a
  generalize tK (tB τ 11 L) i = b
  generalize tQ (tB τ 11 L) i = c
  generalize tV (tB τ 11 L) i = v
  funext f k j
  by_cases h3 : f = 3
  · subst h3
    unfold psT lsS
    simp [up3, tkS]
  have e1 : ∀ (f' k' j' : Nat) (x : Int) (ρ : Mm), ¬ (f = f' ∧ k = k' ∧ j = j') → up3 ρ f' k' j' x f k j = ρ f k j := fun f' k' j' x ρ h => by unfold up3; rw [if_neg h]
  by_cases h22 : f = 2 ∧ k = 0 ∧ j = 2
  · obtain ⟨rfl, rfl, rfl⟩ := h22
    unfold psT
    rw [up3_s, up3_s]
    rfl
  unfold psT
  rw [e1 2 0 2 _ _ h22, e1 2 0 2 _ _ h22]
  unfold lsS
  rw [if_neg (by simp), if_neg (by simp), if_neg (by simp), tkS_f _ _ _ _ _ h3]
  by_cases h6 : f = 6 ∧ k = m ∧ j = 3
  · obtain ⟨rfl, rfl, rfl⟩ := h6
    rw [if_pos ⟨rfl, rfl, rfl⟩, e1 2 0 1 _ _ (by omega), up3_s]
    rfl
  rw [if_neg (by omega)]
  by_cases h21 : f = 2 ∧ k = 0 ∧ j = 1
  · obtain ⟨rfl, rfl, rfl⟩ := h21
    rw [up3_s, up3_s]
  rw [e1 2 0 1 _ _ h21, e1 2 0 1 _ _ h21, e1 6 m 3 _ _ h6]
  by_cases h5 : f = 5 ∧ k = m ∧ j = 3
  · obtain ⟨rfl, rfl, rfl⟩ := h5
    rw [up3_s, up3_s]
  rw [e1 5 m 3 _ _ h5, e1 5 m 3 _ _ h5]
  by_cases h24 : f = 2 ∧ k = 0 ∧ j = 4
  · obtain ⟨rfl, rfl, rfl⟩ := h24
    rw [up3_s, up3_s]
  rw [e1 2 0 4 _ _ h24, e1 2 0 4 _ _ h24, tkS_f _ _ _ _ _ h3]
theorem told_fr {σ τ : Mm} {s : Nat} {ds : List TabD} (hT : Told σ s ds) (hs : s < 2) (h : ∀ f k j, (f = 4 ∨ (((f = 5 ∧ j ≠ 8) ∨ f = 6 ∨ f = 13 ∨ f = 14 ∨ f = 15) ∧ k < 12 * s + ds.length)) → τ f k j = σ f k j) : Told τ s ds := by
  refine ⟨by rw [h 4 s 1 (Or.inl rfl)]; exact hT.1, fun k hk => ?_⟩
  obtain ⟨⟨g1, g2, g3, g4, g5⟩, g6, g7⟩ := hT.2 k hk
  refine ⟨⟨?_, ?_, ?_, ?_, ?_⟩, ?_, fun j hj => ?_⟩
  · rw [h 5 _ 3 (by omega)]; exact g1
  · rw [h 5 _ 4 (by omega)]; exact g2
  · rw [h 5 _ 5 (by omega)]; exact g3
  · rw [h 5 _ 6 (by omega)]; exact g4
  · rw [h 5 _ 7 (by omega)]; exact g5
  · rw [h 6 _ 3 (by omega)]; exact g6
  · rw [h 13 _ j (by omega), h 14 _ j (by omega), h 15 _ j (by omega)]; exact g7 j hj
theorem c_takeTable {τ : Mm} {L i s : Nat} {ds : List TabD} {nf : Int} (hL : TapeL τ L) (hB : BOk (tB τ 11 L) L) (hT : Told τ s ds) (hd : DsOk ds) (hs : s < 2) (h12 : ds.length < 12) (hnf : τ 2 0 4 = nf) (hnf2 : -2147483648 ≤ nf ∧ nf < 2147483648) (hat : AtTok τ L i) (hi : tq (tB τ 11 L) i ≤ L) : ∃ (r : Int) (σ' : Mm), TRes τ L (12 * s + ds.length) (tabF (tK (tB τ 11 L)) (tV (tB τ 11 L)) (tQ (tB τ 11 L)) ds nf i) r σ' ∧ Ct 64 mX5_takeTable 1 [vR 2 0, vR 4 s, vR 5 (12 * s + ds.length)] NALL τ (some (vI r)) NALL σ' 0 0 := by
  obtain ⟨a1, a2, a3, a4⟩ := hat
  have hkr := tkK_r hB (tq (tB τ 11 L) i)
  have hke : tK (tB τ 11 L) i = tkK (tB τ 11 L) (tq (tB τ 11 L) i) := rfl
  generalize hm : 12 * s + ds.length = m
  have hm24 : m < 24 := by omega
  unfold tabF
  have fault : ∀ {d : Nat}, Ct (d + 1) mX5_faultHere 1 [vR 2 0] NALL τ (some (vI 0)) NALL (up3 τ 2 0 3 (tQ (tB τ 11 L) i)) 0 0 := fun {d} => c_faultHere a3
  by_cases k4 : tK (tB τ 11 L) i = 4
  rotate_left
  · rw [if_neg k4]
    have hex : Ct 2 mX5_expect 1 [vR 2 0, vI 4] NALL τ (some (vI 0)) NALL (up3 τ 2 0 3 (tQ (tB τ 11 L) i)) 0 0 := by
      refine ct_of (by decide) (Nat.le_of_ble_eq_true rfl) (fun C h hr _ => ?_)
      have h : Ok C RX5 cX5_expect 2 _ := h
      refine x_aload_n h dX5_expect_0 rfl ?_
      refine x_get h fl_5_14 lvz_2 dX5_expect_1 (pvf_503 _ _) ?_
      refine x_get (q := vI (tK (tB τ 11 L) i)) h fl_5_50 lvz_3 dX5_expect_4 (congrArg vI (by first | exact a2 | simp [up3, a2])) ?_
      refine x_iload_n h dX5_expect_7 rfl ?_
      refine x_ic_eq_F (tgt := 16) h (by omega) dX5_expect_8 (by decide) (by omega) ?_
      refine x_aload_n h dX5_expect_11 rfl ?_
      refine x_cV1 h kVX5_faultHere lkX5_60 ⟨_, _, _, rfl, rfl⟩ dX5_expect_12 (c_faultHere (d := 0) a3) lvz_2 rfl rfl (Nat.le_of_ble_eq_true rfl) (by omega) ?_
      exact x_ireturn h hr dX5_expect_15 (Or.inr ⟨rfl, by omega⟩) ⟨Nat.le_refl _, Nat.le_refl _⟩
    refine ⟨0, up3 τ 2 0 3 (tQ (tB τ 11 L) i), ⟨rfl, up3_s _ _ _ _ _, fun f k j h => ?_⟩, ?_⟩
    · unfold up3; rw [if_neg (by omega)]
    refine ct_of (by decide) (Nat.le_of_ble_eq_true rfl) (fun C h hr _ => ?_)
    have h : Ok C RX5 cX5_takeTable 3 _ := h
    refine x_aload_n h dX5_takeTable_0 rfl ?_
    refine x_iconst h dX5_takeTable_1 ?_
    refine x_cV1 h kVX5_expect lkX5_67 ⟨_, _, _, rfl, rfl⟩ dX5_takeTable_2 (hex) lvz_2 rfl rfl (Nat.le_of_ble_eq_true rfl) (by omega) ?_
    refine x_if_ne_F (tgt := 10) h (by omega) dX5_takeTable_5 (by decide) (by omega) ?_
    refine x_iconst h dX5_takeTable_8 ?_
    exact x_ireturn h hr dX5_takeTable_9 (Or.inr ⟨rfl, by omega⟩) ⟨Nat.le_refl _, Nat.le_refl _⟩
  rw [if_pos k4]
  have hn := tq_next hB hi (by omega)
  have hex : Ct 3 mX5_expect 1 [vR 2 0, vI 4] NALL τ (some (vI 1)) NALL (tokS τ L (i + 1)) 0 0 := by
    have hadv := c_advance (d := 0) hL hn.1 a1
    rw [adv_tok] at hadv
    refine ct_of (by decide) (Nat.le_of_ble_eq_true rfl) (fun C h hr _ => ?_)
    have h : Ok C RX5 cX5_expect 2 _ := h
    refine x_aload_n h dX5_expect_0 rfl ?_
    refine x_get h fl_5_14 lvz_2 dX5_expect_1 (pvf_503 _ _) ?_
    refine x_get (q := vI (tK (tB τ 11 L) i)) h fl_5_50 lvz_3 dX5_expect_4 (congrArg vI (by first | exact a2 | simp [up3, a2])) ?_
    refine x_iload_n h dX5_expect_7 rfl ?_
    refine x_ic_eq_T (tgt := 16) h (by omega) dX5_expect_8 (by decide) (by omega) ?_
    refine x_aload_n h dX5_expect_16 rfl ?_
    refine x_get h fl_5_14 lvz_2 dX5_expect_17 (pvf_503 _ _) ?_
    refine x_cV0 h kVX6_advance lkX5_64 ⟨_, _, _, rfl, rfl⟩ dX5_expect_20 (hadv) lvz_3 rfl rfl (Nat.le_of_ble_eq_true rfl) (by omega) ?_
    refine x_iconst h dX5_expect_23 ?_
    exact x_ireturn h hr dX5_expect_24 (Or.inr ⟨rfl, by omega⟩) ⟨Nat.le_refl _, Nat.le_refl _⟩
  have hk1 := tkK_r hB (tq (tB τ 11 L) (i + 1))
  have hk1e : tK (tB τ 11 L) (i + 1) = tkK (tB τ 11 L) (tq (tB τ 11 L) (i + 1)) := rfl
  have r2 : tokS τ L (i + 1) 3 0 2 = tK (tB τ 11 L) (i + 1) := tkS_r2 _ _ _ _ _
  have r3 : tokS τ L (i + 1) 3 0 3 = tQ (tB τ 11 L) (i + 1) := tkS_r3 _ _ _ _ _
  have r4 : tokS τ L (i + 1) 3 0 4 = tV (tB τ 11 L) (i + 1) := tkS_r4 _ _ _ _ _
  have hq : (tQ (tB τ 11 L) (i + 1) : Int) = (tq (tB τ 11 L) (i + 1) : Nat) := rfl
  have hL900 := hB.1
  have tokf : ∀ f k j, f ≠ 3 → tokS τ L (i + 1) f k j = τ f k j := fun f k j h => tkS_f _ _ _ _ _ h k j
  -- from 48 on
  have rest : ∀ nf1 : Int, (-2147483648 ≤ nf1 ∧ nf1 < 2147483648) → ∃ (r : Int) (σ' : Mm), TRes τ L m (if tK (tB τ 11 L) (i + 1) = 2 then (if tK (tB τ 11 L) (i + 2) = 91 then (match szL (tK (tB τ 11 L)) (tV (tB τ 11 L)) (tQ (tB τ 11 L)) ds 8 (i + 3) 0 43 nf1 with | .inl e => .inl e | .inr (i4, size, nf2) => bodyF (tK (tB τ 11 L)) (tV (tB τ 11 L)) (tQ (tB τ 11 L)) i4 (tV (tB τ 11 L) (i + 1)) size nf2) else .inl (i + 2)) else .inl (i + 1)) r σ' ∧ ∀ C : Cx, Ok C RX5 cX5_takeTable 3 64 → Rt C 1 (some .boolean) (some (vI r)) NALL σ' 0 0 → ∀ ls, lsub [(0, vR 2 0), (1, vR 4 s), (2, vR 5 m)] ls → X C 1 48 ls [] NALL (up3 (tokS τ L (i + 1)) 2 0 4 nf1) 0 0 := by
    intro nf1 hnf1
    generalize hσ : up3 (up3 (up3 τ 2 0 4 nf1) 5 m 3 (tV (tB τ 11 L) (i + 1))) 2 0 1 m = σ
    have fr : FrM m σ τ := by rw [← hσ]; exact frM_up (frM_up (frM_up (frM_rf m τ) (by omega)) (by omega)) (by omega)
    have BB : tB σ 11 L = tB τ 11 L := frM_B fr
    have hLσ : TapeL σ L := ⟨by rw [fr 1 0 1 (by omega)]; exact hL.1, hL.2⟩
    have hTσ : Told σ s ds := told_fr hT hs (fun f k j h => fr f k j (by omega))
    obtain ⟨r, σ', hres, hx⟩ := c_tbody (σ := σ) (L := L) (m := m) (i := i + 1) (s := s) (ds := ds) (nm := tV (tB τ 11 L) (i + 1)) (nf := nf1) hLσ (by rw [BB]; exact hB) hTσ hd hs hm.symm h12
      (by rw [← hσ, up3_s]) (by rw [← hσ, up3_j _ _ (by decide), up3_f _ _ (by decide), up3_s]) hnf1 (by rw [← hσ, up3_f _ _ (by decide), up3_s]) (by rw [BB]; exact fun h => tkV_le h) (by rw [BB]; exact hn.2.1)
    rw [BB] at hres
    refine ⟨r, σ', ?_, fun C h hr ls hls => x_loc hls ?_⟩
    · revert hres
      generalize (if tK (tB τ 11 L) (i + 1) = 2 then (if tK (tB τ 11 L) (i + 2) = 91 then (match szL (tK (tB τ 11 L)) (tV (tB τ 11 L)) (tQ (tB τ 11 L)) ds 8 (i + 3) 0 43 nf1 with | .inl e => .inl e | .inr (i4, size, nf2) => bodyF (tK (tB τ 11 L)) (tV (tB τ 11 L)) (tQ (tB τ 11 L)) i4 (tV (tB τ 11 L) (i + 1)) size nf2) else .inl (i + 2)) else .inl (i + 1) : Nat ⊕ (Nat × TabD × Int)) = res
      intro hres
      cases res with
      | inl e => exact ⟨hres.1, by have := hres.2; rw [BB] at this; exact failZ_tr this fr⟩
      | inr t =>
        obtain ⟨i', D, nf'⟩ := t
        obtain ⟨g1, g2, g3, g4, g5, g6, g7, g8⟩ := hres
        rw [BB] at g7
        exact ⟨g1, frM_tr g2 fr, g3, g4, g5, g6, g7, g8⟩
    · have v4 : up3 (tokS τ L (i + 1)) 2 0 4 nf1 3 0 4 = tV (tB τ 11 L) (i + 1) := by rw [up3_f _ _ (by decide)]; exact r4
      refine x_aload_n h dX5_takeTable_48 rfl ?_
      refine x_aload_n h dX5_takeTable_49 rfl ?_
      refine x_get h fl_5_14 lvz_2 dX5_takeTable_50 (pvf_503 _ _) ?_
      refine x_get (q := vL (tV (tB τ 11 L) (i + 1))) h fl_5_71 lvz_3 dX5_takeTable_53 (congrArg vL (by first | exact v4 | simp [up3, v4])) ?_
      refine x_put h fl_5_83 (lvm_5 (by omega)) dX5_takeTable_56 rfl (fun z => absurd z (by decide)) ?_
      refine x_aload_n h dX5_takeTable_59 rfl ?_
      refine x_get h fl_5_88 (lvm_5 (by omega)) dX5_takeTable_60 (pvf_706 _ _) ?_
      refine x_cV0 h kVX0_clear lkX5_89 ⟨_, _, _, rfl, rfl⟩ dX5_takeTable_63 (c_fclear (d := 0) hm24) (lvm_6 (by omega)) rfl rfl (Nat.le_of_ble_eq_true rfl) (by omega) ?_
      refine x_aload_n h dX5_takeTable_66 rfl ?_
      refine x_aload_n h dX5_takeTable_67 rfl ?_
      refine x_get h fl_5_88 (lvm_5 (by omega)) dX5_takeTable_68 (pvf_706 _ _) ?_
      refine x_put (x := (m : Int)) h fl_5_20 lvz_2 dX5_takeTable_71 (pvr rfl ⟨by decide, by decide⟩) (fun z => absurd z (by decide)) ?_
      refine x_aload_n h dX5_takeTable_74 rfl ?_
      refine x_iconst h dX5_takeTable_75 ?_
      refine x_put h fl_5_24 lvz_2 dX5_takeTable_76 rfl (fun z => absurd z (by decide)) ?_
      rw [head_ps τ L m (i + 1) nf1 _ hm24, hσ]
      exact hx C h hr _ ⟨rfl, rfl, rfl, trivial⟩
  by_cases k2 : tK (tB τ 11 L) (i + 1) = 2
  · have hx : i64 (tV (tB τ 11 L) (i + 1)) := tkV_le k2
    have hTt : ∀ k, k < ds.length → nameG (tokS τ L (i + 1)) s k = (ds.getD k (0, 0, 0, 0, 0, [])).1 := fun k hk => by
      unfold nameG
      rw [tokf _ _ _ (by decide)]
      exact (hT.2 k hk).1.1
    have hno := c_numberOf (d := 0) (σ := tokS τ L (i + 1)) (t := s) (n := ds.length) (x := tV (tB τ 11 L) (i + 1)) hs (by rw [tokf _ _ _ (by decide)]; exact hT.1) (by omega) hx (fun k hk => by rw [hTt k hk]; exact (hd.2 k hk).1)
    rw [nof_ext hTt] at hno
    have hno : Ct 1 mX4_numberOf 1 [vR 4 s, vL (tV (tB τ 11 L) (i + 1))] NALL (tokS τ L (i + 1)) (some (vI (nofD ds (tV (tB τ 11 L) (i + 1))))) NALL (tokS τ L (i + 1)) 0 0 := hno
    have hrr : -2147483648 ≤ nofD ds (tV (tB τ 11 L) (i + 1)) ∧ nofD ds (tV (tB τ 11 L) (i + 1)) < 2147483648 := by
      rcases nof_r (fun k => (ds.getD k (0, 0, 0, 0, 0, [])).1) (tV (tB τ 11 L) (i + 1)) ds.length with h | ⟨j, h1, h2, -⟩ <;> unfold nofD <;> omega
    by_cases h9 : nofD ds (tV (tB τ 11 L) (i + 1)) = -9
    · rw [if_neg (c := nofD ds (tV (tB τ 11 L) (i + 1)) ≠ -9) (by omega)]
      obtain ⟨r, σ', hres, hx2⟩ := rest nf hnf2
      refine ⟨r, σ', hres, ?_⟩
      have eid : up3 (tokS τ L (i + 1)) 2 0 4 nf = tokS τ L (i + 1) := by rw [← hnf, ← tokf 2 0 4 (by decide), up3_id]
      rw [eid] at hx2
      refine ct_of (by decide) (Nat.le_of_ble_eq_true rfl) (fun C h hr _ => ?_)
      have h : Ok C RX5 cX5_takeTable 3 _ := h
      refine x_aload_n h dX5_takeTable_0 rfl ?_
      refine x_iconst h dX5_takeTable_1 ?_
      refine x_cV1 h kVX5_expect lkX5_67 ⟨_, _, _, rfl, rfl⟩ dX5_takeTable_2 (hex) lvz_2 rfl rfl (Nat.le_of_ble_eq_true rfl) (by omega) ?_
      refine x_if_ne_T (tgt := 10) h (by omega) dX5_takeTable_5 (by decide) (by omega) ?_
      refine x_aload_n h dX5_takeTable_10 rfl ?_
      refine x_get h fl_5_14 lvz_2 dX5_takeTable_11 (pvf_503 _ _) ?_
      refine x_get (q := vI (tK (tB τ 11 L) (i + 1))) h fl_5_50 lvz_3 dX5_takeTable_14 (congrArg vI (by first | exact r2 | simp [up3, r2])) ?_
      refine x_iconst h dX5_takeTable_17 ?_
      refine x_ic_ne_F (tgt := 48) h (by omega) dX5_takeTable_18 (by decide) (by omega) ?_
      refine x_aload_n h dX5_takeTable_21 rfl ?_
      refine x_aload_n h dX5_takeTable_22 rfl ?_
      refine x_get h fl_5_14 lvz_2 dX5_takeTable_23 (pvf_503 _ _) ?_
      refine x_get (q := vL (tV (tB τ 11 L) (i + 1))) h fl_5_71 lvz_3 dX5_takeTable_26 (congrArg vL (by first | exact r4 | simp [up3, r4])) ?_
      refine x_cV1 h kVX4_numberOf lkX5_75 ⟨_, _, _, rfl, rfl⟩ dX5_takeTable_29 (hno) (lvm_4 (by omega)) rfl rfl (Nat.le_of_ble_eq_true rfl) (by omega) ?_
      refine x_bipush h dX5_takeTable_32 (by decide) ?_
      refine x_ic_eq_T (tgt := 48) h (by omega) dX5_takeTable_34 (by decide) (by omega) ?_
      exact hx2 C h hr _ ⟨rfl, rfl, rfl, trivial⟩
    · rw [if_pos (c := nofD ds (tV (tB τ 11 L) (i + 1)) ≠ -9) h9]
      have hnA : -2147483648 ≤ nfA nf (tQ (tB τ 11 L) (i + 1)) ∧ nfA nf (tQ (tB τ 11 L) (i + 1)) < 2147483648 := nfA_r hnf2 (by omega)
      obtain ⟨r, σ', hres, hx2⟩ := rest _ hnA
      refine ⟨r, σ', hres, ?_⟩
      have hnote := c_note_0 (d := 0) (σ := tokS τ L (i + 1)) (x := tQ (tB τ 11 L) (i + 1)) (y := nf) (by rw [tokf _ _ _ (by decide)]; exact hnf) (by omega) hnf2
      have enote : (if nf = -9 ∨ tQ (tB τ 11 L) (i + 1) < nf then up3 (tokS τ L (i + 1)) 2 0 4 (tQ (tB τ 11 L) (i + 1)) else tokS τ L (i + 1)) = up3 (tokS τ L (i + 1)) 2 0 4 (nfA nf (tQ (tB τ 11 L) (i + 1))) := by
        unfold nfA
        split
        · rfl
        · rw [← hnf, ← tokf 2 0 4 (by decide), up3_id]
      rw [enote] at hnote
      refine ct_of (by decide) (Nat.le_of_ble_eq_true rfl) (fun C h hr _ => ?_)
      have h : Ok C RX5 cX5_takeTable 3 _ := h
      refine x_aload_n h dX5_takeTable_0 rfl ?_
      refine x_iconst h dX5_takeTable_1 ?_
      refine x_cV1 h kVX5_expect lkX5_67 ⟨_, _, _, rfl, rfl⟩ dX5_takeTable_2 (hex) lvz_2 rfl rfl (Nat.le_of_ble_eq_true rfl) (by omega) ?_
      refine x_if_ne_T (tgt := 10) h (by omega) dX5_takeTable_5 (by decide) (by omega) ?_
      refine x_aload_n h dX5_takeTable_10 rfl ?_
      refine x_get h fl_5_14 lvz_2 dX5_takeTable_11 (pvf_503 _ _) ?_
      refine x_get (q := vI (tK (tB τ 11 L) (i + 1))) h fl_5_50 lvz_3 dX5_takeTable_14 (congrArg vI (by first | exact r2 | simp [up3, r2])) ?_
      refine x_iconst h dX5_takeTable_17 ?_
      refine x_ic_ne_F (tgt := 48) h (by omega) dX5_takeTable_18 (by decide) (by omega) ?_
      refine x_aload_n h dX5_takeTable_21 rfl ?_
      refine x_aload_n h dX5_takeTable_22 rfl ?_
      refine x_get h fl_5_14 lvz_2 dX5_takeTable_23 (pvf_503 _ _) ?_
      refine x_get (q := vL (tV (tB τ 11 L) (i + 1))) h fl_5_71 lvz_3 dX5_takeTable_26 (congrArg vL (by first | exact r4 | simp [up3, r4])) ?_
      refine x_cV1 h kVX4_numberOf lkX5_75 ⟨_, _, _, rfl, rfl⟩ dX5_takeTable_29 (hno) (lvm_4 (by omega)) rfl rfl (Nat.le_of_ble_eq_true rfl) (by omega) ?_
      refine x_bipush h dX5_takeTable_32 (by decide) ?_
      refine x_ic_eq_F (tgt := 48) h (by omega) dX5_takeTable_34 (by decide) (by omega) ?_
      refine x_aload_n h dX5_takeTable_37 rfl ?_
      refine x_aload_n h dX5_takeTable_38 rfl ?_
      refine x_get h fl_5_14 lvz_2 dX5_takeTable_39 (pvf_503 _ _) ?_
      refine x_get (q := vI (tQ (tB τ 11 L) (i + 1))) h fl_5_53 lvz_3 dX5_takeTable_42 (congrArg vI (by first | exact r3 | simp [up3, r3])) ?_
      refine x_cV0 h kVX5_noteNameFault lkX5_79 ⟨_, _, _, rfl, rfl⟩ dX5_takeTable_45 (hnote) lvz_2 rfl rfl (Nat.le_of_ble_eq_true rfl) (by omega) ?_
      exact hx2 C h hr _ ⟨rfl, rfl, rfl, trivial⟩
  · obtain ⟨r, σ', hres, hx2⟩ := rest nf hnf2
    rw [if_neg k2] at hres ⊢
    refine ⟨r, σ', hres, ?_⟩
    have eid : up3 (tokS τ L (i + 1)) 2 0 4 nf = tokS τ L (i + 1) := by rw [← hnf, ← tokf 2 0 4 (by decide), up3_id]
    rw [eid] at hx2
    refine ct_of (by decide) (Nat.le_of_ble_eq_true rfl) (fun C h hr _ => ?_)
    have h : Ok C RX5 cX5_takeTable 3 _ := h
    refine x_aload_n h dX5_takeTable_0 rfl ?_
    refine x_iconst h dX5_takeTable_1 ?_
    refine x_cV1 h kVX5_expect lkX5_67 ⟨_, _, _, rfl, rfl⟩ dX5_takeTable_2 (hex) lvz_2 rfl rfl (Nat.le_of_ble_eq_true rfl) (by omega) ?_
    refine x_if_ne_T (tgt := 10) h (by omega) dX5_takeTable_5 (by decide) (by omega) ?_
    refine x_aload_n h dX5_takeTable_10 rfl ?_
    refine x_get h fl_5_14 lvz_2 dX5_takeTable_11 (pvf_503 _ _) ?_
    refine x_get (q := vI (tK (tB τ 11 L) (i + 1))) h fl_5_50 lvz_3 dX5_takeTable_14 (congrArg vI (by first | exact r2 | simp [up3, r2])) ?_
    refine x_iconst h dX5_takeTable_17 ?_
    refine x_ic_ne_T (tgt := 48) h (by omega) dX5_takeTable_18 (by decide) (by omega) ?_
    exact hx2 C h hr _ ⟨rfl, rfl, rfl, trivial⟩
