/-! read of the reference -/
section MR2
/-- what a reading with a FAULT may change -/
def FrQ (σ' σ : Mm) : Prop := ∀ f k j, ¬ (f = 33 ∨ f = 34 ∨ f = 35 ∨ (f = 10 ∧ (j = 2 ∨ (6 ≤ j ∧ j ≤ 31))) ∨ (39 ≤ f ∧ f ≤ 59)) → σ' f k j = σ f k j
/-- what a reading that goes well may change -/
def FrV (σ' σ : Mm) : Prop := ∀ f k j, ¬ (f = 33 ∨ f = 34 ∨ f = 35 ∨ f = 10 ∨ (39 ≤ f ∧ f ≤ 71)) → σ' f k j = σ f k j
theorem PA_9 {B : Nat → Int} {L : Nat} (hB : BOk B L) {ds : List TabD} {σ : Mm} {A P : List (Int × Int)} {U : List Us3} (hTb : ∀ k, k < ds.length → TbR B ds A P U k σ) (hU : UsR B L ds U) {x : Int} (h : PA (tV B) (tQ B) ds (fun k => σ 40 0 k) U x) : x ≤ 900 := by
  rcases h with ⟨k, hk, -, h⟩ | ⟨t, ht, -, h⟩
  · rw [h]; exact (hTb k hk).2.1.2.1
  · obtain ⟨h1, h2, -⟩ := tok_k2 hB (hU.1 t ht).2.1
    rw [h]
    have := hB.1
    show ((tq B t.1 : Nat) : Int) ≤ 900
    omega
theorem getD_map {f : Zs → Zs} {l : List Zs} {j : Nat} (h : j < l.length) : (l.map f).getD j (0, 0, 0) = f (l.getD j (0, 0, 0)) := by
  rw [List.getD_eq_getElem?_getD, List.getD_eq_getElem?_getD, List.getElem?_map, List.getElem?_eq_getElem h]
  rfl
theorem m_read {σ : Mm} {L : Nat} (hL : TapeM σ L) (hB : BOk (tB σ 30 L) L) : match readF (tB σ 30 L) with
    | .inl e => ∃ σ', FrQ σ' σ ∧ Ct 7 mX10_read 1 [vR 10 0] NALL σ (some (vI (-100 - e))) NALL σ' 0 0
    | .inr ds => ∃ σ', FrV σ' σ ∧ SRl (Sof ds) ds.length σ' ∧ (∀ k, k < ds.length → σ' 71 0 k = 0) ∧ (σ' 10 0 44 = 0 ∧ σ' 10 0 48 = 0 ∧ σ' 10 0 53 = 0 ∧ σ' 10 0 1 = 0) ∧ Ct 7 mX10_read 1 [vR 10 0] NALL σ (some (vI ds.length)) NALL σ' 0 0 := by
  obtain ⟨N, σc, hN, hNL, hTk, hfc, hcc⟩ := m_cutUp hL hB
  generalize hBB : tB σ 30 L = B at hB hNL hTk
  have hL9 := hB.1
  obtain ⟨τ0, h0⟩ : ∃ x, x = up3 (up3 (up3 (up3 (up3 (up3 σc 10 0 6 0) 10 0 7 (-9)) 10 0 8 0) 10 0 16 0) 10 0 19 0) 10 0 22 0 := ⟨_, rfl⟩
  have f0 : FrQ τ0 σ := fun f k j q => by
    rw [h0, up3_n _ (by omega), up3_n _ (by omega), up3_n _ (by omega), up3_n _ (by omega), up3_n _ (by omega), up3_n _ (by omega)]
    exact hfc _ _ _ (by omega)
  have fc : ∀ f k j, f ≠ 10 → τ0 f k j = σc f k j := fun f k j q => by
    rw [h0, up3_f _ _ q, up3_f _ _ q, up3_f _ _ q, up3_f _ _ q, up3_f _ _ q, up3_f _ _ q]
  have v6 : τ0 10 0 6 = ((0 : Nat) : Int) := by rw [h0, up3_n _ (by omega), up3_n _ (by omega), up3_n _ (by omega), up3_n _ (by omega), up3_n _ (by omega), up3_s]; rfl
  have v7 : τ0 10 0 7 = -9 := by rw [h0, up3_n _ (by omega), up3_n _ (by omega), up3_n _ (by omega), up3_n _ (by omega), up3_s]
  have v8 : τ0 10 0 8 = ((0 : Nat) : Int) := by rw [h0, up3_n _ (by omega), up3_n _ (by omega), up3_n _ (by omega), up3_s]; rfl
  have v16 : τ0 10 0 16 = 0 := by rw [h0, up3_n _ (by omega), up3_n _ (by omega), up3_s]
  have v19 : τ0 10 0 19 = 0 := by rw [h0, up3_n _ (by omega), up3_s]
  have v22 : τ0 10 0 22 = 0 := by rw [h0, up3_s]
  have hT0 : TS B L N 0 τ0 := ⟨fun j hj => by
    obtain ⟨a1, a2, a3⟩ := hTk j hj
    exact ⟨by rw [fc _ _ _ (by omega)]; exact a1, by rw [fc _ _ _ (by omega)]; exact a2, fun z => by rw [fc _ _ _ (by omega)]; exact a3 z⟩, hNL, hN, hB, v8, by omega⟩
  have hR0 : RdT B L [] (-9) 0 τ0 := ⟨[], [], [], ⟨⟨v6, v7, ⟨v16, fun j hj => absurd hj (Nat.not_lt_zero _)⟩, ⟨v22, fun j hj => absurd hj (Nat.not_lt_zero _)⟩⟩, ⟨v19, fun j hj => absurd hj (Nat.not_lt_zero _)⟩⟩, Nat.le_refl _, Nat.le_refl _, Nat.le_refl _, fun q => absurd q (Nat.lt_irrefl _), fun k hk => absurd hk (Nat.not_lt_zero _), ⟨fun t ht => (by cases ht), fun D hD => (by cases hD)⟩, Or.inl ⟨rfl, fun x hx => by
    rcases hx with ⟨k, hk, -⟩ | ⟨t, ht, -⟩
    · exact absurd hk (Nat.not_lt_zero _)
    · cases ht⟩, fun x hx => (by cases hx)⟩
  have walk0 : ∀ C : Cx, Ok C RX10 cX10_read 4 7 → X C 1 41 [(0, vR 10 0)] [] NALL τ0 0 0 → X C 1 0 [(0, vR 10 0)] [] NALL σ 0 0 := fun C h hx => by
    rw [h0] at hx
    refine x_aload_n h dX10_read_0 rfl ?_
    refine x_cV0 h kVX10_cutUp lkX10_280 ⟨_, _, _, rfl, rfl⟩ dX10_read_1 (hcc) lvz_10 rfl rfl (Nat.le_of_ble_eq_true rfl) (by omega) ?_
    refine x_aload_n h dX10_read_4 rfl ?_
    refine x_iconst h dX10_read_5 ?_
    refine x_put h fl_10_199 lvz_10 dX10_read_6 rfl (fun z => absurd z (by decide)) ?_
    refine x_aload_n h dX10_read_9 rfl ?_
    refine x_bipush h dX10_read_10 (by decide) ?_
    refine x_put h fl_10_196 lvz_10 dX10_read_12 rfl (fun z => absurd z (by decide)) ?_
    refine x_aload_n h dX10_read_15 rfl ?_
    refine x_iconst h dX10_read_16 ?_
    refine x_put h fl_10_212 lvz_10 dX10_read_17 rfl (fun z => absurd z (by decide)) ?_
    refine x_aload_n h dX10_read_20 rfl ?_
    refine x_iconst h dX10_read_21 ?_
    refine x_put h fl_10_206 lvz_10 dX10_read_22 rfl (fun z => absurd z (by decide)) ?_
    refine x_aload_n h dX10_read_25 rfl ?_
    refine x_iconst h dX10_read_26 ?_
    refine x_put h fl_10_215 lvz_10 dX10_read_27 rfl (fun z => absurd z (by decide)) ?_
    refine x_aload_n h dX10_read_30 rfl ?_
    refine x_iconst h dX10_read_31 ?_
    refine x_put h fl_10_209 lvz_10 dX10_read_32 rfl (fun z => absurd z (by decide)) ?_
    refine x_iconst h dX10_read_35 ?_
    refine x_istore_n h dX10_read_36 (by decide) ?_
    refine x_iload_n h dX10_read_37 rfl ?_
    refine x_if_eq_F (tgt := 75) h (by omega) dX10_read_38 (by decide) (by omega) ?_
    exact x_loc (ls' := [(0, vR 10 0)]) ⟨rfl, trivial⟩ hx
  have g := tx_loop (B := B) (L := L) (N := N) 12 [] (-9) 0 τ0 rfl hT0 hR0 (tq_0 hB)
  unfold readF
  cases hv : txtF (tK B) (tV B) (tQ B) 12 0 [] (-9) with
  | inl e =>
    rw [hv] at g
    obtain ⟨σ', q1, ⟨q2, q3, q4⟩, q5⟩ := g
    have hq : 0 ≤ tQ B e ∧ tQ B e ≤ 900 := ⟨Int.natCast_nonneg _, by show ((tq B e : Nat) : Int) ≤ 900; omega⟩
    refine ⟨σ', fun f k j q => (q1 _ _ _ (by omega)).trans (f0 _ _ _ q), ?_⟩
    refine ct_of (by decide) (Nat.le_of_ble_eq_true rfl) (fun C h hr _ => ?_)
    have h : Ok C RX10 cX10_read 4 _ := h
    refine walk0 C h (q5 C h ?_)
    refine x_aload_n h dX10_read_75 rfl ?_
    refine x_get (q := vI (tQ B e)) h fl_10_196 lvz_10 dX10_read_76 (congrArg vI (by first | exact q3 | simp [up3, q3])) ?_
    refine x_bipush h dX10_read_79 (by decide) ?_
    refine x_ic_ne_T (tgt := 88) h (by omega) dX10_read_81 (by decide) (by omega) ?_
    refine x_aload_n h dX10_read_88 rfl ?_
    refine x_get (q := vI (tQ B e)) h fl_10_196 lvz_10 dX10_read_89 (congrArg vI (by first | exact q3 | simp [up3, q3])) ?_
    refine x_bipush h dX10_read_92 (by decide) ?_
    refine x_ic_eq_F (tgt := 105) h (by omega) dX10_read_94 (by decide) (by omega) ?_
    refine x_bipush h dX10_read_97 (by decide) ?_
    refine x_aload_n h dX10_read_99 rfl ?_
    refine x_get (q := vI (tQ B e)) h fl_10_196 lvz_10 dX10_read_100 (congrArg vI (by first | exact q3 | simp [up3, q3])) ?_
    refine x_isub h dX10_read_103 ?_
    exact x_ireturn h hr dX10_read_104 (Or.inl rfl) ⟨Nat.le_refl _, Nat.le_refl _⟩
  | inr y =>
    obtain ⟨ds, nf⟩ := y
    rw [hv] at g
    obtain ⟨σ1, i1, q1, hT1, ⟨A, P, U, hz, r1, r2, r3, r4, r5, r6, r7, r8⟩, q4, q5⟩ := g
    have hi9 := (tok_in hT1 q4).2.1
    obtain ⟨hby, hpos⟩ := txtF_b 12 0 [] (-9) ds nf (fun D hD => (by cases hD)) hv
    have hck := m_checkNames (m := ds.length) rfl hT1 hz (by omega) r5 r6 r7
    have hall := MN_all r6 r7
    have k7 : σ1 10 0 7 = -9 := hz.1.2.1
    have f1 : FrQ σ1 σ := fun f k j q => (q1 _ _ _ (by omega)).trans (f0 _ _ _ q)
    show match (if rsA ds ds nf = -9 then (.inr ds : Int ⊕ List TabD) else .inl (rsA ds ds nf)) with | .inl e => _ | .inr ds => _
    by_cases hR : rsA ds ds nf = -9
    · rw [if_pos hR]
      rw [if_pos hR] at hck
      rw [hR] at hall
      obtain ⟨T0, t0⟩ : ∃ x, x = up3 σ1 10 0 32 (ds.length : Int) := ⟨_, rfl⟩
      have hLA0 : LA ds σ1 0 T0 := ⟨fun f kk j q => by rw [t0, up3_n _ (by omega)], by rw [t0, up3_s], fun j hj => absurd hj (Nat.not_lt_zero _)⟩
      obtain ⟨T1, ⟨a1, a2, a3⟩, w1⟩ := la_loop rfl hT1 hz r3 r5 hby hall ds.length 0 T0 (by omega) hLA0
      have hm8 : T1 10 0 8 = ds.length := by rw [a1 _ _ _ (by omega)]; exact hT1.2.2.2.2.1
      have hm12 := hT1.2.2.2.2.2
      have hm16 : T1 10 0 16 = A.length := by rw [a1 _ _ _ (by omega)]; exact hz.1.2.2.1.1
      obtain ⟨T2, t2⟩ : ∃ x, x = up3 T1 68 0 ds.length (A.length : Int) := ⟨_, rfl⟩
      have e2 : ∀ f kk j, f ≠ 68 → T2 f kk j = T1 f kk j := fun f kk j q => by rw [t2, up3_f _ _ q]
      have e21 : ∀ f kk j, ¬ ((63 ≤ f ∧ f ≤ 68) ∨ f = 71 ∨ (f = 10 ∧ j = 32)) → T2 f kk j = σ1 f kk j := fun f kk j q => (e2 _ _ _ (by omega)).trans (a1 _ _ _ q)
      obtain ⟨T3, ⟨b1, b2⟩, w3⟩ := lb_loop (B := B) (L := L) (N := N) (m := ds.length) (ds := ds) (σ := T2) (A := A) rfl (TS_o hT1 (fun f kk j q => e21 f kk j (by omega))) (ActsR_fr hz.1.2.2.1 (fun f j q => e21 f 0 j (by omega))) (by omega) r8 (fun k hk => by
        rw [e21 _ _ _ (by omega), (r5 k hk).1.1]
        exact ⟨rfl, (r5 k hk).2.1.2.2⟩) A.length 0 T2 (by omega) ⟨fun f kk j q => rfl, fun j hj => absurd hj (Nat.not_lt_zero _)⟩
      obtain ⟨T4, t4⟩ : ∃ x, x = up3 (up3 (up3 (up3 T3 10 0 44 0) 10 0 48 0) 10 0 53 0) 10 0 1 0 := ⟨_, rfl⟩
      have e4 : ∀ f kk j, f ≠ 10 → T4 f kk j = T3 f kk j := fun f kk j q => by rw [t4, up3_f _ _ q, up3_f _ _ q, up3_f _ _ q, up3_f _ _ q]
      have v32 : T4 10 0 32 = ds.length := by
        rw [t4, up3_n _ (by omega), up3_n _ (by omega), up3_n _ (by omega), up3_n _ (by omega), b1 _ _ _ (by omega), e2 _ _ _ (by omega)]
        exact a2
      refine ⟨T4, fun f kk j q => ?_, ⟨v32, fun k hk => ?_⟩, fun k hk => ?_, ⟨?_, ?_, ?_, ?_⟩, ?_⟩
      · rw [e4 _ _ _ (by omega), b1 _ _ _ (by omega), e21 _ _ _ (by omega)]
        exact f1 _ _ _ (by omega)
      · have e : Sof ds k = ((ds.getD k dz).1, (ds.getD k dz).2.1, (ds.getD k dz).2.2.1, (ds.getD k dz).2.2.2.1, (ds.getD k dz).2.2.2.2.1, (ds.getD k dz).2.2.2.2.2.map (rslv ds)) := by unfold Sof; rw [if_pos hk]
        obtain ⟨z1, z2, z3, z4, z5, z6, z7⟩ := a3 k hk
        obtain ⟨-, -, ⟨A1, N1, A2, b5, b6, b7, b8⟩, -⟩ := r5 k hk
        have hNl := NR_len _ _ _ N1 _ _ b8
        have g1 : ∀ f j, 63 ≤ f → f ≤ 67 → T4 f 0 j = T1 f 0 j := fun f j q1 q2 => by rw [e4 _ _ _ (by omega), b1 _ _ _ (by omega), e2 _ _ _ (by omega)]
        have g68 : ∀ j, j ≠ ds.length → T4 68 0 j = T1 68 0 j := fun j q => by rw [e4 _ _ _ (by omega), b1 _ _ _ (by omega), t2, up3_j _ _ q]
        have g68m : T4 68 0 ds.length = A.length := by rw [e4 _ _ _ (by omega), b1 _ _ _ (by omega), t2, up3_s]
        have hAl : A1.length + N1.length ≤ A.length := by rw [b5]; simp only [List.length_append]; omega
        show (T4 63 0 k = (Sof ds k).1 ∧ T4 64 0 k = 1 - (Sof ds k).2.2.1 ∧ T4 65 0 k = (Sof ds k).2.2.2.1 ∧ T4 66 0 k = (Sof ds k).2.2.2.2.1 ∧ T4 67 0 k = (Sof ds k).2.1) ∧ ∃ c : Nat, T4 68 0 k = (c : Int) ∧ T4 68 0 (k + 1) = ((c + (Sof ds k).2.2.2.2.2.length : Nat) : Int) ∧ c + (Sof ds k).2.2.2.2.2.length ≤ 900 ∧ ∀ j, j < (Sof ds k).2.2.2.2.2.length → opR (c + j) (T4 69 0 (c + j)) (T4 70 0 (c + j)) ((Sof ds k).2.2.2.2.2.getD j (0, 0, 0))
        rw [e]
        refine ⟨⟨by rw [g1 _ _ (by omega) (by omega)]; exact z1, by rw [g1 _ _ (by omega) (by omega)]; exact z2, by rw [g1 _ _ (by omega) (by omega)]; exact z3, by rw [g1 _ _ (by omega) (by omega)]; exact z4, by rw [g1 _ _ (by omega) (by omega)]; exact z5⟩, A1.length, ?_, ?_, ?_, fun j hj => ?_⟩
        · rw [g68 _ (by omega), z6]; exact b6
        · show T4 68 0 (k + 1) = ((A1.length + ((ds.getD k dz).2.2.2.2.2.map (rslv ds)).length : Nat) : Int)
          rw [List.length_map, ← hNl]
          by_cases q : k + 1 = ds.length
          · rw [q, g68m, ← (r4 hpos).1, ← q, b7, List.length_append]
          · rw [g68 _ q, (a3 (k + 1) (by omega)).2.2.2.2.2.1, b7, List.length_append]
        · show A1.length + ((ds.getD k dz).2.2.2.2.2.map (rslv ds)).length ≤ 900
          rw [List.length_map, ← hNl]; omega
        · have hj : j < ((ds.getD k dz).2.2.2.2.2.map (rslv ds)).length := hj
          rw [List.length_map] at hj
          show opR (A1.length + j) (T4 69 0 (A1.length + j)) (T4 70 0 (A1.length + j)) (((ds.getD k dz).2.2.2.2.2.map (rslv ds)).getD j (0, 0, 0))
          rw [getD_map hj]
          have ea : A.getD (A1.length + j) (0, 0) = N1.getD j (0, 0) := by
            rw [b5, List.append_assoc, List.getD_eq_getElem?_getD, List.getElem?_append_right (by omega), List.getElem?_append_left (by omega), ← List.getD_eq_getElem?_getD]
            congr 1
            omega
          obtain ⟨y1, y2⟩ := b2 (A1.length + j) (by omega)
          rw [e4 _ _ _ (by omega), e4 _ _ _ (by omega), y1, y2, ea]
          exact aR_op (NR_get N1 _ _ b8 j hj)
      · rw [e4 _ _ _ (by omega), b1 _ _ _ (by omega), e2 _ _ _ (by omega)]
        exact (a3 k hk).2.2.2.2.2.2
      · rw [t4, up3_n _ (by omega), up3_n _ (by omega), up3_n _ (by omega), up3_s]
      · rw [t4, up3_n _ (by omega), up3_n _ (by omega), up3_s]
      · rw [t4, up3_n _ (by omega), up3_s]
      · rw [t4, up3_s]
      · have v32b : up3 (up3 (up3 (up3 T3 10 0 44 0) 10 0 48 0) 10 0 53 0) 10 0 1 0 10 0 32 = ds.length := by rw [← t4]; exact v32
        have h8 : σ1 10 0 8 = ds.length := hT1.2.2.2.2.1
        refine ct_of (by decide) (Nat.le_of_ble_eq_true rfl) (fun C h hr _ => ?_)
        have h : Ok C RX10 cX10_read 4 _ := h
        refine walk0 C h (q5 C h ?_)
        rw [t4] at hr
        have fin : X C 1 314 [(0, vR 10 0)] [] NALL T3 0 0 := by
          refine x_aload_n h dX10_read_314 rfl ?_
          refine x_iconst h dX10_read_315 ?_
          refine x_put h fl_10_296 lvz_10 dX10_read_316 rfl (fun z => absurd z (by decide)) ?_
          refine x_aload_n h dX10_read_319 rfl ?_
          refine x_iconst h dX10_read_320 ?_
          refine x_put h fl_10_299 lvz_10 dX10_read_321 rfl (fun z => absurd z (by decide)) ?_
          refine x_aload_n h dX10_read_324 rfl ?_
          refine x_iconst h dX10_read_325 ?_
          refine x_put h fl_10_302 lvz_10 dX10_read_326 rfl (fun z => absurd z (by decide)) ?_
          refine x_aload_n h dX10_read_329 rfl ?_
          refine x_iconst h dX10_read_330 ?_
          refine x_put h fl_10_153 lvz_10 dX10_read_331 rfl (fun z => absurd z (by decide)) ?_
          refine x_aload_n h dX10_read_334 rfl ?_
          refine x_get (q := vI (ds.length)) h fl_10_289 lvz_10 dX10_read_335 (congrArg vI (by first | exact v32b | simp [up3, v32b])) ?_
          exact x_ireturn h hr dX10_read_338 (Or.inl rfl) ⟨Nat.le_refl _, Nat.le_refl _⟩
        have mid : X C 1 207 [(0, vR 10 0)] [] NALL T1 0 0 := by
          have w := w3 C h fin
          rw [t2] at w
          refine x_aload_n h dX10_read_207 rfl ?_
          refine x_get h fl_10_91 lvz_10 dX10_read_208 (pvf_568 _ _) ?_
          refine x_aload_n h dX10_read_211 rfl ?_
          refine x_get (q := vI (ds.length)) h fl_10_212 lvz_10 dX10_read_212 (congrArg vI (by first | exact hm8 | simp [up3, hm8])) ?_
          refine x_aload_n h dX10_read_215 rfl ?_
          refine x_get (q := vI (A.length)) h fl_10_206 lvz_10 dX10_read_216 (congrArg vI (by first | exact hm16 | simp [up3, hm16])) ?_
          refine x_iast h kdf_68 lvz_68 dX10_read_219 rfl (by omega) ?_
          refine x_iconst h dX10_read_220 ?_
          refine x_istore_n h dX10_read_221 (by decide) ?_
          exact x_loc (ls' := [(0, vR 10 0), (2, vI ((0 : Nat) : Int))]) ⟨rfl, rfl, trivial⟩ w
        have w := w1 C h mid
        rw [t0] at w
        refine x_aload_n h dX10_read_75 rfl ?_
        refine x_get (q := vI (-9)) h fl_10_196 lvz_10 dX10_read_76 (congrArg vI (by first | exact k7 | simp [up3, k7])) ?_
        refine x_bipush h dX10_read_79 (by decide) ?_
        refine x_ic_ne_F (tgt := 88) h (by omega) dX10_read_81 (by decide) (by omega) ?_
        refine x_aload_n h dX10_read_84 rfl ?_
        refine x_cV0 h kVX10_checkNames lkX10_286 ⟨_, _, _, rfl, rfl⟩ dX10_read_85 (hck) lvz_10 rfl rfl (Nat.le_of_ble_eq_true rfl) (by omega) ?_
        refine x_aload_n h dX10_read_88 rfl ?_
        refine x_get (q := vI (-9)) h fl_10_196 lvz_10 dX10_read_89 (congrArg vI (by first | exact k7 | simp [up3, k7])) ?_
        refine x_bipush h dX10_read_92 (by decide) ?_
        refine x_ic_eq_T (tgt := 105) h (by omega) dX10_read_94 (by decide) (by omega) ?_
        refine x_aload_n h dX10_read_105 rfl ?_
        refine x_aload_n h dX10_read_106 rfl ?_
        refine x_get (q := vI (ds.length)) h fl_10_212 lvz_10 dX10_read_107 (congrArg vI (by first | exact h8 | simp [up3, h8])) ?_
        refine x_put h fl_10_289 lvz_10 dX10_read_110 rfl (fun z => absurd z (by decide)) ?_
        refine x_iconst h dX10_read_113 ?_
        refine x_istore_n h dX10_read_114 (by decide) ?_
        exact x_loc (ls' := [(0, vR 10 0), (2, vI ((0 : Nat) : Int))]) ⟨rfl, rfl, trivial⟩ w
    · rw [if_neg hR]
      rw [if_neg hR] at hck
      have hr9 : 0 ≤ rsA ds ds nf ∧ rsA ds ds nf ≤ 900 := by
        rcases hall with ⟨z, -⟩ | ⟨z1, z2, -⟩
        · exact absurd z hR
        · exact ⟨z2, PA_9 hB r5 r6 z1⟩
      generalize rsA ds ds nf = R at hr9 hck
      have e7 : up3 σ1 10 0 7 R 10 0 7 = R := up3_s _ _ _ _ _
      refine ⟨up3 σ1 10 0 7 R, fun f k j q => by rw [up3_n _ (by omega)]; exact f1 _ _ _ q, ?_⟩
      refine ct_of (by decide) (Nat.le_of_ble_eq_true rfl) (fun C h hr _ => ?_)
      have h : Ok C RX10 cX10_read 4 _ := h
      refine walk0 C h (q5 C h ?_)
      refine x_aload_n h dX10_read_75 rfl ?_
      refine x_get (q := vI (-9)) h fl_10_196 lvz_10 dX10_read_76 (congrArg vI (by first | exact k7 | simp [up3, k7])) ?_
      refine x_bipush h dX10_read_79 (by decide) ?_
      refine x_ic_ne_F (tgt := 88) h (by omega) dX10_read_81 (by decide) (by omega) ?_
      refine x_aload_n h dX10_read_84 rfl ?_
      refine x_cV0 h kVX10_checkNames lkX10_286 ⟨_, _, _, rfl, rfl⟩ dX10_read_85 (hck) lvz_10 rfl rfl (Nat.le_of_ble_eq_true rfl) (by omega) ?_
      refine x_aload_n h dX10_read_88 rfl ?_
      refine x_get (q := vI (R)) h fl_10_196 lvz_10 dX10_read_89 (congrArg vI (by first | exact e7 | simp [up3, e7])) ?_
      refine x_bipush h dX10_read_92 (by decide) ?_
      refine x_ic_eq_F (tgt := 105) h (by omega) dX10_read_94 (by decide) (by omega) ?_
      refine x_bipush h dX10_read_97 (by decide) ?_
      refine x_aload_n h dX10_read_99 rfl ?_
      refine x_get (q := vI (R)) h fl_10_196 lvz_10 dX10_read_100 (congrArg vI (by first | exact e7 | simp [up3, e7])) ?_
      refine x_isub h dX10_read_103 ?_
      exact x_ireturn h hr dX10_read_104 (Or.inl rfl) ⟨Nat.le_refl _, Nat.le_refl _⟩
end MR2
