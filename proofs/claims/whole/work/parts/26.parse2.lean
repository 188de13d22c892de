/-! resolveNames, parse -/
def ToldR (σ : Mm) (s : Nat) (ds : List TabD) : Prop := σ 4 s 1 = ds.length ∧ ∀ k, k < ds.length → TabOk σ (12 * s + k) (ds.getD k dz) ∧ FormOk σ (12 * s + k) ((ds.getD k dz).2.2.2.2.2.map (rslv ds))
def RsK (σ τ : Mm) (s : Nat) (ds : List TabD) (nf : Int) (n : Nat) : Prop := FrX s τ σ ∧ τ 4 s 1 = ds.length ∧ (∀ k, k < ds.length → TabOk τ (12 * s + k) (ds.getD k dz)) ∧ (∀ k, k < ds.length → FormOk τ (12 * s + k) (if k < n then (ds.getD k dz).2.2.2.2.2.map (rslv ds) else (ds.getD k dz).2.2.2.2.2)) ∧ τ 2 0 4 = rsA ds (ds.take n) nf
theorem rslv_getD (ds : List TabD) {ss : List Zs} {j : Nat} (h : j < ss.length) : (ss.map (rslv ds)).getD j (0, 0, 0) = rslv ds (ss.getD j (0, 0, 0)) := by
  rw [List.getD_eq_getElem?_getD, List.getD_eq_getElem?_getD, List.getElem?_map, List.getElem?_eq_getElem h]
  rfl
theorem rslv_1 (ds : List TabD) (z : Zs) : (rslv ds z).1 = z.1 ∧ (rslv ds z).2.2 = z.2.2 := by unfold rslv; split <;> exact ⟨rfl, rfl⟩
theorem takeD_succ {ds : List TabD} {n : Nat} (h : n < ds.length) : ds.take (n + 1) = ds.take n ++ [ds.getD n dz] := by
  rw [List.take_add_one, List.getD_eq_getElem?_getD, List.getElem?_eq_getElem h]
  rfl
theorem rsA_r {ds : List TabD} : ∀ (es : List TabD) {nf : Int}, (∀ D ∈ es, DOk D) → (-2147483648 ≤ nf ∧ nf < 2147483648) → -2147483648 ≤ rsA ds es nf ∧ rsA ds es nf < 2147483648 := by
  intro es
  induction es with
  | nil => intro nf _ h; exact h
  | cons D r ih =>
    intro nf hz h
    exact ih (fun y hy => hz y (List.mem_cons_of_mem _ hy)) (rsN_r _ (hz D List.mem_cons_self).2.2.2.2.2 h)
theorem mem_getD {ds : List TabD} {D : TabD} (h : D ∈ ds) : ∃ k, k < ds.length ∧ ds.getD k dz = D := by
  obtain ⟨k, hk⟩ := List.getElem?_of_mem h
  refine ⟨k, (List.getElem?_eq_some_iff.mp hk).1, ?_⟩
  rw [List.getD_eq_getElem?_getD, hk]
  rfl
theorem c_resAll {σ : Mm} {s : Nat} {ds : List TabD} {nf : Int} (hs : s < 2) (hT : Told σ s ds) (hd : DsOk ds) (hD : ∀ k, k < ds.length → DOk (ds.getD k dz)) (hnf : σ 2 0 4 = nf) (hnf2 : -2147483648 ≤ nf ∧ nf < 2147483648) : ∃ σ' : Mm, RsK σ σ' s ds nf ds.length ∧ Ct 4 mX5_resolveNames 1 [vR 2 0, vR 4 s] NALL σ none NALL σ' 0 0 := by
  have hl12 := hd.1
  have loop : ∀ (c n : Nat) (τ : Mm), n + c = ds.length → RsK σ τ s ds nf n → ∃ σ' : Mm, RsK σ σ' s ds nf ds.length ∧ ∀ C : Cx, Ok C RX5 cX5_resolveNames 4 4 → Rt C 1 none none NALL σ' 0 0 → ∀ ls, lsub [(0, vR 2 0), (1, vR 4 s), (2, vI n)] ls → X C 1 2 ls [] NALL τ 0 0 := by
    intro c
    induction c with
    | zero =>
      intro n τ hn hI
      obtain rfl : n = ds.length := by omega
      refine ⟨τ, hI, fun C h hr ls hls => x_loc hls ?_⟩
      have hl := hI.2.1
      refine x_iload_n h dX5_resolveNames_2 rfl ?_
      refine x_aload_n h dX5_resolveNames_3 rfl ?_
      refine x_get (q := vI (ds.length)) h fl_5_34 (lvm_4 (by omega)) dX5_resolveNames_4 (congrArg vI (by first | exact hl | simp [up3, hl])) ?_
      refine x_ic_ge_T (tgt := 35) h (by omega) dX5_resolveNames_7 (by decide) (by omega) ?_
      exact x_return h hr dX5_resolveNames_35 ⟨Nat.le_refl _, Nat.le_refl _⟩
    | succ c ih =>
      intro n τ hn hI
      obtain ⟨j1, j2, j3, j4, j5⟩ := hI
      have hnl : n < ds.length := by omega
      have hDn := hD n hnl
      have hFn := j4 n hnl
      rw [if_neg (by omega)] at hFn
      have hrr := rsA_r (ds := ds) (ds.take n) (fun D hm => by
        obtain ⟨k, hk, rfl⟩ := mem_getD (List.mem_of_mem_take hm)
        exact hD k hk) hnf2
      obtain ⟨σ1, ⟨g1, g2, g3⟩, hct⟩ := c_resIn (σ := τ) (m := 12 * s + n) (s := s) (ds := ds) (ss := (ds.getD n dz).2.2.2.2.2) (nf := rsA ds (ds.take n) nf) (by omega) hs j2 hd (fun k hk => (j3 k hk).1) hFn hDn.2.2.2.2.1 hDn.2.2.2.2.2 j5 hrr
      have e5 : ∀ f k i, (f = 4 ∨ f = 5 ∨ f = 6 ∨ f = 13 ∨ f = 15 ∨ (f = 14 ∧ k ≠ 12 * s + n)) → σ1 f k i = τ f k i := fun f k i h => g1 f k i (by omega) (by omega)
      have hI2 : RsK σ σ1 s ds nf (n + 1) := by
        refine ⟨fun f k i hf => ?_, by rw [e5 4 s 1 (by omega)]; exact j2, fun k hk => ?_, fun k hk => ?_, ?_⟩
        · rw [g1 f k i (by omega) (by omega)]; exact j1 f k i hf
        · obtain ⟨t1, t2, t3, t4, t5⟩ := j3 k hk
          refine ⟨?_, ?_, ?_, ?_, ?_⟩
          · rw [e5 5 _ 3 (by omega)]; exact t1
          · rw [e5 5 _ 4 (by omega)]; exact t2
          · rw [e5 5 _ 5 (by omega)]; exact t3
          · rw [e5 5 _ 6 (by omega)]; exact t4
          · rw [e5 5 _ 7 (by omega)]; exact t5
        · by_cases hkn : k = n
          · subst hkn
            rw [if_pos (by omega)]
            refine ⟨?_, fun j hj => ?_⟩
            · rw [e5 6 _ 3 (by omega), List.length_map]; exact hFn.1
            · rw [List.length_map] at hj
              have hz := hFn.2 j hj
              have hr1 := rslv_1 ds ((ds.getD k dz).2.2.2.2.2.getD j (0, 0, 0))
              rw [rslv_getD ds hj, e5 13 _ j (by omega), e5 15 _ j (by omega), g2 j hj, if_pos hj]
              exact ⟨by rw [hr1.1]; exact hz.1, rfl, by rw [hr1.2]; exact hz.2.2⟩
          · have hFk := j4 k hk
            have hne : 12 * s + k ≠ 12 * s + n := by omega
            have hcond : (if k < n + 1 then (ds.getD k dz).2.2.2.2.2.map (rslv ds) else (ds.getD k dz).2.2.2.2.2) = (if k < n then (ds.getD k dz).2.2.2.2.2.map (rslv ds) else (ds.getD k dz).2.2.2.2.2) := by
              by_cases h : k < n
              · rw [if_pos h, if_pos (by omega)]
              · rw [if_neg h, if_neg (by omega)]
            rw [hcond]
            refine ⟨by rw [e5 6 _ 3 (by omega)]; exact hFk.1, fun j hj => ?_⟩
            rw [e5 13 _ j (by omega), e5 14 _ j (by omega), e5 15 _ j (by omega)]
            exact hFk.2 j hj
        · rw [g3, takeD_succ hnl, rsA_app, List.take_of_length_le (Nat.le_refl _)]
          rfl
      obtain ⟨σ', hI', hx⟩ := ih (n + 1) σ1 (by omega) hI2
      refine ⟨σ', hI', fun C h hr ls hls => x_loc hls ?_⟩
      refine x_iload_n h dX5_resolveNames_2 rfl ?_
      refine x_aload_n h dX5_resolveNames_3 rfl ?_
      refine x_get (q := vI (ds.length)) h fl_5_34 (lvm_4 (by omega)) dX5_resolveNames_4 (congrArg vI (by first | exact j2 | simp [up3, j2])) ?_
      refine x_ic_ge_F (tgt := 35) h (by omega) dX5_resolveNames_7 (by decide) (by omega) ?_
      refine x_aload_n h dX5_resolveNames_10 rfl ?_
      refine x_iload_n h dX5_resolveNames_11 rfl ?_
      refine x_cV1 h kVX4_slotAt lkX5_42 ⟨_, _, _, rfl, rfl⟩ dX5_resolveNames_12 (c_slotAt (d := 0) (t := s) (k := n) hs (by omega)) (lvm_4 (by omega)) rfl rfl (Nat.le_of_ble_eq_true rfl) (by omega) ?_
      refine x_astore_n h dX5_resolveNames_15 (by decide) ?_
      refine x_aload_n h dX5_resolveNames_16 rfl ?_
      refine x_ifnull h dX5_resolveNames_17 ?_
      refine x_aload_n h dX5_resolveNames_20 rfl ?_
      refine x_aload_n h dX5_resolveNames_21 rfl ?_
      refine x_get h fl_5_88 (lvm_5 (by omega)) dX5_resolveNames_22 (pvf_706 _ _) ?_
      refine x_aload_n h dX5_resolveNames_25 rfl ?_
      refine x_cV0 h kVX5_resolveNamesIn lkX5_159 ⟨_, _, _, rfl, rfl⟩ dX5_resolveNames_26 (hct) lvz_2 rfl rfl (Nat.le_of_ble_eq_true rfl) (by omega) ?_
      refine x_iinc h dX5_resolveNames_29 rfl (by decide) ?_
      refine x_goto (tgt := 2) h dX5_resolveNames_32 (by decide) ?_
      exact hx C h hr _ ⟨rfl, rfl, rfl, trivial⟩
  obtain ⟨σ', hI, hx⟩ := loop ds.length 0 σ (by omega) ⟨fun _ _ _ _ => rfl, hT.1, fun k hk => (hT.2 k hk).1, fun k hk => by rw [if_neg (by omega)]; exact (hT.2 k hk).2, hnf⟩
  refine ⟨σ', hI, ?_⟩
  refine ct_of (by decide) (Nat.le_of_ble_eq_true rfl) (fun C h hr _ => ?_)
  have h : Ok C RX5 cX5_resolveNames 4 _ := h
  refine x_iconst h dX5_resolveNames_0 ?_
  refine x_istore_n h dX5_resolveNames_1 (by decide) ?_
  exact hx C h hr _ ⟨rfl, rfl, rfl, trivial⟩
/-- what parse leaves and answers -/
def PaRes (σ : Mm) (L s : Nat) (res : Nat ⊕ (List TabD × Int)) (r : Int) (σ' : Mm) : Prop := FrX s σ' σ ∧ match res with
  | .inl e => r = tQ (tB σ 11 L) e
  | .inr (ds, nf) => r = rsA ds ds nf ∧ ToldR σ' s ds ∧ (∀ k, k < ds.length → DOk (ds.getD k dz)) ∧ 0 < ds.length ∧ ds.length ≤ 12
theorem tabF_next {B : Nat → Int} {L : Nat} (h : BOk B L) : True := trivial
theorem parse_loop {σ : Mm} {L s : Nat} (hL : TapeL σ L) (hB : BOk (tB σ 11 L) L) (hs : s < 2) : ∀ (c : Nat) (τ : Mm) (ds : List TabD) (nf : Int) (i : Nat), ds.length + c = 12 → FrX s τ σ → Told τ s ds → (∀ k, k < ds.length → DOk (ds.getD k dz)) → AtTok τ L i → tq (tB σ 11 L) i ≤ L → τ 2 0 4 = nf → (-2147483648 ≤ nf ∧ nf < 2147483648) →
    ∃ (r : Int) (σ' : Mm), PaRes σ L s (txtF (tK (tB σ 11 L)) (tV (tB σ 11 L)) (tQ (tB σ 11 L)) c i ds nf) r σ' ∧ ∀ C : Cx, Ok C RX5 cX5_parse 5 66 → Rt C 1 (some .int) (some (vI r)) NALL σ' 0 0 → ∀ ls, lsub [(0, vR 2 0), (1, vR 4 s), (2, vI 1), (3, vI ds.length)] ls → X C 1 28 ls [] NALL τ 0 0 := by
  intro c
  induction c with
  | zero =>
    intro τ ds nf i hc hfr hT hD hat hi hnf hnf2
    have BB := frX_B (L := L) hfr
    obtain ⟨a1, a2, a3, a4⟩ := hat
    rw [BB] at a3
    refine ⟨_, τ, ⟨hfr, rfl⟩, fun C h hr ls hls => x_loc hls ?_⟩
    refine x_iload_n h dX5_parse_28 rfl ?_
    refine x_bipush h dX5_parse_29 (by decide) ?_
    refine x_ic_ge_T (tgt := 94) h (by omega) dX5_parse_31 (by decide) (by omega) ?_
    refine x_iload_n h dX5_parse_94 rfl ?_
    refine x_if_eq_F (tgt := 106) h (by omega) dX5_parse_95 (by decide) (by omega) ?_
    refine x_aload_n h dX5_parse_98 rfl ?_
    refine x_get h fl_5_14 lvz_2 dX5_parse_99 (pvf_503 _ _) ?_
    refine x_get (q := vI (tQ (tB σ 11 L) i)) h fl_5_53 lvz_3 dX5_parse_102 (congrArg vI (by first | exact a3 | simp [up3, a3])) ?_
    exact x_ireturn h hr dX5_parse_105 (Or.inl rfl) ⟨Nat.le_refl _, Nat.le_refl _⟩
  | succ c ih =>
    intro τ ds nf i hc hfr hT hD hat hi hnf hnf2
    have BB := frX_B (L := L) hfr
    have hLτ := frX_T (L := L) hfr hL
    have hd : DsOk ds := ⟨by omega, fun k hk => ⟨(hD k hk).1, (hD k hk).2.1⟩⟩
    obtain ⟨r1, σ1, hres, hct⟩ := c_takeTable (τ := τ) (L := L) (i := i) (s := s) (ds := ds) (nf := nf) hLτ (by rw [BB]; exact hB) hT hd hs (by omega) hnf hnf2 hat (by rw [BB]; exact hi)
    rw [BB] at hres
    rw [txtF]
    cases hv : tabF (tK (tB σ 11 L)) (tV (tB σ 11 L)) (tQ (tB σ 11 L)) ds nf i with
    | inl e =>
      rw [hv] at hres
      obtain ⟨rfl, hf1, hf2⟩ := hres
      rw [BB] at hf1
      refine ⟨_, σ1, ⟨fun f k j h => (hf2 f k j (by omega)).trans (hfr f k j h), rfl⟩, fun C h hr ls hls => x_loc hls ?_⟩
      refine x_iload_n h dX5_parse_28 rfl ?_
      refine x_bipush h dX5_parse_29 (by decide) ?_
      refine x_ic_ge_F (tgt := 94) h (by omega) dX5_parse_31 (by decide) (by omega) ?_
      refine x_iload_n h dX5_parse_34 rfl ?_
      refine x_if_eq_F (tgt := 94) h (by omega) dX5_parse_35 (by decide) (by omega) ?_
      refine x_aload_n h dX5_parse_38 rfl ?_
      refine x_iload_n h dX5_parse_39 rfl ?_
      refine x_cV1 h kVX4_slotAt lkX5_42 ⟨_, _, _, rfl, rfl⟩ dX5_parse_40 (c_slotAt (d := 0) (t := s) (k := ds.length) hs (by omega)) (lvm_4 (by omega)) rfl rfl (Nat.le_of_ble_eq_true rfl) (by omega) ?_
      refine x_astore h dX5_parse_43 (by decide) ?_
      refine x_aload h dX5_parse_45 rfl ?_
      refine x_ifnull h dX5_parse_47 ?_
      refine x_aload_n h dX5_parse_50 rfl ?_
      refine x_aload_n h dX5_parse_51 rfl ?_
      refine x_aload h dX5_parse_52 rfl ?_
      refine x_cV1 h kVX5_takeTable lkX5_46 ⟨_, _, _, rfl, rfl⟩ dX5_parse_54 (hct) lvz_2 rfl rfl (Nat.le_of_ble_eq_true rfl) (by omega) ?_
      refine x_if_ne_F (tgt := 65) h (by omega) dX5_parse_57 (by decide) (by omega) ?_
      refine x_aload_n h dX5_parse_60 rfl ?_
      refine x_get (q := vI (tQ (tB σ 11 L) e)) h fl_5_28 lvz_2 dX5_parse_61 (congrArg vI (by first | exact hf1 | simp [up3, hf1])) ?_
      exact x_ireturn h hr dX5_parse_64 (Or.inl rfl) ⟨Nat.le_refl _, Nat.le_refl _⟩
    | inr t =>
      obtain ⟨i', D, nf'⟩ := t
      rw [hv] at hres
      obtain ⟨rfl, g1, g2, g3, g4, g5, g6, g7, g8, g9, g10, g11⟩ := hres
      rw [BB] at g6
      have hok := tabF_ok hB hv
      have hDn : DOk D := ⟨g7, g8, g10, g11, hok.1, hok.2⟩
      have hDs : ∀ k, k < (ds ++ [D]).length → DOk ((ds ++ [D]).getD k dz) := fun k hk => by
        rcases ds_get hk with ⟨h1, h2⟩ | ⟨h1, h2⟩
        · rw [h2]; exact hD k h1
        · rw [h2]; exact hDn
      generalize hτ2 : up3 σ1 4 s 1 ((ds.length : Int) + 1) = τ2
      have hl2 : (ds ++ [D]).length = ds.length + 1 := by simp
      have q2 : ∀ f k j, f ≠ 4 → τ2 f k j = σ1 f k j := fun f k j h => by rw [← hτ2]; exact up3_f _ _ h
      have fr2 : FrX s τ2 σ := by
        rw [← hτ2]
        exact frX_up (frX_tr (frX_M g1 (by omega)) hfr) (by omega)
      have hT2 : Told τ2 s (ds ++ [D]) := by
        refine ⟨by rw [← hτ2, up3_s, hl2]; push_cast; rfl, fun k hk => ?_⟩
        rcases ds_get hk with ⟨h1, h2⟩ | ⟨h1, h2⟩
        · rw [h2]
          obtain ⟨⟨t1, t2, t3, t4, t5⟩, t6, t7⟩ := hT.2 k h1
          have e : ∀ f j, (f = 5 ∨ f = 6 ∨ f = 13 ∨ f = 14 ∨ f = 15) → τ2 f (12 * s + k) j = τ f (12 * s + k) j := fun f j hf => by rw [q2 f _ _ (by omega)]; exact g1 f _ _ (by omega)
          refine ⟨⟨?_, ?_, ?_, ?_, ?_⟩, ?_, fun j hj => ?_⟩
          · rw [e 5 3 (by omega)]; exact t1
          · rw [e 5 4 (by omega)]; exact t2
          · rw [e 5 5 (by omega)]; exact t3
          · rw [e 5 6 (by omega)]; exact t4
          · rw [e 5 7 (by omega)]; exact t5
          · rw [e 6 3 (by omega)]; exact t6
          · rw [e 13 j (by omega), e 14 j (by omega), e 15 j (by omega)]; exact t7 j hj
        · rw [h2, h1]
          obtain ⟨t1, t2, t3, t4, t5⟩ := g2
          obtain ⟨t6, t7⟩ := g3
          refine ⟨⟨?_, ?_, ?_, ?_, ?_⟩, ?_, fun j hj => ?_⟩
          · rw [q2 _ _ _ (by decide)]; exact t1
          · rw [q2 _ _ _ (by decide)]; exact t2
          · rw [q2 _ _ _ (by decide)]; exact t3
          · rw [q2 _ _ _ (by decide)]; exact t4
          · rw [q2 _ _ _ (by decide)]; exact t5
          · rw [q2 _ _ _ (by decide)]; exact t6
          · rw [q2 _ _ _ (by decide), q2 _ _ _ (by decide), q2 _ _ _ (by decide)]; exact t7 j hj
      have hat2 : AtTok τ2 L i' := by
        have e : tB τ2 11 L = tB σ1 11 L := by rw [← hτ2]; exact tB_up L (by decide)
        obtain ⟨b1, b2, b3, b4⟩ := g4
        unfold AtTok
        rw [e, q2 _ _ _ (by decide), q2 _ _ _ (by decide), q2 _ _ _ (by decide), q2 _ _ _ (by decide)]
        exact ⟨b1, b2, b3, b4⟩
      have hnf3 : τ2 2 0 4 = nf' := by rw [q2 _ _ _ (by decide)]; exact g5
      have BB2 := frX_B (L := L) fr2
      have hk2 : τ2 3 0 2 = tK (tB σ 11 L) i' := by rw [← BB2]; exact hat2.2.1
      have hkr := tkK_r hB (tq (tB σ 11 L) i')
      have hke : tK (tB σ 11 L) i' = tkK (tB σ 11 L) (tq (tB σ 11 L) i') := rfl
      show ∃ r σ', PaRes σ L s (if tK (tB σ 11 L) i' = 0 then .inr (ds ++ [D], nf') else txtF (tK (tB σ 11 L)) (tV (tB σ 11 L)) (tQ (tB σ 11 L)) c i' (ds ++ [D]) nf') r σ' ∧ _
      by_cases h0 : tK (tB σ 11 L) i' = 0
      · rw [if_pos h0]
        have hd2 : DsOk (ds ++ [D]) := ⟨by omega, fun k hk => ⟨(hDs k hk).1, (hDs k hk).2.1⟩⟩
        obtain ⟨σ', ⟨z1, z2, z3, z4, z5⟩, hct2⟩ := c_resAll hs hT2 hd2 hDs hnf3 g9
        rw [List.take_of_length_le (Nat.le_refl _)] at z5
        refine ⟨_, σ', ⟨frX_tr z1 fr2, rfl, ⟨z2, fun k hk => ⟨z3 k hk, ?_⟩⟩, hDs, by omega, by omega⟩, fun C h hr ls hls => x_loc hls ?_⟩
        · have := z4 k hk
          rw [if_pos hk] at this
          exact this
        · refine x_iload_n h dX5_parse_28 rfl ?_
          refine x_bipush h dX5_parse_29 (by decide) ?_
          refine x_ic_ge_F (tgt := 94) h (by omega) dX5_parse_31 (by decide) (by omega) ?_
          refine x_iload_n h dX5_parse_34 rfl ?_
          refine x_if_eq_F (tgt := 94) h (by omega) dX5_parse_35 (by decide) (by omega) ?_
          refine x_aload_n h dX5_parse_38 rfl ?_
          refine x_iload_n h dX5_parse_39 rfl ?_
          refine x_cV1 h kVX4_slotAt lkX5_42 ⟨_, _, _, rfl, rfl⟩ dX5_parse_40 (c_slotAt (d := 0) (t := s) (k := ds.length) hs (by omega)) (lvm_4 (by omega)) rfl rfl (Nat.le_of_ble_eq_true rfl) (by omega) ?_
          refine x_astore h dX5_parse_43 (by decide) ?_
          refine x_aload h dX5_parse_45 rfl ?_
          refine x_ifnull h dX5_parse_47 ?_
          refine x_aload_n h dX5_parse_50 rfl ?_
          refine x_aload_n h dX5_parse_51 rfl ?_
          refine x_aload h dX5_parse_52 rfl ?_
          refine x_cV1 h kVX5_takeTable lkX5_46 ⟨_, _, _, rfl, rfl⟩ dX5_parse_54 (hct) lvz_2 rfl rfl (Nat.le_of_ble_eq_true rfl) (by omega) ?_
          refine x_if_ne_T (tgt := 65) h (by omega) dX5_parse_57 (by decide) (by omega) ?_
          refine x_aload_n h dX5_parse_65 rfl ?_
          refine x_iload_n h dX5_parse_66 rfl ?_
          refine x_iconst h dX5_parse_67 ?_
          refine x_iadd h dX5_parse_68 ?_
          refine x_put h fl_5_34 (lvm_4 (by omega)) dX5_parse_69 rfl (fun z => absurd z (by decide)) ?_
          rw [hτ2]
          refine x_aload_n h dX5_parse_72 rfl ?_
          refine x_get h fl_5_14 lvz_2 dX5_parse_73 (pvf_503 _ _) ?_
          refine x_get (q := vI (tK (tB σ 11 L) i')) h fl_5_50 lvz_3 dX5_parse_76 (congrArg vI (by first | exact hk2 | simp [up3, hk2])) ?_
          refine x_if_eq_T (tgt := 86) h (by omega) dX5_parse_79 (by decide) (by omega) ?_
          refine x_iconst h dX5_parse_86 ?_
          refine x_istore_n h dX5_parse_87 (by decide) ?_
          refine x_iinc h dX5_parse_88 rfl (by decide) ?_
          refine x_goto (tgt := 28) h dX5_parse_91 (by decide) ?_
          have tail : X C 1 94 [(3, vI ((ds.length : Int) + 1)), (2, vI 0), (0, vR 2 0), (1, vR 4 s)] [] NALL τ2 0 0 := by
            refine x_iload_n h dX5_parse_94 rfl ?_
            refine x_if_eq_T (tgt := 106) h (by omega) dX5_parse_95 (by decide) (by omega) ?_
            refine x_aload_n h dX5_parse_106 rfl ?_
            refine x_aload_n h dX5_parse_107 rfl ?_
            refine x_cV0 h kVX5_resolveNames lkX5_56 ⟨_, _, _, rfl, rfl⟩ dX5_parse_108 (hct2) lvz_2 rfl rfl (Nat.le_of_ble_eq_true rfl) (by omega) ?_
            refine x_aload_n h dX5_parse_111 rfl ?_
            refine x_get (q := vI (rsA (ds ++ [D]) (ds ++ [D]) nf')) h fl_5_31 lvz_2 dX5_parse_112 (congrArg vI (by first | exact z5 | simp [up3, z5])) ?_
            exact x_ireturn h hr dX5_parse_115 (Or.inl rfl) ⟨Nat.le_refl _, Nat.le_refl _⟩
          refine x_loc (ls' := [(3, vI ((ds.length : Int) + 1)), (2, vI 0), (0, vR 2 0), (1, vR 4 s)]) ⟨rfl, rfl, rfl, rfl, trivial⟩ ?_
          rcases Nat.lt_or_ge (ds.length + 1) 12 with hlt | hge
          · refine x_iload_n h dX5_parse_28 rfl ?_
            refine x_bipush h dX5_parse_29 (by decide) ?_
            refine x_ic_ge_F (tgt := 94) h (by omega) dX5_parse_31 (by decide) (by omega) ?_
            refine x_iload_n h dX5_parse_34 rfl ?_
            refine x_if_eq_T (tgt := 94) h (by omega) dX5_parse_35 (by decide) (by omega) ?_
            exact tail
          · refine x_iload_n h dX5_parse_28 rfl ?_
            refine x_bipush h dX5_parse_29 (by decide) ?_
            refine x_ic_ge_T (tgt := 94) h (by omega) dX5_parse_31 (by decide) (by omega) ?_
            exact tail
      · rw [if_neg h0]
        obtain ⟨r, σ', hp, hx⟩ := ih τ2 (ds ++ [D]) nf' i' (by omega) fr2 hT2 hDs hat2 g6 hnf3 g9
        refine ⟨r, σ', hp, fun C h hr ls hls => x_loc hls ?_⟩
        refine x_iload_n h dX5_parse_28 rfl ?_
        refine x_bipush h dX5_parse_29 (by decide) ?_
        refine x_ic_ge_F (tgt := 94) h (by omega) dX5_parse_31 (by decide) (by omega) ?_
        refine x_iload_n h dX5_parse_34 rfl ?_
        refine x_if_eq_F (tgt := 94) h (by omega) dX5_parse_35 (by decide) (by omega) ?_
        refine x_aload_n h dX5_parse_38 rfl ?_
        refine x_iload_n h dX5_parse_39 rfl ?_
        refine x_cV1 h kVX4_slotAt lkX5_42 ⟨_, _, _, rfl, rfl⟩ dX5_parse_40 (c_slotAt (d := 0) (t := s) (k := ds.length) hs (by omega)) (lvm_4 (by omega)) rfl rfl (Nat.le_of_ble_eq_true rfl) (by omega) ?_
        refine x_astore h dX5_parse_43 (by decide) ?_
        refine x_aload h dX5_parse_45 rfl ?_
        refine x_ifnull h dX5_parse_47 ?_
        refine x_aload_n h dX5_parse_50 rfl ?_
        refine x_aload_n h dX5_parse_51 rfl ?_
        refine x_aload h dX5_parse_52 rfl ?_
        refine x_cV1 h kVX5_takeTable lkX5_46 ⟨_, _, _, rfl, rfl⟩ dX5_parse_54 (hct) lvz_2 rfl rfl (Nat.le_of_ble_eq_true rfl) (by omega) ?_
        refine x_if_ne_T (tgt := 65) h (by omega) dX5_parse_57 (by decide) (by omega) ?_
        refine x_aload_n h dX5_parse_65 rfl ?_
        refine x_iload_n h dX5_parse_66 rfl ?_
        refine x_iconst h dX5_parse_67 ?_
        refine x_iadd h dX5_parse_68 ?_
        refine x_put h fl_5_34 (lvm_4 (by omega)) dX5_parse_69 rfl (fun z => absurd z (by decide)) ?_
        rw [hτ2]
        refine x_aload_n h dX5_parse_72 rfl ?_
        refine x_get h fl_5_14 lvz_2 dX5_parse_73 (pvf_503 _ _) ?_
        refine x_get (q := vI (tK (tB σ 11 L) i')) h fl_5_50 lvz_3 dX5_parse_76 (congrArg vI (by first | exact hk2 | simp [up3, hk2])) ?_
        refine x_if_eq_F (tgt := 86) h (by omega) dX5_parse_79 (by decide) (by omega) ?_
        refine x_iconst h dX5_parse_82 ?_
        refine x_goto (tgt := 87) h dX5_parse_83 (by decide) ?_
        refine x_istore_n h dX5_parse_87 (by decide) ?_
        refine x_iinc h dX5_parse_88 rfl (by decide) ?_
        refine x_goto (tgt := 28) h dX5_parse_91 (by decide) ?_
        refine hx C h hr _ ⟨rfl, rfl, rfl, ?_, trivial⟩
        rw [hl2]
        push_cast
        rfl
theorem c_parse {σ : Mm} {L s : Nat} (hL : TapeL σ L) (hB : BOk (tB σ 11 L) L) (hs : s < 2) : ∃ (r : Int) (σ' : Mm), PaRes σ L s (txtF (tK (tB σ 11 L)) (tV (tB σ 11 L)) (tQ (tB σ 11 L)) 12 0 [] (-9)) r σ' ∧ Ct 66 mX5_parse 1 [vR 2 0, vR 4 s] NALL σ (some (vI r)) NALL σ' 0 0 := by
  generalize hσ1 : up3 (up3 (up3 σ 2 0 3 (-9)) 2 0 4 (-9)) 4 s 1 0 = σ1
  have fr1 : FrX s σ1 σ := by rw [← hσ1]; exact frX_up (frX_up (frX_up (fun _ _ _ _ => rfl) (by omega)) (by omega)) (by omega)
  have hL1 := frX_T (L := L) fr1 hL
  have B1 := frX_B (L := L) fr1
  have hstart := c_start (d := 0) hL1
  have hB2 : tB (up3 σ1 3 0 1 0) 11 L = tB σ 11 L := by rw [tB_up L (by decide)]; exact B1
  generalize hτ : advS (up3 σ1 3 0 1 0) L 0 = τ at hstart
  have hτe : τ = tkS (up3 σ1 3 0 1 0) (tkE (tB σ 11 L) (tq (tB σ 11 L) 0)) (tK (tB σ 11 L) 0) (tQ (tB σ 11 L) 0) (tV (tB σ 11 L) 0) := by
    rw [← hτ]
    unfold advS
    rw [hB2]
    rfl
  have fr2 : FrX s τ σ := by
    intro f k j h
    rw [hτe, tkS_f _ _ _ _ _ (by omega), up3_f _ _ (by omega)]
    exact fr1 f k j h
  have B2 := frX_B (L := L) fr2
  have hat : AtTok τ L 0 := by
    unfold AtTok
    rw [B2, hτe]
    exact ⟨tkS_r1 _ _ _ _ _, tkS_r2 _ _ _ _ _, tkS_r3 _ _ _ _ _, tkS_r4 _ _ _ _ _⟩
  have hi : tq (tB σ 11 L) 0 ≤ L := (rn_le (P := isBl) rfl (tB_end σ 11 L) 0).2 (Nat.zero_le _)
  have e4 : τ 4 s 1 = 0 := by rw [hτe, tkS_f _ _ _ _ _ (by decide), up3_f _ _ (by decide), ← hσ1, up3_s]
  have e24 : τ 2 0 4 = -9 := by rw [hτe, tkS_f _ _ _ _ _ (by decide), up3_f _ _ (by decide), ← hσ1, up3_f _ _ (by decide), up3_s]
  obtain ⟨r, σ', hp, hx⟩ := parse_loop hL hB hs 12 τ [] (-9) 0 rfl fr2 ⟨e4, fun k hk => absurd hk (Nat.not_lt_zero _)⟩ (fun k hk => absurd hk (Nat.not_lt_zero _)) hat hi e24 (by omega)
  refine ⟨r, σ', hp, ?_⟩
  refine ct_of (by decide) (Nat.le_of_ble_eq_true rfl) (fun C h hr _ => ?_)
  have h : Ok C RX5 cX5_parse 5 _ := h
  refine x_aload_n h dX5_parse_0 rfl ?_
  refine x_bipush h dX5_parse_1 (by decide) ?_
  refine x_put h fl_5_28 lvz_2 dX5_parse_3 rfl (fun z => absurd z (by decide)) ?_
  refine x_aload_n h dX5_parse_6 rfl ?_
  refine x_bipush h dX5_parse_7 (by decide) ?_
  refine x_put h fl_5_31 lvz_2 dX5_parse_9 rfl (fun z => absurd z (by decide)) ?_
  refine x_aload_n h dX5_parse_12 rfl ?_
  refine x_iconst h dX5_parse_13 ?_
  refine x_put h fl_5_34 (lvm_4 (by omega)) dX5_parse_14 rfl (fun z => absurd z (by decide)) ?_
  rw [hσ1]
  refine x_aload_n h dX5_parse_17 rfl ?_
  refine x_get h fl_5_14 lvz_2 dX5_parse_18 (pvf_503 _ _) ?_
  refine x_cV0 h kVX6_start lkX5_39 ⟨_, _, _, rfl, rfl⟩ dX5_parse_21 (hstart) lvz_3 rfl rfl (Nat.le_of_ble_eq_true rfl) (by omega) ?_
  refine x_iconst h dX5_parse_24 ?_
  refine x_istore_n h dX5_parse_25 (by decide) ?_
  refine x_iconst h dX5_parse_26 ?_
  refine x_istore_n h dX5_parse_27 (by decide) ?_
  exact hx C h hr _ ⟨rfl, rfl, rfl, rfl, trivial⟩
