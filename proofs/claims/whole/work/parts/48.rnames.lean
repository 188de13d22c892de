/-! names, SIZES and the FAULTS of names in the reference -/
section RN
variable {B : Nat → Int} {L N : Nat}
theorem m_tableOf {d n : Nat} {σ : Mm} {w : Int} (hn : n ≤ 12) (hw : i64 w) (hg : ∀ k, k < n → i64 (σ 39 0 k)) : Ct d mX10_tableOf 1 [vR 10 0, vL w, vI n] NALL σ (some (vI (nof (fun k => σ 39 0 k) w n))) NALL σ 0 0 := by
  obtain ⟨hw1, hw2⟩ := hw
  refine ct_of (by decide) (Nat.le_of_ble_eq_true rfl) (fun C h hr _ => ?_)
  have h : Ok C RX10 cX10_tableOf 5 _ := h
  have loop : ∀ (c k : Nat) (ls : List (Nat × PV)), k + c = n → nof (fun k => σ 39 0 k) w n = nofR (fun k => σ 39 0 k) w c k → lsub [(0, vR 10 0), (1, vL w), (3, vI n), (4, vI k)] ls → X C 1 3 ls [] NALL σ 0 0 := by
    intro c
    induction c with
    | zero =>
      intro k ls hk hv hls
      refine x_loc hls ?_
      rw [hv, nofR] at hr
      refine x_iload h dX10_tableOf_3 rfl ?_
      refine x_iload_n h dX10_tableOf_5 rfl ?_
      refine x_ic_ge_T (tgt := 30) h (by omega) dX10_tableOf_6 (by decide) (by omega) ?_
      refine x_bipush h dX10_tableOf_30 (by decide) ?_
      exact x_ireturn h hr dX10_tableOf_32 (Or.inl rfl) ⟨Nat.le_refl _, Nat.le_refl _⟩
    | succ c ih =>
      intro k ls hk hv hls
      refine x_loc hls ?_
      obtain ⟨hg1, hg2⟩ := hg k (by omega)
      refine x_iload h dX10_tableOf_3 rfl ?_
      refine x_iload_n h dX10_tableOf_5 rfl ?_
      refine x_ic_ge_F (tgt := 30) h (by omega) dX10_tableOf_6 (by decide) (by omega) ?_
      refine x_aload_n h dX10_tableOf_9 rfl ?_
      refine x_get h fl_10_24 lvz_10 dX10_tableOf_10 (pvf_539 _ _) ?_
      refine x_iload h dX10_tableOf_13 rfl ?_
      refine x_lald h kdf_39 lvz_39 dX10_tableOf_15 rfl (by omega) ?_
      refine x_lload_n h dX10_tableOf_16 rfl ?_
      refine x_lc_ne (tgt := 24) h (by omega) dX10_tableOf_17 dX10_tableOf_18 (by decide) (fun hc => ?_) (fun hc => ?_)
      · refine x_iinc h dX10_tableOf_24 rfl (by decide) ?_
        refine x_goto (tgt := 3) h dX10_tableOf_27 (by decide) ?_
        exact ih (k + 1) _ (by omega) (by rw [hv, nofR, if_neg (by show ¬ (σ 39 0 k = w); omega)]) ⟨rfl, rfl, rfl, rfl, trivial⟩
      · rw [hv, nofR, if_pos (by show σ 39 0 k = w; omega)] at hr
        refine x_iload h dX10_tableOf_21 rfl ?_
        exact x_ireturn h hr dX10_tableOf_23 (Or.inl rfl) ⟨Nat.le_refl _, Nat.le_refl _⟩
  refine x_iconst h dX10_tableOf_0 ?_
  refine x_istore h dX10_tableOf_1 (by decide) ?_
  exact loop n 0 _ (by omega) rfl ⟨rfl, rfl, rfl, rfl, trivial⟩
theorem nofG {ds : List TabD} {σ : Mm} {t : Nat} {w : Int} (ht : t ≤ ds.length) (hg : ∀ k, k < ds.length → σ 39 0 k = (ds.getD k dz).1) : nof (fun k => σ 39 0 k) w t = nofD (ds.take t) w := by
  unfold nofD
  rw [List.length_take, Nat.min_eq_left ht]
  refine nof_ext (fun j hj => ?_)
  show σ 39 0 j = ((ds.take t).getD j dz).1
  rw [hg j (by omega)]
  rw [List.getD_eq_getElem?_getD, List.getD_eq_getElem?_getD, List.getElem?_take_of_lt hj]
/-- the least place, 9999 where there is none -/
def MF (f : Int) (P : Int → Prop) : Prop := (f = 9999 ∧ ∀ x, ¬ P x) ∨ (P f ∧ 0 ≤ f ∧ f ≤ 900 ∧ ∀ x, P x → f ≤ x)
theorem MF_r {f : Int} {P : Int → Prop} (h : MF f P) : 0 ≤ f ∧ f ≤ 9999 := by
  rcases h with ⟨h, -⟩ | ⟨-, h1, h2, -⟩ <;> omega
theorem MF_add {f x : Int} {P P' : Int → Prop} (h : MF f P) (hx : 0 ≤ x ∧ x ≤ 900) (he : ∀ y, P' y ↔ P y ∨ y = x) : MF (if x < f then x else f) P' := by
  rcases h with ⟨h1, h2⟩ | ⟨h1, h0, h9, h2⟩
  · rw [if_pos (by omega)]
    exact Or.inr ⟨(he x).mpr (Or.inr rfl), hx.1, hx.2, fun y hy => by
      rcases (he y).mp hy with q | q
      · exact absurd q (h2 y)
      · omega⟩
  · by_cases q : x < f
    · rw [if_pos q]
      exact Or.inr ⟨(he x).mpr (Or.inr rfl), hx.1, hx.2, fun y hy => by
        rcases (he y).mp hy with q2 | q2
        · have := h2 y q2; omega
        · omega⟩
    · rw [if_neg q]
      exact Or.inr ⟨(he f).mpr (Or.inl h1), h0, h9, fun y hy => by
        rcases (he y).mp hy with q2 | q2
        · exact h2 y q2
        · omega⟩
theorem MF_ext {f : Int} {P P' : Int → Prop} (h : MF f P) (he : ∀ y, P' y ↔ P y) : MF f P' := by
  rcases h with ⟨h1, h2⟩ | ⟨h1, h0, h9, h2⟩
  · exact Or.inl ⟨h1, fun y hy => h2 y ((he y).mp hy)⟩
  · exact Or.inr ⟨(he f).mpr h1, h0, h9, fun y hy => h2 y ((he y).mp hy)⟩
/-- all the places where a name is wrong -/
def PA (V Q : Nat → Int) (ds : List TabD) (q : Nat → Int) (U : List Us3) (x : Int) : Prop := (∃ k, k < ds.length ∧ nofD (ds.take k) (ds.getD k dz).1 ≠ -9 ∧ x = q k) ∨ ∃ t ∈ U, nofD (if t.2.2 = 1 then ds.take t.2.1 else ds) (V t.1) = -9 ∧ x = Q t.1
theorem MN_N {ds : List TabD} : ∀ (ss : List Zs) (nf : Int) (P : Int → Prop), (∀ z ∈ ss, nmZ z → 0 ≤ z.2.2) → MN nf P → MN (rsN ds ss nf) (fun x => P x ∨ ∃ z ∈ ss, nmZ z ∧ nofD ds z.2.1 = -9 ∧ x = z.2.2) := by
  intro ss
  induction ss with
  | nil => intro nf P _ h; exact MN_ext h (fun y => ⟨fun z => z.elim id (fun ⟨t, ht, _⟩ => (by cases ht)), Or.inl⟩)
  | cons z r ih =>
    intro nf P hz h
    by_cases hc : nmZ z ∧ nofD ds z.2.1 = -9
    · have e : rsN ds (z :: r) nf = rsN ds r (nfA nf z.2.2) := by
        show rsN ds r (if (z.1 = 2 ∨ z.1 = 3) ∧ nofD ds z.2.1 = -9 then nfA nf z.2.2 else nf) = _
        rw [if_pos hc]
      rw [e]
      refine MN_ext (ih _ (fun x => P x ∨ x = z.2.2) (fun y hy => hz y (List.mem_cons_of_mem _ hy)) (MN_add h (hz z List.mem_cons_self hc.1) (fun y => Iff.rfl))) (fun y => ⟨fun w => ?_, fun w => ?_⟩)
      · rcases w with w | ⟨t, ht, h2, h3, h4⟩
        · exact Or.inl (Or.inl w)
        · rcases List.mem_cons.mp ht with q | q
          · subst q; exact Or.inl (Or.inr h4)
          · exact Or.inr ⟨t, q, h2, h3, h4⟩
      · rcases w with (w | w) | ⟨t, ht, h2, h3, h4⟩
        · exact Or.inl w
        · exact Or.inr ⟨z, List.mem_cons_self, hc.1, hc.2, w⟩
        · exact Or.inr ⟨t, List.mem_cons_of_mem _ ht, h2, h3, h4⟩
    · have e : rsN ds (z :: r) nf = rsN ds r nf := by
        show rsN ds r (if (z.1 = 2 ∨ z.1 = 3) ∧ nofD ds z.2.1 = -9 then nfA nf z.2.2 else nf) = _
        rw [if_neg hc]
      rw [e]
      refine MN_ext (ih _ P (fun y hy => hz y (List.mem_cons_of_mem _ hy)) h) (fun y => ⟨fun w => ?_, fun w => ?_⟩)
      · rcases w with w | ⟨t, ht, h2, h3, h4⟩
        · exact Or.inl w
        · rcases List.mem_cons.mp ht with q | q
          · subst q; exact absurd ⟨h2, h3⟩ hc
          · exact Or.inr ⟨t, q, h2, h3, h4⟩
      · rcases w with w | ⟨t, ht, h2, h3, h4⟩
        · exact Or.inl w
        · exact Or.inr ⟨t, List.mem_cons_of_mem _ ht, h2, h3, h4⟩
theorem MN_A {ds : List TabD} : ∀ (es : List TabD) (nf : Int) (P : Int → Prop), (∀ D ∈ es, ∀ z ∈ D.2.2.2.2.2, nmZ z → 0 ≤ z.2.2) → MN nf P → MN (rsA ds es nf) (fun x => P x ∨ ∃ D ∈ es, ∃ z ∈ D.2.2.2.2.2, nmZ z ∧ nofD ds z.2.1 = -9 ∧ x = z.2.2) := by
  intro es
  induction es with
  | nil => intro nf P _ h; exact MN_ext h (fun y => ⟨fun z => z.elim id (fun ⟨t, ht, _⟩ => (by cases ht)), Or.inl⟩)
  | cons D r ih =>
    intro nf P hz h
    have h1 := MN_N (ds := ds) D.2.2.2.2.2 nf P (fun z hz' => hz D List.mem_cons_self z hz') h
    refine MN_ext (ih _ _ (fun E hE => hz E (List.mem_cons_of_mem _ hE)) h1) (fun y => ⟨fun w => ?_, fun w => ?_⟩)
    · rcases w with w | ⟨E, hE, h2⟩
      · exact Or.inl (Or.inl w)
      · rcases List.mem_cons.mp hE with q | q
        · subst q; exact Or.inl (Or.inr h2)
        · exact Or.inr ⟨E, q, h2⟩
    · rcases w with (w | w) | ⟨E, hE, h2⟩
      · exact Or.inl w
      · exact Or.inr ⟨D, List.mem_cons_self, w⟩
      · exact Or.inr ⟨E, List.mem_cons_of_mem _ hE, h2⟩
/-- the class's name FAULT is the least of them all -/
theorem MN_all {ds : List TabD} {nf : Int} {q : Nat → Int} {U : List Us3} (hU : UsR B L ds U) (h : MN nf (PF (tV B) (tQ B) ds q U)) : MN (rsA ds ds nf) (PA (tV B) (tQ B) ds q U) := by
  have hz : ∀ D ∈ ds, ∀ z ∈ D.2.2.2.2.2, nmZ z → 0 ≤ z.2.2 := fun D hD z hz hn => by
    obtain ⟨t, -, -, -, e⟩ := hU.2 D hD z hz hn
    rw [e]; exact Int.natCast_nonneg _
  refine MN_ext (MN_A ds nf _ hz h) (fun y => ⟨fun w => ?_, fun w => ?_⟩)
  · rcases w with w | ⟨t, ht, h1, h2⟩
    · exact Or.inl (Or.inl w)
    · obtain ⟨u1, u2, u3, u4⟩ := hU.1 t ht
      rcases u3 with u3 | u3
      · rw [if_neg (by omega)] at h1
        obtain ⟨D, hD, z, hz, z1, z2, z3⟩ := u4 u3
        exact Or.inr ⟨D, hD, z, hz, z1, by rw [z2]; exact h1, by rw [z3]; exact h2⟩
      · rw [if_pos u3] at h1
        exact Or.inl (Or.inr ⟨t, ht, u3, h1, h2⟩)
  · rcases w with (w | ⟨t, ht, h0, h1, h2⟩) | ⟨D, hD, z, hz, z1, z2, z3⟩
    · exact Or.inl w
    · exact Or.inr ⟨t, ht, by rw [if_pos h0]; exact h1, h2⟩
    · obtain ⟨t, ht, t1, t2, t3⟩ := hU.2 D hD z hz z1
      exact Or.inr ⟨t, ht, by rw [if_neg (by omega), ← t2]; exact z2, by rw [← t3]; exact z3⟩
theorem tok_k2 (h : BOk B L) {i : Nat} (hk : tK B i = 2) : i ≤ 900 ∧ tq B i ≤ L ∧ i64 (tV B i) := by
  have hq : tq B i ≤ L := by
    rcases Nat.lt_or_ge L (tq B i) with z | z
    · exfalso
      have e := h.2.2.1 (tq B i) (by omega)
      have hk : tkK B (tq B i) = 2 := hk
      unfold tkK at hk
      rw [e] at hk
      have d1 : isDg 0 = false := rfl
      have d2 : isLe 0 = false := rfl
      have d3 : isSg 0 = false := rfl
      rw [d1, d2, d3] at hk
      simp at hk
    · exact z
  have := tq_ge h i
  have := h.1
  exact ⟨by omega, hq, tkV_le hk⟩
theorem mem_getU {l : List Us3} {t : Us3} (h : t ∈ l) : ∃ j, j < l.length ∧ l.getD j (0, 0, 0) = t := by
  obtain ⟨k, hk⟩ := List.getElem?_of_mem h
  refine ⟨k, (List.getElem?_eq_some_iff.mp hk).1, ?_⟩
  rw [List.getD_eq_getElem?_getD, hk]
  rfl
theorem getU_mem {l : List Us3} {j : Nat} (h : j < l.length) : l.getD j (0, 0, 0) ∈ l := by
  rw [List.getD_eq_getElem?_getD, List.getElem?_eq_getElem h]
  exact List.getElem_mem h
/-- the FAULTS of names -/
theorem m_checkNames {m : Nat} {ds : List TabD} {nf : Int} {σ : Mm} {A P : List (Int × Int)} {U : List Us3} {i : Nat} (hl : ds.length = m) (hT : TS B L N m σ) (hz : ZR σ i A P U) (hUl : U.length ≤ 900) (hTb : ∀ k, k < ds.length → TbR B ds A P U k σ) (hU : UsR B L ds U) (hn : MN nf (PF (tV B) (tQ B) ds (fun k => σ 40 0 k) U)) : Ct 2 mX10_checkNames 1 [vR 10 0] NALL σ none NALL (if rsA ds ds nf = -9 then σ else up3 σ 10 0 7 (rsA ds ds nf)) 0 0 := by
  have hm8 := hT.2.2.2.2.1
  have hm12 := hT.2.2.2.2.2
  have hB := hT.2.2.2.1
  have k7 : σ 10 0 7 = -9 := hz.1.2.1
  have hUr : UseR σ U := hz.1.2.2.2
  have hg : ∀ k, k < ds.length → σ 39 0 k = (ds.getD k dz).1 := fun k hk => (hTb k hk).1.1
  have hg64 : ∀ k, k < ds.length → i64 (σ 39 0 k) := fun k hk => by rw [hg k hk]; exact (hTb k hk).2.1.2.2
  have hall := MN_all hU hn
  generalize hR : rsA ds ds nf = R at hall
  -- the end
  have fin : ∀ (f : Int) (C : Cx), MF f (PA (tV B) (tQ B) ds (fun k => σ 40 0 k) U) → Ok C RX10 cX10_checkNames 4 2 → Rt C 1 none none NALL (if R = -9 then σ else up3 σ 10 0 7 R) 0 0 → X C 1 158 [(0, vR 10 0), (1, vI f)] [] NALL σ 0 0 := fun f C hf h hr => by
    rcases hf with ⟨f1, f2⟩ | ⟨f1, f0, f9, f2⟩
    · have hR9 : R = -9 := by
        rcases hall with ⟨r, -⟩ | ⟨r, -⟩
        · exact r
        · exact absurd r (f2 _)
      rw [if_pos hR9] at hr
      refine x_iload_n h dX10_checkNames_158 rfl ?_
      refine x_sipush h dX10_checkNames_159 (by decide) ?_
      refine x_ic_ge_T (tgt := 179) h (by omega) dX10_checkNames_162 (by decide) (by omega) ?_
      exact x_return h hr dX10_checkNames_179 ⟨Nat.le_refl _, Nat.le_refl _⟩
    · have hRf : R = f := by
        rcases hall with ⟨-, r⟩ | ⟨r1, r0, r2⟩
        · exact absurd f1 (r _)
        · have := f2 _ r1; have := r2 _ f1; omega
      rw [if_neg (by omega), hRf] at hr
      refine x_iload_n h dX10_checkNames_158 rfl ?_
      refine x_sipush h dX10_checkNames_159 (by decide) ?_
      refine x_ic_ge_F (tgt := 179) h (by omega) dX10_checkNames_162 (by decide) (by omega) ?_
      refine x_aload_n h dX10_checkNames_165 rfl ?_
      refine x_get (q := vI (-9)) h fl_10_196 lvz_10 dX10_checkNames_166 (congrArg vI (by first | exact k7 | simp [up3, k7])) ?_
      refine x_bipush h dX10_checkNames_169 (by decide) ?_
      refine x_ic_ne_F (tgt := 179) h (by omega) dX10_checkNames_171 (by decide) (by omega) ?_
      refine x_aload_n h dX10_checkNames_174 rfl ?_
      refine x_iload_n h dX10_checkNames_175 rfl ?_
      refine x_put h fl_10_196 lvz_10 dX10_checkNames_176 rfl (fun z => absurd z (by decide)) ?_
      exact x_return h hr dX10_checkNames_179 ⟨Nat.le_refl _, Nat.le_refl _⟩
  -- the second loop
  have loop2 : ∀ (c k : Nat) (f : Int) (C : Cx), k + c = U.length → MF f (fun x => (∃ j, j < ds.length ∧ nofD (ds.take j) (ds.getD j dz).1 ≠ -9 ∧ x = σ 40 0 j) ∨ ∃ j, j < k ∧ nofD (if (U.getD j (0, 0, 0)).2.2 = 1 then ds.take (U.getD j (0, 0, 0)).2.1 else ds) (tV B (U.getD j (0, 0, 0)).1) = -9 ∧ x = tQ B (U.getD j (0, 0, 0)).1) → Ok C RX10 cX10_checkNames 4 2 → Rt C 1 none none NALL (if R = -9 then σ else up3 σ 10 0 7 R) 0 0 → X C 1 69 [(0, vR 10 0), (1, vI f), (2, vI k)] [] NALL σ 0 0 := by
    intro c
    induction c with
    | zero =>
      intro k f C hk hf h hr
      have u22 := hUr.1
      refine x_iload_n h dX10_checkNames_69 rfl ?_
      refine x_aload_n h dX10_checkNames_70 rfl ?_
      refine x_get (q := vI (U.length)) h fl_10_209 lvz_10 dX10_checkNames_71 (congrArg vI (by first | exact u22 | simp [up3, u22])) ?_
      refine x_ic_ge_T (tgt := 158) h (by omega) dX10_checkNames_74 (by decide) (by omega) ?_
      refine x_loc (ls' := [(0, vR 10 0), (1, vI f)]) ⟨rfl, rfl, trivial⟩ (fin f C (MF_ext hf (fun y => ⟨fun w => ?_, fun w => ?_⟩)) h hr)
      · rcases w with w | ⟨t, ht, h1, h2⟩
        · exact Or.inl w
        · obtain ⟨j, hj, rfl⟩ := mem_getU ht
          exact Or.inr ⟨j, by omega, h1, h2⟩
      · rcases w with w | ⟨j, hj, h1, h2⟩
        · exact Or.inl w
        · exact Or.inr ⟨_, getU_mem (by omega), h1, h2⟩
    | succ c ih =>
      intro k f C hk hf h hr
      have u22 := hUr.1
      have hfr := MF_r hf
      obtain ⟨v1, v2, v3⟩ := hUr.2 k (by omega)
      obtain ⟨w1, w2, w3, -⟩ := hU.1 (U.getD k (0, 0, 0)) (getU_mem (by omega))
      have grow := fun (f' : Int) (hh : MF f' (fun x => ((∃ j, j < ds.length ∧ nofD (ds.take j) (ds.getD j dz).1 ≠ -9 ∧ x = σ 40 0 j) ∨ ∃ j, j < k ∧ nofD (if (U.getD j (0, 0, 0)).2.2 = 1 then ds.take (U.getD j (0, 0, 0)).2.1 else ds) (tV B (U.getD j (0, 0, 0)).1) = -9 ∧ x = tQ B (U.getD j (0, 0, 0)).1) ∨ (nofD (if (U.getD k (0, 0, 0)).2.2 = 1 then ds.take (U.getD k (0, 0, 0)).2.1 else ds) (tV B (U.getD k (0, 0, 0)).1) = -9 ∧ x = tQ B (U.getD k (0, 0, 0)).1))) => ih (k + 1) f' C (by omega) (MF_ext hh (fun y => ⟨fun w => by
        rcases w with w | ⟨j, hj, h1, h2⟩
        · exact Or.inl (Or.inl w)
        · by_cases e : j = k
          · subst e; exact Or.inr ⟨h1, h2⟩
          · exact Or.inl (Or.inr ⟨j, by omega, h1, h2⟩), fun w => by
        rcases w with (w | ⟨j, hj, h1⟩) | w
        · exact Or.inl w
        · exact Or.inr ⟨j, by omega, h1⟩
        · exact Or.inr ⟨k, by omega, w⟩⟩)) h hr
      generalize hu : U.getD k (0, 0, 0) = u at v1 v2 v3 w1 w2 w3 grow
      obtain ⟨T, tb, fl⟩ := u
      have v1 : σ 53 0 k = (T : Int) := v1
      have v2 : σ 54 0 k = (tb : Int) := v2
      have v3 : σ 55 0 k = (fl : Int) := v3
      have w1 : tb < ds.length := w1
      have w2 : tK B T = 2 := w2
      have w3 : fl = 0 ∨ fl = 1 := w3
      obtain ⟨hT9, hTq, hT64⟩ := tok_k2 hB w2
      obtain ⟨t1, t2, t3, t4, t5, t6, t7, t8, t9⟩ := tok_in hT hTq
      have t5 := t5 (by omega)
      have ek : ((k : Nat) : Int) + 1 = ((k + 1 : Nat) : Int) := by omega
      -- behind the look
      have main : ∀ (to : Nat), to ≤ ds.length → nof (fun k => σ 39 0 k) (tV B T) to = nofD (if fl = 1 then ds.take tb else ds) (tV B T) → X C 1 111 [(0, vR 10 0), (1, vI f), (2, vI k)] [vI to, vL (tV B T), vR 10 0] NALL σ 0 0 := fun to hto look => by
        have hct := m_tableOf (d := 0) (σ := σ) (w := tV B T) (n := to) (by omega) hT64 (fun k hk => hg64 k (by omega))
        rw [look] at hct
        by_cases hno : nofD (if fl = 1 then ds.take tb else ds) (tV B T) = -9
        · rw [hno] at hct
          have goal := grow (if tQ B T < f then tQ B T else f) (MF_add hf ⟨t8, t9⟩ (fun y => ⟨fun w => w.elim Or.inl (fun w => Or.inr w.2), fun w => w.elim Or.inl (fun w => Or.inr ⟨hno, w⟩)⟩))
          rw [← ek] at goal
          by_cases hlt : tQ B T < f
          · rw [if_pos hlt] at goal
            refine x_cV1 h kVX10_tableOf lkX10_276 ⟨_, _, _, rfl, rfl⟩ dX10_checkNames_111 (hct) lvz_10 rfl rfl (Nat.le_of_ble_eq_true rfl) (by omega) ?_
            refine x_istore_n h dX10_checkNames_114 (by decide) ?_
            refine x_iload_n h dX10_checkNames_115 rfl ?_
            refine x_bipush h dX10_checkNames_116 (by decide) ?_
            refine x_ic_ne_F (tgt := 150) h (by omega) dX10_checkNames_118 (by decide) (by omega) ?_
            refine x_aload_n h dX10_checkNames_121 rfl ?_
            refine x_get h fl_10_17 lvz_10 dX10_checkNames_122 (pvf_534 _ _) ?_
            refine x_aload_n h dX10_checkNames_125 rfl ?_
            refine x_get h fl_10_58 lvz_10 dX10_checkNames_126 (pvf_553 _ _) ?_
            refine x_iload_n h dX10_checkNames_129 rfl ?_
            refine x_iald h kdf_53 lvz_53 dX10_checkNames_130 rfl (by omega) ?_
            rw [v1]
            refine x_iald h kdf_34 lvz_34 dX10_checkNames_131 rfl (by omega) ?_
            rw [t4]
            refine x_iload_n h dX10_checkNames_132 rfl ?_
            refine x_ic_ge_F (tgt := 150) h (by omega) dX10_checkNames_133 (by decide) (by omega) ?_
            refine x_aload_n h dX10_checkNames_136 rfl ?_
            refine x_get h fl_10_17 lvz_10 dX10_checkNames_137 (pvf_534 _ _) ?_
            refine x_aload_n h dX10_checkNames_140 rfl ?_
            refine x_get h fl_10_58 lvz_10 dX10_checkNames_141 (pvf_553 _ _) ?_
            refine x_iload_n h dX10_checkNames_144 rfl ?_
            refine x_iald h kdf_53 lvz_53 dX10_checkNames_145 rfl (by omega) ?_
            rw [v1]
            refine x_iald h kdf_34 lvz_34 dX10_checkNames_146 rfl (by omega) ?_
            rw [t4]
            refine x_goto (tgt := 151) h dX10_checkNames_147 (by decide) ?_
            refine x_istore_n h dX10_checkNames_151 (by decide) ?_
            refine x_iinc h dX10_checkNames_152 rfl (by decide) ?_
            refine x_goto (tgt := 69) h dX10_checkNames_155 (by decide) ?_
            exact x_loc (ls' := [(0, vR 10 0), (1, vI (tQ B T)), (2, vI ((k : Int) + 1))]) ⟨rfl, rfl, rfl, trivial⟩ goal
          · rw [if_neg hlt] at goal
            refine x_cV1 h kVX10_tableOf lkX10_276 ⟨_, _, _, rfl, rfl⟩ dX10_checkNames_111 (hct) lvz_10 rfl rfl (Nat.le_of_ble_eq_true rfl) (by omega) ?_
            refine x_istore_n h dX10_checkNames_114 (by decide) ?_
            refine x_iload_n h dX10_checkNames_115 rfl ?_
            refine x_bipush h dX10_checkNames_116 (by decide) ?_
            refine x_ic_ne_F (tgt := 150) h (by omega) dX10_checkNames_118 (by decide) (by omega) ?_
            refine x_aload_n h dX10_checkNames_121 rfl ?_
            refine x_get h fl_10_17 lvz_10 dX10_checkNames_122 (pvf_534 _ _) ?_
            refine x_aload_n h dX10_checkNames_125 rfl ?_
            refine x_get h fl_10_58 lvz_10 dX10_checkNames_126 (pvf_553 _ _) ?_
            refine x_iload_n h dX10_checkNames_129 rfl ?_
            refine x_iald h kdf_53 lvz_53 dX10_checkNames_130 rfl (by omega) ?_
            rw [v1]
            refine x_iald h kdf_34 lvz_34 dX10_checkNames_131 rfl (by omega) ?_
            rw [t4]
            refine x_iload_n h dX10_checkNames_132 rfl ?_
            refine x_ic_ge_T (tgt := 150) h (by omega) dX10_checkNames_133 (by decide) (by omega) ?_
            refine x_iload_n h dX10_checkNames_150 rfl ?_
            refine x_istore_n h dX10_checkNames_151 (by decide) ?_
            refine x_iinc h dX10_checkNames_152 rfl (by decide) ?_
            refine x_goto (tgt := 69) h dX10_checkNames_155 (by decide) ?_
            exact x_loc (ls' := [(0, vR 10 0), (1, vI f), (2, vI ((k : Int) + 1))]) ⟨rfl, rfl, rfl, trivial⟩ goal
        · have hrr : -9 ≠ nofD (if fl = 1 then ds.take tb else ds) (tV B T) := fun z => hno z.symm
          have hb := nofD_r hno
          have hlen : (if fl = 1 then ds.take tb else ds).length ≤ 12 := by
            split
            · rw [List.length_take]; omega
            · omega
          have goal := grow f (MF_ext hf (fun y => ⟨fun w => w.elim id (fun w => absurd w.1 hno), Or.inl⟩))
          rw [← ek] at goal
          generalize nofD (if fl = 1 then ds.take tb else ds) (tV B T) = r at hct hb hrr
          refine x_cV1 h kVX10_tableOf lkX10_276 ⟨_, _, _, rfl, rfl⟩ dX10_checkNames_111 (hct) lvz_10 rfl rfl (Nat.le_of_ble_eq_true rfl) (by omega) ?_
          refine x_istore_n h dX10_checkNames_114 (by decide) ?_
          refine x_iload_n h dX10_checkNames_115 rfl ?_
          refine x_bipush h dX10_checkNames_116 (by decide) ?_
          refine x_ic_ne_T (tgt := 150) h (by omega) dX10_checkNames_118 (by decide) (by omega) ?_
          refine x_iload_n h dX10_checkNames_150 rfl ?_
          refine x_istore_n h dX10_checkNames_151 (by decide) ?_
          refine x_iinc h dX10_checkNames_152 rfl (by decide) ?_
          refine x_goto (tgt := 69) h dX10_checkNames_155 (by decide) ?_
          exact x_loc (ls' := [(0, vR 10 0), (1, vI f), (2, vI ((k : Int) + 1))]) ⟨rfl, rfl, rfl, trivial⟩ goal
      refine x_iload_n h dX10_checkNames_69 rfl ?_
      refine x_aload_n h dX10_checkNames_70 rfl ?_
      refine x_get (q := vI (U.length)) h fl_10_209 lvz_10 dX10_checkNames_71 (congrArg vI (by first | exact u22 | simp [up3, u22])) ?_
      refine x_ic_ge_F (tgt := 158) h (by omega) dX10_checkNames_74 (by decide) (by omega) ?_
      refine x_aload_n h dX10_checkNames_77 rfl ?_
      refine x_aload_n h dX10_checkNames_78 rfl ?_
      refine x_get h fl_10_20 lvz_10 dX10_checkNames_79 (pvf_535 _ _) ?_
      refine x_aload_n h dX10_checkNames_82 rfl ?_
      refine x_get h fl_10_58 lvz_10 dX10_checkNames_83 (pvf_553 _ _) ?_
      refine x_iload_n h dX10_checkNames_86 rfl ?_
      refine x_iald h kdf_53 lvz_53 dX10_checkNames_87 rfl (by omega) ?_
      rw [v1]
      refine x_lald h kdf_35 lvz_35 dX10_checkNames_88 rfl (by omega) ?_
      rw [t5]
      refine x_aload_n h dX10_checkNames_89 rfl ?_
      refine x_get h fl_10_64 lvz_10 dX10_checkNames_90 (pvf_555 _ _) ?_
      refine x_iload_n h dX10_checkNames_93 rfl ?_
      refine x_zald h kdf_55 lvz_55 dX10_checkNames_94 rfl (by omega) ?_
      rw [v3]
      rcases w3 with rfl | rfl
      · refine x_if_eq_T (tgt := 107) h (by omega) dX10_checkNames_95 (by decide) (by omega) ?_
        refine x_aload_n h dX10_checkNames_107 rfl ?_
        refine x_get (q := vI (m)) h fl_10_212 lvz_10 dX10_checkNames_108 (congrArg vI (by first | exact hm8 | simp [up3, hm8])) ?_
        refine main m (by omega) ?_
        rw [if_neg (by decide), nofG (by omega) hg, ← hl, List.take_length]
      · refine x_if_eq_F (tgt := 107) h (by omega) dX10_checkNames_95 (by decide) (by omega) ?_
        refine x_aload_n h dX10_checkNames_98 rfl ?_
        refine x_get h fl_10_61 lvz_10 dX10_checkNames_99 (pvf_554 _ _) ?_
        refine x_iload_n h dX10_checkNames_102 rfl ?_
        refine x_iald h kdf_54 lvz_54 dX10_checkNames_103 rfl (by omega) ?_
        rw [v2]
        refine x_goto (tgt := 111) h dX10_checkNames_104 (by decide) ?_
        refine main tb (by omega) ?_
        rw [if_pos rfl, nofG (by omega) hg]
  -- the first loop
  have loop1 : ∀ (c k : Nat) (f : Int) (C : Cx), k + c = m → MF f (fun x => ∃ j, j < k ∧ nofD (ds.take j) (ds.getD j dz).1 ≠ -9 ∧ x = σ 40 0 j) → Ok C RX10 cX10_checkNames 4 2 → Rt C 1 none none NALL (if R = -9 then σ else up3 σ 10 0 7 R) 0 0 → X C 1 6 [(0, vR 10 0), (1, vI f), (2, vI k)] [] NALL σ 0 0 := by
    intro c
    induction c with
    | zero =>
      intro k f C hk hf h hr
      refine x_iload_n h dX10_checkNames_6 rfl ?_
      refine x_aload_n h dX10_checkNames_7 rfl ?_
      refine x_get (q := vI (m)) h fl_10_212 lvz_10 dX10_checkNames_8 (congrArg vI (by first | exact hm8 | simp [up3, hm8])) ?_
      refine x_ic_ge_T (tgt := 67) h (by omega) dX10_checkNames_11 (by decide) (by omega) ?_
      refine x_iconst h dX10_checkNames_67 ?_
      refine x_istore_n h dX10_checkNames_68 (by decide) ?_
      refine x_loc (ls' := [(0, vR 10 0), (1, vI f), (2, vI ((0 : Nat) : Int))]) ⟨rfl, rfl, rfl, trivial⟩ (loop2 U.length 0 f C (by omega) (MF_ext hf (fun y => ⟨fun w => ?_, fun w => ?_⟩)) h hr)
      · rcases w with ⟨j, hj, h1⟩ | ⟨j, hj, -⟩
        · exact ⟨j, by omega, h1⟩
        · omega
      · obtain ⟨j, hj, h1⟩ := w
        exact Or.inl ⟨j, by omega, h1⟩
    | succ c ih =>
      intro k f C hk hf h hr
      have hfr := MF_r hf
      have ek : ((k : Nat) : Int) + 1 = ((k + 1 : Nat) : Int) := by omega
      obtain ⟨q40, q40b, -⟩ := (hTb k (by omega)).2.1
      have hct := m_tableOf (d := 0) (σ := σ) (w := σ 39 0 k) (n := k) (by omega) (hg64 k (by omega)) (fun j hj => hg64 j (by omega))
      rw [nofG (by omega) hg] at hct
      have gk := hg k (by omega)
      by_cases hno : nofD (ds.take k) (σ 39 0 k) = -9
      · rw [hno] at hct
        have goal := ih (k + 1) f C (by omega) (MF_ext hf (fun y => ⟨fun w => by
          obtain ⟨j, hj, h1, h2⟩ := w
          by_cases e : j = k
          · subst e; rw [← gk] at h1; exact absurd hno h1
          · exact ⟨j, by omega, h1, h2⟩, fun w => by
          obtain ⟨j, hj, h1⟩ := w
          exact ⟨j, by omega, h1⟩⟩)) h hr
        rw [← ek] at goal
        refine x_iload_n h dX10_checkNames_6 rfl ?_
        refine x_aload_n h dX10_checkNames_7 rfl ?_
        refine x_get (q := vI (m)) h fl_10_212 lvz_10 dX10_checkNames_8 (congrArg vI (by first | exact hm8 | simp [up3, hm8])) ?_
        refine x_ic_ge_F (tgt := 67) h (by omega) dX10_checkNames_11 (by decide) (by omega) ?_
        refine x_aload_n h dX10_checkNames_14 rfl ?_
        refine x_aload_n h dX10_checkNames_15 rfl ?_
        refine x_get h fl_10_24 lvz_10 dX10_checkNames_16 (pvf_539 _ _) ?_
        refine x_iload_n h dX10_checkNames_19 rfl ?_
        refine x_lald h kdf_39 lvz_39 dX10_checkNames_20 rfl (by omega) ?_
        refine x_iload_n h dX10_checkNames_21 rfl ?_
        refine x_cV1 h kVX10_tableOf lkX10_276 ⟨_, _, _, rfl, rfl⟩ dX10_checkNames_22 (hct) lvz_10 rfl rfl (Nat.le_of_ble_eq_true rfl) (by omega) ?_
        refine x_bipush h dX10_checkNames_25 (by decide) ?_
        refine x_ic_eq_T (tgt := 34) h (by omega) dX10_checkNames_27 (by decide) (by omega) ?_
        refine x_iconst h dX10_checkNames_34 ?_
        refine x_istore_n h dX10_checkNames_35 (by decide) ?_
        refine x_iload_n h dX10_checkNames_36 rfl ?_
        refine x_if_eq_T (tgt := 59) h (by omega) dX10_checkNames_37 (by decide) (by omega) ?_
        refine x_iload_n h dX10_checkNames_59 rfl ?_
        refine x_istore_n h dX10_checkNames_60 (by decide) ?_
        refine x_iinc h dX10_checkNames_61 rfl (by decide) ?_
        refine x_goto (tgt := 6) h dX10_checkNames_64 (by decide) ?_
        exact x_loc (ls' := [(0, vR 10 0), (1, vI f), (2, vI ((k : Int) + 1))]) ⟨rfl, rfl, rfl, trivial⟩ goal
      · have hb := nofD_r hno
        have hlen : (ds.take k).length ≤ 12 := by rw [List.length_take]; omega
        have goal := ih (k + 1) (if σ 40 0 k < f then σ 40 0 k else f) C (by omega) (MF_add hf ⟨q40, q40b⟩ (fun y => ⟨fun w => by
          obtain ⟨j, hj, h1, h2⟩ := w
          by_cases e : j = k
          · subst e; exact Or.inr h2
          · exact Or.inl ⟨j, by omega, h1, h2⟩, fun w => by
          rcases w with ⟨j, hj, h1⟩ | w
          · exact ⟨j, by omega, h1⟩
          · exact ⟨k, by omega, by rw [← gk]; exact hno, w⟩⟩)) h hr
        rw [← ek] at goal
        generalize nofD (ds.take k) (σ 39 0 k) = r at hct hb hno
        by_cases hlt : σ 40 0 k < f
        · rw [if_pos hlt] at goal
          refine x_iload_n h dX10_checkNames_6 rfl ?_
          refine x_aload_n h dX10_checkNames_7 rfl ?_
          refine x_get (q := vI (m)) h fl_10_212 lvz_10 dX10_checkNames_8 (congrArg vI (by first | exact hm8 | simp [up3, hm8])) ?_
          refine x_ic_ge_F (tgt := 67) h (by omega) dX10_checkNames_11 (by decide) (by omega) ?_
          refine x_aload_n h dX10_checkNames_14 rfl ?_
          refine x_aload_n h dX10_checkNames_15 rfl ?_
          refine x_get h fl_10_24 lvz_10 dX10_checkNames_16 (pvf_539 _ _) ?_
          refine x_iload_n h dX10_checkNames_19 rfl ?_
          refine x_lald h kdf_39 lvz_39 dX10_checkNames_20 rfl (by omega) ?_
          refine x_iload_n h dX10_checkNames_21 rfl ?_
          refine x_cV1 h kVX10_tableOf lkX10_276 ⟨_, _, _, rfl, rfl⟩ dX10_checkNames_22 (hct) lvz_10 rfl rfl (Nat.le_of_ble_eq_true rfl) (by omega) ?_
          refine x_bipush h dX10_checkNames_25 (by decide) ?_
          refine x_ic_eq_F (tgt := 34) h (by omega) dX10_checkNames_27 (by decide) (by omega) ?_
          refine x_iconst h dX10_checkNames_30 ?_
          refine x_goto (tgt := 35) h dX10_checkNames_31 (by decide) ?_
          refine x_istore_n h dX10_checkNames_35 (by decide) ?_
          refine x_iload_n h dX10_checkNames_36 rfl ?_
          refine x_if_eq_F (tgt := 59) h (by omega) dX10_checkNames_37 (by decide) (by omega) ?_
          refine x_aload_n h dX10_checkNames_40 rfl ?_
          refine x_get h fl_10_27 lvz_10 dX10_checkNames_41 (pvf_540 _ _) ?_
          refine x_iload_n h dX10_checkNames_44 rfl ?_
          refine x_iald h kdf_40 lvz_40 dX10_checkNames_45 rfl (by omega) ?_
          refine x_iload_n h dX10_checkNames_46 rfl ?_
          refine x_ic_ge_F (tgt := 59) h (by omega) dX10_checkNames_47 (by decide) (by omega) ?_
          refine x_aload_n h dX10_checkNames_50 rfl ?_
          refine x_get h fl_10_27 lvz_10 dX10_checkNames_51 (pvf_540 _ _) ?_
          refine x_iload_n h dX10_checkNames_54 rfl ?_
          refine x_iald h kdf_40 lvz_40 dX10_checkNames_55 rfl (by omega) ?_
          refine x_goto (tgt := 60) h dX10_checkNames_56 (by decide) ?_
          refine x_istore_n h dX10_checkNames_60 (by decide) ?_
          refine x_iinc h dX10_checkNames_61 rfl (by decide) ?_
          refine x_goto (tgt := 6) h dX10_checkNames_64 (by decide) ?_
          exact x_loc (ls' := [(0, vR 10 0), (1, vI (σ 40 0 k)), (2, vI ((k : Int) + 1))]) ⟨rfl, rfl, rfl, trivial⟩ goal
        · rw [if_neg hlt] at goal
          refine x_iload_n h dX10_checkNames_6 rfl ?_
          refine x_aload_n h dX10_checkNames_7 rfl ?_
          refine x_get (q := vI (m)) h fl_10_212 lvz_10 dX10_checkNames_8 (congrArg vI (by first | exact hm8 | simp [up3, hm8])) ?_
          refine x_ic_ge_F (tgt := 67) h (by omega) dX10_checkNames_11 (by decide) (by omega) ?_
          refine x_aload_n h dX10_checkNames_14 rfl ?_
          refine x_aload_n h dX10_checkNames_15 rfl ?_
          refine x_get h fl_10_24 lvz_10 dX10_checkNames_16 (pvf_539 _ _) ?_
          refine x_iload_n h dX10_checkNames_19 rfl ?_
          refine x_lald h kdf_39 lvz_39 dX10_checkNames_20 rfl (by omega) ?_
          refine x_iload_n h dX10_checkNames_21 rfl ?_
          refine x_cV1 h kVX10_tableOf lkX10_276 ⟨_, _, _, rfl, rfl⟩ dX10_checkNames_22 (hct) lvz_10 rfl rfl (Nat.le_of_ble_eq_true rfl) (by omega) ?_
          refine x_bipush h dX10_checkNames_25 (by decide) ?_
          refine x_ic_eq_F (tgt := 34) h (by omega) dX10_checkNames_27 (by decide) (by omega) ?_
          refine x_iconst h dX10_checkNames_30 ?_
          refine x_goto (tgt := 35) h dX10_checkNames_31 (by decide) ?_
          refine x_istore_n h dX10_checkNames_35 (by decide) ?_
          refine x_iload_n h dX10_checkNames_36 rfl ?_
          refine x_if_eq_F (tgt := 59) h (by omega) dX10_checkNames_37 (by decide) (by omega) ?_
          refine x_aload_n h dX10_checkNames_40 rfl ?_
          refine x_get h fl_10_27 lvz_10 dX10_checkNames_41 (pvf_540 _ _) ?_
          refine x_iload_n h dX10_checkNames_44 rfl ?_
          refine x_iald h kdf_40 lvz_40 dX10_checkNames_45 rfl (by omega) ?_
          refine x_iload_n h dX10_checkNames_46 rfl ?_
          refine x_ic_ge_T (tgt := 59) h (by omega) dX10_checkNames_47 (by decide) (by omega) ?_
          refine x_iload_n h dX10_checkNames_59 rfl ?_
          refine x_istore_n h dX10_checkNames_60 (by decide) ?_
          refine x_iinc h dX10_checkNames_61 rfl (by decide) ?_
          refine x_goto (tgt := 6) h dX10_checkNames_64 (by decide) ?_
          exact x_loc (ls' := [(0, vR 10 0), (1, vI f), (2, vI ((k : Int) + 1))]) ⟨rfl, rfl, rfl, trivial⟩ goal
  refine ct_of (by decide) (Nat.le_of_ble_eq_true rfl) (fun C h hr _ => ?_)
  have h : Ok C RX10 cX10_checkNames 4 _ := h
  refine x_sipush h dX10_checkNames_0 (by decide) ?_
  refine x_istore_n h dX10_checkNames_3 (by decide) ?_
  refine x_iconst h dX10_checkNames_4 ?_
  refine x_istore_n h dX10_checkNames_5 (by decide) ?_
  exact x_loc (ls' := [(0, vR 10 0), (1, vI 9999), (2, vI ((0 : Nat) : Int))]) ⟨rfl, rfl, rfl, trivial⟩ (loop1 m 0 9999 C (by omega) (Or.inl ⟨rfl, fun x ⟨j, hj, _⟩ => absurd hj (Nat.not_lt_zero _)⟩) h hr)
end RN
section RZ
variable {B : Nat → Int} {L N m : Nat}
theorem szD_take {ds : List TabD} {t j : Nat} (hj : j < t) : szD (ds.take t) (j : Int) = (ds.getD j dz).2.1 := by
  unfold szD
  rw [if_pos (by omega), Int.toNat_natCast, List.getD_eq_getElem?_getD, List.getElem?_take_of_lt hj, ← List.getD_eq_getElem?_getD]
theorem m_sizeOf {t : Nat} {ds : List TabD} {σ : Mm} {P1 M P2 P : List (Int × Int)} (ht : t < ds.length) (h12 : ds.length ≤ 12) (hT : TS B L N m σ) (hP : PtR σ P) (hPe : P = P1 ++ M ++ P2) (h45 : σ 45 0 t = (P1.length : Int)) (h45' : σ 45 0 (t + 1) = ((P1 ++ M).length : Int)) (hl : P.length ≤ 96)
    (hM : ∀ x ∈ M, (sgz x.1 ∧ (0 ≤ x.2 → i64 x.2)) ∧ (x.2 < 0 → ∃ T : Nat, x.2 = -1 - (T : Int) ∧ tK B T = 2 ∧ nofD (ds.take t) (tV B T) ≠ -9))
    (hg : ∀ k, k < ds.length → σ 39 0 k = (ds.getD k dz).1 ∧ i64 (σ 39 0 k)) (hs : ∀ k, k < t → σ 67 0 k = (ds.getD k dz).2.1) : Ct 2 mX10_sizeOf 1 [vR 10 0, vI t] NALL σ (some (vL (szV (ds.take t) (tV B) 0 M))) NALL σ 0 0 := by
  have hB := hT.2.2.2.1
  have hlen : (P1 ++ M).length ≤ 96 := by rw [hPe] at hl; simp only [List.length_append] at hl ⊢; omega
  have loop : ∀ (Mr : List (Int × Int)) (k : Nat) (acc : Int) (C : Cx), (∀ j, j < Mr.length → σ 50 0 (k + j) = (Mr.getD j (0, 0)).1 ∧ σ 51 0 (k + j) = (Mr.getD j (0, 0)).2) → (∀ x ∈ Mr, (sgz x.1 ∧ (0 ≤ x.2 → i64 x.2)) ∧ (x.2 < 0 → ∃ T : Nat, x.2 = -1 - (T : Int) ∧ tK B T = 2 ∧ nofD (ds.take t) (tV B T) ≠ -9)) → k + Mr.length = (P1 ++ M).length → Ok C RX10 cX10_sizeOf 7 2 → Rt C 1 (some .long) (some (vL (szV (ds.take t) (tV B) acc Mr))) NALL σ 0 0 → X C 1 10 [(0, vR 10 0), (1, vI t), (2, vL acc), (4, vI k)] [] NALL σ 0 0 := by
    intro Mr
    induction Mr with
    | nil =>
      intro k acc C _ _ hk h hr
      have hk : k = (P1 ++ M).length := hk
      have hr : Rt C 1 (some .long) (some (vL acc)) NALL σ 0 0 := hr
      refine x_iload h dX10_sizeOf_10 rfl ?_
      refine x_aload_n h dX10_sizeOf_12 rfl ?_
      refine x_get h fl_10_43 lvz_10 dX10_sizeOf_13 (pvf_545 _ _) ?_
      refine x_iload_n h dX10_sizeOf_16 rfl ?_
      refine x_iconst h dX10_sizeOf_17 ?_
      refine x_iadd h dX10_sizeOf_18 ?_
      refine x_iald (m := t + 1) h kdf_45 lvz_45 dX10_sizeOf_19 (by omega) (by omega) ?_
      rw [h45']
      refine x_ic_ge_T (tgt := 123) h (by omega) dX10_sizeOf_20 (by decide) (by omega) ?_
      refine x_lload_n h dX10_sizeOf_123 rfl ?_
      exact x_lreturn h hr dX10_sizeOf_124 ⟨Nat.le_refl _, Nat.le_refl _⟩
    | cons x Mr ih =>
      intro k acc C hget hx hk h hr
      have hk : k + (Mr.length + 1) = (P1 ++ M).length := hk
      obtain ⟨m1, m2⟩ := hget 0 (by simp)
      have m1 : σ 50 0 k = x.1 := m1
      have m2 : σ 51 0 k = x.2 := m2
      obtain ⟨⟨x1, x2⟩, x3⟩ := hx x List.mem_cons_self
      have x1 : x.1 = 43 ∨ x.1 = 45 ∨ x.1 = 42 := x1
      have ek : ((k : Nat) : Int) + 1 = ((k + 1 : Nat) : Int) := by omega
      have next := ih (k + 1) (szOp x.1 acc (szP (ds.take t) (tV B) x.2)) C (fun j hj => by
        have := hget (j + 1) (by simp only [List.length_cons]; omega)
        rw [show k + (j + 1) = k + 1 + j by omega] at this
        exact this) (fun y hy => hx y (List.mem_cons_of_mem _ hy)) (by omega) h hr
      rw [← ek] at next
      -- behind the part
      have mid : X C 1 72 [(0, vR 10 0), (1, vI t), (2, vL acc), (4, vI k)] [vL (szP (ds.take t) (tV B) x.2)] NALL σ 0 0 := by
        generalize szP (ds.take t) (tV B) x.2 = p at next
        unfold szOp at next
        refine x_lstore h dX10_sizeOf_72 (by decide) ?_
        refine x_aload_n h dX10_sizeOf_74 rfl ?_
        refine x_get h fl_10_52 lvz_10 dX10_sizeOf_75 (pvf_550 _ _) ?_
        refine x_iload h dX10_sizeOf_78 rfl ?_
        refine x_iald h kdf_50 lvz_50 dX10_sizeOf_80 rfl (by omega) ?_
        rw [m1]
        by_cases c43 : x.1 = 43
        · rw [if_pos c43] at next
          refine x_bipush h dX10_sizeOf_81 (by decide) ?_
          refine x_ic_ne_F (tgt := 93) h (by omega) dX10_sizeOf_83 (by decide) (by omega) ?_
          refine x_lload_n h dX10_sizeOf_86 rfl ?_
          refine x_lload h dX10_sizeOf_87 rfl ?_
          refine x_ladd h dX10_sizeOf_89 ?_
          refine x_goto (tgt := 116) h dX10_sizeOf_90 (by decide) ?_
          refine x_wL ?_
          refine x_lstore_n h dX10_sizeOf_116 (by decide) ?_
          refine x_iinc h dX10_sizeOf_117 rfl (by decide) ?_
          refine x_goto (tgt := 10) h dX10_sizeOf_120 (by decide) ?_
          exact x_loc (ls' := [(0, vR 10 0), (1, vI t), (2, vL (w64 (acc + p))), (4, vI ((k : Int) + 1))]) ⟨rfl, rfl, rfl, rfl, trivial⟩ next
        · rw [if_neg c43] at next
          by_cases c45 : x.1 = 45
          · rw [if_pos c45] at next
            refine x_bipush h dX10_sizeOf_81 (by decide) ?_
            refine x_ic_ne_T (tgt := 93) h (by omega) dX10_sizeOf_83 (by decide) (by omega) ?_
            refine x_aload_n h dX10_sizeOf_93 rfl ?_
            refine x_get h fl_10_52 lvz_10 dX10_sizeOf_94 (pvf_550 _ _) ?_
            refine x_iload h dX10_sizeOf_97 rfl ?_
            refine x_iald h kdf_50 lvz_50 dX10_sizeOf_99 rfl (by omega) ?_
            rw [m1]
            refine x_bipush h dX10_sizeOf_100 (by decide) ?_
            refine x_ic_ne_F (tgt := 112) h (by omega) dX10_sizeOf_102 (by decide) (by omega) ?_
            refine x_lload_n h dX10_sizeOf_105 rfl ?_
            refine x_lload h dX10_sizeOf_106 rfl ?_
            refine x_lsub h dX10_sizeOf_108 ?_
            refine x_goto (tgt := 116) h dX10_sizeOf_109 (by decide) ?_
            refine x_wL ?_
            refine x_lstore_n h dX10_sizeOf_116 (by decide) ?_
            refine x_iinc h dX10_sizeOf_117 rfl (by decide) ?_
            refine x_goto (tgt := 10) h dX10_sizeOf_120 (by decide) ?_
            exact x_loc (ls' := [(0, vR 10 0), (1, vI t), (2, vL (w64 (acc - p))), (4, vI ((k : Int) + 1))]) ⟨rfl, rfl, rfl, rfl, trivial⟩ next
          · rw [if_neg c45] at next
            refine x_bipush h dX10_sizeOf_81 (by decide) ?_
            refine x_ic_ne_T (tgt := 93) h (by omega) dX10_sizeOf_83 (by decide) (by omega) ?_
            refine x_aload_n h dX10_sizeOf_93 rfl ?_
            refine x_get h fl_10_52 lvz_10 dX10_sizeOf_94 (pvf_550 _ _) ?_
            refine x_iload h dX10_sizeOf_97 rfl ?_
            refine x_iald h kdf_50 lvz_50 dX10_sizeOf_99 rfl (by omega) ?_
            rw [m1]
            refine x_bipush h dX10_sizeOf_100 (by decide) ?_
            refine x_ic_ne_T (tgt := 112) h (by omega) dX10_sizeOf_102 (by decide) (by omega) ?_
            refine x_lload_n h dX10_sizeOf_112 rfl ?_
            refine x_lload h dX10_sizeOf_113 rfl ?_
            refine x_lmul h dX10_sizeOf_115 ?_
            refine x_wL ?_
            refine x_lstore_n h dX10_sizeOf_116 (by decide) ?_
            refine x_iinc h dX10_sizeOf_117 rfl (by decide) ?_
            refine x_goto (tgt := 10) h dX10_sizeOf_120 (by decide) ?_
            exact x_loc (ls' := [(0, vR 10 0), (1, vI t), (2, vL (w64 (acc * p))), (4, vI ((k : Int) + 1))]) ⟨rfl, rfl, rfl, rfl, trivial⟩ next
      by_cases hneg : x.2 < 0
      · obtain ⟨T, e1, e2, e3⟩ := x3 hneg
        obtain ⟨hT9, hTq, hT64⟩ := tok_k2 hB e2
        obtain ⟨t1, t2, t3, t4, t5, t6, t7, t8, t9⟩ := tok_in hT hTq
        have t5 := t5 (by omega)
        have hct := m_tableOf (d := 0) (σ := σ) (w := tV B T) (n := t) (by omega) hT64 (fun j hj => (hg j (by omega)).2)
        rw [nofG (by omega) (fun j hj => (hg j hj).1)] at hct
        have hb := nofD_r e3
        rw [List.length_take, Nat.min_eq_left (by omega)] at hb
        have ep : szP (ds.take t) (tV B) x.2 = szD (ds.take t) (nofD (ds.take t) (tV B T)) := by
          unfold szP
          rw [if_pos hneg, show (-1 - x.2).toNat = T by omega]
        rw [ep] at mid
        obtain ⟨j, hj⟩ : ∃ j : Nat, nofD (ds.take t) (tV B T) = (j : Int) := ⟨(nofD (ds.take t) (tV B T)).toNat, by omega⟩
        rw [hj] at hct mid hb
        have hjt : j < t := by omega
        rw [szD_take hjt, ← hs j hjt] at mid
        refine x_iload h dX10_sizeOf_10 rfl ?_
        refine x_aload_n h dX10_sizeOf_12 rfl ?_
        refine x_get h fl_10_43 lvz_10 dX10_sizeOf_13 (pvf_545 _ _) ?_
        refine x_iload_n h dX10_sizeOf_16 rfl ?_
        refine x_iconst h dX10_sizeOf_17 ?_
        refine x_iadd h dX10_sizeOf_18 ?_
        refine x_iald (m := t + 1) h kdf_45 lvz_45 dX10_sizeOf_19 (by omega) (by omega) ?_
        rw [h45']
        refine x_ic_ge_F (tgt := 123) h (by omega) dX10_sizeOf_20 (by decide) (by omega) ?_
        refine x_aload_n h dX10_sizeOf_23 rfl ?_
        refine x_get h fl_10_55 lvz_10 dX10_sizeOf_24 (pvf_551 _ _) ?_
        refine x_iload h dX10_sizeOf_27 rfl ?_
        refine x_lald h kdf_51 lvz_51 dX10_sizeOf_29 rfl (by omega) ?_
        rw [m2]
        refine x_lconst0 h dX10_sizeOf_30 ?_
        refine x_lc_ge (tgt := 65) h (by omega) dX10_sizeOf_31 dX10_sizeOf_32 (by decide) (fun q => absurd q (by omega)) (fun _ => ?_)
        refine x_aload_n h dX10_sizeOf_35 rfl ?_
        refine x_get h fl_10_88 lvz_10 dX10_sizeOf_36 (pvf_567 _ _) ?_
        refine x_aload_n h dX10_sizeOf_39 rfl ?_
        refine x_aload_n h dX10_sizeOf_40 rfl ?_
        refine x_get h fl_10_20 lvz_10 dX10_sizeOf_41 (pvf_535 _ _) ?_
        refine x_ldc2 (x := (-1)) h dX10_sizeOf_44 klX10_222 (by decide) ?_
        refine x_aload_n h dX10_sizeOf_47 rfl ?_
        refine x_get h fl_10_55 lvz_10 dX10_sizeOf_48 (pvf_551 _ _) ?_
        refine x_iload h dX10_sizeOf_51 rfl ?_
        refine x_lald h kdf_51 lvz_51 dX10_sizeOf_53 rfl (by omega) ?_
        rw [m2]
        refine x_lsub h dX10_sizeOf_54 ?_
        refine x_l2i h dX10_sizeOf_55 ?_
        refine x_lald (m := T) h kdf_35 lvz_35 dX10_sizeOf_56 (by omega) (by omega) ?_
        rw [t5]
        refine x_iload_n h dX10_sizeOf_57 rfl ?_
        refine x_cV1 h kVX10_tableOf lkX10_276 ⟨_, _, _, rfl, rfl⟩ dX10_sizeOf_58 (hct) lvz_10 rfl rfl (Nat.le_of_ble_eq_true rfl) (by omega) ?_
        refine x_lald h kdf_67 lvz_67 dX10_sizeOf_61 rfl (by omega) ?_
        refine x_goto (tgt := 72) h dX10_sizeOf_62 (by decide) ?_
        exact mid
      · have x2 := x2 (by omega)
        obtain ⟨x21, x22⟩ := x2
        have ep : szP (ds.take t) (tV B) x.2 = x.2 := by
          unfold szP
          rw [if_neg hneg]
        rw [ep] at mid
        refine x_iload h dX10_sizeOf_10 rfl ?_
        refine x_aload_n h dX10_sizeOf_12 rfl ?_
        refine x_get h fl_10_43 lvz_10 dX10_sizeOf_13 (pvf_545 _ _) ?_
        refine x_iload_n h dX10_sizeOf_16 rfl ?_
        refine x_iconst h dX10_sizeOf_17 ?_
        refine x_iadd h dX10_sizeOf_18 ?_
        refine x_iald (m := t + 1) h kdf_45 lvz_45 dX10_sizeOf_19 (by omega) (by omega) ?_
        rw [h45']
        refine x_ic_ge_F (tgt := 123) h (by omega) dX10_sizeOf_20 (by decide) (by omega) ?_
        refine x_aload_n h dX10_sizeOf_23 rfl ?_
        refine x_get h fl_10_55 lvz_10 dX10_sizeOf_24 (pvf_551 _ _) ?_
        refine x_iload h dX10_sizeOf_27 rfl ?_
        refine x_lald h kdf_51 lvz_51 dX10_sizeOf_29 rfl (by omega) ?_
        rw [m2]
        refine x_lconst0 h dX10_sizeOf_30 ?_
        refine x_lc_ge (tgt := 65) h (by omega) dX10_sizeOf_31 dX10_sizeOf_32 (by decide) (fun _ => ?_) (fun q => absurd (by omega) q)
        refine x_aload_n h dX10_sizeOf_65 rfl ?_
        refine x_get h fl_10_55 lvz_10 dX10_sizeOf_66 (pvf_551 _ _) ?_
        refine x_iload h dX10_sizeOf_69 rfl ?_
        refine x_lald h kdf_51 lvz_51 dX10_sizeOf_71 rfl (by omega) ?_
        rw [m2]
        exact mid
  refine ct_of (by decide) (Nat.le_of_ble_eq_true rfl) (fun C h hr _ => ?_)
  have h : Ok C RX10 cX10_sizeOf 7 _ := h
  refine x_lconst0 h dX10_sizeOf_0 ?_
  refine x_lstore_n h dX10_sizeOf_1 (by decide) ?_
  refine x_aload_n h dX10_sizeOf_2 rfl ?_
  refine x_get h fl_10_43 lvz_10 dX10_sizeOf_3 (pvf_545 _ _) ?_
  refine x_iload_n h dX10_sizeOf_6 rfl ?_
  refine x_iald h kdf_45 lvz_45 dX10_sizeOf_7 rfl (by omega) ?_
  rw [h45]
  refine x_istore h dX10_sizeOf_8 (by decide) ?_
  refine x_loc (ls' := [(0, vR 10 0), (1, vI t), (2, vL 0), (4, vI (P1.length : Int))]) ⟨rfl, rfl, rfl, rfl, trivial⟩ (loop M P1.length 0 C (fun j hj => ?_) hM (by rw [List.length_append]) h hr)
  have hj2 : P1.length + j < P.length := by rw [hPe]; simp only [List.length_append]; omega
  have := hP.2 _ hj2
  have e : P.getD (P1.length + j) (0, 0) = M.getD j (0, 0) := by
    rw [hPe, List.append_assoc, List.getD_eq_getElem?_getD, List.getElem?_append_right (by omega), List.getElem?_append_left (by omega), ← List.getD_eq_getElem?_getD]
    congr 1
    omega
  rw [e] at this
  exact this
end RZ
