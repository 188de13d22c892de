/-! readUnit of the reference -/
abbrev PSt : Type := Nat × Nat × Nat × List (Int × Int) × List Fr3 × List Us3
abbrev okK (k : Int) : Prop := k = 1 ∨ k = 8 ∨ k = 35 ∨ k = 2 ∨ k = 45 ∨ k = 40
def rdU (K V : Nat → Int) (m : Nat) : Nat → Nat → Nat → Nat → List (Int × Int) → List Fr3 → List Us3 → Nat ⊕ PSt
  | 0, i, _, _, _, _, _ => .inl i
  | n + 1, i, u, a, A, S, U =>
    if ¬ (okK (K i) ∧ u < 24 ∧ a ≤ 10) then .inl i
    else if K i = 1 then .inr (i + 1, u + 1, a, A ++ [(1, V i)], S, U)
    else if K i = 8 then .inr (i + 1, u + 1, a, A ++ [(2, 0)], S, U)
    else if K i = 35 then (if K (i + 1) = 2 then .inr (i + 1 + 1, u + 1, a, A ++ [(3, ((i + 1 : Nat) : Int))], S, U ++ [(i + 1, m, 0)]) else .inl (i + 1))
    else if K i = 2 then (if K (i + 1) = 91 then rdU K V m n (i + 1 + 1) (u + 1) (a + 1) A ((91, 0, (i : Int)) :: S) (U ++ [(i, m, 0)]) else .inl (i + 1))
    else if K i = 45 then rdU K V m n (i + 1) (u + 1) (a + 1) A ((5, 0, 0) :: S) U
    else rdU K V m n (i + 1) (u + 1) (a + 1) A ((40, 0, 0) :: S) U
def RIv (B : Nat → Int) (L c i u : Nat) (A : List (Int × Int)) (S : List Fr3) (U : List Us3) : Prop := A.length + S.length ≤ i ∧ U.length ≤ i ∧ S.length + c ≤ u ∧ tq B i ≤ L
def RRt (B : Nat → Int) (L : Nat) (r : Nat ⊕ PSt) : Prop := match r with
  | .inl e => tq B e ≤ L
  | .inr (i, u, a, A, S, U) => RIv B L 1 i u A S U
theorem rdU_i {B : Nat → Int} {L m : Nat} (h : BOk B L) : ∀ (n i u a : Nat) (A : List (Int × Int)) (S : List Fr3) (U : List Us3), RIv B L 0 i u A S U → RRt B L (rdU (tK B) (tV B) m n i u a A S U) := by
  intro n
  induction n with
  | zero => intro i u a A S U hI; exact hI.2.2.2
  | succ n ih =>
    intro i u a A S U hI
    obtain ⟨h1, h2, h3, h4⟩ := hI
    unfold rdU
    split
    · exact h4
    · next hg =>
      have hk : okK (tK B i) := (Classical.not_not.mp hg).1
      have hi1 : tq B (i + 1) ≤ L := adv_q h h4 (by omega)
      split
      · exact ⟨by simp only [List.length_append, List.length_cons, List.length_nil]; omega, by omega, by omega, hi1⟩
      split
      · exact ⟨by simp only [List.length_append, List.length_cons, List.length_nil]; omega, by omega, by omega, hi1⟩
      split
      · split
        · exact ⟨by simp only [List.length_append, List.length_cons, List.length_nil]; omega, by simp only [List.length_append, List.length_cons, List.length_nil]; omega, by omega, adv_q h hi1 (by omega)⟩
        · exact hi1
      split
      · split
        · exact ih _ _ _ _ _ _ ⟨by simp only [List.length_cons]; omega, by simp only [List.length_append, List.length_cons, List.length_nil]; omega, by simp only [List.length_cons]; omega, adv_q h hi1 (by omega)⟩
        · exact hi1
      split
      · exact ih _ _ _ _ _ _ ⟨by simp only [List.length_cons]; omega, by omega, by simp only [List.length_cons]; omega, hi1⟩
      · exact ih _ _ _ _ _ _ ⟨by simp only [List.length_cons]; omega, by omega, by simp only [List.length_cons]; omega, hi1⟩
/-- a FAULT at TOKEN e -/
def FA (B : Nat → Int) (L : Nat) (σ : Mm) (e : Nat) : Prop := σ 10 0 6 = e ∧ σ 10 0 7 = tQ B e ∧ tq B e ≤ L
def RUs (B : Nat → Int) (L : Nat) (σ σ' : Mm) (r : Nat ⊕ PSt) : Prop := FrP σ' σ ∧ match r with
  | .inl e => FA B L σ' e
  | .inr (i, u, a, A, S, U) => PRl σ' i u a A S U
theorem RUs_tr {B : Nat → Int} {L : Nat} {σ τ σ' : Mm} {r : Nat ⊕ PSt} (h : RUs B L τ σ' r) (hf : FrP τ σ) : RUs B L σ σ' r := ⟨FrP_tr h.1 hf, h.2⟩
section RU
variable {B : Nat → Int} {L N m : Nat}
theorem ru_kind1 {C : Cx} {d : Nat} {s w : Int} {τ : Mm} (h : Ok C RX10 cX10_readUnit 3 d) (hs : 0 ≤ s ∧ s ≤ 255) (hk : okK s) (hx : X C 1 65 [(0, vR 10 0), (1, vI w), (2, vI s)] [vI 1, vR 10 0] NALL τ 0 0) : X C 1 26 [(0, vR 10 0), (1, vI w), (2, vI s)] [vR 10 0] NALL τ 0 0 := by
  rcases hk with e | e | e | e | e | e
  · refine x_iload_n h dX10_readUnit_26 rfl ?_
    refine x_iconst h dX10_readUnit_27 ?_
    refine x_ic_eq_T (tgt := 60) h (by omega) dX10_readUnit_28 (by decide) (by omega) ?_
    refine x_iconst h dX10_readUnit_60 ?_
    refine x_goto (tgt := 65) h dX10_readUnit_61 (by decide) ?_
    exact hx
  · refine x_iload_n h dX10_readUnit_26 rfl ?_
    refine x_iconst h dX10_readUnit_27 ?_
    refine x_ic_eq_F (tgt := 60) h (by omega) dX10_readUnit_28 (by decide) (by omega) ?_
    refine x_iload_n h dX10_readUnit_31 rfl ?_
    refine x_bipush h dX10_readUnit_32 (by decide) ?_
    refine x_ic_eq_T (tgt := 60) h (by omega) dX10_readUnit_34 (by decide) (by omega) ?_
    refine x_iconst h dX10_readUnit_60 ?_
    refine x_goto (tgt := 65) h dX10_readUnit_61 (by decide) ?_
    exact hx
  · refine x_iload_n h dX10_readUnit_26 rfl ?_
    refine x_iconst h dX10_readUnit_27 ?_
    refine x_ic_eq_F (tgt := 60) h (by omega) dX10_readUnit_28 (by decide) (by omega) ?_
    refine x_iload_n h dX10_readUnit_31 rfl ?_
    refine x_bipush h dX10_readUnit_32 (by decide) ?_
    refine x_ic_eq_F (tgt := 60) h (by omega) dX10_readUnit_34 (by decide) (by omega) ?_
    refine x_iload_n h dX10_readUnit_37 rfl ?_
    refine x_bipush h dX10_readUnit_38 (by decide) ?_
    refine x_ic_eq_T (tgt := 60) h (by omega) dX10_readUnit_40 (by decide) (by omega) ?_
    refine x_iconst h dX10_readUnit_60 ?_
    refine x_goto (tgt := 65) h dX10_readUnit_61 (by decide) ?_
    exact hx
  · refine x_iload_n h dX10_readUnit_26 rfl ?_
    refine x_iconst h dX10_readUnit_27 ?_
    refine x_ic_eq_F (tgt := 60) h (by omega) dX10_readUnit_28 (by decide) (by omega) ?_
    refine x_iload_n h dX10_readUnit_31 rfl ?_
    refine x_bipush h dX10_readUnit_32 (by decide) ?_
    refine x_ic_eq_F (tgt := 60) h (by omega) dX10_readUnit_34 (by decide) (by omega) ?_
    refine x_iload_n h dX10_readUnit_37 rfl ?_
    refine x_bipush h dX10_readUnit_38 (by decide) ?_
    refine x_ic_eq_F (tgt := 60) h (by omega) dX10_readUnit_40 (by decide) (by omega) ?_
    refine x_iload_n h dX10_readUnit_43 rfl ?_
    refine x_iconst h dX10_readUnit_44 ?_
    refine x_ic_eq_T (tgt := 60) h (by omega) dX10_readUnit_45 (by decide) (by omega) ?_
    refine x_iconst h dX10_readUnit_60 ?_
    refine x_goto (tgt := 65) h dX10_readUnit_61 (by decide) ?_
    exact hx
  · refine x_iload_n h dX10_readUnit_26 rfl ?_
    refine x_iconst h dX10_readUnit_27 ?_
    refine x_ic_eq_F (tgt := 60) h (by omega) dX10_readUnit_28 (by decide) (by omega) ?_
    refine x_iload_n h dX10_readUnit_31 rfl ?_
    refine x_bipush h dX10_readUnit_32 (by decide) ?_
    refine x_ic_eq_F (tgt := 60) h (by omega) dX10_readUnit_34 (by decide) (by omega) ?_
    refine x_iload_n h dX10_readUnit_37 rfl ?_
    refine x_bipush h dX10_readUnit_38 (by decide) ?_
    refine x_ic_eq_F (tgt := 60) h (by omega) dX10_readUnit_40 (by decide) (by omega) ?_
    refine x_iload_n h dX10_readUnit_43 rfl ?_
    refine x_iconst h dX10_readUnit_44 ?_
    refine x_ic_eq_F (tgt := 60) h (by omega) dX10_readUnit_45 (by decide) (by omega) ?_
    refine x_iload_n h dX10_readUnit_48 rfl ?_
    refine x_bipush h dX10_readUnit_49 (by decide) ?_
    refine x_ic_eq_T (tgt := 60) h (by omega) dX10_readUnit_51 (by decide) (by omega) ?_
    refine x_iconst h dX10_readUnit_60 ?_
    refine x_goto (tgt := 65) h dX10_readUnit_61 (by decide) ?_
    exact hx
  · refine x_iload_n h dX10_readUnit_26 rfl ?_
    refine x_iconst h dX10_readUnit_27 ?_
    refine x_ic_eq_F (tgt := 60) h (by omega) dX10_readUnit_28 (by decide) (by omega) ?_
    refine x_iload_n h dX10_readUnit_31 rfl ?_
    refine x_bipush h dX10_readUnit_32 (by decide) ?_
    refine x_ic_eq_F (tgt := 60) h (by omega) dX10_readUnit_34 (by decide) (by omega) ?_
    refine x_iload_n h dX10_readUnit_37 rfl ?_
    refine x_bipush h dX10_readUnit_38 (by decide) ?_
    refine x_ic_eq_F (tgt := 60) h (by omega) dX10_readUnit_40 (by decide) (by omega) ?_
    refine x_iload_n h dX10_readUnit_43 rfl ?_
    refine x_iconst h dX10_readUnit_44 ?_
    refine x_ic_eq_F (tgt := 60) h (by omega) dX10_readUnit_45 (by decide) (by omega) ?_
    refine x_iload_n h dX10_readUnit_48 rfl ?_
    refine x_bipush h dX10_readUnit_49 (by decide) ?_
    refine x_ic_eq_F (tgt := 60) h (by omega) dX10_readUnit_51 (by decide) (by omega) ?_
    refine x_iload_n h dX10_readUnit_54 rfl ?_
    refine x_bipush h dX10_readUnit_55 (by decide) ?_
    refine x_ic_ne_F (tgt := 64) h (by omega) dX10_readUnit_57 (by decide) (by omega) ?_
    refine x_iconst h dX10_readUnit_60 ?_
    refine x_goto (tgt := 65) h dX10_readUnit_61 (by decide) ?_
    exact hx
theorem ru_kind0 {C : Cx} {d : Nat} {s w : Int} {τ : Mm} (h : Ok C RX10 cX10_readUnit 3 d) (hs : 0 ≤ s ∧ s ≤ 255) (hk : ¬ okK s) (hx : X C 1 65 [(0, vR 10 0), (1, vI w), (2, vI s)] [vI 0, vR 10 0] NALL τ 0 0) : X C 1 26 [(0, vR 10 0), (1, vI w), (2, vI s)] [vR 10 0] NALL τ 0 0 := by
  refine x_iload_n h dX10_readUnit_26 rfl ?_
  refine x_iconst h dX10_readUnit_27 ?_
  refine x_ic_eq_F (tgt := 60) h (by omega) dX10_readUnit_28 (by decide) (by omega) ?_
  refine x_iload_n h dX10_readUnit_31 rfl ?_
  refine x_bipush h dX10_readUnit_32 (by decide) ?_
  refine x_ic_eq_F (tgt := 60) h (by omega) dX10_readUnit_34 (by decide) (by omega) ?_
  refine x_iload_n h dX10_readUnit_37 rfl ?_
  refine x_bipush h dX10_readUnit_38 (by decide) ?_
  refine x_ic_eq_F (tgt := 60) h (by omega) dX10_readUnit_40 (by decide) (by omega) ?_
  refine x_iload_n h dX10_readUnit_43 rfl ?_
  refine x_iconst h dX10_readUnit_44 ?_
  refine x_ic_eq_F (tgt := 60) h (by omega) dX10_readUnit_45 (by decide) (by omega) ?_
  refine x_iload_n h dX10_readUnit_48 rfl ?_
  refine x_bipush h dX10_readUnit_49 (by decide) ?_
  refine x_ic_eq_F (tgt := 60) h (by omega) dX10_readUnit_51 (by decide) (by omega) ?_
  refine x_iload_n h dX10_readUnit_54 rfl ?_
  refine x_bipush h dX10_readUnit_55 (by decide) ?_
  refine x_ic_ne_T (tgt := 64) h (by omega) dX10_readUnit_57 (by decide) (by omega) ?_
  refine x_iconst h dX10_readUnit_64 ?_
  exact hx
theorem ru_unit {C : Cx} {d u a : Nat} {s w : Int} {τ : Mm} (h : Ok C RX10 cX10_readUnit 3 d) (hu : τ 10 0 30 = u) (ha : τ 10 0 31 = a) (hu2 : u < 100000) (ha2 : a < 100000) (hx : X C 1 93 [(0, vR 10 0), (1, vI w), (2, vI s)] [vI (if u < 24 ∧ a ≤ 10 then 1 else 0), vR 10 0] NALL τ 0 0) : X C 1 69 [(0, vR 10 0), (1, vI w), (2, vI s)] [] NALL τ 0 0 := by
  by_cases h1 : 24 ≤ u
  · rw [if_neg (by omega)] at hx
    refine x_aload_n h dX10_readUnit_69 rfl ?_
    refine x_aload_n h dX10_readUnit_70 rfl ?_
    refine x_get (q := vI (u)) h fl_10_227 lvz_10 dX10_readUnit_71 (congrArg vI (by first | exact hu | simp [up3, hu])) ?_
    refine x_bipush h dX10_readUnit_74 (by decide) ?_
    refine x_ic_ge_T (tgt := 92) h (by omega) dX10_readUnit_76 (by decide) (by omega) ?_
    refine x_iconst h dX10_readUnit_92 ?_
    exact hx
  · by_cases h2 : 10 < a
    · rw [if_neg (by omega)] at hx
      refine x_aload_n h dX10_readUnit_69 rfl ?_
      refine x_aload_n h dX10_readUnit_70 rfl ?_
      refine x_get (q := vI (u)) h fl_10_227 lvz_10 dX10_readUnit_71 (congrArg vI (by first | exact hu | simp [up3, hu])) ?_
      refine x_bipush h dX10_readUnit_74 (by decide) ?_
      refine x_ic_ge_F (tgt := 92) h (by omega) dX10_readUnit_76 (by decide) (by omega) ?_
      refine x_aload_n h dX10_readUnit_79 rfl ?_
      refine x_get (q := vI (a)) h fl_10_230 lvz_10 dX10_readUnit_80 (congrArg vI (by first | exact ha | simp [up3, ha])) ?_
      refine x_bipush h dX10_readUnit_83 (by decide) ?_
      refine x_ic_gt_T (tgt := 92) h (by omega) dX10_readUnit_85 (by decide) (by omega) ?_
      refine x_iconst h dX10_readUnit_92 ?_
      exact hx
    · rw [if_pos (by omega)] at hx
      refine x_aload_n h dX10_readUnit_69 rfl ?_
      refine x_aload_n h dX10_readUnit_70 rfl ?_
      refine x_get (q := vI (u)) h fl_10_227 lvz_10 dX10_readUnit_71 (congrArg vI (by first | exact hu | simp [up3, hu])) ?_
      refine x_bipush h dX10_readUnit_74 (by decide) ?_
      refine x_ic_ge_F (tgt := 92) h (by omega) dX10_readUnit_76 (by decide) (by omega) ?_
      refine x_aload_n h dX10_readUnit_79 rfl ?_
      refine x_get (q := vI (a)) h fl_10_230 lvz_10 dX10_readUnit_80 (congrArg vI (by first | exact ha | simp [up3, ha])) ?_
      refine x_bipush h dX10_readUnit_83 (by decide) ?_
      refine x_ic_gt_F (tgt := 92) h (by omega) dX10_readUnit_85 (by decide) (by omega) ?_
      refine x_iconst h dX10_readUnit_88 ?_
      refine x_goto (tgt := 93) h dX10_readUnit_89 (by decide) ?_
      exact hx
/-- not a UNIT, or one too many -/
theorem ru_bad {i u a : Nat} {A : List (Int × Int)} {S : List Fr3} {U : List Us3} {τ : Mm} (hT : TS B L N m τ) (hP : PRl τ i u a A S U) (hi : tq B i ≤ L) (hu2 : u < 100000) (ha2 : a < 100000) (hg : ¬ (okK (tK B i) ∧ u < 24 ∧ a ≤ 10)) : ∃ σ', RUs B L τ σ' (.inl i) ∧ ∀ (C : Cx) (d : Nat), 1 ≤ d → Ok C RX10 cX10_readUnit 3 d → Rt C 1 none none NALL σ' 0 0 → ∀ ls, lsub [(0, vR 10 0), (1, vI 0)] ls → X C 1 2 ls [] NALL τ 0 0 := by
  obtain ⟨t1, t2, t3, t4, t5, t6, t7, t8, t9⟩ := tok_in hT hi
  obtain ⟨p1, p2, p3, p4, -⟩ := hP
  have f0 : FrP (up3 τ 10 0 7 (tQ B i)) τ := FrP_up (FrP_refl τ) _ (by omega)
  have fa : FA B L (up3 τ 10 0 7 (tQ B i)) i := ⟨by rw [up3_n _ (by omega)]; exact p1, up3_s _ _ _ _ _, hi⟩
  have e7 : up3 τ 10 0 7 (tQ B i) 10 0 7 = tQ B i := up3_s _ _ _ _ _
  refine ⟨up3 τ 10 0 7 (tQ B i), ⟨f0, fa⟩, fun C d hd h hr ls hls => x_loc hls ?_⟩
  by_cases hk : okK (tK B i)
  · refine x_iload_n h dX10_readUnit_2 rfl ?_
    refine x_if_ne_F (tgt := 297) h (by omega) dX10_readUnit_3 (by decide) (by omega) ?_
    refine x_aload_n h dX10_readUnit_6 rfl ?_
    refine x_get (q := vI (-9)) h fl_10_196 lvz_10 dX10_readUnit_7 (congrArg vI (by first | exact p2 | simp [up3, p2])) ?_
    refine x_bipush h dX10_readUnit_10 (by decide) ?_
    refine x_ic_ne_F (tgt := 297) h (by omega) dX10_readUnit_12 (by decide) (by omega) ?_
    refine x_aload_n h dX10_readUnit_15 rfl ?_
    refine x_get h fl_10_13 lvz_10 dX10_readUnit_16 (pvf_533 _ _) ?_
    refine x_aload_n h dX10_readUnit_19 rfl ?_
    refine x_get (q := vI (i)) h fl_10_199 lvz_10 dX10_readUnit_20 (congrArg vI (by first | exact p1 | simp [up3, p1])) ?_
    refine x_iald h kdf_33 lvz_33 dX10_readUnit_23 rfl (by omega) ?_
    refine x_istore_n h dX10_readUnit_24 (by decide) ?_
    refine x_aload_n h dX10_readUnit_25 rfl ?_
    rw [t3]
    refine x_loc (ls' := [(0, vR 10 0), (1, vI 0), (2, vI (tK B i))]) ⟨rfl, rfl, rfl, trivial⟩ ?_
    refine ru_kind1 (w := 0) h ⟨t6, t7⟩ hk ?_
    refine x_cV1 h kVX10_must lkX10_202 ⟨_, _, _, rfl, rfl⟩ dX10_readUnit_65 (m_must1 (d := 0) p2) lvz_10 rfl rfl (Nat.le_of_ble_eq_true rfl) (by omega) ?_
    refine x_pop h dX10_readUnit_68 rfl ?_
    refine ru_unit (w := 0) (s := tK B i) h p3 p4 hu2 ha2 ?_
    rw [if_neg (fun z => hg ⟨hk, z⟩)]
    refine x_cV1 h kVX10_must lkX10_202 ⟨_, _, _, rfl, rfl⟩ dX10_readUnit_93 (m_must0 (d := 0) p2 p1 t2 t4 ⟨t8, t9⟩) lvz_10 rfl rfl (Nat.le_of_ble_eq_true rfl) (by omega) ?_
    refine x_pop h dX10_readUnit_96 rfl ?_
    refine x_aload_n h dX10_readUnit_97 rfl ?_
    refine x_get (q := vI (tQ B i)) h fl_10_196 lvz_10 dX10_readUnit_98 (congrArg vI (by first | exact e7 | simp [up3, e7])) ?_
    refine x_bipush h dX10_readUnit_101 (by decide) ?_
    refine x_ic_eq_F (tgt := 107) h (by omega) dX10_readUnit_103 (by decide) (by omega) ?_
    exact x_return h hr dX10_readUnit_106 ⟨Nat.le_refl _, Nat.le_refl _⟩
  · refine x_iload_n h dX10_readUnit_2 rfl ?_
    refine x_if_ne_F (tgt := 297) h (by omega) dX10_readUnit_3 (by decide) (by omega) ?_
    refine x_aload_n h dX10_readUnit_6 rfl ?_
    refine x_get (q := vI (-9)) h fl_10_196 lvz_10 dX10_readUnit_7 (congrArg vI (by first | exact p2 | simp [up3, p2])) ?_
    refine x_bipush h dX10_readUnit_10 (by decide) ?_
    refine x_ic_ne_F (tgt := 297) h (by omega) dX10_readUnit_12 (by decide) (by omega) ?_
    refine x_aload_n h dX10_readUnit_15 rfl ?_
    refine x_get h fl_10_13 lvz_10 dX10_readUnit_16 (pvf_533 _ _) ?_
    refine x_aload_n h dX10_readUnit_19 rfl ?_
    refine x_get (q := vI (i)) h fl_10_199 lvz_10 dX10_readUnit_20 (congrArg vI (by first | exact p1 | simp [up3, p1])) ?_
    refine x_iald h kdf_33 lvz_33 dX10_readUnit_23 rfl (by omega) ?_
    refine x_istore_n h dX10_readUnit_24 (by decide) ?_
    refine x_aload_n h dX10_readUnit_25 rfl ?_
    rw [t3]
    refine x_loc (ls' := [(0, vR 10 0), (1, vI 0), (2, vI (tK B i))]) ⟨rfl, rfl, rfl, trivial⟩ ?_
    refine ru_kind0 (w := 0) h ⟨t6, t7⟩ hk ?_
    refine x_cV1 h kVX10_must lkX10_202 ⟨_, _, _, rfl, rfl⟩ dX10_readUnit_65 (m_must0 (d := 0) p2 p1 t2 t4 ⟨t8, t9⟩) lvz_10 rfl rfl (Nat.le_of_ble_eq_true rfl) (by omega) ?_
    refine x_pop h dX10_readUnit_68 rfl ?_
    refine ru_unit (w := 0) (s := tK B i) h (by rw [up3_n _ (by omega)]; exact p3) (by rw [up3_n _ (by omega)]; exact p4) hu2 ha2 ?_
    refine x_cV1 h kVX10_must lkX10_202 ⟨_, _, _, rfl, rfl⟩ dX10_readUnit_93 (m_mustF (d := 0) e7 ⟨t8, t9⟩ (by by_cases z : u < 24 ∧ a ≤ 10; rw [if_pos z]; exact Or.inr rfl; rw [if_neg z]; exact Or.inl rfl)) lvz_10 rfl rfl (Nat.le_of_ble_eq_true rfl) (by omega) ?_
    refine x_pop h dX10_readUnit_96 rfl ?_
    refine x_aload_n h dX10_readUnit_97 rfl ?_
    refine x_get (q := vI (tQ B i)) h fl_10_196 lvz_10 dX10_readUnit_98 (congrArg vI (by first | exact e7 | simp [up3, e7])) ?_
    refine x_bipush h dX10_readUnit_101 (by decide) ?_
    refine x_ic_eq_F (tgt := 107) h (by omega) dX10_readUnit_103 (by decide) (by omega) ?_
    exact x_return h hr dX10_readUnit_106 ⟨Nat.le_refl _, Nat.le_refl _⟩
/-- up to the count of UNITS -/
theorem ru_pre {C : Cx} {d i u a : Nat} {A : List (Int × Int)} {S : List Fr3} {U : List Us3} {τ : Mm} (hd : 1 ≤ d) (h : Ok C RX10 cX10_readUnit 3 d) (hT : TS B L N m τ) (hP : PRl τ i u a A S U) (hi : tq B i ≤ L) (hg : okK (tK B i) ∧ u < 24 ∧ a ≤ 10) (hx : X C 1 117 [(0, vR 10 0), (1, vI 0), (2, vI (tK B i))] [] NALL (up3 τ 10 0 30 ((u + 1 : Nat) : Int)) 0 0) : ∀ ls, lsub [(0, vR 10 0), (1, vI 0)] ls → X C 1 2 ls [] NALL τ 0 0 := by
  obtain ⟨t1, t2, t3, t4, t5, t6, t7, t8, t9⟩ := tok_in hT hi
  obtain ⟨p1, p2, p3, p4, -⟩ := hP
  intro ls hls
  refine x_loc hls ?_
  refine x_iload_n h dX10_readUnit_2 rfl ?_
  refine x_if_ne_F (tgt := 297) h (by omega) dX10_readUnit_3 (by decide) (by omega) ?_
  refine x_aload_n h dX10_readUnit_6 rfl ?_
  refine x_get (q := vI (-9)) h fl_10_196 lvz_10 dX10_readUnit_7 (congrArg vI (by first | exact p2 | simp [up3, p2])) ?_
  refine x_bipush h dX10_readUnit_10 (by decide) ?_
  refine x_ic_ne_F (tgt := 297) h (by omega) dX10_readUnit_12 (by decide) (by omega) ?_
  refine x_aload_n h dX10_readUnit_15 rfl ?_
  refine x_get h fl_10_13 lvz_10 dX10_readUnit_16 (pvf_533 _ _) ?_
  refine x_aload_n h dX10_readUnit_19 rfl ?_
  refine x_get (q := vI (i)) h fl_10_199 lvz_10 dX10_readUnit_20 (congrArg vI (by first | exact p1 | simp [up3, p1])) ?_
  refine x_iald h kdf_33 lvz_33 dX10_readUnit_23 rfl (by omega) ?_
  refine x_istore_n h dX10_readUnit_24 (by decide) ?_
  refine x_aload_n h dX10_readUnit_25 rfl ?_
  rw [t3]
  refine x_loc (ls' := [(0, vR 10 0), (1, vI 0), (2, vI (tK B i))]) ⟨rfl, rfl, rfl, trivial⟩ ?_
  refine ru_kind1 (w := 0) h ⟨t6, t7⟩ hg.1 ?_
  refine x_cV1 h kVX10_must lkX10_202 ⟨_, _, _, rfl, rfl⟩ dX10_readUnit_65 (m_must1 (d := 0) p2) lvz_10 rfl rfl (Nat.le_of_ble_eq_true rfl) (by omega) ?_
  refine x_pop h dX10_readUnit_68 rfl ?_
  refine ru_unit (w := 0) (s := tK B i) h p3 p4 (by omega) (by omega) ?_
  rw [if_pos hg.2]
  refine x_cV1 h kVX10_must lkX10_202 ⟨_, _, _, rfl, rfl⟩ dX10_readUnit_93 (m_must1 (d := 0) p2) lvz_10 rfl rfl (Nat.le_of_ble_eq_true rfl) (by omega) ?_
  refine x_pop h dX10_readUnit_96 rfl ?_
  refine x_aload_n h dX10_readUnit_97 rfl ?_
  refine x_get (q := vI (-9)) h fl_10_196 lvz_10 dX10_readUnit_98 (congrArg vI (by first | exact p2 | simp [up3, p2])) ?_
  refine x_bipush h dX10_readUnit_101 (by decide) ?_
  refine x_ic_eq_T (tgt := 107) h (by omega) dX10_readUnit_103 (by decide) (by omega) ?_
  refine x_aload_n h dX10_readUnit_107 rfl ?_
  refine x_dup h dX10_readUnit_108 rfl ?_
  refine x_get (q := vI (u)) h fl_10_227 lvz_10 dX10_readUnit_109 (congrArg vI (by first | exact p3 | simp [up3, p3])) ?_
  refine x_iconst h dX10_readUnit_112 ?_
  refine x_iadd h dX10_readUnit_113 ?_
  refine x_put h fl_10_227 lvz_10 dX10_readUnit_114 rfl (fun z => absurd z (by decide)) ?_
  exact hx
theorem ru_loop : ∀ (n i u a : Nat) (A : List (Int × Int)) (S : List Fr3) (U : List Us3) (τ : Mm), 25 ≤ u + n → u < 1000 → a < 1000 → TS B L N m τ → PRl τ i u a A S U → RIv B L 0 i u A S U → ∃ σ', RUs B L τ σ' (rdU (tK B) (tV B) m n i u a A S U) ∧ ∀ C : Cx, Ok C RX10 cX10_readUnit 3 3 → Rt C 1 none none NALL σ' 0 0 → ∀ ls, lsub [(0, vR 10 0), (1, vI 0)] ls → X C 1 2 ls [] NALL τ 0 0 := by
  intro n
  induction n with
  | zero =>
    intro i u a A S U τ hn hu ha hT hP hI
    obtain ⟨σ', h1, h2⟩ := ru_bad hT hP hI.2.2.2 (by omega) (by omega) (by omega)
    exact ⟨σ', h1, fun C h hr ls hls => h2 C 3 (by omega) h hr ls hls⟩
  | succ n ih =>
    intro i u a A S U τ hn hu ha hT hP hI
    rw [rdU]
    by_cases hg : okK (tK B i) ∧ u < 24 ∧ a ≤ 10
    · rw [if_neg (fun z => z hg)]
      obtain ⟨hk, hu24, ha10⟩ := hg
      obtain ⟨j1, j2, j3, hi⟩ := hI
      have hB := hT.2.2.2.1
      have hi1 : tq B (i + 1) ≤ L := adv_q hB hi (by omega)
      obtain ⟨t1, t2, t3, t4, t5, t6, t7, t8, t9⟩ := tok_in hT hi
      obtain ⟨w1, w2, w3, w4, w5, w6, w7, w8, w9⟩ := tok_in hT hi1
      have hP1 : PRl (up3 τ 10 0 30 ((u + 1 : Nat) : Int)) i (u + 1) a A S U := PR_u hP (u + 1)
      have hP2 : PRl (up3 (up3 τ 10 0 30 ((u + 1 : Nat) : Int)) 10 0 6 ((i + 1 : Nat) : Int)) (i + 1) (u + 1) a A S U := PR_tok hP1 (i + 1)
      have f2 : FrP (up3 (up3 τ 10 0 30 ((u + 1 : Nat) : Int)) 10 0 6 ((i + 1 : Nat) : Int)) τ := FrP_up (FrP_up (FrP_refl τ) _ (by omega)) _ (by omega)
      generalize hτ2 : up3 (up3 τ 10 0 30 ((u + 1 : Nat) : Int)) 10 0 6 ((i + 1 : Nat) : Int) = τ2 at hP2 f2
      have hT2 := TS_fr hT f2
      have ei : ((i + 1 : Nat) : Int) - 1 = i := by omega
      have hp16 := hP2.2.2.2.2.1.1
      have hp26 := hP2.2.2.2.2.2.1.1
      have hp22 := hP2.2.2.2.2.2.2.1
      by_cases h1 : tK B i = 1
      · rw [if_pos h1]
        obtain ⟨g1, g2⟩ := PR_emit hP2 1 (tV B i)
        have h35 : τ2 35 0 i = tV B i := by rw [f2 _ _ _ (by omega)]; exact t5 (by omega)
        refine ⟨_, ⟨FrP_tr g2 f2, g1⟩, fun C h hr => ru_pre (by omega) h hT hP hi ⟨hk, hu24, ha10⟩ ?_⟩
        refine x_iload_n h dX10_readUnit_117 rfl ?_
        refine x_iconst h dX10_readUnit_118 ?_
        refine x_ic_eq_T (tgt := 134) h (by omega) dX10_readUnit_119 (by decide) (by omega) ?_
        refine x_iconst h dX10_readUnit_134 ?_
        refine x_goto (tgt := 139) h dX10_readUnit_135 (by decide) ?_
        refine x_istore_n h dX10_readUnit_139 (by decide) ?_
        refine x_aload_n h dX10_readUnit_140 rfl ?_
        refine x_dup h dX10_readUnit_141 rfl ?_
        refine x_get (q := vI (i)) h fl_10_199 lvz_10 dX10_readUnit_142 (congrArg vI (by first | exact hP1.1 | simp [up3, hP1.1])) ?_
        refine x_iconst h dX10_readUnit_145 ?_
        refine x_iadd h dX10_readUnit_146 ?_
        refine x_put h fl_10_199 lvz_10 dX10_readUnit_147 rfl (fun z => absurd z (by decide)) ?_
        rw [show ((i : Int) + 1) = ((i + 1 : Nat) : Int) from rfl, hτ2]
        refine x_iload_n h dX10_readUnit_150 rfl ?_
        refine x_iconst h dX10_readUnit_151 ?_
        refine x_ic_ne_F (tgt := 174) h (by omega) dX10_readUnit_152 (by decide) (by omega) ?_
        refine x_aload_n h dX10_readUnit_155 rfl ?_
        refine x_iconst h dX10_readUnit_156 ?_
        refine x_aload_n h dX10_readUnit_157 rfl ?_
        refine x_get h fl_10_20 lvz_10 dX10_readUnit_158 (pvf_535 _ _) ?_
        refine x_aload_n h dX10_readUnit_161 rfl ?_
        refine x_get (q := vI (((i + 1 : Nat) : Int))) h fl_10_199 lvz_10 dX10_readUnit_162 (congrArg vI (by first | exact hP2.1 | simp [up3, hP2.1])) ?_
        refine x_iconst h dX10_readUnit_165 ?_
        refine x_isub h dX10_readUnit_166 ?_
        rw [ei]
        refine x_lald h kdf_35 lvz_35 dX10_readUnit_167 rfl (by omega) ?_
        rw [h35]
        refine x_cV0 h kVX10_emit lkX10_233 ⟨_, _, _, rfl, rfl⟩ dX10_readUnit_168 (m_emit (d := 0) (n := A.length) hp16 (by omega)) lvz_10 rfl rfl (Nat.le_of_ble_eq_true rfl) (by omega) ?_
        refine x_goto (tgt := 294) h dX10_readUnit_171 (by decide) ?_
        refine x_goto (tgt := 2) h dX10_readUnit_294 (by decide) ?_
        refine x_iload_n h dX10_readUnit_2 rfl ?_
        refine x_if_ne_T (tgt := 297) h (by omega) dX10_readUnit_3 (by decide) (by omega) ?_
        exact x_return h hr dX10_readUnit_297 ⟨Nat.le_refl _, Nat.le_refl _⟩
      · rw [if_neg h1]
        by_cases h8 : tK B i = 8
        · rw [if_pos h8]
          obtain ⟨g1, g2⟩ := PR_emit hP2 2 0
          refine ⟨_, ⟨FrP_tr g2 f2, g1⟩, fun C h hr => ru_pre (by omega) h hT hP hi ⟨hk, hu24, ha10⟩ ?_⟩
          refine x_iload_n h dX10_readUnit_117 rfl ?_
          refine x_iconst h dX10_readUnit_118 ?_
          refine x_ic_eq_F (tgt := 134) h (by omega) dX10_readUnit_119 (by decide) (by omega) ?_
          refine x_iload_n h dX10_readUnit_122 rfl ?_
          refine x_bipush h dX10_readUnit_123 (by decide) ?_
          refine x_ic_eq_T (tgt := 134) h (by omega) dX10_readUnit_125 (by decide) (by omega) ?_
          refine x_iconst h dX10_readUnit_134 ?_
          refine x_goto (tgt := 139) h dX10_readUnit_135 (by decide) ?_
          refine x_istore_n h dX10_readUnit_139 (by decide) ?_
          refine x_aload_n h dX10_readUnit_140 rfl ?_
          refine x_dup h dX10_readUnit_141 rfl ?_
          refine x_get (q := vI (i)) h fl_10_199 lvz_10 dX10_readUnit_142 (congrArg vI (by first | exact hP1.1 | simp [up3, hP1.1])) ?_
          refine x_iconst h dX10_readUnit_145 ?_
          refine x_iadd h dX10_readUnit_146 ?_
          refine x_put h fl_10_199 lvz_10 dX10_readUnit_147 rfl (fun z => absurd z (by decide)) ?_
          rw [show ((i : Int) + 1) = ((i + 1 : Nat) : Int) from rfl, hτ2]
          refine x_iload_n h dX10_readUnit_150 rfl ?_
          refine x_iconst h dX10_readUnit_151 ?_
          refine x_ic_ne_T (tgt := 174) h (by omega) dX10_readUnit_152 (by decide) (by omega) ?_
          refine x_iload_n h dX10_readUnit_174 rfl ?_
          refine x_bipush h dX10_readUnit_175 (by decide) ?_
          refine x_ic_ne_F (tgt := 189) h (by omega) dX10_readUnit_177 (by decide) (by omega) ?_
          refine x_aload_n h dX10_readUnit_180 rfl ?_
          refine x_iconst h dX10_readUnit_181 ?_
          refine x_lconst0 h dX10_readUnit_182 ?_
          refine x_cV0 h kVX10_emit lkX10_233 ⟨_, _, _, rfl, rfl⟩ dX10_readUnit_183 (m_emit (d := 0) (n := A.length) hp16 (by omega)) lvz_10 rfl rfl (Nat.le_of_ble_eq_true rfl) (by omega) ?_
          refine x_goto (tgt := 294) h dX10_readUnit_186 (by decide) ?_
          refine x_goto (tgt := 2) h dX10_readUnit_294 (by decide) ?_
          refine x_iload_n h dX10_readUnit_2 rfl ?_
          refine x_if_ne_T (tgt := 297) h (by omega) dX10_readUnit_3 (by decide) (by omega) ?_
          exact x_return h hr dX10_readUnit_297 ⟨Nat.le_refl _, Nat.le_refl _⟩
        · rw [if_neg h8]
          by_cases h35 : tK B i = 35
          · rw [if_pos h35]
            by_cases hn2 : tK B (i + 1) = 2
            · rw [if_pos hn2]
              obtain ⟨g1, g2⟩ := PR_use (m := m) (b := 0) hP2
              obtain ⟨g3, g4⟩ := PR_emit g1 3 ((i + 1 : Nat) : Int)
              have hus := m_use1 (d := 0) (b := 0) hT2 hP2.2.1 hP2.1 hi1 hn2 hp22 (by omega) (by omega)
              have hp16' := g1.2.2.2.2.1.1
              have e2 : ((i + 1 + 1 : Nat) : Int) - 1 = ((i + 1 : Nat) : Int) := by omega
              refine ⟨_, ⟨FrP_tr g4 (FrP_tr g2 f2), g3⟩, fun C h hr => ru_pre (by omega) h hT hP hi ⟨hk, hu24, ha10⟩ ?_⟩
              refine x_iload_n h dX10_readUnit_117 rfl ?_
              refine x_iconst h dX10_readUnit_118 ?_
              refine x_ic_eq_F (tgt := 134) h (by omega) dX10_readUnit_119 (by decide) (by omega) ?_
              refine x_iload_n h dX10_readUnit_122 rfl ?_
              refine x_bipush h dX10_readUnit_123 (by decide) ?_
              refine x_ic_eq_F (tgt := 134) h (by omega) dX10_readUnit_125 (by decide) (by omega) ?_
              refine x_iload_n h dX10_readUnit_128 rfl ?_
              refine x_bipush h dX10_readUnit_129 (by decide) ?_
              refine x_ic_ne_F (tgt := 138) h (by omega) dX10_readUnit_131 (by decide) (by omega) ?_
              refine x_iconst h dX10_readUnit_134 ?_
              refine x_goto (tgt := 139) h dX10_readUnit_135 (by decide) ?_
              refine x_istore_n h dX10_readUnit_139 (by decide) ?_
              refine x_aload_n h dX10_readUnit_140 rfl ?_
              refine x_dup h dX10_readUnit_141 rfl ?_
              refine x_get (q := vI (i)) h fl_10_199 lvz_10 dX10_readUnit_142 (congrArg vI (by first | exact hP1.1 | simp [up3, hP1.1])) ?_
              refine x_iconst h dX10_readUnit_145 ?_
              refine x_iadd h dX10_readUnit_146 ?_
              refine x_put h fl_10_199 lvz_10 dX10_readUnit_147 rfl (fun z => absurd z (by decide)) ?_
              rw [show ((i : Int) + 1) = ((i + 1 : Nat) : Int) from rfl, hτ2]
              refine x_iload_n h dX10_readUnit_150 rfl ?_
              refine x_iconst h dX10_readUnit_151 ?_
              refine x_ic_ne_T (tgt := 174) h (by omega) dX10_readUnit_152 (by decide) (by omega) ?_
              refine x_iload_n h dX10_readUnit_174 rfl ?_
              refine x_bipush h dX10_readUnit_175 (by decide) ?_
              refine x_ic_ne_T (tgt := 189) h (by omega) dX10_readUnit_177 (by decide) (by omega) ?_
              refine x_iload_n h dX10_readUnit_189 rfl ?_
              refine x_bipush h dX10_readUnit_190 (by decide) ?_
              refine x_ic_ne_F (tgt := 215) h (by omega) dX10_readUnit_192 (by decide) (by omega) ?_
              refine x_aload_n h dX10_readUnit_195 rfl ?_
              refine x_iconst h dX10_readUnit_196 ?_
              refine x_cV0 h kVX10_use lkX10_218 ⟨_, _, _, rfl, rfl⟩ dX10_readUnit_197 (hus) lvz_10 rfl rfl (Nat.le_of_ble_eq_true rfl) (by omega) ?_
              refine x_aload_n h dX10_readUnit_200 rfl ?_
              refine x_iconst h dX10_readUnit_201 ?_
              refine x_aload_n h dX10_readUnit_202 rfl ?_
              refine x_get (q := vI (((i + 1 + 1 : Nat) : Int))) h fl_10_199 lvz_10 dX10_readUnit_203 (congrArg vI (by first | exact g1.1 | simp [up3, g1.1])) ?_
              refine x_i2l h (by omega) dX10_readUnit_206 ?_
              refine x_lconst1 h dX10_readUnit_207 ?_
              refine x_lsub h dX10_readUnit_208 ?_
              rw [e2]
              refine x_cV0 h kVX10_emit lkX10_233 ⟨_, _, _, rfl, rfl⟩ dX10_readUnit_209 (m_emit (d := 0) (n := A.length) hp16' (by omega)) lvz_10 rfl rfl (Nat.le_of_ble_eq_true rfl) (by omega) ?_
              refine x_goto (tgt := 294) h dX10_readUnit_212 (by decide) ?_
              refine x_goto (tgt := 2) h dX10_readUnit_294 (by decide) ?_
              refine x_iload_n h dX10_readUnit_2 rfl ?_
              refine x_if_ne_T (tgt := 297) h (by omega) dX10_readUnit_3 (by decide) (by omega) ?_
              exact x_return h hr dX10_readUnit_297 ⟨Nat.le_refl _, Nat.le_refl _⟩
            · rw [if_neg hn2]
              have hus := m_use0 (d := 0) (b := 0) hT2 hP2.2.1 hP2.1 hi1 hn2
              have g6 : up3 τ2 10 0 7 (tQ B (i + 1)) 10 0 6 = ((i + 1 : Nat) : Int) := by rw [up3_n _ (by omega)]; exact hP2.1
              have g16 : up3 τ2 10 0 7 (tQ B (i + 1)) 10 0 16 = A.length := by rw [up3_n _ (by omega)]; exact hp16
              have e2 : ((i + 1 : Nat) : Int) - 1 = i := by omega
              refine ⟨emS (up3 τ2 10 0 7 (tQ B (i + 1))) A.length 3 i, ⟨?_, ?_, ?_, hi1⟩, fun C h hr => ru_pre (by omega) h hT hP hi ⟨hk, hu24, ha10⟩ ?_⟩
              · unfold emS
                exact FrP_tr (FrP_up (FrP_up (FrP_up (FrP_up (FrP_refl τ2) _ (by omega)) _ (by omega)) _ (by omega)) _ (by omega)) f2
              · unfold emS
                rw [up3_n _ (by omega), up3_n _ (by omega), up3_n _ (by omega)]; exact g6
              · unfold emS
                rw [up3_n _ (by omega), up3_n _ (by omega), up3_n _ (by omega), up3_s]
              · refine x_iload_n h dX10_readUnit_117 rfl ?_
                refine x_iconst h dX10_readUnit_118 ?_
                refine x_ic_eq_F (tgt := 134) h (by omega) dX10_readUnit_119 (by decide) (by omega) ?_
                refine x_iload_n h dX10_readUnit_122 rfl ?_
                refine x_bipush h dX10_readUnit_123 (by decide) ?_
                refine x_ic_eq_F (tgt := 134) h (by omega) dX10_readUnit_125 (by decide) (by omega) ?_
                refine x_iload_n h dX10_readUnit_128 rfl ?_
                refine x_bipush h dX10_readUnit_129 (by decide) ?_
                refine x_ic_ne_F (tgt := 138) h (by omega) dX10_readUnit_131 (by decide) (by omega) ?_
                refine x_iconst h dX10_readUnit_134 ?_
                refine x_goto (tgt := 139) h dX10_readUnit_135 (by decide) ?_
                refine x_istore_n h dX10_readUnit_139 (by decide) ?_
                refine x_aload_n h dX10_readUnit_140 rfl ?_
                refine x_dup h dX10_readUnit_141 rfl ?_
                refine x_get (q := vI (i)) h fl_10_199 lvz_10 dX10_readUnit_142 (congrArg vI (by first | exact hP1.1 | simp [up3, hP1.1])) ?_
                refine x_iconst h dX10_readUnit_145 ?_
                refine x_iadd h dX10_readUnit_146 ?_
                refine x_put h fl_10_199 lvz_10 dX10_readUnit_147 rfl (fun z => absurd z (by decide)) ?_
                rw [show ((i : Int) + 1) = ((i + 1 : Nat) : Int) from rfl, hτ2]
                refine x_iload_n h dX10_readUnit_150 rfl ?_
                refine x_iconst h dX10_readUnit_151 ?_
                refine x_ic_ne_T (tgt := 174) h (by omega) dX10_readUnit_152 (by decide) (by omega) ?_
                refine x_iload_n h dX10_readUnit_174 rfl ?_
                refine x_bipush h dX10_readUnit_175 (by decide) ?_
                refine x_ic_ne_T (tgt := 189) h (by omega) dX10_readUnit_177 (by decide) (by omega) ?_
                refine x_iload_n h dX10_readUnit_189 rfl ?_
                refine x_bipush h dX10_readUnit_190 (by decide) ?_
                refine x_ic_ne_F (tgt := 215) h (by omega) dX10_readUnit_192 (by decide) (by omega) ?_
                refine x_aload_n h dX10_readUnit_195 rfl ?_
                refine x_iconst h dX10_readUnit_196 ?_
                refine x_cV0 h kVX10_use lkX10_218 ⟨_, _, _, rfl, rfl⟩ dX10_readUnit_197 (hus) lvz_10 rfl rfl (Nat.le_of_ble_eq_true rfl) (by omega) ?_
                refine x_aload_n h dX10_readUnit_200 rfl ?_
                refine x_iconst h dX10_readUnit_201 ?_
                refine x_aload_n h dX10_readUnit_202 rfl ?_
                refine x_get (q := vI (((i + 1 : Nat) : Int))) h fl_10_199 lvz_10 dX10_readUnit_203 (congrArg vI (by first | exact g6 | simp [up3, g6])) ?_
                refine x_i2l h (by omega) dX10_readUnit_206 ?_
                refine x_lconst1 h dX10_readUnit_207 ?_
                refine x_lsub h dX10_readUnit_208 ?_
                rw [e2]
                refine x_cV0 h kVX10_emit lkX10_233 ⟨_, _, _, rfl, rfl⟩ dX10_readUnit_209 (m_emit (d := 0) (n := A.length) g16 (by omega)) lvz_10 rfl rfl (Nat.le_of_ble_eq_true rfl) (by omega) ?_
                refine x_goto (tgt := 294) h dX10_readUnit_212 (by decide) ?_
                refine x_goto (tgt := 2) h dX10_readUnit_294 (by decide) ?_
                refine x_iload_n h dX10_readUnit_2 rfl ?_
                refine x_if_ne_T (tgt := 297) h (by omega) dX10_readUnit_3 (by decide) (by omega) ?_
                exact x_return h hr dX10_readUnit_297 ⟨Nat.le_refl _, Nat.le_refl _⟩
          · rw [if_neg h35]
            by_cases h2 : tK B i = 2
            · rw [if_pos h2]
              have hP3 : PRl (up3 τ2 10 0 6 (i : Int)) i (u + 1) a A S U := PR_tok hP2 i
              have f3 : FrP (up3 τ2 10 0 6 (i : Int)) τ := FrP_up f2 _ (by omega)
              generalize hτ3 : up3 τ2 10 0 6 (i : Int) = τ3 at hP3 f3
              have hT3 := TS_fr hT f3
              obtain ⟨g1, g2⟩ := PR_use (m := m) (b := 0) hP3
              have hus := m_use1 (d := 0) (b := 0) hT3 hP3.2.1 hP3.1 hi h2 hP3.2.2.2.2.2.2.1 (by omega) (by omega)
              generalize hτ4 : usS τ3 U.length m i 0 = τ4 at g1 g2 hus
              obtain ⟨g3, g4⟩ := PR_push g1 91 (i : Int)
              have hpu := m_push (d := 0) (k := 91) (v := (i : Int)) g1.2.2.2.2.2.1.1 (by omega)
              generalize hτ5 : puS τ4 S.length 91 (i : Int) = τ5 at g3 g4 hpu
              have f5 : FrP τ5 τ := FrP_tr g4 (FrP_tr g2 f3)
              have hT5 := TS_fr hT f5
              by_cases h91 : tK B (i + 1) = 91
              · rw [if_pos h91]
                have hi2 : tq B (i + 1 + 1) ≤ L := adv_q hB hi1 (by omega)
                have htk := m_take1 (d := 0) (s := 91) hT5 g3.2.1 g3.1 hi1 h91
                have hP6 : PRl (up3 τ5 10 0 6 (((i + 1 : Nat) : Int) + 1)) (i + 1 + 1) (u + 1) a A ((91, 0, (i : Int)) :: S) (U ++ [(i, m, 0)]) := PR_tok g3 (i + 1 + 1)
                have hP7 := PR_a hP6 (a + 1)
                have f7 : FrP (up3 (up3 τ5 10 0 6 (((i + 1 : Nat) : Int) + 1)) 10 0 31 ((a + 1 : Nat) : Int)) τ := FrP_up (FrP_up f5 _ (by omega)) _ (by omega)
                obtain ⟨σ', hres, hx⟩ := ih (i + 1 + 1) (u + 1) (a + 1) A ((91, 0, (i : Int)) :: S) (U ++ [(i, m, 0)]) _ (by omega) (by omega) (by omega) (TS_fr hT f7) hP7 ⟨by simp only [List.length_cons]; omega, by simp only [List.length_append, List.length_cons, List.length_nil]; omega, by simp only [List.length_cons]; omega, hi2⟩
                refine ⟨σ', RUs_tr hres f7, fun C h hr => ru_pre (by omega) h hT hP hi ⟨hk, hu24, ha10⟩ ?_⟩
                refine x_iload_n h dX10_readUnit_117 rfl ?_
                refine x_iconst h dX10_readUnit_118 ?_
                refine x_ic_eq_F (tgt := 134) h (by omega) dX10_readUnit_119 (by decide) (by omega) ?_
                refine x_iload_n h dX10_readUnit_122 rfl ?_
                refine x_bipush h dX10_readUnit_123 (by decide) ?_
                refine x_ic_eq_F (tgt := 134) h (by omega) dX10_readUnit_125 (by decide) (by omega) ?_
                refine x_iload_n h dX10_readUnit_128 rfl ?_
                refine x_bipush h dX10_readUnit_129 (by decide) ?_
                refine x_ic_ne_T (tgt := 138) h (by omega) dX10_readUnit_131 (by decide) (by omega) ?_
                refine x_iconst h dX10_readUnit_138 ?_
                refine x_istore_n h dX10_readUnit_139 (by decide) ?_
                refine x_aload_n h dX10_readUnit_140 rfl ?_
                refine x_dup h dX10_readUnit_141 rfl ?_
                refine x_get (q := vI (i)) h fl_10_199 lvz_10 dX10_readUnit_142 (congrArg vI (by first | exact hP1.1 | simp [up3, hP1.1])) ?_
                refine x_iconst h dX10_readUnit_145 ?_
                refine x_iadd h dX10_readUnit_146 ?_
                refine x_put h fl_10_199 lvz_10 dX10_readUnit_147 rfl (fun z => absurd z (by decide)) ?_
                rw [show ((i : Int) + 1) = ((i + 1 : Nat) : Int) from rfl, hτ2]
                refine x_iload_n h dX10_readUnit_150 rfl ?_
                refine x_iconst h dX10_readUnit_151 ?_
                refine x_ic_ne_T (tgt := 174) h (by omega) dX10_readUnit_152 (by decide) (by omega) ?_
                refine x_iload_n h dX10_readUnit_174 rfl ?_
                refine x_bipush h dX10_readUnit_175 (by decide) ?_
                refine x_ic_ne_T (tgt := 189) h (by omega) dX10_readUnit_177 (by decide) (by omega) ?_
                refine x_iload_n h dX10_readUnit_189 rfl ?_
                refine x_bipush h dX10_readUnit_190 (by decide) ?_
                refine x_ic_ne_T (tgt := 215) h (by omega) dX10_readUnit_192 (by decide) (by omega) ?_
                refine x_iload_n h dX10_readUnit_215 rfl ?_
                refine x_iconst h dX10_readUnit_216 ?_
                refine x_ic_ne_F (tgt := 267) h (by omega) dX10_readUnit_217 (by decide) (by omega) ?_
                refine x_aload_n h dX10_readUnit_220 rfl ?_
                refine x_dup h dX10_readUnit_221 rfl ?_
                refine x_get (q := vI (((i + 1 : Nat) : Int))) h fl_10_199 lvz_10 dX10_readUnit_222 (congrArg vI (by first | exact hP2.1 | simp [up3, hP2.1])) ?_
                refine x_iconst h dX10_readUnit_225 ?_
                refine x_isub h dX10_readUnit_226 ?_
                rw [ei]
                refine x_put h fl_10_199 lvz_10 dX10_readUnit_227 rfl (fun z => absurd z (by decide)) ?_
                rw [hτ3]
                refine x_aload_n h dX10_readUnit_230 rfl ?_
                refine x_iconst h dX10_readUnit_231 ?_
                refine x_cV0 h kVX10_use lkX10_218 ⟨_, _, _, rfl, rfl⟩ dX10_readUnit_232 (hus) lvz_10 rfl rfl (Nat.le_of_ble_eq_true rfl) (by omega) ?_
                refine x_aload_n h dX10_readUnit_235 rfl ?_
                refine x_bipush h dX10_readUnit_236 (by decide) ?_
                refine x_aload_n h dX10_readUnit_238 rfl ?_
                refine x_get (q := vI (((i + 1 : Nat) : Int))) h fl_10_199 lvz_10 dX10_readUnit_239 (congrArg vI (by first | exact g1.1 | simp [up3, g1.1])) ?_
                refine x_iconst h dX10_readUnit_242 ?_
                refine x_isub h dX10_readUnit_243 ?_
                rw [ei]
                refine x_cV0 h kVX10_push lkX10_237 ⟨_, _, _, rfl, rfl⟩ dX10_readUnit_244 (hpu) lvz_10 rfl rfl (Nat.le_of_ble_eq_true rfl) (by omega) ?_
                refine x_aload_n h dX10_readUnit_247 rfl ?_
                refine x_bipush h dX10_readUnit_248 (by decide) ?_
                refine x_cV1 h kVX10_take lkX10_241 ⟨_, _, _, rfl, rfl⟩ dX10_readUnit_250 (htk) lvz_10 rfl rfl (Nat.le_of_ble_eq_true rfl) (by omega) ?_
                refine x_pop h dX10_readUnit_253 rfl ?_
                refine x_aload_n h dX10_readUnit_254 rfl ?_
                refine x_dup h dX10_readUnit_255 rfl ?_
                refine x_get (q := vI (a)) h fl_10_230 lvz_10 dX10_readUnit_256 (congrArg vI (by first | exact hP6.2.2.2.1 | simp [up3, hP6.2.2.2.1])) ?_
                refine x_iconst h dX10_readUnit_259 ?_
                refine x_iadd h dX10_readUnit_260 ?_
                refine x_put h fl_10_230 lvz_10 dX10_readUnit_261 rfl (fun z => absurd z (by decide)) ?_
                refine x_goto (tgt := 294) h dX10_readUnit_264 (by decide) ?_
                refine x_goto (tgt := 2) h dX10_readUnit_294 (by decide) ?_
                exact hx C h hr _ ⟨rfl, rfl, trivial⟩
              · rw [if_neg h91]
                have htk := m_take0 (d := 0) (s := 91) hT5 g3.2.1 g3.1 hi1 (by omega) h91
                have e31 : up3 τ5 10 0 7 (tQ B (i + 1)) 10 0 31 = a := by rw [up3_n _ (by omega)]; exact g3.2.2.2.1
                refine ⟨up3 (up3 τ5 10 0 7 (tQ B (i + 1))) 10 0 31 ((a + 1 : Nat) : Int), ⟨FrP_up (FrP_up f5 _ (by omega)) _ (by omega), by rw [up3_n _ (by omega), up3_n _ (by omega)]; exact g3.1, by rw [up3_n _ (by omega), up3_s], hi1⟩, fun C h hr => ru_pre (by omega) h hT hP hi ⟨hk, hu24, ha10⟩ ?_⟩
                have e7 : up3 (up3 τ5 10 0 7 (tQ B (i + 1))) 10 0 31 ((a + 1 : Nat) : Int) 10 0 7 = tQ B (i + 1) := by rw [up3_n _ (by omega), up3_s]
                refine x_iload_n h dX10_readUnit_117 rfl ?_
                refine x_iconst h dX10_readUnit_118 ?_
                refine x_ic_eq_F (tgt := 134) h (by omega) dX10_readUnit_119 (by decide) (by omega) ?_
                refine x_iload_n h dX10_readUnit_122 rfl ?_
                refine x_bipush h dX10_readUnit_123 (by decide) ?_
                refine x_ic_eq_F (tgt := 134) h (by omega) dX10_readUnit_125 (by decide) (by omega) ?_
                refine x_iload_n h dX10_readUnit_128 rfl ?_
                refine x_bipush h dX10_readUnit_129 (by decide) ?_
                refine x_ic_ne_T (tgt := 138) h (by omega) dX10_readUnit_131 (by decide) (by omega) ?_
                refine x_iconst h dX10_readUnit_138 ?_
                refine x_istore_n h dX10_readUnit_139 (by decide) ?_
                refine x_aload_n h dX10_readUnit_140 rfl ?_
                refine x_dup h dX10_readUnit_141 rfl ?_
                refine x_get (q := vI (i)) h fl_10_199 lvz_10 dX10_readUnit_142 (congrArg vI (by first | exact hP1.1 | simp [up3, hP1.1])) ?_
                refine x_iconst h dX10_readUnit_145 ?_
                refine x_iadd h dX10_readUnit_146 ?_
                refine x_put h fl_10_199 lvz_10 dX10_readUnit_147 rfl (fun z => absurd z (by decide)) ?_
                rw [show ((i : Int) + 1) = ((i + 1 : Nat) : Int) from rfl, hτ2]
                refine x_iload_n h dX10_readUnit_150 rfl ?_
                refine x_iconst h dX10_readUnit_151 ?_
                refine x_ic_ne_T (tgt := 174) h (by omega) dX10_readUnit_152 (by decide) (by omega) ?_
                refine x_iload_n h dX10_readUnit_174 rfl ?_
                refine x_bipush h dX10_readUnit_175 (by decide) ?_
                refine x_ic_ne_T (tgt := 189) h (by omega) dX10_readUnit_177 (by decide) (by omega) ?_
                refine x_iload_n h dX10_readUnit_189 rfl ?_
                refine x_bipush h dX10_readUnit_190 (by decide) ?_
                refine x_ic_ne_T (tgt := 215) h (by omega) dX10_readUnit_192 (by decide) (by omega) ?_
                refine x_iload_n h dX10_readUnit_215 rfl ?_
                refine x_iconst h dX10_readUnit_216 ?_
                refine x_ic_ne_F (tgt := 267) h (by omega) dX10_readUnit_217 (by decide) (by omega) ?_
                refine x_aload_n h dX10_readUnit_220 rfl ?_
                refine x_dup h dX10_readUnit_221 rfl ?_
                refine x_get (q := vI (((i + 1 : Nat) : Int))) h fl_10_199 lvz_10 dX10_readUnit_222 (congrArg vI (by first | exact hP2.1 | simp [up3, hP2.1])) ?_
                refine x_iconst h dX10_readUnit_225 ?_
                refine x_isub h dX10_readUnit_226 ?_
                rw [ei]
                refine x_put h fl_10_199 lvz_10 dX10_readUnit_227 rfl (fun z => absurd z (by decide)) ?_
                rw [hτ3]
                refine x_aload_n h dX10_readUnit_230 rfl ?_
                refine x_iconst h dX10_readUnit_231 ?_
                refine x_cV0 h kVX10_use lkX10_218 ⟨_, _, _, rfl, rfl⟩ dX10_readUnit_232 (hus) lvz_10 rfl rfl (Nat.le_of_ble_eq_true rfl) (by omega) ?_
                refine x_aload_n h dX10_readUnit_235 rfl ?_
                refine x_bipush h dX10_readUnit_236 (by decide) ?_
                refine x_aload_n h dX10_readUnit_238 rfl ?_
                refine x_get (q := vI (((i + 1 : Nat) : Int))) h fl_10_199 lvz_10 dX10_readUnit_239 (congrArg vI (by first | exact g1.1 | simp [up3, g1.1])) ?_
                refine x_iconst h dX10_readUnit_242 ?_
                refine x_isub h dX10_readUnit_243 ?_
                rw [ei]
                refine x_cV0 h kVX10_push lkX10_237 ⟨_, _, _, rfl, rfl⟩ dX10_readUnit_244 (hpu) lvz_10 rfl rfl (Nat.le_of_ble_eq_true rfl) (by omega) ?_
                refine x_aload_n h dX10_readUnit_247 rfl ?_
                refine x_bipush h dX10_readUnit_248 (by decide) ?_
                refine x_cV1 h kVX10_take lkX10_241 ⟨_, _, _, rfl, rfl⟩ dX10_readUnit_250 (htk) lvz_10 rfl rfl (Nat.le_of_ble_eq_true rfl) (by omega) ?_
                refine x_pop h dX10_readUnit_253 rfl ?_
                refine x_aload_n h dX10_readUnit_254 rfl ?_
                refine x_dup h dX10_readUnit_255 rfl ?_
                refine x_get (q := vI (a)) h fl_10_230 lvz_10 dX10_readUnit_256 (congrArg vI (by first | exact e31 | simp [up3, e31])) ?_
                refine x_iconst h dX10_readUnit_259 ?_
                refine x_iadd h dX10_readUnit_260 ?_
                refine x_put h fl_10_230 lvz_10 dX10_readUnit_261 rfl (fun z => absurd z (by decide)) ?_
                refine x_goto (tgt := 294) h dX10_readUnit_264 (by decide) ?_
                refine x_goto (tgt := 2) h dX10_readUnit_294 (by decide) ?_
                refine x_iload_n h dX10_readUnit_2 rfl ?_
                refine x_if_ne_F (tgt := 297) h (by omega) dX10_readUnit_3 (by decide) (by omega) ?_
                refine x_aload_n h dX10_readUnit_6 rfl ?_
                refine x_get (q := vI (tQ B (i + 1))) h fl_10_196 lvz_10 dX10_readUnit_7 (congrArg vI (by first | exact e7 | simp [up3, e7])) ?_
                refine x_bipush h dX10_readUnit_10 (by decide) ?_
                refine x_ic_ne_T (tgt := 297) h (by omega) dX10_readUnit_12 (by decide) (by omega) ?_
                exact x_return h hr dX10_readUnit_297 ⟨Nat.le_refl _, Nat.le_refl _⟩
            · rw [if_neg h2]
              by_cases h45 : tK B i = 45
              · rw [if_pos h45]
                obtain ⟨g3, g4⟩ := PR_push hP2 5 0
                have hpu := m_push (d := 0) (k := 5) (v := 0) hP2.2.2.2.2.2.1.1 (by omega)
                generalize hτ5 : puS τ2 S.length 5 0 = τ5 at g3 g4 hpu
                have f5 : FrP τ5 τ := FrP_tr g4 f2
                have hP7 := PR_a g3 (a + 1)
                have f7 : FrP (up3 τ5 10 0 31 ((a + 1 : Nat) : Int)) τ := FrP_up f5 _ (by omega)
                obtain ⟨σ', hres, hx⟩ := ih (i + 1) (u + 1) (a + 1) A ((5, 0, 0) :: S) U _ (by omega) (by omega) (by omega) (TS_fr hT f7) hP7 ⟨by simp only [List.length_cons]; omega, by omega, by simp only [List.length_cons]; omega, hi1⟩
                refine ⟨σ', RUs_tr hres f7, fun C h hr => ru_pre (by omega) h hT hP hi ⟨hk, hu24, ha10⟩ ?_⟩
                refine x_iload_n h dX10_readUnit_117 rfl ?_
                refine x_iconst h dX10_readUnit_118 ?_
                refine x_ic_eq_F (tgt := 134) h (by omega) dX10_readUnit_119 (by decide) (by omega) ?_
                refine x_iload_n h dX10_readUnit_122 rfl ?_
                refine x_bipush h dX10_readUnit_123 (by decide) ?_
                refine x_ic_eq_F (tgt := 134) h (by omega) dX10_readUnit_125 (by decide) (by omega) ?_
                refine x_iload_n h dX10_readUnit_128 rfl ?_
                refine x_bipush h dX10_readUnit_129 (by decide) ?_
                refine x_ic_ne_T (tgt := 138) h (by omega) dX10_readUnit_131 (by decide) (by omega) ?_
                refine x_iconst h dX10_readUnit_138 ?_
                refine x_istore_n h dX10_readUnit_139 (by decide) ?_
                refine x_aload_n h dX10_readUnit_140 rfl ?_
                refine x_dup h dX10_readUnit_141 rfl ?_
                refine x_get (q := vI (i)) h fl_10_199 lvz_10 dX10_readUnit_142 (congrArg vI (by first | exact hP1.1 | simp [up3, hP1.1])) ?_
                refine x_iconst h dX10_readUnit_145 ?_
                refine x_iadd h dX10_readUnit_146 ?_
                refine x_put h fl_10_199 lvz_10 dX10_readUnit_147 rfl (fun z => absurd z (by decide)) ?_
                rw [show ((i : Int) + 1) = ((i + 1 : Nat) : Int) from rfl, hτ2]
                refine x_iload_n h dX10_readUnit_150 rfl ?_
                refine x_iconst h dX10_readUnit_151 ?_
                refine x_ic_ne_T (tgt := 174) h (by omega) dX10_readUnit_152 (by decide) (by omega) ?_
                refine x_iload_n h dX10_readUnit_174 rfl ?_
                refine x_bipush h dX10_readUnit_175 (by decide) ?_
                refine x_ic_ne_T (tgt := 189) h (by omega) dX10_readUnit_177 (by decide) (by omega) ?_
                refine x_iload_n h dX10_readUnit_189 rfl ?_
                refine x_bipush h dX10_readUnit_190 (by decide) ?_
                refine x_ic_ne_T (tgt := 215) h (by omega) dX10_readUnit_192 (by decide) (by omega) ?_
                refine x_iload_n h dX10_readUnit_215 rfl ?_
                refine x_iconst h dX10_readUnit_216 ?_
                refine x_ic_ne_T (tgt := 267) h (by omega) dX10_readUnit_217 (by decide) (by omega) ?_
                refine x_aload_n h dX10_readUnit_267 rfl ?_
                refine x_iload_n h dX10_readUnit_268 rfl ?_
                refine x_bipush h dX10_readUnit_269 (by decide) ?_
                refine x_ic_ne_F (tgt := 278) h (by omega) dX10_readUnit_271 (by decide) (by omega) ?_
                refine x_iconst h dX10_readUnit_274 ?_
                refine x_goto (tgt := 280) h dX10_readUnit_275 (by decide) ?_
                refine x_iconst h dX10_readUnit_280 ?_
                refine x_cV0 h kVX10_push lkX10_237 ⟨_, _, _, rfl, rfl⟩ dX10_readUnit_281 (hpu) lvz_10 rfl rfl (Nat.le_of_ble_eq_true rfl) (by omega) ?_
                refine x_aload_n h dX10_readUnit_284 rfl ?_
                refine x_dup h dX10_readUnit_285 rfl ?_
                refine x_get (q := vI (a)) h fl_10_230 lvz_10 dX10_readUnit_286 (congrArg vI (by first | exact g3.2.2.2.1 | simp [up3, g3.2.2.2.1])) ?_
                refine x_iconst h dX10_readUnit_289 ?_
                refine x_iadd h dX10_readUnit_290 ?_
                refine x_put h fl_10_230 lvz_10 dX10_readUnit_291 rfl (fun z => absurd z (by decide)) ?_
                refine x_goto (tgt := 2) h dX10_readUnit_294 (by decide) ?_
                exact hx C h hr _ ⟨rfl, rfl, trivial⟩
              · rw [if_neg h45]
                obtain ⟨g3, g4⟩ := PR_push hP2 40 0
                have hpu := m_push (d := 0) (k := 40) (v := 0) hP2.2.2.2.2.2.1.1 (by omega)
                generalize hτ5 : puS τ2 S.length 40 0 = τ5 at g3 g4 hpu
                have f5 : FrP τ5 τ := FrP_tr g4 f2
                have hP7 := PR_a g3 (a + 1)
                have f7 : FrP (up3 τ5 10 0 31 ((a + 1 : Nat) : Int)) τ := FrP_up f5 _ (by omega)
                obtain ⟨σ', hres, hx⟩ := ih (i + 1) (u + 1) (a + 1) A ((40, 0, 0) :: S) U _ (by omega) (by omega) (by omega) (TS_fr hT f7) hP7 ⟨by simp only [List.length_cons]; omega, by omega, by simp only [List.length_cons]; omega, hi1⟩
                refine ⟨σ', RUs_tr hres f7, fun C h hr => ru_pre (by omega) h hT hP hi ⟨hk, hu24, ha10⟩ ?_⟩
                refine x_iload_n h dX10_readUnit_117 rfl ?_
                refine x_iconst h dX10_readUnit_118 ?_
                refine x_ic_eq_F (tgt := 134) h (by omega) dX10_readUnit_119 (by decide) (by omega) ?_
                refine x_iload_n h dX10_readUnit_122 rfl ?_
                refine x_bipush h dX10_readUnit_123 (by decide) ?_
                refine x_ic_eq_F (tgt := 134) h (by omega) dX10_readUnit_125 (by decide) (by omega) ?_
                refine x_iload_n h dX10_readUnit_128 rfl ?_
                refine x_bipush h dX10_readUnit_129 (by decide) ?_
                refine x_ic_ne_T (tgt := 138) h (by omega) dX10_readUnit_131 (by decide) (by omega) ?_
                refine x_iconst h dX10_readUnit_138 ?_
                refine x_istore_n h dX10_readUnit_139 (by decide) ?_
                refine x_aload_n h dX10_readUnit_140 rfl ?_
                refine x_dup h dX10_readUnit_141 rfl ?_
                refine x_get (q := vI (i)) h fl_10_199 lvz_10 dX10_readUnit_142 (congrArg vI (by first | exact hP1.1 | simp [up3, hP1.1])) ?_
                refine x_iconst h dX10_readUnit_145 ?_
                refine x_iadd h dX10_readUnit_146 ?_
                refine x_put h fl_10_199 lvz_10 dX10_readUnit_147 rfl (fun z => absurd z (by decide)) ?_
                rw [show ((i : Int) + 1) = ((i + 1 : Nat) : Int) from rfl, hτ2]
                refine x_iload_n h dX10_readUnit_150 rfl ?_
                refine x_iconst h dX10_readUnit_151 ?_
                refine x_ic_ne_T (tgt := 174) h (by omega) dX10_readUnit_152 (by decide) (by omega) ?_
                refine x_iload_n h dX10_readUnit_174 rfl ?_
                refine x_bipush h dX10_readUnit_175 (by decide) ?_
                refine x_ic_ne_T (tgt := 189) h (by omega) dX10_readUnit_177 (by decide) (by omega) ?_
                refine x_iload_n h dX10_readUnit_189 rfl ?_
                refine x_bipush h dX10_readUnit_190 (by decide) ?_
                refine x_ic_ne_T (tgt := 215) h (by omega) dX10_readUnit_192 (by decide) (by omega) ?_
                refine x_iload_n h dX10_readUnit_215 rfl ?_
                refine x_iconst h dX10_readUnit_216 ?_
                refine x_ic_ne_T (tgt := 267) h (by omega) dX10_readUnit_217 (by decide) (by omega) ?_
                refine x_aload_n h dX10_readUnit_267 rfl ?_
                refine x_iload_n h dX10_readUnit_268 rfl ?_
                refine x_bipush h dX10_readUnit_269 (by decide) ?_
                refine x_ic_ne_T (tgt := 278) h (by omega) dX10_readUnit_271 (by decide) (by omega) ?_
                refine x_bipush h dX10_readUnit_278 (by decide) ?_
                refine x_iconst h dX10_readUnit_280 ?_
                refine x_cV0 h kVX10_push lkX10_237 ⟨_, _, _, rfl, rfl⟩ dX10_readUnit_281 (hpu) lvz_10 rfl rfl (Nat.le_of_ble_eq_true rfl) (by omega) ?_
                refine x_aload_n h dX10_readUnit_284 rfl ?_
                refine x_dup h dX10_readUnit_285 rfl ?_
                refine x_get (q := vI (a)) h fl_10_230 lvz_10 dX10_readUnit_286 (congrArg vI (by first | exact g3.2.2.2.1 | simp [up3, g3.2.2.2.1])) ?_
                refine x_iconst h dX10_readUnit_289 ?_
                refine x_iadd h dX10_readUnit_290 ?_
                refine x_put h fl_10_230 lvz_10 dX10_readUnit_291 rfl (fun z => absurd z (by decide)) ?_
                refine x_goto (tgt := 2) h dX10_readUnit_294 (by decide) ?_
                exact hx C h hr _ ⟨rfl, rfl, trivial⟩
    · rw [if_pos hg]
      obtain ⟨σ', h1, h2⟩ := ru_bad hT hP hI.2.2.2 (by omega) (by omega) hg
      exact ⟨σ', h1, fun C h hr ls hls => h2 C 3 (by omega) h hr ls hls⟩
theorem m_readUnit {i u a : Nat} {A : List (Int × Int)} {S : List Fr3} {U : List Us3} {τ : Mm} (hu : u < 1000) (ha : a < 1000) (hT : TS B L N m τ) (hP : PRl τ i u a A S U) (hI : RIv B L 0 i u A S U) : ∃ σ', RUs B L τ σ' (rdU (tK B) (tV B) m 25 i u a A S U) ∧ Ct 3 mX10_readUnit 1 [vR 10 0] NALL τ none NALL σ' 0 0 := by
  obtain ⟨σ', hres, hx⟩ := ru_loop 25 i u a A S U τ (by omega) hu ha hT hP hI
  refine ⟨σ', hres, ?_⟩
  refine ct_of (by decide) (Nat.le_of_ble_eq_true rfl) (fun C h hr _ => ?_)
  have h : Ok C RX10 cX10_readUnit 3 _ := h
  refine x_iconst h dX10_readUnit_0 ?_
  refine x_istore_n h dX10_readUnit_1 (by decide) ?_
  exact hx C h hr _ ⟨rfl, rfl, trivial⟩
end RU
