/-! goOn, readSum of the reference -/
theorem cntA_le : ∀ S : List Fr3, cntA S ≤ S.length := by
  intro S
  induction S with
  | nil => exact Nat.le_refl _
  | cons z S ih => rw [cntA]; simp only [List.length_cons]; split <;> omega
def tpS (S : List Fr3) : Int := match S with
  | [] => 0
  | z :: _ => z.1
def FSt : List Fr3 → Prop
  | [] => True
  | z :: S => FSt S ∧ (isHi z.1 → ¬ isHi (tpS S) ∧ tpS S ≠ 5) ∧ (isLo z.1 → ¬ isHi (tpS S) ∧ ¬ isLo (tpS S) ∧ tpS S ≠ 5)
def QIv (B : Nat → Int) (L c : Nat) (s : PSt) : Prop := PIv B L c s ∧ FSt s.2.2.2.2.1
def QIr (B : Nat → Int) (L : Nat) (r : Nat ⊕ PSt) : Prop := match r with
  | .inl e => tq B e ≤ L
  | .inr s => QIv B L 1 s
theorem rdU_f {K V : Nat → Int} {m : Nat} : ∀ (n i u a : Nat) (A : List (Int × Int)) (S : List Fr3) (U : List Us3), FSt S → match rdU K V m n i u a A S U with | .inl _ => True | .inr s => FSt s.2.2.2.2.1 := by
  intro n
  induction n with
  | zero => intro i u a A S U h; trivial
  | succ n ih =>
    intro i u a A S U h
    have hb : ∀ k v : Int, (k = 5 ∨ k = 40 ∨ k = 91) → FSt ((k, 0, v) :: S) := fun k v hk => ⟨h, fun q => by have q : isHi k := q; omega, fun q => by have q : isLo k := q; omega⟩
    rw [rdU]
    by_cases h0 : ¬ (okK (K i) ∧ u < 24 ∧ a ≤ 10)
    · rw [if_pos h0]; trivial
    rw [if_neg h0]
    by_cases h1 : K i = 1
    · rw [if_pos h1]; exact h
    rw [if_neg h1]
    by_cases h8 : K i = 8
    · rw [if_pos h8]; exact h
    rw [if_neg h8]
    by_cases h35 : K i = 35
    · rw [if_pos h35]
      by_cases h2 : K (i + 1) = 2
      · rw [if_pos h2]; exact h
      · rw [if_neg h2]; trivial
    rw [if_neg h35]
    by_cases h2 : K i = 2
    · rw [if_pos h2]
      by_cases h91 : K (i + 1) = 91
      · rw [if_pos h91]; exact ih _ _ _ _ _ _ (hb 91 _ (by omega))
      · rw [if_neg h91]; trivial
    rw [if_neg h2]
    by_cases h45 : K i = 45
    · rw [if_pos h45]; exact ih _ _ _ _ _ _ (hb 5 _ (by omega))
    · rw [if_neg h45]; exact ih _ _ _ _ _ _ (hb 40 _ (by omega))
theorem rdU_q {B : Nat → Int} {L m i u a : Nat} {A : List (Int × Int)} {S : List Fr3} {U : List Us3} (h : BOk B L) (hI : QIv B L 0 (i, u, a, A, S, U)) : QIr B L (rdU (tK B) (tV B) m 25 i u a A S U) := by
  have h1 := rdU_p h (m := m) 25 i u a A S U hI.1
  have h2 := rdU_f (K := tK B) (V := tV B) (m := m) 25 i u a A S U hI.2
  cases hr : rdU (tK B) (tV B) m 25 i u a A S U with
  | inl e => rw [hr] at h1; exact h1
  | inr s => rw [hr] at h1 h2; exact ⟨h1, h2⟩
def TopOk (S : List Fr3) : Prop := ¬ isHi (tpS S) ∧ tpS S ≠ 5
theorem neg_f : ∀ (S : List Fr3) (A : List (Int × Int)) (a : Nat), FSt S → FSt (negP S A a).1 ∧ tpS (negP S A a).1 ≠ 5 := by
  intro S
  induction S with
  | nil => intro A a h; exact ⟨trivial, by show (0 : Int) ≠ 5; decide⟩
  | cons z S ih =>
    intro A a h
    unfold negP
    by_cases hz : z.1 = 5
    · rw [if_pos hz]; exact ih _ _ h.1
    · rw [if_neg hz]; exact ⟨h, hz⟩
theorem hi_f {S : List Fr3} {A : List (Int × Int)} (h : FSt S) (h5 : tpS S ≠ 5) : FSt (hiP S A).1 ∧ TopOk (hiP S A).1 := by
  unfold hiP
  cases S with
  | nil => exact ⟨trivial, by show ¬ isHi (0 : Int); omega, by show (0 : Int) ≠ 5; decide⟩
  | cons z S =>
    by_cases hz : isHi z.1
    · simp only [if_pos hz]
      exact ⟨h.1, h.2.1 hz⟩
    · simp only [if_neg hz]
      exact ⟨h, hz, h5⟩
theorem lo_f {S : List Fr3} {A : List (Int × Int)} (h : FSt S) (ht : TopOk S) : FSt (loP S A).1 ∧ TopOk (loP S A).1 ∧ ¬ isLo (tpS (loP S A).1) := by
  unfold loP
  cases S with
  | nil => exact ⟨trivial, ht, by show ¬ isLo (0 : Int); omega⟩
  | cons z S =>
    by_cases hz : isLo z.1
    · simp only [if_pos hz]
      obtain ⟨q1, q2, q3⟩ := h.2.2 hz
      exact ⟨h.1, ⟨q1, q3⟩, q2⟩
    · simp only [if_neg hz]
      exact ⟨h, ht, hz⟩
theorem enP_q {B : Nat → Int} {L : Nat} {s : PSt} (h : QIv B L 1 s) : QIv B L 1 (enP s) ∧ TopOk (enP s).2.2.2.2.1 := by
  obtain ⟨n1, n2⟩ := neg_f s.2.2.2.2.1 s.2.2.2.1 s.2.2.1 h.2
  obtain ⟨g1, g2⟩ := hi_f (A := (negP s.2.2.2.2.1 s.2.2.2.1 s.2.2.1).2.1) n1 n2
  exact ⟨⟨enP_p h.1, g1⟩, g2⟩
def QGr (B : Nat → Int) (L : Nat) (r : Nat ⊕ (Bool × PSt)) : Prop := match r with
  | .inl e => tq B e ≤ L
  | .inr (_, s) => QIv B L 1 s
theorem mapT_q {B : Nat → Int} {L : Nat} {r : Nat ⊕ PSt} (h : QIr B L r) : QGr B L (mapT r) := by
  cases r with
  | inl e => exact h
  | inr s => exact h
/-- what goOn gives to readUnit -/
theorem st_pre {B : Nat → Int} {L i u a : Nat} {A A' : List (Int × Int)} {S S' : List Fr3} {U : List Us3} (h : BOk B L) (hI : QIv B L 1 (i, u, a, A, S, U)) (hk : tK B i ≠ 0) (hl : A'.length + S'.length ≤ A.length + S.length + 1) (hs : S'.length ≤ S.length + 1) (hF : FOk S' A'.length) (hc : cntA S' = cntA S) (hf : FSt S') : QIv B L 0 (i + 1, u, a, A', S', U) := by
  obtain ⟨⟨⟨h1, h2, h3, h4⟩, hF0, hc0, hu⟩, hf0⟩ := hI
  have h1 : A.length + S.length ≤ i := h1
  have h3 : S.length + 1 ≤ u := h3
  have hc0 : a = cntA S := hc0
  exact ⟨⟨⟨by show A'.length + S'.length ≤ i + 1; omega, by show U.length ≤ i + 1; have h2 : U.length ≤ i := h2; omega, by show S'.length + 0 ≤ u; omega, adv_q h h4 hk⟩, hF, by show a = cntA S'; omega, hu⟩, hf⟩
section GO2
variable {B : Nat → Int} {L N m : Nat}
def GRs (B : Nat → Int) (L : Nat) (τ σ' : Mm) (r : Nat ⊕ (Bool × PSt)) (b : Int) : Prop := FrP σ' τ ∧ match r with
  | .inl e => FA B L σ' e ∧ b = 1
  | .inr (b', s) => PRs σ' s ∧ b = (if b' then 1 else 0)
theorem GRs_T {τ τ0 σ' : Mm} {r : Nat ⊕ PSt} (h : RUs B L τ σ' r) (hf : FrP τ τ0) : GRs B L τ0 σ' (mapT r) 1 := by
  refine ⟨FrP_tr h.1 hf, ?_⟩
  cases r with
  | inl e => exact ⟨h.2, rfl⟩
  | inr s => exact ⟨h.2, rfl⟩
/-- the end of a bracket -/
theorem st_close {i u a : Nat} {A A' : List (Int × Int)} {z : Fr3} {S : List Fr3} {U : List Us3} (h : BOk B L) (hI : QIv B L 1 (i, u, a, A, z :: S, U)) (hk : tK B i ≠ 0) (hz : z.1 = 5 ∨ z.1 = 40 ∨ z.1 = 91) (hl : A.length ≤ A'.length ∧ A'.length ≤ A.length + 1) : QIv B L 1 (i + 1, u, a - 1, A', S, U) ∧ 1 ≤ a := by
  obtain ⟨⟨⟨h1, h2, h3, h4⟩, hF0, hc0, hu⟩, hf0⟩ := hI
  have h1 : A.length + (S.length + 1) ≤ i := h1
  have h3 : S.length + 1 + 1 ≤ u := h3
  have hc0 : a = cntA (z :: S) := hc0
  rw [cntA, if_pos hz] at hc0
  exact ⟨⟨⟨⟨by show A'.length + S.length ≤ i + 1; omega, by show U.length ≤ i + 1; have h2 : U.length ≤ i := h2; omega, by show S.length + 1 ≤ u; omega, adv_q h h4 hk⟩, FOk_mono (FOk_tl hF0) hl.1, by show a - 1 = cntA S; omega, hu⟩, hf0.1⟩, by omega⟩
theorem lo_q {i u a : Nat} {A : List (Int × Int)} {S : List Fr3} {U : List Us3} (hI : QIv B L 1 (i, u, a, A, S, U)) (ht : TopOk S) : QIv B L 1 (i, u, a, (loP S A).2, (loP S A).1, U) ∧ TopOk (loP S A).1 ∧ ¬ isLo (tpS (loP S A).1) := by
  obtain ⟨⟨⟨h1, h2, h3, h4⟩, hF0, hc0, hu⟩, hf0⟩ := hI
  have hF0 : FOk S A.length := hF0
  have h1 : A.length + S.length ≤ i := h1
  have h3 : S.length + 1 ≤ u := h3
  have hc0 : a = cntA S := hc0
  obtain ⟨q1, q2, q3, q4, q5⟩ := lo_i hF0
  obtain ⟨f1, f2, f3⟩ := lo_f (A := A) hf0 ht
  exact ⟨⟨⟨⟨by show (loP S A).2.length + (loP S A).1.length ≤ i; omega, h2, by show (loP S A).1.length + 1 ≤ u; omega, h4⟩, q3, by show a = cntA (loP S A).1; omega, hu⟩, f1⟩, f2, f3⟩
/-- the dispatch: pure and in the machine at once -/
theorem ds_all {i u a : Nat} {A : List (Int × Int)} {S : List Fr3} {U : List Us3} {τ : Mm} (hT : TS B L N m τ) (hP : PRl τ i u a A S U) (hI : QIv B L 1 (i, u, a, A, S, U)) (ht : TopOk S) (hlo : ¬ isLo (tpS S)) : QGr B L (dsP (tK B) (tV B) m i u a A S U) ∧ ∃ b σ', GRs B L τ σ' (dsP (tK B) (tV B) m i u a A S U) b ∧ ∀ C : Cx, Ok C RX10 cX10_goOn 4 4 → Rt C 1 (some .boolean) (some (vI b)) NALL σ' 0 0 → X C 1 78 [(0, vR 10 0), (1, vI (tK B i))] [] NALL τ 0 0 := by
  have hB := hT.2.2.2.1
  have hL9 := hB.1
  cases S with
  | nil =>
    refine ⟨hI, 0, τ, ⟨FrP_refl τ, hP, rfl⟩, fun C h hr => ?_⟩
    refine x_aload_n h dX10_goOn_78 rfl ?_
    refine x_get (q := vI (0)) h fl_10_224 lvz_10 dX10_goOn_79 (congrArg vI (by first | exact hP.2.2.2.2.2.1.1 | simp [up3, hP.2.2.2.2.2.1.1])) ?_
    refine x_if_ne_F (tgt := 87) h (by omega) dX10_goOn_82 (by decide) (by omega) ?_
    refine x_iconst h dX10_goOn_85 ?_
    exact x_ireturn h hr dX10_goOn_86 (Or.inr ⟨rfl, by omega⟩) ⟨Nat.le_refl _, Nat.le_refl _⟩
  | cons z S =>
    have hI0 := hI
    obtain ⟨⟨⟨h1, h2, h3, h4⟩, hF0, hc0, hu⟩, hf0⟩ := hI
    have h1 : A.length + (S.length + 1) ≤ i := h1
    have h3 : S.length + 1 + 1 ≤ u := h3
    have h4 : tq B i ≤ L := h4
    have hu : u ≤ 24 := hu
    have hF0 : FOk (z :: S) A.length := hF0
    have hz := hF0 z List.mem_cons_self
    have hiL := tq_ge hB i
    have hzb : z.1 = 5 ∨ z.1 = 40 ∨ z.1 = 91 := by
      obtain ⟨t1, t2⟩ := ht
      have t1 : ¬ isHi z.1 := t1
      have hlo : ¬ isLo z.1 := hlo
      rcases hz.1 with q | q | q | q | q
      · exact Or.inl q
      · exact Or.inr (Or.inl q)
      · exact Or.inr (Or.inr q)
      · exact absurd q t1
      · exact absurd q hlo
    obtain ⟨t1, t2, t3, t4, t5, t6, t7, t8, t9⟩ := tok_in hT h4
    have e26 : τ 10 0 26 = ((S.length + 1 : Nat) : Int) := hP.2.2.2.2.2.1.1
    have ee : ((S.length + 1 : Nat) : Int) - 1 = S.length := by omega
    obtain ⟨s57, s58, s59, -⟩ := hP.2.2.2.2.2.1.2
    have htop := top_of (d := 0) hP (by omega)
    have ha1 : 1 ≤ a := by
      have hc0 : a = cntA (z :: S) := hc0
      rw [cntA, if_pos hzb] at hc0
      omega
    have ea : (a : Int) - 1 = ((a - 1 : Nat) : Int) := by omega
    have hz1 := hz.2.1
    have ha : a < 1000 := by
      have hc0 : a = cntA (z :: S) := hc0
      have := cntA_le (z :: S)
      simp only [List.length_cons] at this
      omega
    have head : ∀ C : Cx, Ok C RX10 cX10_goOn 4 4 → X C 1 105 [(0, vR 10 0), (1, vI (tK B i)), (2, vI z.2.1)] [vI 91, vI z.1] NALL τ 0 0 → X C 1 78 [(0, vR 10 0), (1, vI (tK B i))] [] NALL τ 0 0 := fun C h hx => by
      refine x_aload_n h dX10_goOn_78 rfl ?_
      refine x_get (q := vI (((S.length + 1 : Nat) : Int))) h fl_10_224 lvz_10 dX10_goOn_79 (congrArg vI (by first | exact e26 | simp [up3, e26])) ?_
      refine x_if_ne_T (tgt := 87) h (by omega) dX10_goOn_82 (by decide) (by omega) ?_
      refine x_aload_n h dX10_goOn_87 rfl ?_
      refine x_get h fl_10_70 lvz_10 dX10_goOn_88 (pvf_558 _ _) ?_
      refine x_aload_n h dX10_goOn_91 rfl ?_
      refine x_get (q := vI (((S.length + 1 : Nat) : Int))) h fl_10_224 lvz_10 dX10_goOn_92 (congrArg vI (by first | exact e26 | simp [up3, e26])) ?_
      refine x_iconst h dX10_goOn_95 ?_
      refine x_isub h dX10_goOn_96 ?_
      rw [ee]
      refine x_iald h kdf_58 lvz_58 dX10_goOn_97 rfl (by omega) ?_
      rw [s58]
      refine x_istore_n h dX10_goOn_98 (by decide) ?_
      refine x_aload_n h dX10_goOn_99 rfl ?_
      refine x_cV1 h kVX10_top lkX10_244 ⟨_, _, _, rfl, rfl⟩ dX10_goOn_100 (htop) lvz_10 rfl rfl (Nat.le_of_ble_eq_true rfl) (by omega) ?_
      refine x_bipush h dX10_goOn_103 (by decide) ?_
      exact x_loc (ls' := [(0, vR 10 0), (1, vI (tK B i)), (2, vI z.2.1)]) ⟨rfl, rfl, rfl, trivial⟩ hx
    unfold dsP
    by_cases h91 : z.1 = 91
    · simp only [if_pos h91]
      by_cases h93 : tK B i = 93
      · rw [if_pos h93]
        have htk := m_take1 (d := 0) (s := 93) hT hP.2.1 hP.1 h4 h93
        have hP1 : PRl (up3 τ 10 0 6 ((i : Int) + 1)) (i + 1) u a A (z :: S) U := PR_tok hP (i + 1)
        generalize hτ1 : up3 τ 10 0 6 ((i : Int) + 1) = τ1 at htk hP1
        have f1 : FrP τ1 τ := by rw [← hτ1]; exact FrP_up (FrP_refl τ) _ (by omega)
        obtain ⟨g1, g2⟩ := PR_emit hP1 4 z.2.2
        have hem := m_emit (d := 0) (n := A.length) (x := 4) (v := z.2.2) hP1.2.2.2.2.1.1 (by omega)
        have g3 := PR_a (PR_pop g1) (a - 1)
        have e26b : τ1 10 0 26 = ((S.length + 1 : Nat) : Int) := hP1.2.2.2.2.2.1.1
        have s59b : τ1 59 0 S.length = z.2.2 := hP1.2.2.2.2.2.1.2.2.2.1
        have e26c : emS τ1 A.length 4 z.2.2 10 0 26 = ((S.length + 1 : Nat) : Int) := g1.2.2.2.2.2.1.1
        have hz2 := hz.2.2.1
        refine ⟨(st_close hB hI0 (by omega) hzb (by simp)).1, 1, _, ⟨FrP_up (FrP_up (FrP_tr g2 f1) _ (by omega)) _ (by omega), g3, rfl⟩, fun C h hr => head C h ?_⟩
        refine x_ic_ne_F (tgt := 157) h (by omega) dX10_goOn_105 (by decide) (by omega) ?_
        refine x_aload_n h dX10_goOn_108 rfl ?_
        refine x_bipush h dX10_goOn_109 (by decide) ?_
        refine x_cV1 h kVX10_take lkX10_241 ⟨_, _, _, rfl, rfl⟩ dX10_goOn_111 (htk) lvz_10 rfl rfl (Nat.le_of_ble_eq_true rfl) (by omega) ?_
        refine x_if_eq_F (tgt := 402) h (by omega) dX10_goOn_114 (by decide) (by omega) ?_
        refine x_aload_n h dX10_goOn_117 rfl ?_
        refine x_iconst h dX10_goOn_118 ?_
        refine x_aload_n h dX10_goOn_119 rfl ?_
        refine x_get h fl_10_73 lvz_10 dX10_goOn_120 (pvf_559 _ _) ?_
        refine x_aload_n h dX10_goOn_123 rfl ?_
        refine x_get (q := vI (((S.length + 1 : Nat) : Int))) h fl_10_224 lvz_10 dX10_goOn_124 (congrArg vI (by first | exact e26b | simp [up3, e26b])) ?_
        refine x_iconst h dX10_goOn_127 ?_
        refine x_isub h dX10_goOn_128 ?_
        rw [ee]
        refine x_iald h kdf_59 lvz_59 dX10_goOn_129 rfl (by omega) ?_
        rw [s59b]
        refine x_i2l h (by omega) dX10_goOn_130 ?_
        refine x_cV0 h kVX10_emit lkX10_233 ⟨_, _, _, rfl, rfl⟩ dX10_goOn_131 (hem) lvz_10 rfl rfl (Nat.le_of_ble_eq_true rfl) (by omega) ?_
        refine x_aload_n h dX10_goOn_134 rfl ?_
        refine x_dup h dX10_goOn_135 rfl ?_
        refine x_get (q := vI (((S.length + 1 : Nat) : Int))) h fl_10_224 lvz_10 dX10_goOn_136 (congrArg vI (by first | exact e26c | simp [up3, e26c])) ?_
        refine x_iconst h dX10_goOn_139 ?_
        refine x_isub h dX10_goOn_140 ?_
        rw [ee]
        refine x_put h fl_10_224 lvz_10 dX10_goOn_141 rfl (fun z => absurd z (by decide)) ?_
        refine x_aload_n h dX10_goOn_144 rfl ?_
        refine x_dup h dX10_goOn_145 rfl ?_
        refine x_get (q := vI (a)) h fl_10_230 lvz_10 dX10_goOn_146 (congrArg vI (by first | exact (PR_pop g1).2.2.2.1 | simp [up3, (PR_pop g1).2.2.2.1])) ?_
        refine x_iconst h dX10_goOn_149 ?_
        refine x_isub h dX10_goOn_150 ?_
        rw [ea]
        refine x_put h fl_10_230 lvz_10 dX10_goOn_151 rfl (fun z => absurd z (by decide)) ?_
        refine x_goto (tgt := 402) h dX10_goOn_154 (by decide) ?_
        refine x_iconst h dX10_goOn_402 ?_
        exact x_ireturn h hr dX10_goOn_403 (Or.inr ⟨rfl, by omega⟩) ⟨Nat.le_refl _, Nat.le_refl _⟩
      · rw [if_neg h93]
        have htk := m_take0 (d := 0) (s := 93) hT hP.2.1 hP.1 h4 (by omega) h93
        refine ⟨h4, 1, _, ⟨FrP_up (FrP_refl τ) _ (by omega), ⟨by rw [up3_n _ (by omega)]; exact hP.1, up3_s _ _ _ _ _, h4⟩, rfl⟩, fun C h hr => head C h ?_⟩
        refine x_ic_ne_F (tgt := 157) h (by omega) dX10_goOn_105 (by decide) (by omega) ?_
        refine x_aload_n h dX10_goOn_108 rfl ?_
        refine x_bipush h dX10_goOn_109 (by decide) ?_
        refine x_cV1 h kVX10_take lkX10_241 ⟨_, _, _, rfl, rfl⟩ dX10_goOn_111 (htk) lvz_10 rfl rfl (Nat.le_of_ble_eq_true rfl) (by omega) ?_
        refine x_if_eq_T (tgt := 402) h (by omega) dX10_goOn_114 (by decide) (by omega) ?_
        refine x_iconst h dX10_goOn_402 ?_
        exact x_ireturn h hr dX10_goOn_403 (Or.inr ⟨rfl, by omega⟩) ⟨Nat.le_refl _, Nat.le_refl _⟩
    · simp only [if_neg h91]
      have hFt := FOk_tl hF0
      have cn : ∀ y : Fr3, y.1 = z.1 → cntA (y :: S) = cntA (z :: S) := fun y hy => by rw [cntA, cntA, hy]
      have fs : ∀ y : Fr3, y.1 = z.1 → FSt (y :: S) := fun y hy => ⟨hf0.1, by rw [hy]; exact hf0.2.1, by rw [hy]; exact hf0.2.2⟩
      by_cases h60 : z.2.1 = 0 ∧ tK B i = 60
      · simp only [if_pos h60]
        obtain ⟨g1, g2⟩ := PR_stage hP 1
        have g3 : PRl (up3 (up3 τ 58 0 S.length 1) 10 0 6 ((i + 1 : Nat) : Int)) (i + 1) u a A ((z.1, 1, z.2.2) :: S) U := PR_tok g1 (i + 1)
        have f3 : FrP (up3 (up3 τ 58 0 S.length 1) 10 0 6 ((i + 1 : Nat) : Int)) τ := FrP_up g2 _ (by omega)
        have hpre := st_pre (A' := A) (S' := (z.1, 1, z.2.2) :: S) hB hI0 (by omega) (by simp) (by simp) (FOk_cons hFt ⟨hz.1, by show (0 : Int) ≤ 1 ∧ (1 : Int) ≤ 3; omega, hz.2.2.1, fun q => by have q : (1 : Int) = 2 ∨ (1 : Int) = 3 := q; omega⟩) (cn _ rfl) (fs _ rfl)
        obtain ⟨σ', hres, hct⟩ := m_readUnit (m := m) (by omega) ha (TS_fr hT f3) g3 hpre.1.1
        refine ⟨mapT_q (rdU_q hB hpre), 1, σ', GRs_T hres f3, fun C h hr => head C h ?_⟩
        have e26c : up3 τ 58 0 S.length 1 10 0 6 = i := g1.1
        obtain ⟨h60a, h60b⟩ := h60
        refine x_ic_ne_T (tgt := 157) h (by omega) dX10_goOn_105 (by decide) (by omega) ?_
        refine x_iload_n h dX10_goOn_157 rfl ?_
        refine x_if_ne_F (tgt := 196) h (by omega) dX10_goOn_158 (by decide) (by omega) ?_
        refine x_iload_n h dX10_goOn_161 rfl ?_
        refine x_bipush h dX10_goOn_162 (by decide) ?_
        refine x_ic_ne_F (tgt := 196) h (by omega) dX10_goOn_164 (by decide) (by omega) ?_
        refine x_aload_n h dX10_goOn_167 rfl ?_
        refine x_get h fl_10_70 lvz_10 dX10_goOn_168 (pvf_558 _ _) ?_
        refine x_aload_n h dX10_goOn_171 rfl ?_
        refine x_get (q := vI (((S.length + 1 : Nat) : Int))) h fl_10_224 lvz_10 dX10_goOn_172 (congrArg vI (by first | exact e26 | simp [up3, e26])) ?_
        refine x_iconst h dX10_goOn_175 ?_
        refine x_isub h dX10_goOn_176 ?_
        rw [ee]
        refine x_iconst h dX10_goOn_177 ?_
        refine x_iast h kdf_58 lvz_58 dX10_goOn_178 rfl (by omega) ?_
        refine x_aload_n h dX10_goOn_179 rfl ?_
        refine x_dup h dX10_goOn_180 rfl ?_
        refine x_get (q := vI (i)) h fl_10_199 lvz_10 dX10_goOn_181 (congrArg vI (by first | exact e26c | simp [up3, e26c])) ?_
        refine x_iconst h dX10_goOn_184 ?_
        refine x_iadd h dX10_goOn_185 ?_
        refine x_put h fl_10_199 lvz_10 dX10_goOn_186 rfl (fun z => absurd z (by decide)) ?_
        refine x_aload_n h dX10_goOn_189 rfl ?_
        refine x_cV0 h kVX10_readUnit lkX10_257 ⟨_, _, _, rfl, rfl⟩ dX10_goOn_190 (hct) lvz_10 rfl rfl (Nat.le_of_ble_eq_true rfl) (by omega) ?_
        refine x_goto (tgt := 402) h dX10_goOn_193 (by decide) ?_
        refine x_iconst h dX10_goOn_402 ?_
        exact x_ireturn h hr dX10_goOn_403 (Or.inr ⟨rfl, by omega⟩) ⟨Nat.le_refl _, Nat.le_refl _⟩
      · simp only [if_neg h60]
        by_cases h63 : z.2.1 = 0 ∧ tK B i = 63
        · simp only [if_pos h63]
          obtain ⟨g1, g2⟩ := PR_stage hP 2
          obtain ⟨g3, g4⟩ := PR_at g1 (A.length : Int)
          have e16 : up3 τ 58 0 S.length 2 10 0 16 = A.length := g1.2.2.2.2.1.1
          have e26a : up3 τ 58 0 S.length 2 10 0 26 = ((S.length + 1 : Nat) : Int) := g1.2.2.2.2.2.1.1
          generalize hτ2 : up3 (up3 τ 58 0 S.length 2) 59 0 S.length (A.length : Int) = τ2 at g3 g4
          obtain ⟨g5, g6⟩ := PR_emit g3 12 0
          have hem := m_emit (d := 0) (n := A.length) (x := 12) (v := 0) g3.2.2.2.2.1.1 (by omega)
          generalize hτ3 : emS τ2 A.length 12 0 = τ3 at g5 g6 hem
          have g7 : PRl (up3 τ3 10 0 6 ((i + 1 : Nat) : Int)) (i + 1) u a (A ++ [(12, 0)]) ((z.1, 2, (A.length : Int)) :: S) U := PR_tok g5 (i + 1)
          have f3 : FrP (up3 τ3 10 0 6 ((i + 1 : Nat) : Int)) τ := FrP_up (FrP_tr g6 (FrP_tr g4 g2)) _ (by omega)
          have hpre := st_pre (A' := A ++ [(12, 0)]) (S' := (z.1, 2, (A.length : Int)) :: S) hB hI0 (by omega) (by simp only [List.length_append, List.length_cons, List.length_nil]; omega) (by simp) (FOk_cons (FOk_mono hFt (by simp)) ⟨hz.1, by show (0 : Int) ≤ 2 ∧ (2 : Int) ≤ 3; omega, by show (0 : Int) ≤ (A.length : Int) ∧ (A.length : Int) ≤ 900; omega, fun _ => by show (A.length : Int) < _; simp only [List.length_append, List.length_cons, List.length_nil]; omega⟩) (cn _ rfl) (fs _ rfl)
          obtain ⟨σ', hres, hct⟩ := m_readUnit (m := m) (by omega) ha (TS_fr hT f3) g7 hpre.1.1
          refine ⟨mapT_q (rdU_q hB hpre), 1, σ', GRs_T hres f3, fun C h hr => head C h ?_⟩
          obtain ⟨h63a, h63b⟩ := h63
          refine x_ic_ne_T (tgt := 157) h (by omega) dX10_goOn_105 (by decide) (by omega) ?_
          refine x_iload_n h dX10_goOn_157 rfl ?_
          refine x_if_ne_F (tgt := 196) h (by omega) dX10_goOn_158 (by decide) (by omega) ?_
          refine x_iload_n h dX10_goOn_161 rfl ?_
          refine x_bipush h dX10_goOn_162 (by decide) ?_
          refine x_ic_ne_T (tgt := 196) h (by omega) dX10_goOn_164 (by decide) (by omega) ?_
          refine x_iload_n h dX10_goOn_196 rfl ?_
          refine x_if_ne_F (tgt := 257) h (by omega) dX10_goOn_197 (by decide) (by omega) ?_
          refine x_iload_n h dX10_goOn_200 rfl ?_
          refine x_bipush h dX10_goOn_201 (by decide) ?_
          refine x_ic_ne_F (tgt := 257) h (by omega) dX10_goOn_203 (by decide) (by omega) ?_
          refine x_aload_n h dX10_goOn_206 rfl ?_
          refine x_get h fl_10_70 lvz_10 dX10_goOn_207 (pvf_558 _ _) ?_
          refine x_aload_n h dX10_goOn_210 rfl ?_
          refine x_get (q := vI (((S.length + 1 : Nat) : Int))) h fl_10_224 lvz_10 dX10_goOn_211 (congrArg vI (by first | exact e26 | simp [up3, e26])) ?_
          refine x_iconst h dX10_goOn_214 ?_
          refine x_isub h dX10_goOn_215 ?_
          rw [ee]
          refine x_iconst h dX10_goOn_216 ?_
          refine x_iast h kdf_58 lvz_58 dX10_goOn_217 rfl (by omega) ?_
          refine x_aload_n h dX10_goOn_218 rfl ?_
          refine x_get h fl_10_73 lvz_10 dX10_goOn_219 (pvf_559 _ _) ?_
          refine x_aload_n h dX10_goOn_222 rfl ?_
          refine x_get (q := vI (((S.length + 1 : Nat) : Int))) h fl_10_224 lvz_10 dX10_goOn_223 (congrArg vI (by first | exact e26a | simp [up3, e26a])) ?_
          refine x_iconst h dX10_goOn_226 ?_
          refine x_isub h dX10_goOn_227 ?_
          rw [ee]
          refine x_aload_n h dX10_goOn_228 rfl ?_
          refine x_get (q := vI (A.length)) h fl_10_206 lvz_10 dX10_goOn_229 (congrArg vI (by first | exact e16 | simp [up3, e16])) ?_
          refine x_iast h kdf_59 lvz_59 dX10_goOn_232 rfl (by omega) ?_
          rw [hτ2]
          refine x_aload_n h dX10_goOn_233 rfl ?_
          refine x_bipush h dX10_goOn_234 (by decide) ?_
          refine x_lconst0 h dX10_goOn_236 ?_
          refine x_cV0 h kVX10_emit lkX10_233 ⟨_, _, _, rfl, rfl⟩ dX10_goOn_237 (hem) lvz_10 rfl rfl (Nat.le_of_ble_eq_true rfl) (by omega) ?_
          refine x_aload_n h dX10_goOn_240 rfl ?_
          refine x_dup h dX10_goOn_241 rfl ?_
          refine x_get (q := vI (i)) h fl_10_199 lvz_10 dX10_goOn_242 (congrArg vI (by first | exact g5.1 | simp [up3, g5.1])) ?_
          refine x_iconst h dX10_goOn_245 ?_
          refine x_iadd h dX10_goOn_246 ?_
          refine x_put h fl_10_199 lvz_10 dX10_goOn_247 rfl (fun z => absurd z (by decide)) ?_
          refine x_aload_n h dX10_goOn_250 rfl ?_
          refine x_cV0 h kVX10_readUnit lkX10_257 ⟨_, _, _, rfl, rfl⟩ dX10_goOn_251 (hct) lvz_10 rfl rfl (Nat.le_of_ble_eq_true rfl) (by omega) ?_
          refine x_goto (tgt := 402) h dX10_goOn_254 (by decide) ?_
          refine x_iconst h dX10_goOn_402 ?_
          exact x_ireturn h hr dX10_goOn_403 (Or.inr ⟨rfl, by omega⟩) ⟨Nat.le_refl _, Nat.le_refl _⟩
        · simp only [if_neg h63]
          by_cases hs2 : z.2.1 = 2
          · simp only [if_pos hs2]
            by_cases h58 : tK B i = 58
            · simp only [if_pos h58]
              have htk := m_take1 (d := 0) (s := 58) hT hP.2.1 hP.1 h4 h58
              have hP1 : PRl (up3 τ 10 0 6 ((i : Int) + 1)) (i + 1) u a A (z :: S) U := PR_tok hP (i + 1)
              have f1 : FrP (up3 τ 10 0 6 ((i : Int) + 1)) τ := FrP_up (FrP_refl τ) _ (by omega)
              generalize hτ1 : up3 τ 10 0 6 ((i : Int) + 1) = τ1 at htk hP1 f1
              have e26b : τ1 10 0 26 = ((S.length + 1 : Nat) : Int) := hP1.2.2.2.2.2.1.1
              have s59b : τ1 59 0 S.length = z.2.2 := hP1.2.2.2.2.2.1.2.2.2.1
              obtain ⟨g1, g2⟩ := PR_stage hP1 3
              obtain ⟨g3, g4⟩ := PR_at g1 (A.length : Int)
              have e26c : up3 τ1 58 0 S.length 3 10 0 26 = ((S.length + 1 : Nat) : Int) := g1.2.2.2.2.2.1.1
              have e16 : up3 τ1 58 0 S.length 3 10 0 16 = A.length := g1.2.2.2.2.1.1
              generalize hτ2 : up3 (up3 τ1 58 0 S.length 3) 59 0 S.length (A.length : Int) = τ2 at g3 g4
              obtain ⟨g5, g6⟩ := PR_emit g3 13 0
              have hem := m_emit (d := 0) (n := A.length) (x := 13) (v := 0) g3.2.2.2.2.1.1 (by omega)
              generalize hτ3 : emS τ2 A.length 13 0 = τ3 at g5 g6 hem
              have hlt := hz.2.2.2 (Or.inl hs2)
              have hz0 := hz.2.2.1
              obtain ⟨q, hq⟩ := Int.eq_ofNat_of_zero_le hz0.1
              have hqt : z.2.2.toNat = q := by omega
              have hl1 : (A ++ [((13 : Int), (0 : Int))]).length = A.length + 1 := by simp
              obtain ⟨g7, g8⟩ := PR_patch g5 (j := q) (by omega) ((A.length + 1 : Nat) : Int)
              have e16c : τ3 10 0 16 = ((A.length + 1 : Nat) : Int) := by rw [g5.2.2.2.2.1.1, hl1]
              have f3 : FrP (up3 τ3 48 0 q ((A.length + 1 : Nat) : Int)) τ := FrP_tr g8 (FrP_tr g6 (FrP_tr g4 (FrP_tr g2 f1)))
              have hpre := st_pre (A' := patch (A ++ [(13, 0)]) q ((A.length + 1 : Nat) : Int)) (S' := (z.1, 3, (A.length : Int)) :: S) hB hI0 (by omega) (by rw [patch_len, hl1]; simp only [List.length_cons]; omega) (by simp) (by rw [patch_len, hl1]; exact FOk_cons (FOk_mono hFt (by omega)) ⟨hz.1, by show (0 : Int) ≤ 3 ∧ (3 : Int) ≤ 3; omega, by show (0 : Int) ≤ (A.length : Int) ∧ (A.length : Int) ≤ 900; omega, fun _ => by show (A.length : Int) < ((A.length + 1 : Nat) : Int); omega⟩) (cn _ rfl) (fs _ rfl)
              obtain ⟨σ', hres, hct⟩ := m_readUnit (m := m) (by omega) ha (TS_fr hT f3) g7 hpre.1.1
              rw [hqt]
              refine ⟨mapT_q (rdU_q hB hpre), 1, σ', GRs_T hres f3, fun C h hr => head C h ?_⟩
              refine x_ic_ne_T (tgt := 157) h (by omega) dX10_goOn_105 (by decide) (by omega) ?_
              refine x_iload_n h dX10_goOn_157 rfl ?_
              refine x_if_ne_T (tgt := 196) h (by omega) dX10_goOn_158 (by decide) (by omega) ?_
              refine x_iload_n h dX10_goOn_196 rfl ?_
              refine x_if_ne_T (tgt := 257) h (by omega) dX10_goOn_197 (by decide) (by omega) ?_
              refine x_iload_n h dX10_goOn_257 rfl ?_
              refine x_iconst h dX10_goOn_258 ?_
              refine x_ic_ne_F (tgt := 335) h (by omega) dX10_goOn_259 (by decide) (by omega) ?_
              refine x_aload_n h dX10_goOn_262 rfl ?_
              refine x_bipush h dX10_goOn_263 (by decide) ?_
              refine x_cV1 h kVX10_take lkX10_241 ⟨_, _, _, rfl, rfl⟩ dX10_goOn_265 (htk) lvz_10 rfl rfl (Nat.le_of_ble_eq_true rfl) (by omega) ?_
              refine x_if_eq_F (tgt := 402) h (by omega) dX10_goOn_268 (by decide) (by omega) ?_
              refine x_aload_n h dX10_goOn_271 rfl ?_
              refine x_get h fl_10_73 lvz_10 dX10_goOn_272 (pvf_559 _ _) ?_
              refine x_aload_n h dX10_goOn_275 rfl ?_
              refine x_get (q := vI (((S.length + 1 : Nat) : Int))) h fl_10_224 lvz_10 dX10_goOn_276 (congrArg vI (by first | exact e26b | simp [up3, e26b])) ?_
              refine x_iconst h dX10_goOn_279 ?_
              refine x_isub h dX10_goOn_280 ?_
              rw [ee]
              refine x_iald h kdf_59 lvz_59 dX10_goOn_281 rfl (by omega) ?_
              rw [s59b, hq]
              refine x_istore_n h dX10_goOn_282 (by decide) ?_
              refine x_aload_n h dX10_goOn_283 rfl ?_
              refine x_get h fl_10_70 lvz_10 dX10_goOn_284 (pvf_558 _ _) ?_
              refine x_aload_n h dX10_goOn_287 rfl ?_
              refine x_get (q := vI (((S.length + 1 : Nat) : Int))) h fl_10_224 lvz_10 dX10_goOn_288 (congrArg vI (by first | exact e26b | simp [up3, e26b])) ?_
              refine x_iconst h dX10_goOn_291 ?_
              refine x_isub h dX10_goOn_292 ?_
              rw [ee]
              refine x_iconst h dX10_goOn_293 ?_
              refine x_iast h kdf_58 lvz_58 dX10_goOn_294 rfl (by omega) ?_
              refine x_aload_n h dX10_goOn_295 rfl ?_
              refine x_get h fl_10_73 lvz_10 dX10_goOn_296 (pvf_559 _ _) ?_
              refine x_aload_n h dX10_goOn_299 rfl ?_
              refine x_get (q := vI (((S.length + 1 : Nat) : Int))) h fl_10_224 lvz_10 dX10_goOn_300 (congrArg vI (by first | exact e26c | simp [up3, e26c])) ?_
              refine x_iconst h dX10_goOn_303 ?_
              refine x_isub h dX10_goOn_304 ?_
              rw [ee]
              refine x_aload_n h dX10_goOn_305 rfl ?_
              refine x_get (q := vI (A.length)) h fl_10_206 lvz_10 dX10_goOn_306 (congrArg vI (by first | exact e16 | simp [up3, e16])) ?_
              refine x_iast h kdf_59 lvz_59 dX10_goOn_309 rfl (by omega) ?_
              rw [hτ2]
              refine x_aload_n h dX10_goOn_310 rfl ?_
              refine x_bipush h dX10_goOn_311 (by decide) ?_
              refine x_lconst0 h dX10_goOn_313 ?_
              refine x_cV0 h kVX10_emit lkX10_233 ⟨_, _, _, rfl, rfl⟩ dX10_goOn_314 (hem) lvz_10 rfl rfl (Nat.le_of_ble_eq_true rfl) (by omega) ?_
              refine x_aload_n h dX10_goOn_317 rfl ?_
              refine x_get h fl_10_49 lvz_10 dX10_goOn_318 (pvf_548 _ _) ?_
              refine x_iload_n h dX10_goOn_321 rfl ?_
              refine x_aload_n h dX10_goOn_322 rfl ?_
              refine x_get (q := vI (((A.length + 1 : Nat) : Int))) h fl_10_206 lvz_10 dX10_goOn_323 (congrArg vI (by first | exact e16c | simp [up3, e16c])) ?_
              refine x_i2l h (by omega) dX10_goOn_326 ?_
              refine x_last h kdf_48 lvz_48 dX10_goOn_327 rfl (by omega) ?_
              refine x_aload_n h dX10_goOn_328 rfl ?_
              refine x_cV0 h kVX10_readUnit lkX10_257 ⟨_, _, _, rfl, rfl⟩ dX10_goOn_329 (hct) lvz_10 rfl rfl (Nat.le_of_ble_eq_true rfl) (by omega) ?_
              refine x_goto (tgt := 402) h dX10_goOn_332 (by decide) ?_
              refine x_iconst h dX10_goOn_402 ?_
              exact x_ireturn h hr dX10_goOn_403 (Or.inr ⟨rfl, by omega⟩) ⟨Nat.le_refl _, Nat.le_refl _⟩
            · simp only [if_neg h58]
              have htk := m_take0 (d := 0) (s := 58) hT hP.2.1 hP.1 h4 (by omega) h58
              refine ⟨h4, 1, _, ⟨FrP_up (FrP_refl τ) _ (by omega), ⟨by rw [up3_n _ (by omega)]; exact hP.1, up3_s _ _ _ _ _, h4⟩, rfl⟩, fun C h hr => head C h ?_⟩
              refine x_ic_ne_T (tgt := 157) h (by omega) dX10_goOn_105 (by decide) (by omega) ?_
              refine x_iload_n h dX10_goOn_157 rfl ?_
              refine x_if_ne_T (tgt := 196) h (by omega) dX10_goOn_158 (by decide) (by omega) ?_
              refine x_iload_n h dX10_goOn_196 rfl ?_
              refine x_if_ne_T (tgt := 257) h (by omega) dX10_goOn_197 (by decide) (by omega) ?_
              refine x_iload_n h dX10_goOn_257 rfl ?_
              refine x_iconst h dX10_goOn_258 ?_
              refine x_ic_ne_F (tgt := 335) h (by omega) dX10_goOn_259 (by decide) (by omega) ?_
              refine x_aload_n h dX10_goOn_262 rfl ?_
              refine x_bipush h dX10_goOn_263 (by decide) ?_
              refine x_cV1 h kVX10_take lkX10_241 ⟨_, _, _, rfl, rfl⟩ dX10_goOn_265 (htk) lvz_10 rfl rfl (Nat.le_of_ble_eq_true rfl) (by omega) ?_
              refine x_if_eq_T (tgt := 402) h (by omega) dX10_goOn_268 (by decide) (by omega) ?_
              refine x_iconst h dX10_goOn_402 ?_
              exact x_ireturn h hr dX10_goOn_403 (Or.inr ⟨rfl, by omega⟩) ⟨Nat.le_refl _, Nat.le_refl _⟩
          · simp only [if_neg hs2]
            have mid : ∀ C : Cx, Ok C RX10 cX10_goOn 4 4 → X C 1 335 [(0, vR 10 0), (1, vI (tK B i)), (2, vI z.2.1)] [] NALL τ 0 0 → X C 1 105 [(0, vR 10 0), (1, vI (tK B i)), (2, vI z.2.1)] [vI 91, vI z.1] NALL τ 0 0 := fun C h hx => by
              by_cases hz0 : z.2.1 = 0
              · refine x_ic_ne_T (tgt := 157) h (by omega) dX10_goOn_105 (by decide) (by omega) ?_
                refine x_iload_n h dX10_goOn_157 rfl ?_
                refine x_if_ne_F (tgt := 196) h (by omega) dX10_goOn_158 (by decide) (by omega) ?_
                refine x_iload_n h dX10_goOn_161 rfl ?_
                refine x_bipush h dX10_goOn_162 (by decide) ?_
                refine x_ic_ne_T (tgt := 196) h (by omega) dX10_goOn_164 (by decide) (by omega) ?_
                refine x_iload_n h dX10_goOn_196 rfl ?_
                refine x_if_ne_F (tgt := 257) h (by omega) dX10_goOn_197 (by decide) (by omega) ?_
                refine x_iload_n h dX10_goOn_200 rfl ?_
                refine x_bipush h dX10_goOn_201 (by decide) ?_
                refine x_ic_ne_T (tgt := 257) h (by omega) dX10_goOn_203 (by decide) (by omega) ?_
                refine x_iload_n h dX10_goOn_257 rfl ?_
                refine x_iconst h dX10_goOn_258 ?_
                refine x_ic_ne_T (tgt := 335) h (by omega) dX10_goOn_259 (by decide) (by omega) ?_
                exact hx
              · refine x_ic_ne_T (tgt := 157) h (by omega) dX10_goOn_105 (by decide) (by omega) ?_
                refine x_iload_n h dX10_goOn_157 rfl ?_
                refine x_if_ne_T (tgt := 196) h (by omega) dX10_goOn_158 (by decide) (by omega) ?_
                refine x_iload_n h dX10_goOn_196 rfl ?_
                refine x_if_ne_T (tgt := 257) h (by omega) dX10_goOn_197 (by decide) (by omega) ?_
                refine x_iload_n h dX10_goOn_257 rfl ?_
                refine x_iconst h dX10_goOn_258 ?_
                refine x_ic_ne_T (tgt := 335) h (by omega) dX10_goOn_259 (by decide) (by omega) ?_
                exact hx
            by_cases h41 : tK B i = 41
            · simp only [if_pos h41]
              have htk := m_take1 (d := 0) (s := 41) hT hP.2.1 hP.1 h4 h41
              have hP1 : PRl (up3 τ 10 0 6 ((i : Int) + 1)) (i + 1) u a A (z :: S) U := PR_tok hP (i + 1)
              have f1 : FrP (up3 τ 10 0 6 ((i : Int) + 1)) τ := FrP_up (FrP_refl τ) _ (by omega)
              generalize hτ1 : up3 τ 10 0 6 ((i : Int) + 1) = τ1 at htk hP1 f1
              have e26b : τ1 10 0 26 = ((S.length + 1 : Nat) : Int) := hP1.2.2.2.2.2.1.1
              have s59b : τ1 59 0 S.length = z.2.2 := hP1.2.2.2.2.2.1.2.2.2.1
              have close : ∀ (A' : List (Int × Int)) (τ2 : Mm), PRl τ2 (i + 1) u a A' (z :: S) U → FrP τ2 τ → (PRs (up3 (up3 τ2 10 0 26 (S.length : Int)) 10 0 31 ((a - 1 : Nat) : Int)) (i + 1, u, a - 1, A', S, U)) ∧ FrP (up3 (up3 τ2 10 0 26 (S.length : Int)) 10 0 31 ((a - 1 : Nat) : Int)) τ ∧ ∀ C : Cx, Ok C RX10 cX10_goOn 4 4 → Rt C 1 (some .boolean) (some (vI 1)) NALL (up3 (up3 τ2 10 0 26 (S.length : Int)) 10 0 31 ((a - 1 : Nat) : Int)) 0 0 → X C 1 382 [(0, vR 10 0), (1, vI (tK B i)), (2, vI z.2.1)] [] NALL τ2 0 0 := fun A' τ2 g hf => by
                have g3 := PR_a (PR_pop g) (a - 1)
                have e26d : τ2 10 0 26 = ((S.length + 1 : Nat) : Int) := g.2.2.2.2.2.1.1
                refine ⟨g3, FrP_up (FrP_up hf _ (by omega)) _ (by omega), fun C h hr => ?_⟩
                refine x_aload_n h dX10_goOn_382 rfl ?_
                refine x_dup h dX10_goOn_383 rfl ?_
                refine x_get (q := vI (((S.length + 1 : Nat) : Int))) h fl_10_224 lvz_10 dX10_goOn_384 (congrArg vI (by first | exact e26d | simp [up3, e26d])) ?_
                refine x_iconst h dX10_goOn_387 ?_
                refine x_isub h dX10_goOn_388 ?_
                rw [ee]
                refine x_put h fl_10_224 lvz_10 dX10_goOn_389 rfl (fun z => absurd z (by decide)) ?_
                refine x_aload_n h dX10_goOn_392 rfl ?_
                refine x_dup h dX10_goOn_393 rfl ?_
                refine x_get (q := vI (a)) h fl_10_230 lvz_10 dX10_goOn_394 (congrArg vI (by first | exact (PR_pop g).2.2.2.1 | simp [up3, (PR_pop g).2.2.2.1])) ?_
                refine x_iconst h dX10_goOn_397 ?_
                refine x_isub h dX10_goOn_398 ?_
                rw [ea]
                refine x_put h fl_10_230 lvz_10 dX10_goOn_399 rfl (fun z => absurd z (by decide)) ?_
                refine x_iconst h dX10_goOn_402 ?_
                exact x_ireturn h hr dX10_goOn_403 (Or.inr ⟨rfl, by omega⟩) ⟨Nat.le_refl _, Nat.le_refl _⟩
              by_cases hs1 : z.2.1 = 1
              · simp only [if_pos hs1]
                obtain ⟨g1, g2⟩ := PR_emit hP1 11 0
                have hem := m_emit (d := 0) (n := A.length) (x := 11) (v := 0) hP1.2.2.2.2.1.1 (by omega)
                obtain ⟨k1, k2, k3⟩ := close _ _ g1 (FrP_tr g2 f1)
                refine ⟨(st_close hB hI0 (by omega) hzb (by simp)).1, 1, _, ⟨k2, k1, rfl⟩, fun C h hr => head C h (mid C h ?_)⟩
                refine x_aload_n h dX10_goOn_335 rfl ?_
                refine x_bipush h dX10_goOn_336 (by decide) ?_
                refine x_cV1 h kVX10_take lkX10_241 ⟨_, _, _, rfl, rfl⟩ dX10_goOn_338 (htk) lvz_10 rfl rfl (Nat.le_of_ble_eq_true rfl) (by omega) ?_
                refine x_if_eq_F (tgt := 402) h (by omega) dX10_goOn_341 (by decide) (by omega) ?_
                refine x_iload_n h dX10_goOn_344 rfl ?_
                refine x_iconst h dX10_goOn_345 ?_
                refine x_ic_ne_F (tgt := 356) h (by omega) dX10_goOn_346 (by decide) (by omega) ?_
                refine x_aload_n h dX10_goOn_349 rfl ?_
                refine x_bipush h dX10_goOn_350 (by decide) ?_
                refine x_lconst0 h dX10_goOn_352 ?_
                refine x_cV0 h kVX10_emit lkX10_233 ⟨_, _, _, rfl, rfl⟩ dX10_goOn_353 (hem) lvz_10 rfl rfl (Nat.le_of_ble_eq_true rfl) (by omega) ?_
                refine x_iload_n h dX10_goOn_356 rfl ?_
                refine x_iconst h dX10_goOn_357 ?_
                refine x_ic_ne_T (tgt := 382) h (by omega) dX10_goOn_358 (by decide) (by omega) ?_
                exact k3 C h hr
              · simp only [if_neg hs1]
                by_cases hs3 : z.2.1 = 3
                · simp only [if_pos hs3]
                  have hlt := hz.2.2.2 (Or.inr hs3)
                  have hz0 := hz.2.2.1
                  obtain ⟨q, hq⟩ := Int.eq_ofNat_of_zero_le hz0.1
                  have hqt : z.2.2.toNat = q := by omega
                  rw [hqt]
                  obtain ⟨g1, g2⟩ := PR_patch hP1 (j := q) (by omega) (A.length : Int)
                  have e16 : τ1 10 0 16 = A.length := hP1.2.2.2.2.1.1
                  obtain ⟨k1, k2, k3⟩ := close _ _ g1 (FrP_tr g2 f1)
                  refine ⟨(st_close hB hI0 (by omega) hzb (by rw [patch_len]; omega)).1, 1, _, ⟨k2, k1, rfl⟩, fun C h hr => head C h (mid C h ?_)⟩
                  refine x_aload_n h dX10_goOn_335 rfl ?_
                  refine x_bipush h dX10_goOn_336 (by decide) ?_
                  refine x_cV1 h kVX10_take lkX10_241 ⟨_, _, _, rfl, rfl⟩ dX10_goOn_338 (htk) lvz_10 rfl rfl (Nat.le_of_ble_eq_true rfl) (by omega) ?_
                  refine x_if_eq_F (tgt := 402) h (by omega) dX10_goOn_341 (by decide) (by omega) ?_
                  refine x_iload_n h dX10_goOn_344 rfl ?_
                  refine x_iconst h dX10_goOn_345 ?_
                  refine x_ic_ne_T (tgt := 356) h (by omega) dX10_goOn_346 (by decide) (by omega) ?_
                  refine x_iload_n h dX10_goOn_356 rfl ?_
                  refine x_iconst h dX10_goOn_357 ?_
                  refine x_ic_ne_F (tgt := 382) h (by omega) dX10_goOn_358 (by decide) (by omega) ?_
                  refine x_aload_n h dX10_goOn_361 rfl ?_
                  refine x_get h fl_10_49 lvz_10 dX10_goOn_362 (pvf_548 _ _) ?_
                  refine x_aload_n h dX10_goOn_365 rfl ?_
                  refine x_get h fl_10_73 lvz_10 dX10_goOn_366 (pvf_559 _ _) ?_
                  refine x_aload_n h dX10_goOn_369 rfl ?_
                  refine x_get (q := vI (((S.length + 1 : Nat) : Int))) h fl_10_224 lvz_10 dX10_goOn_370 (congrArg vI (by first | exact e26b | simp [up3, e26b])) ?_
                  refine x_iconst h dX10_goOn_373 ?_
                  refine x_isub h dX10_goOn_374 ?_
                  rw [ee]
                  refine x_iald h kdf_59 lvz_59 dX10_goOn_375 rfl (by omega) ?_
                  rw [s59b, hq]
                  refine x_aload_n h dX10_goOn_376 rfl ?_
                  refine x_get (q := vI (A.length)) h fl_10_206 lvz_10 dX10_goOn_377 (congrArg vI (by first | exact e16 | simp [up3, e16])) ?_
                  refine x_i2l h (by omega) dX10_goOn_380 ?_
                  refine x_last h kdf_48 lvz_48 dX10_goOn_381 rfl (by omega) ?_
                  exact k3 C h hr
                · simp only [if_neg hs3]
                  obtain ⟨k1, k2, k3⟩ := close _ _ hP1 f1
                  refine ⟨(st_close hB hI0 (by omega) hzb (by omega)).1, 1, _, ⟨k2, k1, rfl⟩, fun C h hr => head C h (mid C h ?_)⟩
                  refine x_aload_n h dX10_goOn_335 rfl ?_
                  refine x_bipush h dX10_goOn_336 (by decide) ?_
                  refine x_cV1 h kVX10_take lkX10_241 ⟨_, _, _, rfl, rfl⟩ dX10_goOn_338 (htk) lvz_10 rfl rfl (Nat.le_of_ble_eq_true rfl) (by omega) ?_
                  refine x_if_eq_F (tgt := 402) h (by omega) dX10_goOn_341 (by decide) (by omega) ?_
                  refine x_iload_n h dX10_goOn_344 rfl ?_
                  refine x_iconst h dX10_goOn_345 ?_
                  refine x_ic_ne_T (tgt := 356) h (by omega) dX10_goOn_346 (by decide) (by omega) ?_
                  refine x_iload_n h dX10_goOn_356 rfl ?_
                  refine x_iconst h dX10_goOn_357 ?_
                  refine x_ic_ne_T (tgt := 382) h (by omega) dX10_goOn_358 (by decide) (by omega) ?_
                  exact k3 C h hr
            · simp only [if_neg h41]
              have htk := m_take0 (d := 0) (s := 41) hT hP.2.1 hP.1 h4 (by omega) h41
              refine ⟨h4, 1, _, ⟨FrP_up (FrP_refl τ) _ (by omega), ⟨by rw [up3_n _ (by omega)]; exact hP.1, up3_s _ _ _ _ _, h4⟩, rfl⟩, fun C h hr => head C h (mid C h ?_)⟩
              refine x_aload_n h dX10_goOn_335 rfl ?_
              refine x_bipush h dX10_goOn_336 (by decide) ?_
              refine x_cV1 h kVX10_take lkX10_241 ⟨_, _, _, rfl, rfl⟩ dX10_goOn_338 (htk) lvz_10 rfl rfl (Nat.le_of_ble_eq_true rfl) (by omega) ?_
              refine x_if_eq_T (tgt := 402) h (by omega) dX10_goOn_341 (by decide) (by omega) ?_
              refine x_iconst h dX10_goOn_402 ?_
              exact x_ireturn h hr dX10_goOn_403 (Or.inr ⟨rfl, by omega⟩) ⟨Nat.le_refl _, Nat.le_refl _⟩
theorem m_goOn {s : PSt} {τ : Mm} (hT : TS B L N m τ) (hP : PRs τ s) (hI : QIv B L 1 s) (ht : TopOk s.2.2.2.2.1) : QGr B L (goP (tK B) (tV B) m s) ∧ ∃ b σ', GRs B L τ σ' (goP (tK B) (tV B) m s) b ∧ Ct 4 mX10_goOn 1 [vR 10 0] NALL τ (some (vI b)) NALL σ' 0 0 := by
  obtain ⟨i, u, a, A, S, U⟩ := s
  have hB := hT.2.2.2.1
  have hL9 := hB.1
  have hI0 := hI
  obtain ⟨⟨⟨h1, h2, h3, h4⟩, hF0, hc0, hu⟩, hf0⟩ := hI
  have h1 : A.length + S.length ≤ i := h1
  have h3 : S.length + 1 ≤ u := h3
  have h4 : tq B i ≤ L := h4
  have hu : u ≤ 24 := hu
  have hF0 : FOk S A.length := hF0
  have hiL := tq_ge hB i
  have hP : PRl τ i u a A S U := hP
  have ht : TopOk S := ht
  obtain ⟨t1, t2, t3, t4, t5, t6, t7, t8, t9⟩ := tok_in hT h4
  have hhi := m_isHigh (d := 0) (σ := τ) (k := tK B i) ⟨t6, t7⟩
  have hlo := m_isLow (d := 0) (σ := τ) (k := tK B i) ⟨t6, t7⟩
  have ha : a < 1000 := by
    have hc0 : a = cntA S := hc0
    have : ∀ S : List Fr3, cntA S ≤ S.length := by
      intro S
      induction S with
      | nil => exact Nat.le_refl _
      | cons z S ih => rw [cntA]; simp only [List.length_cons]; split <;> omega
    have := this S
    omega
  show QGr B L (if isHi (tK B i) then mapT (rdU (tK B) (tV B) m 25 (i + 1) u a A ((tK B i, 0, 0) :: S) U) else if isLo (tK B i) then mapT (rdU (tK B) (tV B) m 25 (i + 1) u a (loP S A).2 ((tK B i, 0, 0) :: (loP S A).1) U) else dsP (tK B) (tV B) m i u a (loP S A).2 (loP S A).1 U) ∧ ∃ b σ', GRs B L τ σ' (if isHi (tK B i) then mapT (rdU (tK B) (tV B) m 25 (i + 1) u a A ((tK B i, 0, 0) :: S) U) else if isLo (tK B i) then mapT (rdU (tK B) (tV B) m 25 (i + 1) u a (loP S A).2 ((tK B i, 0, 0) :: (loP S A).1) U) else dsP (tK B) (tV B) m i u a (loP S A).2 (loP S A).1 U) b ∧ _
  by_cases hh : isHi (tK B i)
  · rw [if_pos hh]
    rw [if_pos hh] at hhi
    obtain ⟨g1, g2⟩ := PR_push hP (tK B i) 0
    have hpu := m_push (d := 0) (k := tK B i) (v := 0) hP.2.2.2.2.2.1.1 (by omega)
    have g3 : PRl (up3 (puS τ S.length (tK B i) 0) 10 0 6 ((i + 1 : Nat) : Int)) (i + 1) u a A ((tK B i, 0, 0) :: S) U := PR_tok g1 (i + 1)
    have f3 : FrP (up3 (puS τ S.length (tK B i) 0) 10 0 6 ((i + 1 : Nat) : Int)) τ := FrP_up g2 _ (by omega)
    have hpre := st_pre (A' := A) (S' := (tK B i, 0, 0) :: S) hB hI0 (by omega) (by simp only [List.length_cons]; omega) (by simp) (FOk_cons hF0 ⟨Or.inr (Or.inr (Or.inr (Or.inl hh))), by show (0 : Int) ≤ 0 ∧ (0 : Int) ≤ 3; omega, by show (0 : Int) ≤ 0 ∧ (0 : Int) ≤ 900; omega, fun q => by have q : (0 : Int) = 2 ∨ (0 : Int) = 3 := q; omega⟩) (by rw [cntA, if_neg (by show ¬ (tK B i = 5 ∨ tK B i = 40 ∨ tK B i = 91); omega)]; omega) ⟨hf0, fun _ => ht, fun q => by have q : isLo (tK B i) := q; omega⟩
    obtain ⟨σ', hres, hct⟩ := m_readUnit (m := m) (by omega) ha (TS_fr hT f3) g3 hpre.1.1
    refine ⟨mapT_q (rdU_q hB hpre), 1, σ', GRs_T hres f3, ?_⟩
    refine ct_of (by decide) (Nat.le_of_ble_eq_true rfl) (fun C h hr _ => ?_)
    have h : Ok C RX10 cX10_goOn 4 _ := h
    refine x_aload_n h dX10_goOn_0 rfl ?_
    refine x_get h fl_10_13 lvz_10 dX10_goOn_1 (pvf_533 _ _) ?_
    refine x_aload_n h dX10_goOn_4 rfl ?_
    refine x_get (q := vI (i)) h fl_10_199 lvz_10 dX10_goOn_5 (congrArg vI (by first | exact hP.1 | simp [up3, hP.1])) ?_
    refine x_iald h kdf_33 lvz_33 dX10_goOn_8 rfl (by omega) ?_
    rw [t3]
    refine x_istore_n h dX10_goOn_9 (by decide) ?_
    refine x_aload_n h dX10_goOn_10 rfl ?_
    refine x_iload_n h dX10_goOn_11 rfl ?_
    refine x_cV1 h kVX10_isHigh lkX10_248 ⟨_, _, _, rfl, rfl⟩ dX10_goOn_12 (hhi) lvz_10 rfl rfl (Nat.le_of_ble_eq_true rfl) (by omega) ?_
    refine x_if_eq_F (tgt := 40) h (by omega) dX10_goOn_15 (by decide) (by omega) ?_
    refine x_aload_n h dX10_goOn_18 rfl ?_
    refine x_iload_n h dX10_goOn_19 rfl ?_
    refine x_iconst h dX10_goOn_20 ?_
    refine x_cV0 h kVX10_push lkX10_237 ⟨_, _, _, rfl, rfl⟩ dX10_goOn_21 (hpu) lvz_10 rfl rfl (Nat.le_of_ble_eq_true rfl) (by omega) ?_
    refine x_aload_n h dX10_goOn_24 rfl ?_
    refine x_dup h dX10_goOn_25 rfl ?_
    refine x_get (q := vI (i)) h fl_10_199 lvz_10 dX10_goOn_26 (congrArg vI (by first | exact g1.1 | simp [up3, g1.1])) ?_
    refine x_iconst h dX10_goOn_29 ?_
    refine x_iadd h dX10_goOn_30 ?_
    refine x_put h fl_10_199 lvz_10 dX10_goOn_31 rfl (fun z => absurd z (by decide)) ?_
    refine x_aload_n h dX10_goOn_34 rfl ?_
    refine x_cV0 h kVX10_readUnit lkX10_257 ⟨_, _, _, rfl, rfl⟩ dX10_goOn_35 (hct) lvz_10 rfl rfl (Nat.le_of_ble_eq_true rfl) (by omega) ?_
    refine x_iconst h dX10_goOn_38 ?_
    exact x_ireturn h hr dX10_goOn_39 (Or.inr ⟨rfl, by omega⟩) ⟨Nat.le_refl _, Nat.le_refl _⟩
  · rw [if_neg hh]
    rw [if_neg hh] at hhi
    obtain ⟨τ1, f1, hP1, hel⟩ := m_endLow hB hP hI0.1
    have hT1 := TS_fr hT f1
    obtain ⟨q1, q2, q3⟩ := lo_q hI0 ht
    by_cases hl : isLo (tK B i)
    · rw [if_pos hl]
      rw [if_pos hl] at hlo
      obtain ⟨r1, r2, r3, r4, r5⟩ := lo_i hF0
      obtain ⟨g1, g2⟩ := PR_push hP1 (tK B i) 0
      have hpu := m_push (d := 0) (k := tK B i) (v := 0) hP1.2.2.2.2.2.1.1 (by omega)
      have g3 : PRl (up3 (puS τ1 (loP S A).1.length (tK B i) 0) 10 0 6 ((i + 1 : Nat) : Int)) (i + 1) u a (loP S A).2 ((tK B i, 0, 0) :: (loP S A).1) U := PR_tok g1 (i + 1)
      have f3 : FrP (up3 (puS τ1 (loP S A).1.length (tK B i) 0) 10 0 6 ((i + 1 : Nat) : Int)) τ := FrP_up (FrP_tr g2 f1) _ (by omega)
      have hpre := st_pre (A' := (loP S A).2) (S' := (tK B i, 0, 0) :: (loP S A).1) hB q1 (by omega) (by simp only [List.length_cons]; omega) (by simp) (FOk_cons r3 ⟨Or.inr (Or.inr (Or.inr (Or.inr hl))), by show (0 : Int) ≤ 0 ∧ (0 : Int) ≤ 3; omega, by show (0 : Int) ≤ 0 ∧ (0 : Int) ≤ 900; omega, fun q => by have q : (0 : Int) = 2 ∨ (0 : Int) = 3 := q; omega⟩) (by rw [cntA, if_neg (by show ¬ (tK B i = 5 ∨ tK B i = 40 ∨ tK B i = 91); omega)]; omega) ⟨q1.2, fun q => by have q : isHi (tK B i) := q; omega, fun _ => ⟨q2.1, q3, q2.2⟩⟩
      obtain ⟨σ', hres, hct⟩ := m_readUnit (m := m) (by omega) ha (TS_fr hT f3) g3 hpre.1.1
      refine ⟨mapT_q (rdU_q hB hpre), 1, σ', GRs_T hres f3, ?_⟩
      refine ct_of (by decide) (Nat.le_of_ble_eq_true rfl) (fun C h hr _ => ?_)
      have h : Ok C RX10 cX10_goOn 4 _ := h
      refine x_aload_n h dX10_goOn_0 rfl ?_
      refine x_get h fl_10_13 lvz_10 dX10_goOn_1 (pvf_533 _ _) ?_
      refine x_aload_n h dX10_goOn_4 rfl ?_
      refine x_get (q := vI (i)) h fl_10_199 lvz_10 dX10_goOn_5 (congrArg vI (by first | exact hP.1 | simp [up3, hP.1])) ?_
      refine x_iald h kdf_33 lvz_33 dX10_goOn_8 rfl (by omega) ?_
      rw [t3]
      refine x_istore_n h dX10_goOn_9 (by decide) ?_
      refine x_aload_n h dX10_goOn_10 rfl ?_
      refine x_iload_n h dX10_goOn_11 rfl ?_
      refine x_cV1 h kVX10_isHigh lkX10_248 ⟨_, _, _, rfl, rfl⟩ dX10_goOn_12 (hhi) lvz_10 rfl rfl (Nat.le_of_ble_eq_true rfl) (by omega) ?_
      refine x_if_eq_T (tgt := 40) h (by omega) dX10_goOn_15 (by decide) (by omega) ?_
      refine x_aload_n h dX10_goOn_40 rfl ?_
      refine x_iload_n h dX10_goOn_41 rfl ?_
      refine x_cV1 h kVX10_isLow lkX10_254 ⟨_, _, _, rfl, rfl⟩ dX10_goOn_42 (hlo) lvz_10 rfl rfl (Nat.le_of_ble_eq_true rfl) (by omega) ?_
      refine x_if_eq_F (tgt := 74) h (by omega) dX10_goOn_45 (by decide) (by omega) ?_
      refine x_aload_n h dX10_goOn_48 rfl ?_
      refine x_cV0 h kVX10_endLow lkX10_260 ⟨_, _, _, rfl, rfl⟩ dX10_goOn_49 (hel) lvz_10 rfl rfl (Nat.le_of_ble_eq_true rfl) (by omega) ?_
      refine x_aload_n h dX10_goOn_52 rfl ?_
      refine x_iload_n h dX10_goOn_53 rfl ?_
      refine x_iconst h dX10_goOn_54 ?_
      refine x_cV0 h kVX10_push lkX10_237 ⟨_, _, _, rfl, rfl⟩ dX10_goOn_55 (hpu) lvz_10 rfl rfl (Nat.le_of_ble_eq_true rfl) (by omega) ?_
      refine x_aload_n h dX10_goOn_58 rfl ?_
      refine x_dup h dX10_goOn_59 rfl ?_
      refine x_get (q := vI (i)) h fl_10_199 lvz_10 dX10_goOn_60 (congrArg vI (by first | exact g1.1 | simp [up3, g1.1])) ?_
      refine x_iconst h dX10_goOn_63 ?_
      refine x_iadd h dX10_goOn_64 ?_
      refine x_put h fl_10_199 lvz_10 dX10_goOn_65 rfl (fun z => absurd z (by decide)) ?_
      refine x_aload_n h dX10_goOn_68 rfl ?_
      refine x_cV0 h kVX10_readUnit lkX10_257 ⟨_, _, _, rfl, rfl⟩ dX10_goOn_69 (hct) lvz_10 rfl rfl (Nat.le_of_ble_eq_true rfl) (by omega) ?_
      refine x_iconst h dX10_goOn_72 ?_
      exact x_ireturn h hr dX10_goOn_73 (Or.inr ⟨rfl, by omega⟩) ⟨Nat.le_refl _, Nat.le_refl _⟩
    · rw [if_neg hl]
      rw [if_neg hl] at hlo
      obtain ⟨k1, b, σ', k2, k3⟩ := ds_all hT1 hP1 q1 q2 q3
      refine ⟨k1, b, σ', ⟨FrP_tr k2.1 f1, k2.2⟩, ?_⟩
      refine ct_of (by decide) (Nat.le_of_ble_eq_true rfl) (fun C h hr _ => ?_)
      have h : Ok C RX10 cX10_goOn 4 _ := h
      refine x_aload_n h dX10_goOn_0 rfl ?_
      refine x_get h fl_10_13 lvz_10 dX10_goOn_1 (pvf_533 _ _) ?_
      refine x_aload_n h dX10_goOn_4 rfl ?_
      refine x_get (q := vI (i)) h fl_10_199 lvz_10 dX10_goOn_5 (congrArg vI (by first | exact hP.1 | simp [up3, hP.1])) ?_
      refine x_iald h kdf_33 lvz_33 dX10_goOn_8 rfl (by omega) ?_
      rw [t3]
      refine x_istore_n h dX10_goOn_9 (by decide) ?_
      refine x_aload_n h dX10_goOn_10 rfl ?_
      refine x_iload_n h dX10_goOn_11 rfl ?_
      refine x_cV1 h kVX10_isHigh lkX10_248 ⟨_, _, _, rfl, rfl⟩ dX10_goOn_12 (hhi) lvz_10 rfl rfl (Nat.le_of_ble_eq_true rfl) (by omega) ?_
      refine x_if_eq_T (tgt := 40) h (by omega) dX10_goOn_15 (by decide) (by omega) ?_
      refine x_aload_n h dX10_goOn_40 rfl ?_
      refine x_iload_n h dX10_goOn_41 rfl ?_
      refine x_cV1 h kVX10_isLow lkX10_254 ⟨_, _, _, rfl, rfl⟩ dX10_goOn_42 (hlo) lvz_10 rfl rfl (Nat.le_of_ble_eq_true rfl) (by omega) ?_
      refine x_if_eq_T (tgt := 74) h (by omega) dX10_goOn_45 (by decide) (by omega) ?_
      refine x_aload_n h dX10_goOn_74 rfl ?_
      refine x_cV0 h kVX10_endLow lkX10_260 ⟨_, _, _, rfl, rfl⟩ dX10_goOn_75 (hel) lvz_10 rfl rfl (Nat.le_of_ble_eq_true rfl) (by omega) ?_
      exact x_loc (ls' := [(0, vR 10 0), (1, vI (tK B i))]) ⟨rfl, rfl, trivial⟩ (k3 C h hr)
/-! readSum -/
def lpP (K V : Nat → Int) (m : Nat) : Nat → PSt → Option (Nat ⊕ PSt)
  | 0, _ => none
  | n + 1, s => match goP K V m (enP s) with
    | .inl e => some (.inl e)
    | .inr (b, s') => if b then lpP K V m n s' else some (.inr s')
/-- the loop of readSum comes from s to r -/
def LR (K V : Nat → Int) (m : Nat) (s : PSt) (r : Nat ⊕ PSt) : Prop := ∃ n, lpP K V m n s = some r
/-- readUnit, then the loop -/
def RR (K V : Nat → Int) (m : Nat) (x : Nat ⊕ PSt) (r : Nat ⊕ PSt) : Prop := match x with
  | .inl e => r = .inl e
  | .inr s => LR K V m s r
theorem rs_loop : ∀ (n : Nat) (s : PSt) (r : Nat ⊕ PSt) (τ : Mm), lpP (tK B) (tV B) m n s = some r → TS B L N m τ → PRs τ s → QIv B L 1 s → QIr B L r ∧ ∃ σ', RUs B L τ σ' r ∧ ∀ C : Cx, Ok C RX10 cX10_readSum 2 5 → Rt C 1 none none NALL σ' 0 0 → ∀ ls, lsub [(0, vR 10 0), (1, vI 1)] ls → X C 1 21 ls [] NALL τ 0 0 := by
  intro n
  induction n with
  | zero => intro s r τ h; cases h
  | succ n ih =>
    intro s r τ h hT hP hI
    have hB := hT.2.2.2.1
    obtain ⟨τ1, f1, hP1, hen⟩ := m_endUnit hB hP hI.1
    obtain ⟨q1, q2⟩ := enP_q hI
    have hT1 := TS_fr hT f1
    obtain ⟨k1, b, τ2, k2, hgo⟩ := m_goOn hT1 hP1 q1 q2
    have hP7 : τ 10 0 7 = -9 := hP.2.1
    rw [lpP] at h
    cases hg : goP (tK B) (tV B) m (enP s) with
    | inl e =>
      rw [hg] at h k1 k2
      injection h with h
      subst h
      obtain ⟨k3, ⟨k4, k5, k6⟩, rfl⟩ := k2
      have e7 := k5
      have hq : 0 ≤ tQ B e ∧ tQ B e ≤ 900 := by
        have := hB.1
        exact ⟨Int.natCast_nonneg _, by show ((tq B e : Nat) : Int) ≤ 900; omega⟩
      refine ⟨k1, τ2, ⟨FrP_tr k3 f1, k4, k5, k6⟩, fun C h hr ls hls => x_loc hls ?_⟩
      refine x_iload_n h dX10_readSum_21 rfl ?_
      refine x_if_eq_F (tgt := 46) h (by omega) dX10_readSum_22 (by decide) (by omega) ?_
      refine x_aload_n h dX10_readSum_25 rfl ?_
      refine x_get (q := vI (-9)) h fl_10_196 lvz_10 dX10_readSum_26 (congrArg vI (by first | exact hP7 | simp [up3, hP7])) ?_
      refine x_bipush h dX10_readSum_29 (by decide) ?_
      refine x_ic_ne_F (tgt := 46) h (by omega) dX10_readSum_31 (by decide) (by omega) ?_
      refine x_aload_n h dX10_readSum_34 rfl ?_
      refine x_cV0 h kVX10_endUnit lkX10_263 ⟨_, _, _, rfl, rfl⟩ dX10_readSum_35 (hen) lvz_10 rfl rfl (Nat.le_of_ble_eq_true rfl) (by omega) ?_
      refine x_aload_n h dX10_readSum_38 rfl ?_
      refine x_cV1 h kVX10_goOn lkX10_266 ⟨_, _, _, rfl, rfl⟩ dX10_readSum_39 (hgo) lvz_10 rfl rfl (Nat.le_of_ble_eq_true rfl) (by omega) ?_
      refine x_istore_n h dX10_readSum_42 (by decide) ?_
      refine x_goto (tgt := 21) h dX10_readSum_43 (by decide) ?_
      refine x_iload_n h dX10_readSum_21 rfl ?_
      refine x_if_eq_F (tgt := 46) h (by omega) dX10_readSum_22 (by decide) (by omega) ?_
      refine x_aload_n h dX10_readSum_25 rfl ?_
      refine x_get (q := vI (tQ B e)) h fl_10_196 lvz_10 dX10_readSum_26 (congrArg vI (by first | exact e7 | simp [up3, e7])) ?_
      refine x_bipush h dX10_readSum_29 (by decide) ?_
      refine x_ic_ne_T (tgt := 46) h (by omega) dX10_readSum_31 (by decide) (by omega) ?_
      exact x_return h hr dX10_readSum_46 ⟨Nat.le_refl _, Nat.le_refl _⟩
    | inr t =>
      obtain ⟨b', s'⟩ := t
      rw [hg] at h k1 k2
      obtain ⟨k3, k4, rfl⟩ := k2
      cases b' with
      | true =>
        have h : lpP (tK B) (tV B) m n s' = some r := h
        have hgo : Ct 4 mX10_goOn 1 [vR 10 0] NALL τ1 (some (vI 1)) NALL τ2 0 0 := hgo
        obtain ⟨j1, σ', j2, hx⟩ := ih s' r τ2 h (TS_fr hT1 k3) k4 k1
        refine ⟨j1, σ', RUs_tr j2 (FrP_tr k3 f1), fun C h hr ls hls => x_loc hls ?_⟩
        refine x_iload_n h dX10_readSum_21 rfl ?_
        refine x_if_eq_F (tgt := 46) h (by omega) dX10_readSum_22 (by decide) (by omega) ?_
        refine x_aload_n h dX10_readSum_25 rfl ?_
        refine x_get (q := vI (-9)) h fl_10_196 lvz_10 dX10_readSum_26 (congrArg vI (by first | exact hP7 | simp [up3, hP7])) ?_
        refine x_bipush h dX10_readSum_29 (by decide) ?_
        refine x_ic_ne_F (tgt := 46) h (by omega) dX10_readSum_31 (by decide) (by omega) ?_
        refine x_aload_n h dX10_readSum_34 rfl ?_
        refine x_cV0 h kVX10_endUnit lkX10_263 ⟨_, _, _, rfl, rfl⟩ dX10_readSum_35 (hen) lvz_10 rfl rfl (Nat.le_of_ble_eq_true rfl) (by omega) ?_
        refine x_aload_n h dX10_readSum_38 rfl ?_
        refine x_cV1 h kVX10_goOn lkX10_266 ⟨_, _, _, rfl, rfl⟩ dX10_readSum_39 (hgo) lvz_10 rfl rfl (Nat.le_of_ble_eq_true rfl) (by omega) ?_
        refine x_istore_n h dX10_readSum_42 (by decide) ?_
        refine x_goto (tgt := 21) h dX10_readSum_43 (by decide) ?_
        exact hx C h hr _ ⟨rfl, rfl, trivial⟩
      | false =>
        have h : some (.inr s') = some r := h
        have hgo : Ct 4 mX10_goOn 1 [vR 10 0] NALL τ1 (some (vI 0)) NALL τ2 0 0 := hgo
        injection h with h
        subst h
        refine ⟨k1, τ2, ⟨FrP_tr k3 f1, k4⟩, fun C h hr ls hls => x_loc hls ?_⟩
        refine x_iload_n h dX10_readSum_21 rfl ?_
        refine x_if_eq_F (tgt := 46) h (by omega) dX10_readSum_22 (by decide) (by omega) ?_
        refine x_aload_n h dX10_readSum_25 rfl ?_
        refine x_get (q := vI (-9)) h fl_10_196 lvz_10 dX10_readSum_26 (congrArg vI (by first | exact hP7 | simp [up3, hP7])) ?_
        refine x_bipush h dX10_readSum_29 (by decide) ?_
        refine x_ic_ne_F (tgt := 46) h (by omega) dX10_readSum_31 (by decide) (by omega) ?_
        refine x_aload_n h dX10_readSum_34 rfl ?_
        refine x_cV0 h kVX10_endUnit lkX10_263 ⟨_, _, _, rfl, rfl⟩ dX10_readSum_35 (hen) lvz_10 rfl rfl (Nat.le_of_ble_eq_true rfl) (by omega) ?_
        refine x_aload_n h dX10_readSum_38 rfl ?_
        refine x_cV1 h kVX10_goOn lkX10_266 ⟨_, _, _, rfl, rfl⟩ dX10_readSum_39 (hgo) lvz_10 rfl rfl (Nat.le_of_ble_eq_true rfl) (by omega) ?_
        refine x_istore_n h dX10_readSum_42 (by decide) ?_
        refine x_goto (tgt := 21) h dX10_readSum_43 (by decide) ?_
        refine x_iload_n h dX10_readSum_21 rfl ?_
        refine x_if_eq_T (tgt := 46) h (by omega) dX10_readSum_22 (by decide) (by omega) ?_
        exact x_return h hr dX10_readSum_46 ⟨Nat.le_refl _, Nat.le_refl _⟩
/-- a reader between two SUMS -/
def PRw (σ : Mm) (i : Nat) (A : List (Int × Int)) (U : List Us3) : Prop := σ 10 0 6 = i ∧ σ 10 0 7 = -9 ∧ ActsR σ A ∧ UseR σ U
theorem m_readSum {i : Nat} {A : List (Int × Int)} {U : List Us3} {τ : Mm} {r : Nat ⊕ PSt} (hT : TS B L N m τ) (hP : PRw τ i A U) (hi : tq B i ≤ L) (hA : A.length ≤ i) (hU : U.length ≤ i) (hr0 : RR (tK B) (tV B) m (rdU (tK B) (tV B) m 25 i 0 0 A [] U) r) : QIr B L r ∧ ∃ σ', RUs B L τ σ' r ∧ Ct 5 mX10_readSum 1 [vR 10 0] NALL τ none NALL σ' 0 0 := by
  have hB := hT.2.2.2.1
  obtain ⟨h1, h2, h5, h8⟩ := hP
  have hP1 : PRl (up3 (up3 (up3 τ 10 0 26 0) 10 0 30 0) 10 0 31 0) i 0 0 A [] U := by
    refine ⟨by rw [up3_n _ (by omega), up3_n _ (by omega), up3_n _ (by omega)]; exact h1, by rw [up3_n _ (by omega), up3_n _ (by omega), up3_n _ (by omega)]; exact h2, by rw [up3_n _ (by omega), up3_s]; rfl, by rw [up3_s]; rfl, ActsR_fr h5 (fun f j hf => by rw [up3_n _ (by omega), up3_n _ (by omega), up3_n _ (by omega)]), ⟨by rw [up3_n _ (by omega), up3_n _ (by omega), up3_s]; rfl, trivial⟩, UseR_fr h8 (fun f j hf => by rw [up3_n _ (by omega), up3_n _ (by omega), up3_n _ (by omega)])⟩
  have f1 : FrP (up3 (up3 (up3 τ 10 0 26 0) 10 0 30 0) 10 0 31 0) τ := FrP_up (FrP_up (FrP_up (FrP_refl τ) _ (by omega)) _ (by omega)) _ (by omega)
  generalize hτ1 : up3 (up3 (up3 τ 10 0 26 0) 10 0 30 0) 10 0 31 0 = τ1 at hP1 f1
  have hT1 := TS_fr hT f1
  have hI : QIv B L 0 (i, 0, 0, A, [], U) := ⟨⟨⟨by show A.length + 0 ≤ i; omega, hU, Nat.le_refl _, hi⟩, fun z hz => (by cases hz), rfl, by show 0 ≤ 24; omega⟩, trivial⟩
  obtain ⟨τ2, k1, hru⟩ := m_readUnit (m := m) (by omega) (by omega) hT1 hP1 hI.1.1
  have k0 := rdU_q (m := m) hB hI
  cases hrd : rdU (tK B) (tV B) m 25 i 0 0 A [] U with
  | inl e =>
    rw [hrd] at hr0 k1 k0
    have hr0 : r = .inl e := hr0
    subst hr0
    obtain ⟨k3, k4, k5, k6⟩ := k1
    have hq : 0 ≤ tQ B e ∧ tQ B e ≤ 900 := by
      have := hB.1
      exact ⟨Int.natCast_nonneg _, by show ((tq B e : Nat) : Int) ≤ 900; omega⟩
    refine ⟨k0, τ2, ⟨FrP_tr k3 f1, k4, k5, k6⟩, ?_⟩
    refine ct_of (by decide) (Nat.le_of_ble_eq_true rfl) (fun C h hr _ => ?_)
    have h : Ok C RX10 cX10_readSum 2 _ := h
    refine x_aload_n h dX10_readSum_0 rfl ?_
    refine x_iconst h dX10_readSum_1 ?_
    refine x_put h fl_10_224 lvz_10 dX10_readSum_2 rfl (fun z => absurd z (by decide)) ?_
    refine x_aload_n h dX10_readSum_5 rfl ?_
    refine x_iconst h dX10_readSum_6 ?_
    refine x_put h fl_10_227 lvz_10 dX10_readSum_7 rfl (fun z => absurd z (by decide)) ?_
    refine x_aload_n h dX10_readSum_10 rfl ?_
    refine x_iconst h dX10_readSum_11 ?_
    refine x_put h fl_10_230 lvz_10 dX10_readSum_12 rfl (fun z => absurd z (by decide)) ?_
    rw [hτ1]
    refine x_aload_n h dX10_readSum_15 rfl ?_
    refine x_cV0 h kVX10_readUnit lkX10_257 ⟨_, _, _, rfl, rfl⟩ dX10_readSum_16 (hru) lvz_10 rfl rfl (Nat.le_of_ble_eq_true rfl) (by omega) ?_
    refine x_iconst h dX10_readSum_19 ?_
    refine x_istore_n h dX10_readSum_20 (by decide) ?_
    refine x_iload_n h dX10_readSum_21 rfl ?_
    refine x_if_eq_F (tgt := 46) h (by omega) dX10_readSum_22 (by decide) (by omega) ?_
    refine x_aload_n h dX10_readSum_25 rfl ?_
    refine x_get (q := vI (tQ B e)) h fl_10_196 lvz_10 dX10_readSum_26 (congrArg vI (by first | exact k5 | simp [up3, k5])) ?_
    refine x_bipush h dX10_readSum_29 (by decide) ?_
    refine x_ic_ne_T (tgt := 46) h (by omega) dX10_readSum_31 (by decide) (by omega) ?_
    exact x_return h hr dX10_readSum_46 ⟨Nat.le_refl _, Nat.le_refl _⟩
  | inr s =>
    rw [hrd] at hr0 k1 k0
    obtain ⟨n, hn⟩ := hr0
    obtain ⟨j1, σ', j2, hx⟩ := rs_loop n s r τ2 hn (TS_fr hT1 k1.1) k1.2 k0
    refine ⟨j1, σ', RUs_tr j2 (FrP_tr k1.1 f1), ?_⟩
    refine ct_of (by decide) (Nat.le_of_ble_eq_true rfl) (fun C h hr _ => ?_)
    have h : Ok C RX10 cX10_readSum 2 _ := h
    refine x_aload_n h dX10_readSum_0 rfl ?_
    refine x_iconst h dX10_readSum_1 ?_
    refine x_put h fl_10_224 lvz_10 dX10_readSum_2 rfl (fun z => absurd z (by decide)) ?_
    refine x_aload_n h dX10_readSum_5 rfl ?_
    refine x_iconst h dX10_readSum_6 ?_
    refine x_put h fl_10_227 lvz_10 dX10_readSum_7 rfl (fun z => absurd z (by decide)) ?_
    refine x_aload_n h dX10_readSum_10 rfl ?_
    refine x_iconst h dX10_readSum_11 ?_
    refine x_put h fl_10_230 lvz_10 dX10_readSum_12 rfl (fun z => absurd z (by decide)) ?_
    rw [hτ1]
    refine x_aload_n h dX10_readSum_15 rfl ?_
    refine x_cV0 h kVX10_readUnit lkX10_257 ⟨_, _, _, rfl, rfl⟩ dX10_readSum_16 (hru) lvz_10 rfl rfl (Nat.le_of_ble_eq_true rfl) (by omega) ?_
    refine x_iconst h dX10_readSum_19 ?_
    refine x_istore_n h dX10_readSum_20 (by decide) ?_
    exact hx C h hr _ ⟨rfl, rfl, trivial⟩
end GO2
