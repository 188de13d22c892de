/-! endUnit, endLow, goOn of the reference -/
def negP : List Fr3 → List (Int × Int) → Nat → List Fr3 × List (Int × Int) × Nat
  | [], A, a => ([], A, a)
  | z :: S, A, a => if z.1 = 5 then negP S (A ++ [(5, 0)]) (a - 1) else (z :: S, A, a)
def hiP (S : List Fr3) (A : List (Int × Int)) : List Fr3 × List (Int × Int) := match S with
  | [] => ([], A)
  | z :: S' => if isHi z.1 then (S', A ++ [(actF z.1, 0)]) else (z :: S', A)
def loP (S : List Fr3) (A : List (Int × Int)) : List Fr3 × List (Int × Int) := match S with
  | [] => ([], A)
  | z :: S' => if isLo z.1 then (S', A ++ [(actF z.1, 0)]) else (z :: S', A)
def enP (s : PSt) : PSt := (s.1, s.2.1, (negP s.2.2.2.2.1 s.2.2.2.1 s.2.2.1).2.2, (hiP (negP s.2.2.2.2.1 s.2.2.2.1 s.2.2.1).1 (negP s.2.2.2.2.1 s.2.2.2.1 s.2.2.1).2.1).2, (hiP (negP s.2.2.2.2.1 s.2.2.2.1 s.2.2.1).1 (negP s.2.2.2.2.1 s.2.2.2.1 s.2.2.1).2.1).1, s.2.2.2.2.2)
def cntA : List Fr3 → Nat
  | [] => 0
  | z :: S => (if z.1 = 5 ∨ z.1 = 40 ∨ z.1 = 91 then 1 else 0) + cntA S
def FOk (S : List Fr3) (n : Nat) : Prop := ∀ z ∈ S, (z.1 = 5 ∨ z.1 = 40 ∨ z.1 = 91 ∨ isHi z.1 ∨ isLo z.1) ∧ (0 ≤ z.2.1 ∧ z.2.1 ≤ 3) ∧ (0 ≤ z.2.2 ∧ z.2.2 ≤ 900) ∧ (z.2.1 = 2 ∨ z.2.1 = 3 → z.2.2 < n)
theorem FOk_mono {S : List Fr3} {n n' : Nat} (h : FOk S n) (hn : n ≤ n') : FOk S n' := fun z hz => ⟨(h z hz).1, (h z hz).2.1, (h z hz).2.2.1, fun q => by have := (h z hz).2.2.2 q; omega⟩
theorem FOk_tl {z : Fr3} {S : List Fr3} {n : Nat} (h : FOk (z :: S) n) : FOk S n := fun y hy => h y (List.mem_cons_of_mem _ hy)
theorem FOk_cons {z : Fr3} {S : List Fr3} {n : Nat} (h : FOk S n) (hz : (z.1 = 5 ∨ z.1 = 40 ∨ z.1 = 91 ∨ isHi z.1 ∨ isLo z.1) ∧ (0 ≤ z.2.1 ∧ z.2.1 ≤ 3) ∧ (0 ≤ z.2.2 ∧ z.2.2 ≤ 900) ∧ (z.2.1 = 2 ∨ z.2.1 = 3 → z.2.2 < n)) : FOk (z :: S) n := fun y hy => by
  rcases List.mem_cons.mp hy with e | e
  · rw [e]; exact hz
  · exact h y e
/-- all that holds of the reader between two UNITS (c = 1) or ahead of one (c = 0) -/
def PIv (B : Nat → Int) (L c : Nat) (s : PSt) : Prop := RIv B L c s.1 s.2.1 s.2.2.2.1 s.2.2.2.2.1 s.2.2.2.2.2 ∧ FOk s.2.2.2.2.1 s.2.2.2.1.length ∧ s.2.2.1 = cntA s.2.2.2.2.1 ∧ s.2.1 ≤ 24
def PRs (σ : Mm) (s : PSt) : Prop := PRl σ s.1 s.2.1 s.2.2.1 s.2.2.2.1 s.2.2.2.2.1 s.2.2.2.2.2
def PIr (B : Nat → Int) (L : Nat) (r : Nat ⊕ PSt) : Prop := match r with
  | .inl e => tq B e ≤ L
  | .inr s => PIv B L 1 s
theorem rdU_p {B : Nat → Int} {L m : Nat} (h : BOk B L) : ∀ (n i u a : Nat) (A : List (Int × Int)) (S : List Fr3) (U : List Us3), PIv B L 0 (i, u, a, A, S, U) → PIr B L (rdU (tK B) (tV B) m n i u a A S U) := by
  intro n
  induction n with
  | zero => intro i u a A S U hI; exact hI.1.2.2.2
  | succ n ih =>
    intro i u a A S U hI
    obtain ⟨⟨h1, h2, h3, h4⟩, hF, hc, hu⟩ := hI
    have hc : a = cntA S := hc
    have hF : FOk S A.length := hF
    have h1 : A.length + S.length ≤ i := h1
    have h2 : U.length ≤ i := h2
    have h3 : S.length + 0 ≤ u := h3
    have h4 : tq B i ≤ L := h4
    have hu : u ≤ 24 := hu
    have hiL := tq_ge h i
    have hL9 := h.1
    unfold rdU
    split
    · exact h4
    · next hg =>
      have hg2 := Classical.not_not.mp hg
      have hi1 : tq B (i + 1) ≤ L := adv_q h h4 (by omega)
      split
      · exact ⟨⟨by simp only [List.length_append, List.length_cons, List.length_nil]; omega, by show U.length ≤ i + 1; omega, by show S.length + 1 ≤ u + 1; omega, hi1⟩, FOk_mono hF (by simp), hc, by show u + 1 ≤ 24; omega⟩
      split
      · exact ⟨⟨by simp only [List.length_append, List.length_cons, List.length_nil]; omega, by show U.length ≤ i + 1; omega, by show S.length + 1 ≤ u + 1; omega, hi1⟩, FOk_mono hF (by simp), hc, by show u + 1 ≤ 24; omega⟩
      split
      · split
        · exact ⟨⟨by simp only [List.length_append, List.length_cons, List.length_nil]; omega, by simp only [List.length_append, List.length_cons, List.length_nil]; omega, by show S.length + 1 ≤ u + 1; omega, adv_q h hi1 (by omega)⟩, FOk_mono hF (by simp), hc, by show u + 1 ≤ 24; omega⟩
        · exact hi1
      split
      · split
        · refine ih _ _ _ _ _ _ ⟨⟨by simp only [List.length_cons]; omega, by simp only [List.length_append, List.length_cons, List.length_nil]; omega, by simp only [List.length_cons]; omega, adv_q h hi1 (by omega)⟩, FOk_cons hF ⟨by show (91 : Int) = 5 ∨ _; omega, by show (0 : Int) ≤ 0 ∧ (0 : Int) ≤ 3; omega, by show (0 : Int) ≤ i ∧ (i : Int) ≤ 900; omega, fun q => by have q : (0 : Int) = 2 ∨ (0 : Int) = 3 := q; omega⟩, ?_, by show u + 1 ≤ 24; omega⟩
          show a + 1 = cntA (_ :: S)
          rw [cntA, if_pos (Or.inr (Or.inr rfl)), ← hc]; omega
        · exact hi1
      split
      · refine ih _ _ _ _ _ _ ⟨⟨by simp only [List.length_cons]; omega, by show U.length ≤ i + 1; omega, by simp only [List.length_cons]; omega, hi1⟩, FOk_cons hF ⟨by show (5 : Int) = 5 ∨ _; omega, by show (0 : Int) ≤ 0 ∧ (0 : Int) ≤ 3; omega, by show (0 : Int) ≤ 0 ∧ (0 : Int) ≤ 900; omega, fun q => by have q : (0 : Int) = 2 ∨ (0 : Int) = 3 := q; omega⟩, ?_, by show u + 1 ≤ 24; omega⟩
        show a + 1 = cntA (_ :: S)
        rw [cntA, if_pos (Or.inl rfl), ← hc]; omega
      · refine ih _ _ _ _ _ _ ⟨⟨by simp only [List.length_cons]; omega, by show U.length ≤ i + 1; omega, by simp only [List.length_cons]; omega, hi1⟩, FOk_cons hF ⟨by show (40 : Int) = 5 ∨ _; omega, by show (0 : Int) ≤ 0 ∧ (0 : Int) ≤ 3; omega, by show (0 : Int) ≤ 0 ∧ (0 : Int) ≤ 900; omega, fun q => by have q : (0 : Int) = 2 ∨ (0 : Int) = 3 := q; omega⟩, ?_, by show u + 1 ≤ 24; omega⟩
        show a + 1 = cntA (_ :: S)
        rw [cntA, if_pos (Or.inr (Or.inl rfl)), ← hc]; omega
section GO
variable {B : Nat → Int} {L N m : Nat}
theorem top_of {d : Nat} {σ : Mm} {i u a : Nat} {A : List (Int × Int)} {z : Fr3} {S : List Fr3} {U : List Us3} (h : PRl σ i u a A (z :: S) U) (hl : S.length < 64) : Ct d mX10_top 1 [vR 10 0] NALL σ (some (vI z.1)) NALL σ 0 0 := by
  obtain ⟨h1, h2, h3, h4, h5, ⟨h6, h7, -⟩, h8⟩ := h
  exact m_top1 (n := S.length) (by rw [h6]; simp only [List.length_cons]) hl h7
theorem top_nil {d : Nat} {σ : Mm} {i u a : Nat} {A : List (Int × Int)} {U : List Us3} (h : PRl σ i u a A [] U) : Ct d mX10_top 1 [vR 10 0] NALL σ (some (vI 0)) NALL σ 0 0 := m_top0 h.2.2.2.2.2.1.1
theorem hi_i {S : List Fr3} {A : List (Int × Int)} (h : FOk S A.length) : (hiP S A).2.length + (hiP S A).1.length = A.length + S.length ∧ (hiP S A).1.length ≤ S.length ∧ FOk (hiP S A).1 (hiP S A).2.length ∧ cntA (hiP S A).1 = cntA S := by
  unfold hiP
  cases S with
  | nil => exact ⟨rfl, Nat.le_refl _, h, rfl⟩
  | cons z S =>
    by_cases hz : isHi z.1
    · simp only [if_pos hz]
      refine ⟨by simp only [List.length_append, List.length_cons, List.length_nil]; omega, by simp, FOk_mono (FOk_tl h) (by simp), ?_⟩
      rw [cntA, if_neg (by omega)]; omega
    · simp only [if_neg hz]
      exact ⟨trivial, Nat.le_refl _, h, trivial⟩
theorem lo_i {S : List Fr3} {A : List (Int × Int)} (h : FOk S A.length) : (loP S A).2.length + (loP S A).1.length = A.length + S.length ∧ (loP S A).1.length ≤ S.length ∧ FOk (loP S A).1 (loP S A).2.length ∧ cntA (loP S A).1 = cntA S ∧ A.length ≤ (loP S A).2.length := by
  unfold loP
  cases S with
  | nil => exact ⟨rfl, Nat.le_refl _, h, rfl, Nat.le_refl _⟩
  | cons z S =>
    by_cases hz : isLo z.1
    · simp only [if_pos hz]
      refine ⟨by simp only [List.length_append, List.length_cons, List.length_nil]; omega, by simp, FOk_mono (FOk_tl h) (by simp), ?_, by simp⟩
      rw [cntA, if_neg (by omega)]; omega
    · simp only [if_neg hz]
      exact ⟨trivial, Nat.le_refl _, h, trivial, Nat.le_refl _⟩
theorem neg_i : ∀ (S : List Fr3) (A : List (Int × Int)) (a : Nat), FOk S A.length → a = cntA S → (negP S A a).2.1.length + (negP S A a).1.length = A.length + S.length ∧ (negP S A a).1.length ≤ S.length ∧ FOk (negP S A a).1 (negP S A a).2.1.length ∧ (negP S A a).2.2 = cntA (negP S A a).1 := by
  intro S
  induction S with
  | nil => intro A a h hc; exact ⟨rfl, Nat.le_refl _, h, hc⟩
  | cons z S ih =>
    intro A a h hc
    unfold negP
    by_cases hz : z.1 = 5
    · rw [if_pos hz]
      rw [cntA, if_pos (Or.inl hz)] at hc
      obtain ⟨q1, q2, q3, q4⟩ := ih (A ++ [(5, 0)]) (a - 1) (FOk_mono (FOk_tl h) (by simp)) (by omega)
      simp only [List.length_append, List.length_cons, List.length_nil] at q1 ⊢
      exact ⟨by omega, by omega, q3, q4⟩
    · rw [if_neg hz]
      exact ⟨rfl, Nat.le_refl _, h, hc⟩
theorem enP_p {s : PSt} (h : PIv B L 1 s) : PIv B L 1 (enP s) := by
  obtain ⟨⟨h1, h2, h3, h4⟩, hF, hc, hu⟩ := h
  obtain ⟨q1, q2, q3, q4⟩ := neg_i s.2.2.2.2.1 s.2.2.2.1 s.2.2.1 hF hc
  obtain ⟨r1, r2, r3, r4⟩ := hi_i q3
  refine ⟨⟨?_, h2, ?_, h4⟩, r3, ?_, hu⟩
  · show (hiP _ _).2.length + (hiP _ _).1.length ≤ s.1
    omega
  · show (hiP _ _).1.length + 1 ≤ s.2.1
    omega
  · show (negP _ _ _).2.2 = cntA (hiP _ _).1
    omega
theorem m_endUnit {s : PSt} {τ : Mm} (hB : BOk B L) (hP : PRs τ s) (hI : PIv B L 1 s) : ∃ σ', FrP σ' τ ∧ PRs σ' (enP s) ∧ Ct 2 mX10_endUnit 1 [vR 10 0] NALL τ none NALL σ' 0 0 := by
  obtain ⟨i, u, a, A, S, U⟩ := s
  have hL9 := hB.1
  have tail : ∀ (S : List Fr3) (A : List (Int × Int)) (a : Nat) (τ : Mm), PRl τ i u a A S U → PIv B L 1 (i, u, a, A, S, U) → (∀ z S', S = z :: S' → z.1 ≠ 5) → ∃ σ', FrP σ' τ ∧ PRl σ' i u a (hiP S A).2 (hiP S A).1 U ∧ ∀ C : Cx, Ok C RX10 cX10_endUnit 1 2 → Rt C 1 none none NALL σ' 0 0 → ∀ ls, lsub [(0, vR 10 0)] ls → X C 1 0 ls [] NALL τ 0 0 := by
    intro S A a τ hP hI h5
    obtain ⟨⟨h1, h2, h3, h4⟩, hF, hc, hu⟩ := hI
    have h1 : A.length + S.length ≤ i := h1
    have h3 : S.length + 1 ≤ u := h3
    have h4 : tq B i ≤ L := h4
    have hu : u ≤ 24 := hu
    have hiL := tq_ge hB i
    cases S with
    | nil =>
      refine ⟨τ, FrP_refl τ, hP, fun C h hr ls hls => x_loc hls ?_⟩
      refine x_aload_n h dX10_endUnit_0 rfl ?_
      refine x_cV1 h kVX10_top lkX10_244 ⟨_, _, _, rfl, rfl⟩ dX10_endUnit_1 (top_nil (d := 0) hP) lvz_10 rfl rfl (Nat.le_of_ble_eq_true rfl) (by omega) ?_
      refine x_iconst h dX10_endUnit_4 ?_
      refine x_ic_ne_T (tgt := 37) h (by omega) dX10_endUnit_5 (by decide) (by omega) ?_
      refine x_aload_n h dX10_endUnit_37 rfl ?_
      refine x_aload_n h dX10_endUnit_38 rfl ?_
      refine x_cV1 h kVX10_top lkX10_244 ⟨_, _, _, rfl, rfl⟩ dX10_endUnit_39 (top_nil (d := 0) hP) lvz_10 rfl rfl (Nat.le_of_ble_eq_true rfl) (by omega) ?_
      refine x_cV1 h kVX10_isHigh lkX10_248 ⟨_, _, _, rfl, rfl⟩ dX10_endUnit_42 (m_isHigh (d := 0) (k := 0) (by omega)) lvz_10 rfl rfl (Nat.le_of_ble_eq_true rfl) (by omega) ?_
      refine x_if_eq_T (tgt := 70) h (by omega) dX10_endUnit_45 (by decide) (by omega) ?_
      exact x_return h hr dX10_endUnit_70 ⟨Nat.le_refl _, Nat.le_refl _⟩
    | cons z S =>
      have hz5 := h5 z S rfl
      have hz := hF z List.mem_cons_self
      have h3' : S.length + 1 + 1 ≤ u := h3
      have h1' : A.length + (S.length + 1) ≤ i := h1
      have htop := top_of (d := 0) hP (by omega)
      have hih := m_isHigh (d := 0) (σ := τ) (k := z.1) (by omega)
      by_cases hh : isHi z.1
      · rw [if_pos hh] at hih
        obtain ⟨g1, g2⟩ := PR_emit hP (actF z.1) 0
        have hem := m_emit (d := 0) (n := A.length) (x := actF z.1) (v := 0) hP.2.2.2.2.1.1 (by omega)
        have hact := m_actOf (d := 0) (σ := τ) (k := z.1) (by omega)
        have g3 := PR_pop g1
        have e26 : emS τ A.length (actF z.1) 0 10 0 26 = ((S.length + 1 : Nat) : Int) := g1.2.2.2.2.2.1.1
        have ee : ((S.length + 1 : Nat) : Int) - 1 = S.length := by omega
        refine ⟨up3 (emS τ A.length (actF z.1) 0) 10 0 26 (S.length : Int), FrP_up g2 _ (by omega), (by simp only [hiP, if_pos hh]; exact g3), fun C h hr ls hls => x_loc hls ?_⟩
        refine x_aload_n h dX10_endUnit_0 rfl ?_
        refine x_cV1 h kVX10_top lkX10_244 ⟨_, _, _, rfl, rfl⟩ dX10_endUnit_1 (htop) lvz_10 rfl rfl (Nat.le_of_ble_eq_true rfl) (by omega) ?_
        refine x_iconst h dX10_endUnit_4 ?_
        refine x_ic_ne_T (tgt := 37) h (by omega) dX10_endUnit_5 (by decide) (by omega) ?_
        refine x_aload_n h dX10_endUnit_37 rfl ?_
        refine x_aload_n h dX10_endUnit_38 rfl ?_
        refine x_cV1 h kVX10_top lkX10_244 ⟨_, _, _, rfl, rfl⟩ dX10_endUnit_39 (htop) lvz_10 rfl rfl (Nat.le_of_ble_eq_true rfl) (by omega) ?_
        refine x_cV1 h kVX10_isHigh lkX10_248 ⟨_, _, _, rfl, rfl⟩ dX10_endUnit_42 (hih) lvz_10 rfl rfl (Nat.le_of_ble_eq_true rfl) (by omega) ?_
        refine x_if_eq_F (tgt := 70) h (by omega) dX10_endUnit_45 (by decide) (by omega) ?_
        refine x_aload_n h dX10_endUnit_48 rfl ?_
        refine x_aload_n h dX10_endUnit_49 rfl ?_
        refine x_cV1 h kVX10_top lkX10_244 ⟨_, _, _, rfl, rfl⟩ dX10_endUnit_50 (htop) lvz_10 rfl rfl (Nat.le_of_ble_eq_true rfl) (by omega) ?_
        refine x_cS1 h kSX10_actOf lkX10_251 dX10_endUnit_53 (hact) rfl rfl (Nat.le_of_ble_eq_true rfl) (by omega) ?_
        refine x_lconst0 h dX10_endUnit_56 ?_
        refine x_cV0 h kVX10_emit lkX10_233 ⟨_, _, _, rfl, rfl⟩ dX10_endUnit_57 (hem) lvz_10 rfl rfl (Nat.le_of_ble_eq_true rfl) (by omega) ?_
        refine x_aload_n h dX10_endUnit_60 rfl ?_
        refine x_dup h dX10_endUnit_61 rfl ?_
        refine x_get (q := vI (((S.length + 1 : Nat) : Int))) h fl_10_224 lvz_10 dX10_endUnit_62 (congrArg vI (by first | exact e26 | simp [up3, e26])) ?_
        refine x_iconst h dX10_endUnit_65 ?_
        refine x_isub h dX10_endUnit_66 ?_
        rw [ee]
        refine x_put h fl_10_224 lvz_10 dX10_endUnit_67 rfl (fun z => absurd z (by decide)) ?_
        exact x_return h hr dX10_endUnit_70 ⟨Nat.le_refl _, Nat.le_refl _⟩
      · rw [if_neg hh] at hih
        refine ⟨τ, FrP_refl τ, (by simp only [hiP, if_neg hh]; exact hP), fun C h hr ls hls => x_loc hls ?_⟩
        refine x_aload_n h dX10_endUnit_0 rfl ?_
        refine x_cV1 h kVX10_top lkX10_244 ⟨_, _, _, rfl, rfl⟩ dX10_endUnit_1 (htop) lvz_10 rfl rfl (Nat.le_of_ble_eq_true rfl) (by omega) ?_
        refine x_iconst h dX10_endUnit_4 ?_
        refine x_ic_ne_T (tgt := 37) h (by omega) dX10_endUnit_5 (by decide) (by omega) ?_
        refine x_aload_n h dX10_endUnit_37 rfl ?_
        refine x_aload_n h dX10_endUnit_38 rfl ?_
        refine x_cV1 h kVX10_top lkX10_244 ⟨_, _, _, rfl, rfl⟩ dX10_endUnit_39 (htop) lvz_10 rfl rfl (Nat.le_of_ble_eq_true rfl) (by omega) ?_
        refine x_cV1 h kVX10_isHigh lkX10_248 ⟨_, _, _, rfl, rfl⟩ dX10_endUnit_42 (hih) lvz_10 rfl rfl (Nat.le_of_ble_eq_true rfl) (by omega) ?_
        refine x_if_eq_T (tgt := 70) h (by omega) dX10_endUnit_45 (by decide) (by omega) ?_
        exact x_return h hr dX10_endUnit_70 ⟨Nat.le_refl _, Nat.le_refl _⟩
  have loop : ∀ (S : List Fr3) (A : List (Int × Int)) (a : Nat) (τ : Mm), PRl τ i u a A S U → PIv B L 1 (i, u, a, A, S, U) → ∃ σ', FrP σ' τ ∧ PRl σ' i u (negP S A a).2.2 (hiP (negP S A a).1 (negP S A a).2.1).2 (hiP (negP S A a).1 (negP S A a).2.1).1 U ∧ ∀ C : Cx, Ok C RX10 cX10_endUnit 1 2 → Rt C 1 none none NALL σ' 0 0 → ∀ ls, lsub [(0, vR 10 0)] ls → X C 1 0 ls [] NALL τ 0 0 := by
    intro S
    induction S with
    | nil => intro A a τ hP hI; exact tail [] A a τ hP hI (fun z S' e => by cases e)
    | cons z S ih =>
      intro A a τ hP hI
      by_cases hz : z.1 = 5
      · obtain ⟨⟨h1, h2, h3, h4⟩, hF, hc, hu⟩ := hI
        have h1 : A.length + (S.length + 1) ≤ i := h1
        have h3 : S.length + 1 + 1 ≤ u := h3
        have h4 : tq B i ≤ L := h4
        have hu : u ≤ 24 := hu
        have hc : a = cntA (z :: S) := hc
        rw [cntA, if_pos (Or.inl hz)] at hc
        have hiL := tq_ge hB i
        have htop := top_of (d := 0) hP (by omega)
        rw [hz] at htop
        obtain ⟨g1, g2⟩ := PR_emit hP 5 0
        have hem := m_emit (d := 0) (n := A.length) (x := 5) (v := 0) hP.2.2.2.2.1.1 (by omega)
        have g3 := PR_pop g1
        have g4 := PR_a g3 (a - 1)
        have e26 : emS τ A.length 5 0 10 0 26 = ((S.length + 1 : Nat) : Int) := g1.2.2.2.2.2.1.1
        have ee : ((S.length + 1 : Nat) : Int) - 1 = S.length := by omega
        have ea : (a : Int) - 1 = ((a - 1 : Nat) : Int) := by omega
        obtain ⟨σ', k1, k2, hx⟩ := ih (A ++ [(5, 0)]) (a - 1) _ g4 ⟨⟨by simp only [List.length_append, List.length_cons, List.length_nil]; omega, h2, by show S.length + 1 ≤ u; omega, h4⟩, FOk_mono (FOk_tl hF) (by simp), by show a - 1 = cntA S; omega, hu⟩
        rw [negP, if_pos hz]
        refine ⟨σ', FrP_tr k1 (FrP_up (FrP_up g2 _ (by omega)) _ (by omega)), k2, fun C h hr ls hls => x_loc hls ?_⟩
        refine x_aload_n h dX10_endUnit_0 rfl ?_
        refine x_cV1 h kVX10_top lkX10_244 ⟨_, _, _, rfl, rfl⟩ dX10_endUnit_1 (htop) lvz_10 rfl rfl (Nat.le_of_ble_eq_true rfl) (by omega) ?_
        refine x_iconst h dX10_endUnit_4 ?_
        refine x_ic_ne_F (tgt := 37) h (by omega) dX10_endUnit_5 (by decide) (by omega) ?_
        refine x_aload_n h dX10_endUnit_8 rfl ?_
        refine x_iconst h dX10_endUnit_9 ?_
        refine x_lconst0 h dX10_endUnit_10 ?_
        refine x_cV0 h kVX10_emit lkX10_233 ⟨_, _, _, rfl, rfl⟩ dX10_endUnit_11 (hem) lvz_10 rfl rfl (Nat.le_of_ble_eq_true rfl) (by omega) ?_
        refine x_aload_n h dX10_endUnit_14 rfl ?_
        refine x_dup h dX10_endUnit_15 rfl ?_
        refine x_get (q := vI (((S.length + 1 : Nat) : Int))) h fl_10_224 lvz_10 dX10_endUnit_16 (congrArg vI (by first | exact e26 | simp [up3, e26])) ?_
        refine x_iconst h dX10_endUnit_19 ?_
        refine x_isub h dX10_endUnit_20 ?_
        rw [ee]
        refine x_put h fl_10_224 lvz_10 dX10_endUnit_21 rfl (fun z => absurd z (by decide)) ?_
        refine x_aload_n h dX10_endUnit_24 rfl ?_
        refine x_dup h dX10_endUnit_25 rfl ?_
        refine x_get (q := vI (a)) h fl_10_230 lvz_10 dX10_endUnit_26 (congrArg vI (by first | exact g3.2.2.2.1 | simp [up3, g3.2.2.2.1])) ?_
        refine x_iconst h dX10_endUnit_29 ?_
        refine x_isub h dX10_endUnit_30 ?_
        rw [ea]
        refine x_put h fl_10_230 lvz_10 dX10_endUnit_31 rfl (fun z => absurd z (by decide)) ?_
        refine x_goto (tgt := 0) h dX10_endUnit_34 (by decide) ?_
        exact hx C h hr _ ⟨rfl, trivial⟩
      · rw [negP, if_neg hz]
        exact tail (z :: S) A a τ hP hI (fun y S' e => by injection e with e1 e2; rw [← e1]; exact hz)
  obtain ⟨σ', k1, k2, hx⟩ := loop S A a τ hP hI
  refine ⟨σ', k1, k2, ?_⟩
  refine ct_of (by decide) (Nat.le_of_ble_eq_true rfl) (fun C h hr _ => ?_)
  have h : Ok C RX10 cX10_endUnit 1 _ := h
  exact hx C h hr _ ⟨rfl, trivial⟩
theorem m_endLow {i u a c : Nat} {A : List (Int × Int)} {S : List Fr3} {U : List Us3} {τ : Mm} (hB : BOk B L) (hP : PRl τ i u a A S U) (hI : PIv B L c (i, u, a, A, S, U)) : ∃ σ', FrP σ' τ ∧ PRl σ' i u a (loP S A).2 (loP S A).1 U ∧ Ct 1 mX10_endLow 1 [vR 10 0] NALL τ none NALL σ' 0 0 := by
  have hL9 := hB.1
  obtain ⟨⟨h1, h2, h3, h4⟩, hF, hc, hu⟩ := hI
  have h1 : A.length + S.length ≤ i := h1
  have h3 : S.length + c ≤ u := h3
  have h4 : tq B i ≤ L := h4
  have hu : u ≤ 24 := hu
  have hiL := tq_ge hB i
  cases S with
  | nil =>
    refine ⟨τ, FrP_refl τ, hP, ?_⟩
    refine ct_of (by decide) (Nat.le_of_ble_eq_true rfl) (fun C h hr _ => ?_)
    have h : Ok C RX10 cX10_endLow 1 _ := h
    refine x_aload_n h dX10_endLow_0 rfl ?_
    refine x_aload_n h dX10_endLow_1 rfl ?_
    refine x_cV1 h kVX10_top lkX10_244 ⟨_, _, _, rfl, rfl⟩ dX10_endLow_2 (top_nil (d := 0) hP) lvz_10 rfl rfl (Nat.le_of_ble_eq_true rfl) (by omega) ?_
    refine x_cV1 h kVX10_isLow lkX10_254 ⟨_, _, _, rfl, rfl⟩ dX10_endLow_5 (m_isLow (d := 0) (k := 0) (by omega)) lvz_10 rfl rfl (Nat.le_of_ble_eq_true rfl) (by omega) ?_
    refine x_if_eq_T (tgt := 33) h (by omega) dX10_endLow_8 (by decide) (by omega) ?_
    exact x_return h hr dX10_endLow_33 ⟨Nat.le_refl _, Nat.le_refl _⟩
  | cons z S =>
    have hz := hF z List.mem_cons_self
    have h3' : S.length + 1 + c ≤ u := h3
    have h1' : A.length + (S.length + 1) ≤ i := h1
    have htop := top_of (d := 0) hP (by omega)
    have hih := m_isLow (d := 0) (σ := τ) (k := z.1) (by omega)
    by_cases hh : isLo z.1
    · rw [if_pos hh] at hih
      obtain ⟨g1, g2⟩ := PR_emit hP (actF z.1) 0
      have hem := m_emit (d := 0) (n := A.length) (x := actF z.1) (v := 0) hP.2.2.2.2.1.1 (by omega)
      have hact := m_actOf (d := 0) (σ := τ) (k := z.1) (by omega)
      have g3 := PR_pop g1
      have e26 : emS τ A.length (actF z.1) 0 10 0 26 = ((S.length + 1 : Nat) : Int) := g1.2.2.2.2.2.1.1
      have ee : ((S.length + 1 : Nat) : Int) - 1 = S.length := by omega
      refine ⟨up3 (emS τ A.length (actF z.1) 0) 10 0 26 (S.length : Int), FrP_up g2 _ (by omega), (by simp only [loP, if_pos hh]; exact g3), ?_⟩
      refine ct_of (by decide) (Nat.le_of_ble_eq_true rfl) (fun C h hr _ => ?_)
      have h : Ok C RX10 cX10_endLow 1 _ := h
      refine x_aload_n h dX10_endLow_0 rfl ?_
      refine x_aload_n h dX10_endLow_1 rfl ?_
      refine x_cV1 h kVX10_top lkX10_244 ⟨_, _, _, rfl, rfl⟩ dX10_endLow_2 (htop) lvz_10 rfl rfl (Nat.le_of_ble_eq_true rfl) (by omega) ?_
      refine x_cV1 h kVX10_isLow lkX10_254 ⟨_, _, _, rfl, rfl⟩ dX10_endLow_5 (hih) lvz_10 rfl rfl (Nat.le_of_ble_eq_true rfl) (by omega) ?_
      refine x_if_eq_F (tgt := 33) h (by omega) dX10_endLow_8 (by decide) (by omega) ?_
      refine x_aload_n h dX10_endLow_11 rfl ?_
      refine x_aload_n h dX10_endLow_12 rfl ?_
      refine x_cV1 h kVX10_top lkX10_244 ⟨_, _, _, rfl, rfl⟩ dX10_endLow_13 (htop) lvz_10 rfl rfl (Nat.le_of_ble_eq_true rfl) (by omega) ?_
      refine x_cS1 h kSX10_actOf lkX10_251 dX10_endLow_16 (hact) rfl rfl (Nat.le_of_ble_eq_true rfl) (by omega) ?_
      refine x_lconst0 h dX10_endLow_19 ?_
      refine x_cV0 h kVX10_emit lkX10_233 ⟨_, _, _, rfl, rfl⟩ dX10_endLow_20 (hem) lvz_10 rfl rfl (Nat.le_of_ble_eq_true rfl) (by omega) ?_
      refine x_aload_n h dX10_endLow_23 rfl ?_
      refine x_dup h dX10_endLow_24 rfl ?_
      refine x_get (q := vI (((S.length + 1 : Nat) : Int))) h fl_10_224 lvz_10 dX10_endLow_25 (congrArg vI (by first | exact e26 | simp [up3, e26])) ?_
      refine x_iconst h dX10_endLow_28 ?_
      refine x_isub h dX10_endLow_29 ?_
      rw [ee]
      refine x_put h fl_10_224 lvz_10 dX10_endLow_30 rfl (fun z => absurd z (by decide)) ?_
      exact x_return h hr dX10_endLow_33 ⟨Nat.le_refl _, Nat.le_refl _⟩
    · rw [if_neg hh] at hih
      refine ⟨τ, FrP_refl τ, (by simp only [loP, if_neg hh]; exact hP), ?_⟩
      refine ct_of (by decide) (Nat.le_of_ble_eq_true rfl) (fun C h hr _ => ?_)
      have h : Ok C RX10 cX10_endLow 1 _ := h
      refine x_aload_n h dX10_endLow_0 rfl ?_
      refine x_aload_n h dX10_endLow_1 rfl ?_
      refine x_cV1 h kVX10_top lkX10_244 ⟨_, _, _, rfl, rfl⟩ dX10_endLow_2 (htop) lvz_10 rfl rfl (Nat.le_of_ble_eq_true rfl) (by omega) ?_
      refine x_cV1 h kVX10_isLow lkX10_254 ⟨_, _, _, rfl, rfl⟩ dX10_endLow_5 (hih) lvz_10 rfl rfl (Nat.le_of_ble_eq_true rfl) (by omega) ?_
      refine x_if_eq_T (tgt := 33) h (by omega) dX10_endLow_8 (by decide) (by omega) ?_
      exact x_return h hr dX10_endLow_33 ⟨Nat.le_refl _, Nat.le_refl _⟩
def patch (A : List (Int × Int)) (j : Nat) (v : Int) : List (Int × Int) := A.set j ((A.getD j (0, 0)).1, v)
def mapT (r : Nat ⊕ PSt) : Nat ⊕ (Bool × PSt) := match r with
  | .inl e => .inl e
  | .inr s => .inr (true, s)
/-- goOn behind its endLow, where no sign comes -/
def dsP (K V : Nat → Int) (m i u a : Nat) (A : List (Int × Int)) (S : List Fr3) (U : List Us3) : Nat ⊕ (Bool × PSt) := match S with
  | [] => .inr (false, (i, u, a, A, [], U))
  | z :: S2 =>
    if z.1 = 91 then (if K i = 93 then .inr (true, (i + 1, u, a - 1, A ++ [(4, z.2.2)], S2, U)) else .inl i)
    else if z.2.1 = 0 ∧ K i = 60 then mapT (rdU K V m 25 (i + 1) u a A ((z.1, 1, z.2.2) :: S2) U)
    else if z.2.1 = 0 ∧ K i = 63 then mapT (rdU K V m 25 (i + 1) u a (A ++ [(12, 0)]) ((z.1, 2, (A.length : Int)) :: S2) U)
    else if z.2.1 = 2 then (if K i = 58 then mapT (rdU K V m 25 (i + 1) u a (patch (A ++ [(13, 0)]) z.2.2.toNat ((A.length + 1 : Nat) : Int)) ((z.1, 3, (A.length : Int)) :: S2) U) else .inl i)
    else if K i = 41 then .inr (true, (i + 1, u, a - 1, (if z.2.1 = 1 then A ++ [(11, 0)] else if z.2.1 = 3 then patch A z.2.2.toNat (A.length : Int) else A), S2, U)) else .inl i
def goP (K V : Nat → Int) (m : Nat) (s : PSt) : Nat ⊕ (Bool × PSt) :=
  if isHi (K s.1) then mapT (rdU K V m 25 (s.1 + 1) s.2.1 s.2.2.1 s.2.2.2.1 ((K s.1, 0, 0) :: s.2.2.2.2.1) s.2.2.2.2.2)
  else if isLo (K s.1) then mapT (rdU K V m 25 (s.1 + 1) s.2.1 s.2.2.1 (loP s.2.2.2.2.1 s.2.2.2.1).2 ((K s.1, 0, 0) :: (loP s.2.2.2.2.1 s.2.2.2.1).1) s.2.2.2.2.2)
  else dsP K V m s.1 s.2.1 s.2.2.1 (loP s.2.2.2.2.1 s.2.2.2.1).2 (loP s.2.2.2.2.1 s.2.2.2.1).1 s.2.2.2.2.2
theorem patch_len (A : List (Int × Int)) (j : Nat) (v : Int) : (patch A j v).length = A.length := by unfold patch; rw [List.length_set]
theorem patch_get {A : List (Int × Int)} {j : Nat} {v : Int} (hj : j < A.length) (k : Nat) (hk : k < A.length) : (patch A j v).getD k (0, 0) = if k = j then ((A.getD j (0, 0)).1, v) else A.getD k (0, 0) := by
  unfold patch
  rw [List.getD_eq_getElem?_getD, List.getElem?_set]
  by_cases q : j = k
  · subst q
    rw [if_pos rfl, if_pos hj, if_pos rfl]
    rfl
  · rw [if_neg q, if_neg (fun z => q z.symm), List.getD_eq_getElem?_getD]
theorem PR_patch {σ : Mm} {i u a j : Nat} {A : List (Int × Int)} {S : List Fr3} {U : List Us3} (h : PRl σ i u a A S U) (hj : j < A.length) (v : Int) : PRl (up3 σ 48 0 j v) i u a (patch A j v) S U ∧ FrP (up3 σ 48 0 j v) σ := by
  obtain ⟨h1, h2, h3, h4, ⟨h5, h5b⟩, ⟨h6, h7⟩, h8⟩ := h
  refine ⟨⟨by rw [up3_n _ (by omega)]; exact h1, by rw [up3_n _ (by omega)]; exact h2, by rw [up3_n _ (by omega)]; exact h3, by rw [up3_n _ (by omega)]; exact h4, ⟨by rw [up3_n _ (by omega), patch_len]; exact h5, fun k hk => ?_⟩, ⟨by rw [up3_n _ (by omega)]; exact h6, StkR_fr S (fun f j hf _ => up3_n _ (by omega)) h7⟩, UseR_fr h8 (fun f j hf => up3_n _ (by omega))⟩, FrP_up (FrP_refl σ) _ (by omega)⟩
  rw [patch_len] at hk
  rw [patch_get hj k hk]
  obtain ⟨g1, g2⟩ := h5b k hk
  by_cases q : k = j
  · subst q
    rw [if_pos rfl]
    exact ⟨by rw [up3_n _ (by omega)]; exact g1, up3_s _ _ _ _ _⟩
  · rw [if_neg q]
    exact ⟨by rw [up3_n _ (by omega)]; exact g1, by rw [up3_j _ _ q]; exact g2⟩
/-- the top of what is open changes its stage and place -/
theorem PR_stage {σ : Mm} {i u a : Nat} {A : List (Int × Int)} {z : Fr3} {S : List Fr3} {U : List Us3} (h : PRl σ i u a A (z :: S) U) (x : Int) : PRl (up3 σ 58 0 S.length x) i u a A ((z.1, x, z.2.2) :: S) U ∧ FrP (up3 σ 58 0 S.length x) σ := by
  obtain ⟨h1, h2, h3, h4, h5, ⟨h6, h7, h8, h9, h10⟩, h11⟩ := h
  refine ⟨⟨by rw [up3_n _ (by omega)]; exact h1, by rw [up3_n _ (by omega)]; exact h2, by rw [up3_n _ (by omega)]; exact h3, by rw [up3_n _ (by omega)]; exact h4, ActsR_fr h5 (fun f j hf => up3_n _ (by omega)), ⟨by rw [up3_n _ (by omega)]; exact h6, by rw [up3_n _ (by omega)]; exact h7, up3_s _ _ _ _ _, by rw [up3_n _ (by omega)]; exact h9, StkR_fr S (fun f j hf hj => by unfold up3; rw [if_neg (by omega)]) h10⟩, UseR_fr h11 (fun f j hf => up3_n _ (by omega))⟩, FrP_up (FrP_refl σ) _ (by omega)⟩
theorem PR_at {σ : Mm} {i u a : Nat} {A : List (Int × Int)} {z : Fr3} {S : List Fr3} {U : List Us3} (h : PRl σ i u a A (z :: S) U) (x : Int) : PRl (up3 σ 59 0 S.length x) i u a A ((z.1, z.2.1, x) :: S) U ∧ FrP (up3 σ 59 0 S.length x) σ := by
  obtain ⟨h1, h2, h3, h4, h5, ⟨h6, h7, h8, h9, h10⟩, h11⟩ := h
  refine ⟨⟨by rw [up3_n _ (by omega)]; exact h1, by rw [up3_n _ (by omega)]; exact h2, by rw [up3_n _ (by omega)]; exact h3, by rw [up3_n _ (by omega)]; exact h4, ActsR_fr h5 (fun f j hf => up3_n _ (by omega)), ⟨by rw [up3_n _ (by omega)]; exact h6, by rw [up3_n _ (by omega)]; exact h7, by rw [up3_n _ (by omega)]; exact h8, up3_s _ _ _ _ _, StkR_fr S (fun f j hf hj => by unfold up3; rw [if_neg (by omega)]) h10⟩, UseR_fr h11 (fun f j hf => up3_n _ (by omega))⟩, FrP_up (FrP_refl σ) _ (by omega)⟩
end GO
