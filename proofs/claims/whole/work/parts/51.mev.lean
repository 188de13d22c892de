/-! the reference's evaluator: its memory against the picture D -/
/-- what the evaluator may change -/
def FrG (σ' σ : Mm) : Prop := ∀ f k j, ¬ (71 ≤ f ∨ (f = 10 ∧ (j = 44 ∨ j = 48 ∨ j = 55 ∨ j = 63 ∨ j = 64 ∨ j = 65))) → σ' f k j = σ f k j
theorem FrG_refl (σ : Mm) : FrG σ σ := fun _ _ _ _ => rfl
theorem FrG_tr {a b c : Mm} (h : FrG a b) (h' : FrG b c) : FrG a c := fun f k j hf => (h f k j hf).trans (h' f k j hf)
/-- the frames below v stand -/
def LowR (v : Nat) (σ' σ : Mm) : Prop := (∀ i f, i < v → 86 ≤ f → f ≤ 91 → σ' f 0 i = σ f 0 i) ∧ ∀ j, j < 40 * v → σ' 92 0 j = σ 92 0 j
theorem LowR_refl (v : Nat) (σ : Mm) : LowR v σ σ := ⟨fun _ _ _ _ _ => rfl, fun _ _ => rfl⟩
theorem LowR_tr {v : Nat} {a b c : Mm} (h : LowR v a b) (h' : LowR v b c) : LowR v a c := ⟨fun i f h1 h2 h3 => (h.1 i f h1 h2 h3).trans (h'.1 i f h1 h2 h3), fun j hj => (h.2 j hj).trans (h'.2 j hj)⟩
theorem LowR_le {v w : Nat} {a b : Mm} (h : LowR w a b) (hv : v ≤ w) : LowR v a b := ⟨fun i f h1 h2 h3 => h.1 i f (by omega) h2 h3, fun j hj => h.2 j (by omega)⟩
def PlR (σ : Mm) (v : Nat) : List Int → Prop
  | [] => True
  | x :: st => σ 92 0 (40 * v + st.length) = x ∧ PlR σ v st
theorem PlR_fr {σ σ' : Mm} {v : Nat} : ∀ (st : List Int), (∀ j, 40 * v ≤ j → j < 40 * v + st.length → σ' 92 0 j = σ 92 0 j) → PlR σ v st → PlR σ' v st := by
  intro st
  induction st with
  | nil => intro _ _; trivial
  | cons x st ih => intro hf h; exact ⟨by rw [hf _ (by omega) (by simp only [List.length_cons]; omega)]; exact h.1, ih (fun j h1 h2 => hf j h1 (by simp only [List.length_cons]; omega)) h.2⟩
def FrameAt (σ : Mm) (v t : Nat) (row pl e act : Int) (st : List Int) : Prop := (σ 86 0 v = t ∧ σ 87 0 v = row) ∧ σ 88 0 v = pl ∧ σ 89 0 v = e ∧ σ 90 0 v = act ∧ σ 91 0 v = (st.length : Int) ∧ PlR σ v st
def LgR (D σ : Mm) : Prop := σ 10 0 44 = D 8 0 1 ∧ σ 10 0 48 = D 8 1 1 ∧ ∀ i : Nat, i < 100 → ((i : Int) < D 8 0 1 → σ 75 0 i = D 18 0 (4 * i) ∧ σ 76 0 i = D 18 0 (4 * i + 1) ∧ σ 77 0 i = D 18 0 (4 * i + 2)) ∧ ((i : Int) < D 8 1 1 → σ 79 0 i = D 18 1 (4 * i) ∧ σ 80 0 i = D 18 1 (4 * i + 1) ∧ σ 81 0 i = D 18 1 (4 * i + 2) ∧ σ 82 0 i = D 18 1 (4 * i + 3))
def EnR (S : Sd) (D σ : Mm) (k : Nat) : Prop := (0 ≤ sSz S k ∧ sSz S k ≤ 200) ∧ (sBy S k ≠ 0 → ∀ r, r < 25 → σ 72 0 (25 * k + r) = D 17 k r) ∧ ∀ p, p < 200 → D 17 k (p / 8) ≠ 3 → σ 73 0 (200 * k + p) = D 16 k p
def HR (n : Nat) (S : Sd) (D σ : Mm) : Prop := (∀ k, k < n → σ 71 0 k = D 5 k 8 ∧ (D 5 k 8 = 1 ∨ D 5 k 8 = 2 → EnR S D σ k)) ∧ LgR D σ
/-- the frames lo..hi-1 are about to fail -/
def FrI (σ : Mm) (lo hi k : Nat) (r : Int) : Prop := ∃ i, lo ≤ i ∧ i < hi ∧ σ 86 0 i = (k : Int) ∧ σ 87 0 i = r
def EnM (S : Sd) (lo hi : Nat) (D σ : Mm) (k : Nat) : Prop := (0 ≤ sSz S k ∧ sSz S k ≤ 200) ∧ (sBy S k ≠ 0 → ∀ r : Nat, r < 25 → (FrI σ lo hi k r → D 17 k r = 3) ∧ (¬ FrI σ lo hi k r → σ 72 0 (25 * k + r) = D 17 k r)) ∧ ∀ p, p < 200 → D 17 k (p / 8) ≠ 3 → σ 73 0 (200 * k + p) = D 16 k p
def HM (n : Nat) (S : Sd) (lo hi : Nat) (D σ : Mm) : Prop := (∀ k, k < n → (FrI σ lo hi k (-9) → D 5 k 8 = 3) ∧ (¬ FrI σ lo hi k (-9) → σ 71 0 k = D 5 k 8) ∧ (D 5 k 8 = 1 ∨ D 5 k 8 = 2 → EnM S lo hi D σ k)) ∧ LgR D σ
theorem FrI_no {σ : Mm} {v k : Nat} {r : Int} : ¬ FrI σ v v k r := fun ⟨i, h1, h2, _⟩ => by omega
theorem HM_of {n : Nat} {S : Sd} {D σ : Mm} (v : Nat) (h : HR n S D σ) : HM n S v v D σ := ⟨fun k hk => ⟨fun z => absurd z FrI_no, fun _ => (h.1 k hk).1, fun z => by
  obtain ⟨a, b, c⟩ := (h.1 k hk).2 z
  exact ⟨a, fun q r hr => ⟨fun y => absurd y FrI_no, fun _ => b q r hr⟩, c⟩⟩, h.2⟩
theorem HR_of {n : Nat} {S : Sd} {D σ : Mm} {v : Nat} (h : HM n S v v D σ) : HR n S D σ := ⟨fun k hk => ⟨(h.1 k hk).2.1 FrI_no, fun z => by
  obtain ⟨a, b, c⟩ := (h.1 k hk).2.2 z
  exact ⟨a, fun q r hr => (b q r hr).2 FrI_no, c⟩⟩, h.2⟩
theorem SRl_G {S : Sd} {n : Nat} {σ σ' : Mm} (h : SRl S n σ) (hf : FrG σ' σ) : SRl S n σ' := by
  refine ⟨by rw [hf _ _ _ (by omega)]; exact h.1, fun k hk => ?_⟩
  obtain ⟨⟨a1, a2, a3, a4, a5⟩, c, b1, b2, b3, b4⟩ := h.2 k hk
  exact ⟨⟨by rw [hf _ _ _ (by omega)]; exact a1, by rw [hf _ _ _ (by omega)]; exact a2, by rw [hf _ _ _ (by omega)]; exact a3, by rw [hf _ _ _ (by omega)]; exact a4, by rw [hf _ _ _ (by omega)]; exact a5⟩, c, by rw [hf _ _ _ (by omega)]; exact b1, by rw [hf _ _ _ (by omega)]; exact b2, b3, fun j hj => by rw [hf _ _ _ (by omega), hf _ _ _ (by omega)]; exact b4 j hj⟩
/-! the logs -/
def nbS (σ : Mm) (b : Nat) (x0 x1 x2 : Int) : Mm := if b < 100 then up3 (up3 (up3 (up3 σ 75 0 b x0) 76 0 b x1) 77 0 b x2) 10 0 44 (b + 1) else up3 σ 10 0 44 (b + 1)
def nhS (σ : Mm) (b : Nat) (x0 x1 x2 x3 : Int) : Mm := if b < 100 then up3 (up3 (up3 (up3 (up3 σ 79 0 b x0) 80 0 b x1) 81 0 b x2) 82 0 b x3) 10 0 48 (b + 1) else up3 σ 10 0 48 (b + 1)
theorem nbS_o {σ : Mm} {b : Nat} {x0 x1 x2 : Int} {f k j : Nat} (h : ¬ (75 ≤ f ∧ f ≤ 77) ∧ ¬ (f = 10 ∧ j = 44)) : nbS σ b x0 x1 x2 f k j = σ f k j := by
  unfold nbS
  split
  · rw [up3_n _ (by omega), up3_n _ (by omega), up3_n _ (by omega), up3_n _ (by omega)]
  · rw [up3_n _ (by omega)]
theorem nhS_o {σ : Mm} {b : Nat} {x0 x1 x2 x3 : Int} {f k j : Nat} (h : ¬ (79 ≤ f ∧ f ≤ 82) ∧ ¬ (f = 10 ∧ j = 48)) : nhS σ b x0 x1 x2 x3 f k j = σ f k j := by
  unfold nhS
  split
  · rw [up3_n _ (by omega), up3_n _ (by omega), up3_n _ (by omega), up3_n _ (by omega), up3_n _ (by omega)]
  · rw [up3_n _ (by omega)]
theorem m_noteBuild {d b : Nat} {σ : Mm} {x0 x1 x2 : Int} (hb : σ 10 0 44 = b) (hb2 : b < 2147483600) : Ct d mX10_noteBuild 1 [vR 10 0, vI x0, vI x1, vI x2] NALL σ none NALL (nbS σ b x0 x1 x2) 0 0 := by
  refine ct_of (by decide) (Nat.le_of_ble_eq_true rfl) (fun C h hr _ => ?_)
  have h : Ok C RX10 cX10_noteBuild 4 _ := h
  unfold nbS at hr
  by_cases h1 : b < 100
  · rw [if_pos h1] at hr
    refine x_aload_n h dX10_noteBuild_0 rfl ?_
    refine x_get (q := vI (b)) h fl_10_296 lvz_10 dX10_noteBuild_1 (congrArg vI (by first | exact hb | simp [up3, hb])) ?_
    refine x_bipush h dX10_noteBuild_4 (by decide) ?_
    refine x_ic_ge_F (tgt := 39) h (by omega) dX10_noteBuild_6 (by decide) (by omega) ?_
    refine x_aload_n h dX10_noteBuild_9 rfl ?_
    refine x_get h fl_10_109 lvz_10 dX10_noteBuild_10 (pvf_575 _ _) ?_
    refine x_aload_n h dX10_noteBuild_13 rfl ?_
    refine x_get (q := vI (b)) h fl_10_296 lvz_10 dX10_noteBuild_14 (congrArg vI (by first | exact hb | simp [up3, hb])) ?_
    refine x_iload_n h dX10_noteBuild_17 rfl ?_
    refine x_iast h kdf_75 lvz_75 dX10_noteBuild_18 rfl (by omega) ?_
    refine x_aload_n h dX10_noteBuild_19 rfl ?_
    refine x_get h fl_10_112 lvz_10 dX10_noteBuild_20 (pvf_576 _ _) ?_
    refine x_aload_n h dX10_noteBuild_23 rfl ?_
    refine x_get (q := vI (b)) h fl_10_296 lvz_10 dX10_noteBuild_24 (congrArg vI (by first | exact hb | simp [up3, hb])) ?_
    refine x_iload_n h dX10_noteBuild_27 rfl ?_
    refine x_iast h kdf_76 lvz_76 dX10_noteBuild_28 rfl (by omega) ?_
    refine x_aload_n h dX10_noteBuild_29 rfl ?_
    refine x_get h fl_10_115 lvz_10 dX10_noteBuild_30 (pvf_577 _ _) ?_
    refine x_aload_n h dX10_noteBuild_33 rfl ?_
    refine x_get (q := vI (b)) h fl_10_296 lvz_10 dX10_noteBuild_34 (congrArg vI (by first | exact hb | simp [up3, hb])) ?_
    refine x_iload_n h dX10_noteBuild_37 rfl ?_
    refine x_iast h kdf_77 lvz_77 dX10_noteBuild_38 rfl (by omega) ?_
    refine x_aload_n h dX10_noteBuild_39 rfl ?_
    refine x_dup h dX10_noteBuild_40 rfl ?_
    refine x_get (q := vI (b)) h fl_10_296 lvz_10 dX10_noteBuild_41 (congrArg vI (by first | exact hb | simp [up3, hb])) ?_
    refine x_iconst h dX10_noteBuild_44 ?_
    refine x_iadd h dX10_noteBuild_45 ?_
    refine x_put h fl_10_296 lvz_10 dX10_noteBuild_46 rfl (fun z => absurd z (by decide)) ?_
    exact x_return h hr dX10_noteBuild_49 ⟨Nat.le_refl _, Nat.le_refl _⟩
  · rw [if_neg h1] at hr
    refine x_aload_n h dX10_noteBuild_0 rfl ?_
    refine x_get (q := vI (b)) h fl_10_296 lvz_10 dX10_noteBuild_1 (congrArg vI (by first | exact hb | simp [up3, hb])) ?_
    refine x_bipush h dX10_noteBuild_4 (by decide) ?_
    refine x_ic_ge_T (tgt := 39) h (by omega) dX10_noteBuild_6 (by decide) (by omega) ?_
    refine x_aload_n h dX10_noteBuild_39 rfl ?_
    refine x_dup h dX10_noteBuild_40 rfl ?_
    refine x_get (q := vI (b)) h fl_10_296 lvz_10 dX10_noteBuild_41 (congrArg vI (by first | exact hb | simp [up3, hb])) ?_
    refine x_iconst h dX10_noteBuild_44 ?_
    refine x_iadd h dX10_noteBuild_45 ?_
    refine x_put h fl_10_296 lvz_10 dX10_noteBuild_46 rfl (fun z => absurd z (by decide)) ?_
    exact x_return h hr dX10_noteBuild_49 ⟨Nat.le_refl _, Nat.le_refl _⟩
theorem m_half {d b : Nat} {σ : Mm} {x0 x1 x2 x3 : Int} (hb : σ 10 0 48 = b) (hb2 : b < 2147483600) : Ct d mX10_half 1 [vR 10 0, vI x0, vI x1, vI x2, vL x3] NALL σ (some (vL x3)) NALL (nhS σ b x0 x1 x2 x3) 0 0 := by
  refine ct_of (by decide) (Nat.le_of_ble_eq_true rfl) (fun C h hr _ => ?_)
  have h : Ok C RX10 cX10_half 6 _ := h
  unfold nhS at hr
  by_cases h1 : b < 100
  · rw [if_pos h1] at hr
    refine x_aload_n h dX10_half_0 rfl ?_
    refine x_get (q := vI (b)) h fl_10_299 lvz_10 dX10_half_1 (congrArg vI (by first | exact hb | simp [up3, hb])) ?_
    refine x_bipush h dX10_half_4 (by decide) ?_
    refine x_ic_ge_F (tgt := 50) h (by omega) dX10_half_6 (by decide) (by omega) ?_
    refine x_aload_n h dX10_half_9 rfl ?_
    refine x_get h fl_10_118 lvz_10 dX10_half_10 (pvf_579 _ _) ?_
    refine x_aload_n h dX10_half_13 rfl ?_
    refine x_get (q := vI (b)) h fl_10_299 lvz_10 dX10_half_14 (congrArg vI (by first | exact hb | simp [up3, hb])) ?_
    refine x_iload_n h dX10_half_17 rfl ?_
    refine x_iast h kdf_79 lvz_79 dX10_half_18 rfl (by omega) ?_
    refine x_aload_n h dX10_half_19 rfl ?_
    refine x_get h fl_10_121 lvz_10 dX10_half_20 (pvf_580 _ _) ?_
    refine x_aload_n h dX10_half_23 rfl ?_
    refine x_get (q := vI (b)) h fl_10_299 lvz_10 dX10_half_24 (congrArg vI (by first | exact hb | simp [up3, hb])) ?_
    refine x_iload_n h dX10_half_27 rfl ?_
    refine x_iast h kdf_80 lvz_80 dX10_half_28 rfl (by omega) ?_
    refine x_aload_n h dX10_half_29 rfl ?_
    refine x_get h fl_10_124 lvz_10 dX10_half_30 (pvf_581 _ _) ?_
    refine x_aload_n h dX10_half_33 rfl ?_
    refine x_get (q := vI (b)) h fl_10_299 lvz_10 dX10_half_34 (congrArg vI (by first | exact hb | simp [up3, hb])) ?_
    refine x_iload_n h dX10_half_37 rfl ?_
    refine x_iast h kdf_81 lvz_81 dX10_half_38 rfl (by omega) ?_
    refine x_aload_n h dX10_half_39 rfl ?_
    refine x_get h fl_10_127 lvz_10 dX10_half_40 (pvf_582 _ _) ?_
    refine x_aload_n h dX10_half_43 rfl ?_
    refine x_get (q := vI (b)) h fl_10_299 lvz_10 dX10_half_44 (congrArg vI (by first | exact hb | simp [up3, hb])) ?_
    refine x_lload h dX10_half_47 rfl ?_
    refine x_last h kdf_82 lvz_82 dX10_half_49 rfl (by omega) ?_
    refine x_aload_n h dX10_half_50 rfl ?_
    refine x_dup h dX10_half_51 rfl ?_
    refine x_get (q := vI (b)) h fl_10_299 lvz_10 dX10_half_52 (congrArg vI (by first | exact hb | simp [up3, hb])) ?_
    refine x_iconst h dX10_half_55 ?_
    refine x_iadd h dX10_half_56 ?_
    refine x_put h fl_10_299 lvz_10 dX10_half_57 rfl (fun z => absurd z (by decide)) ?_
    refine x_lload h dX10_half_60 rfl ?_
    exact x_lreturn h hr dX10_half_62 ⟨Nat.le_refl _, Nat.le_refl _⟩
  · rw [if_neg h1] at hr
    refine x_aload_n h dX10_half_0 rfl ?_
    refine x_get (q := vI (b)) h fl_10_299 lvz_10 dX10_half_1 (congrArg vI (by first | exact hb | simp [up3, hb])) ?_
    refine x_bipush h dX10_half_4 (by decide) ?_
    refine x_ic_ge_T (tgt := 50) h (by omega) dX10_half_6 (by decide) (by omega) ?_
    refine x_aload_n h dX10_half_50 rfl ?_
    refine x_dup h dX10_half_51 rfl ?_
    refine x_get (q := vI (b)) h fl_10_299 lvz_10 dX10_half_52 (congrArg vI (by first | exact hb | simp [up3, hb])) ?_
    refine x_iconst h dX10_half_55 ?_
    refine x_iadd h dX10_half_56 ?_
    refine x_put h fl_10_299 lvz_10 dX10_half_57 rfl (fun z => absurd z (by decide)) ?_
    refine x_lload h dX10_half_60 rfl ?_
    exact x_lreturn h hr dX10_half_62 ⟨Nat.le_refl _, Nat.le_refl _⟩
theorem LgR_nb {D σ : Mm} {b : Nat} {x0 x1 x2 : Int} (h : LgR D σ) (hb : D 8 0 1 = b) : LgR (bNote D 0 x0 x1 x2 0) (nbS σ b x0 x1 x2) := by
  obtain ⟨h1, h2, h3⟩ := h
  have eb : (D 8 0 1).toNat = b := by omega
  have e8 : ∀ m, bNote D 0 x0 x1 x2 0 8 m 1 = if m = 0 then (b : Int) + 1 else D 8 m 1 := fun m => by
    unfold bNote
    rw [noteS_8, eb]
    by_cases q : m = 0
    · rw [if_pos ⟨q, rfl⟩, if_pos q]
    · rw [if_neg (fun z => q z.1), if_neg q]
  have e18 : ∀ m j, bNote D 0 x0 x1 x2 0 18 m j = if b < 100 ∧ m = 0 ∧ j / 4 = b then (if j % 4 = 0 then x0 else if j % 4 = 1 then x1 else if j % 4 = 2 then x2 else 0) else D 18 m j := fun m j => by
    unfold bNote
    rw [noteS_18, eb]
  refine ⟨?_, ?_, fun i hi => ⟨fun hlt => ?_, fun hlt => ?_⟩⟩
  · rw [e8, if_pos rfl]
    unfold nbS
    split <;> rw [up3_s]
  · rw [e8, if_neg (by decide), nbS_o (by omega)]; exact h2
  · rw [e8, if_pos rfl] at hlt
    rw [e18, e18, e18]
    by_cases q : i = b
    · subst q
      rw [if_pos (by omega), if_pos (by omega), if_pos (by omega), if_neg (by omega), if_pos (by omega), if_pos (by omega), if_neg (by omega), if_neg (by omega), if_pos (by omega)]
      unfold nbS
      rw [if_pos hi]
      exact ⟨by rw [up3_n _ (by omega), up3_n _ (by omega), up3_n _ (by omega), up3_s], by rw [up3_n _ (by omega), up3_n _ (by omega), up3_s], by rw [up3_n _ (by omega), up3_s]⟩
    · rw [if_neg (by omega), if_neg (by omega), if_neg (by omega)]
      have hn : ∀ f, 75 ≤ f → f ≤ 77 → nbS σ b x0 x1 x2 f 0 i = σ f 0 i := fun f q1 q2 => by
        unfold nbS
        split
        · rw [up3_n _ (by omega), up3_n _ (by omega), up3_n _ (by omega), up3_n _ (by omega)]
        · rw [up3_n _ (by omega)]
      rw [hn _ (by omega) (by omega), hn _ (by omega) (by omega), hn _ (by omega) (by omega)]
      exact (h3 i hi).1 (by omega)
  · rw [e8, if_neg (by decide)] at hlt
    rw [e18, e18, e18, e18, if_neg (by omega), if_neg (by omega), if_neg (by omega), if_neg (by omega), nbS_o (by omega), nbS_o (by omega), nbS_o (by omega), nbS_o (by omega)]
    exact (h3 i hi).2 hlt
theorem LgR_nh {D σ : Mm} {b : Nat} {x0 x1 x2 x3 : Int} (h : LgR D σ) (hb : D 8 1 1 = b) : LgR (bNote D 1 x0 x1 x2 x3) (nhS σ b x0 x1 x2 x3) := by
  obtain ⟨h1, h2, h3⟩ := h
  have eb : (D 8 1 1).toNat = b := by omega
  have e8 : ∀ m, bNote D 1 x0 x1 x2 x3 8 m 1 = if m = 1 then (b : Int) + 1 else D 8 m 1 := fun m => by
    unfold bNote
    rw [noteS_8, eb]
    by_cases q : m = 1
    · rw [if_pos ⟨q, rfl⟩, if_pos q]
    · rw [if_neg (fun z => q z.1), if_neg q]
  have e18 : ∀ m j, bNote D 1 x0 x1 x2 x3 18 m j = if b < 100 ∧ m = 1 ∧ j / 4 = b then (if j % 4 = 0 then x0 else if j % 4 = 1 then x1 else if j % 4 = 2 then x2 else x3) else D 18 m j := fun m j => by
    unfold bNote
    rw [noteS_18, eb]
  refine ⟨?_, ?_, fun i hi => ⟨fun hlt => ?_, fun hlt => ?_⟩⟩
  · rw [e8, if_neg (by decide), nhS_o (by omega)]; exact h1
  · rw [e8, if_pos rfl]
    unfold nhS
    split <;> rw [up3_s]
  · rw [e8, if_neg (by decide)] at hlt
    rw [e18, e18, e18, if_neg (by omega), if_neg (by omega), if_neg (by omega), nhS_o (by omega), nhS_o (by omega), nhS_o (by omega)]
    exact (h3 i hi).1 hlt
  · rw [e8, if_pos rfl] at hlt
    rw [e18, e18, e18, e18]
    by_cases q : i = b
    · subst q
      rw [if_pos (by omega), if_pos (by omega), if_pos (by omega), if_neg (by omega), if_pos (by omega), if_pos (by omega), if_neg (by omega), if_neg (by omega), if_pos (by omega), if_pos (by omega), if_neg (by omega), if_neg (by omega), if_neg (by omega)]
      unfold nhS
      rw [if_pos hi]
      exact ⟨by rw [up3_n _ (by omega), up3_n _ (by omega), up3_n _ (by omega), up3_n _ (by omega), up3_s], by rw [up3_n _ (by omega), up3_n _ (by omega), up3_n _ (by omega), up3_s], by rw [up3_n _ (by omega), up3_n _ (by omega), up3_s], by rw [up3_n _ (by omega), up3_s]⟩
    · rw [if_neg (by omega), if_neg (by omega), if_neg (by omega), if_neg (by omega)]
      have hn : ∀ f, 79 ≤ f → f ≤ 82 → nhS σ b x0 x1 x2 x3 f 0 i = σ f 0 i := fun f q1 q2 => by
        unfold nhS
        split
        · rw [up3_n _ (by omega), up3_n _ (by omega), up3_n _ (by omega), up3_n _ (by omega), up3_n _ (by omega)]
        · rw [up3_n _ (by omega)]
      rw [hn _ (by omega) (by omega), hn _ (by omega) (by omega), hn _ (by omega) (by omega), hn _ (by omega) (by omega)]
      exact (h3 i hi).2 (by omega)
theorem LgR_fr {D σ D' σ' : Mm} (h : LgR D σ) (hD : ∀ f k j, f = 8 ∨ f = 18 → D' f k j = D f k j) (hf : ∀ f j, ((75 ≤ f ∧ f ≤ 77) ∨ (79 ≤ f ∧ f ≤ 82) ∨ (f = 10 ∧ (j = 44 ∨ j = 48))) → σ' f 0 j = σ f 0 j) : LgR D' σ' := by
  obtain ⟨h1, h2, h3⟩ := h
  refine ⟨by rw [hf _ _ (by omega), hD _ _ _ (by omega)]; exact h1, by rw [hf _ _ (by omega), hD _ _ _ (by omega)]; exact h2, fun i hi => ?_⟩
  rw [hf 75 i (by omega), hf 76 i (by omega), hf 77 i (by omega), hf 79 i (by omega), hf 80 i (by omega), hf 81 i (by omega), hf 82 i (by omega), hD 8 0 1 (by omega), hD 8 1 1 (by omega), hD 18 0 _ (by omega), hD 18 0 _ (by omega), hD 18 0 _ (by omega), hD 18 1 _ (by omega), hD 18 1 _ (by omega), hD 18 1 _ (by omega), hD 18 1 _ (by omega)]
  exact h3 i hi
/-! the pile -/
theorem m_takeTop {d v : Nat} {σ : Mm} {x : Int} {st : List Int} (hv : v < 12) (h91 : σ 91 0 v = ((x :: st).length : Int)) (hp : PlR σ v (x :: st)) (hl : st.length < 40) : Ct d mX10_takeTop 1 [vR 10 0, vI v] NALL σ (some (vL x)) NALL (up3 σ 91 0 v (st.length : Int)) 0 0 := by
  have hx : σ 92 0 (40 * v + st.length) = x := hp.1
  have h91 : σ 91 0 v = ((st.length + 1 : Nat) : Int) := h91
  have e1 : ((st.length + 1 : Nat) : Int) - 1 = (st.length : Int) := by omega
  have g91 : up3 σ 91 0 v (st.length : Int) 91 0 v = st.length := up3_s _ _ _ _ _
  have g92 : up3 σ 91 0 v (st.length : Int) 92 0 (40 * v + st.length) = x := by rw [up3_n _ (by omega)]; exact hx
  refine ct_of (by decide) (Nat.le_of_ble_eq_true rfl) (fun C h hr _ => ?_)
  have h : Ok C RX10 cX10_takeTop 2 _ := h
  refine x_aload_n h dX10_takeTop_0 rfl ?_
  refine x_get h fl_10_145 lvz_10 dX10_takeTop_1 (pvf_591 _ _) ?_
  refine x_iload_n h dX10_takeTop_4 rfl ?_
  refine x_dup2 h dX10_takeTop_5 rfl rfl ?_
  refine x_iald h kdf_91 lvz_91 dX10_takeTop_6 rfl (by omega) ?_
  rw [h91]
  refine x_iconst h dX10_takeTop_7 ?_
  refine x_isub h dX10_takeTop_8 ?_
  rw [e1]
  refine x_iast h kdf_91 lvz_91 dX10_takeTop_9 rfl (by omega) ?_
  refine x_aload_n h dX10_takeTop_10 rfl ?_
  refine x_get h fl_10_148 lvz_10 dX10_takeTop_11 (pvf_592 _ _) ?_
  refine x_bipush h dX10_takeTop_14 (by decide) ?_
  refine x_iload_n h dX10_takeTop_16 rfl ?_
  refine x_imul h dX10_takeTop_17 ?_
  refine x_aload_n h dX10_takeTop_18 rfl ?_
  refine x_get h fl_10_145 lvz_10 dX10_takeTop_19 (pvf_591 _ _) ?_
  refine x_iload_n h dX10_takeTop_22 rfl ?_
  refine x_iald h kdf_91 lvz_91 dX10_takeTop_23 rfl (by omega) ?_
  rw [g91]
  refine x_iadd h dX10_takeTop_24 ?_
  refine x_lald (m := 40 * v + st.length) h kdf_92 lvz_92 dX10_takeTop_25 (by omega) (by omega) ?_
  rw [g92]
  exact x_lreturn h hr dX10_takeTop_26 ⟨Nat.le_refl _, Nat.le_refl _⟩
def puT (σ : Mm) (v len : Nat) (x : Int) : Mm := up3 (up3 σ 92 0 (40 * v + len) x) 91 0 v ((len + 1 : Nat) : Int)
theorem m_putTop {d v len : Nat} {σ : Mm} {x : Int} (hv : v < 12) (h91 : σ 91 0 v = (len : Int)) (hl : len < 40) : Ct d mX10_putTop 1 [vR 10 0, vI v, vL x] NALL σ none NALL (puT σ v len x) 0 0 := by
  have e1 : (len : Int) + 1 = ((len + 1 : Nat) : Int) := by omega
  have g91 : up3 σ 92 0 (40 * v + len) x 91 0 v = len := by rw [up3_n _ (by omega)]; exact h91
  refine ct_of (by decide) (Nat.le_of_ble_eq_true rfl) (fun C h hr _ => ?_)
  have h : Ok C RX10 cX10_putTop 4 _ := h
  unfold puT at hr
  refine x_aload_n h dX10_putTop_0 rfl ?_
  refine x_get h fl_10_148 lvz_10 dX10_putTop_1 (pvf_592 _ _) ?_
  refine x_bipush h dX10_putTop_4 (by decide) ?_
  refine x_iload_n h dX10_putTop_6 rfl ?_
  refine x_imul h dX10_putTop_7 ?_
  refine x_aload_n h dX10_putTop_8 rfl ?_
  refine x_get h fl_10_145 lvz_10 dX10_putTop_9 (pvf_591 _ _) ?_
  refine x_iload_n h dX10_putTop_12 rfl ?_
  refine x_iald h kdf_91 lvz_91 dX10_putTop_13 rfl (by omega) ?_
  rw [h91]
  refine x_iadd h dX10_putTop_14 ?_
  refine x_lload_n h dX10_putTop_15 rfl ?_
  refine x_last (m := 40 * v + len) h kdf_92 lvz_92 dX10_putTop_16 (by omega) (by omega) ?_
  refine x_aload_n h dX10_putTop_17 rfl ?_
  refine x_get h fl_10_145 lvz_10 dX10_putTop_18 (pvf_591 _ _) ?_
  refine x_iload_n h dX10_putTop_21 rfl ?_
  refine x_dup2 h dX10_putTop_22 rfl rfl ?_
  refine x_iald h kdf_91 lvz_91 dX10_putTop_23 rfl (by omega) ?_
  rw [g91]
  refine x_iconst h dX10_putTop_24 ?_
  refine x_iadd h dX10_putTop_25 ?_
  rw [e1]
  refine x_iast h kdf_91 lvz_91 dX10_putTop_26 rfl (by omega) ?_
  exact x_return h hr dX10_putTop_27 ⟨Nat.le_refl _, Nat.le_refl _⟩
