/-! get of the reference -/
theorem m_in {d : Nat} {σ : Mm} {v a b : Int} (hv : i64 v) (ha : i64 a) (hb : i64 b) : Ct d mX10_in 1 [vL v, vL a, vL b] NALL σ (some (vI (if a ≤ v ∧ v ≤ b then 1 else 0))) NALL σ 0 0 := by
  obtain ⟨v1, v2⟩ := hv
  obtain ⟨a1, a2⟩ := ha
  obtain ⟨b1, b2⟩ := hb
  refine ct_of (by decide) (Nat.le_of_ble_eq_true rfl) (fun C h hr _ => ?_)
  have h : Ok C RX10 cX10_in 6 _ := h
  by_cases c1 : v < a
  · rw [if_neg (by omega)] at hr
    refine x_lload_n h dX10_in_0 rfl ?_
    refine x_lload_n h dX10_in_1 rfl ?_
    refine x_lc_lt (tgt := 17) h (by omega) dX10_in_2 dX10_in_3 (by decide) (fun _ => ?_) (fun q => absurd (by omega) q)
    refine x_iconst h dX10_in_17 ?_
    exact x_ireturn h hr dX10_in_18 (Or.inr ⟨rfl, by omega⟩) ⟨Nat.le_refl _, Nat.le_refl _⟩
  by_cases c2 : b < v
  · rw [if_neg (by omega)] at hr
    refine x_lload_n h dX10_in_0 rfl ?_
    refine x_lload_n h dX10_in_1 rfl ?_
    refine x_lc_lt (tgt := 17) h (by omega) dX10_in_2 dX10_in_3 (by decide) (fun q => absurd q (by omega)) (fun _ => ?_)
    refine x_lload_n h dX10_in_6 rfl ?_
    refine x_lload h dX10_in_7 rfl ?_
    refine x_lc_gt (tgt := 17) h (by omega) dX10_in_9 dX10_in_10 (by decide) (fun _ => ?_) (fun q => absurd (by omega) q)
    refine x_iconst h dX10_in_17 ?_
    exact x_ireturn h hr dX10_in_18 (Or.inr ⟨rfl, by omega⟩) ⟨Nat.le_refl _, Nat.le_refl _⟩
  · rw [if_pos (by omega)] at hr
    refine x_lload_n h dX10_in_0 rfl ?_
    refine x_lload_n h dX10_in_1 rfl ?_
    refine x_lc_lt (tgt := 17) h (by omega) dX10_in_2 dX10_in_3 (by decide) (fun q => absurd q (by omega)) (fun _ => ?_)
    refine x_lload_n h dX10_in_6 rfl ?_
    refine x_lload h dX10_in_7 rfl ?_
    refine x_lc_gt (tgt := 17) h (by omega) dX10_in_9 dX10_in_10 (by decide) (fun q => absurd q (by omega)) (fun _ => ?_)
    refine x_iconst h dX10_in_13 ?_
    refine x_goto (tgt := 18) h dX10_in_14 (by decide) ?_
    exact x_ireturn h hr dX10_in_18 (Or.inr ⟨rfl, by omega⟩) ⟨Nat.le_refl _, Nat.le_refl _⟩
/-- what a call may change -/
def FrH (σ' σ : Mm) : Prop := ∀ f k j, ¬ (71 ≤ f ∨ (f = 10 ∧ (j = 44 ∨ j = 48 ∨ j = 53 ∨ j = 54 ∨ j = 55 ∨ j = 63 ∨ j = 64 ∨ j = 65))) → σ' f k j = σ f k j
theorem FrH_refl (σ : Mm) : FrH σ σ := fun _ _ _ _ => rfl
theorem FrH_tr {a b c : Mm} (h : FrH a b) (h' : FrH b c) : FrH a c := fun f k j hf => (h f k j hf).trans (h' f k j hf)
theorem FrH_G {σ' σ : Mm} (h : FrG σ' σ) : FrH σ' σ := fun f k j q => h f k j (by omega)
theorem SRl_H {S : Sd} {n : Nat} {σ σ' : Mm} (h : SRl S n σ) (hf : FrH σ' σ) : SRl S n σ' := by
  refine ⟨by rw [hf _ _ _ (by omega)]; exact h.1, fun k hk => ?_⟩
  obtain ⟨⟨a1, a2, a3, a4, a5⟩, c, b1, b2, b3, b4⟩ := h.2 k hk
  exact ⟨⟨by rw [hf _ _ _ (by omega)]; exact a1, by rw [hf _ _ _ (by omega)]; exact a2, by rw [hf _ _ _ (by omega)]; exact a3, by rw [hf _ _ _ (by omega)]; exact a4, by rw [hf _ _ _ (by omega)]; exact a5⟩, c, by rw [hf _ _ _ (by omega)]; exact b1, by rw [hf _ _ _ (by omega)]; exact b2, b3, fun j hj => by rw [hf _ _ _ (by omega), hf _ _ _ (by omega)]; exact b4 j hj⟩
section FA
variable {n : Nat} {S : Sd} {D : Mm}
/-- a TABLE's frame is marked -/
theorem HM_popT {τ : Mm} {u k : Nat} (h : HM n S 0 (u + 1) D τ) (hf : τ 86 0 u = (k : Int) ∧ τ 87 0 u = -9) {x : Int} : HM n S 0 u D (up3 (up3 τ 10 0 55 x) 71 0 k 3) := by
  have o : ∀ f j, f ≠ 71 → ¬ (f = 10 ∧ j = 55) → up3 (up3 τ 10 0 55 x) 71 0 k 3 f 0 j = τ f 0 j := fun f j q1 q2 => by rw [up3_f _ _ q1, up3_n _ q2]
  have hi : ∀ j q, FrI (up3 (up3 τ 10 0 55 x) 71 0 k 3) 0 u j q ↔ FrI τ 0 u j q := fun j q => by
    constructor
    · rintro ⟨i, i1, i2, i3, i4⟩
      exact ⟨i, i1, i2, by rw [← i3, o _ _ (by omega) (by omega)], by rw [← i4, o _ _ (by omega) (by omega)]⟩
    · rintro ⟨i, i1, i2, i3, i4⟩
      exact ⟨i, i1, i2, by rw [o _ _ (by omega) (by omega)]; exact i3, by rw [o _ _ (by omega) (by omega)]; exact i4⟩
  have up : ∀ j q, FrI τ 0 u j q → FrI τ 0 (u + 1) j q := fun j q ⟨i, i1, i2, i3⟩ => ⟨i, i1, by omega, i3⟩
  have dn : ∀ j q, FrI τ 0 (u + 1) j q → (j = k ∧ q = -9) ∨ FrI τ 0 u j q := fun j q ⟨i, i1, i2, i3, i4⟩ => by
    by_cases e : i = u
    · subst e
      rw [hf.1] at i3
      rw [hf.2] at i4
      exact Or.inl ⟨by omega, i4.symm⟩
    · exact Or.inr ⟨i, i1, by omega, i3, i4⟩
  have here : FrI τ 0 (u + 1) k (-9) := ⟨u, Nat.zero_le _, by omega, hf.1, hf.2⟩
  obtain ⟨h1, h2⟩ := h
  refine ⟨fun j hj => ⟨fun z => (h1 j hj).1 (up _ _ ((hi _ _).mp z)), fun z => ?_, fun z => ?_⟩, LgR_fr h2 (fun _ _ _ _ => rfl) (fun f j q => o _ _ (by omega) (by omega))⟩
  · by_cases e : j = k
    · subst e
      rw [up3_s]
      exact ((h1 j hj).1 here).symm
    · rw [up3_j _ _ e, up3_f _ _ (by decide)]
      refine (h1 j hj).2.1 (fun y => ?_)
      rcases dn _ _ y with q | q
      · exact e q.1
      · exact z ((hi _ _).mpr q)
  · obtain ⟨x1, x2, x3⟩ := (h1 j hj).2.2 z
    refine ⟨x1, fun y r hr => ⟨fun w => (x2 y r hr).1 (up _ _ ((hi _ _).mp w)), fun w => ?_⟩, fun p hp y => by rw [o _ _ (by omega) (by omega)]; exact x3 p hp y⟩
    rw [o _ _ (by omega) (by omega)]
    refine (x2 y r hr).2 (fun v => ?_)
    rcases dn _ _ v with q | q
    · omega
    · exact w ((hi _ _).mpr q)
/-- a ROW's frame is marked -/
theorem HM_popR {τ : Mm} {u k r : Nat} (h : HM n S 0 (u + 1) D τ) (hr25 : r < 25) (hb : sBy S k ≠ 0) (hf : τ 86 0 u = (k : Int) ∧ τ 87 0 u = (r : Int)) {x : Int} : HM n S 0 u D (zrS (up3 (up3 τ 10 0 55 x) 72 0 (25 * k + r) 3) 73 (200 * k + 8 * r) 8) := by
  have o : ∀ f j, f ≠ 72 → f ≠ 73 → ¬ (f = 10 ∧ j = 55) → zrS (up3 (up3 τ 10 0 55 x) 72 0 (25 * k + r) 3) 73 (200 * k + 8 * r) 8 f 0 j = τ f 0 j := fun f j q1 q3 q2 => by rw [zrS_f q3, up3_f _ _ q1, up3_n _ q2]
  generalize hτ' : zrS (up3 (up3 τ 10 0 55 x) 72 0 (25 * k + r) 3) 73 (200 * k + 8 * r) 8 = τ' at o
  have hi : ∀ j q, FrI τ' 0 u j q ↔ FrI τ 0 u j q := fun j q => by
    constructor
    · rintro ⟨i, i1, i2, i3, i4⟩
      exact ⟨i, i1, i2, by rw [← i3, o _ _ (by omega) (by omega) (by omega)], by rw [← i4, o _ _ (by omega) (by omega) (by omega)]⟩
    · rintro ⟨i, i1, i2, i3, i4⟩
      exact ⟨i, i1, i2, by rw [o _ _ (by omega) (by omega) (by omega)]; exact i3, by rw [o _ _ (by omega) (by omega) (by omega)]; exact i4⟩
  have up : ∀ j q, FrI τ 0 u j q → FrI τ 0 (u + 1) j q := fun j q ⟨i, i1, i2, i3⟩ => ⟨i, i1, by omega, i3⟩
  have dn : ∀ j q, FrI τ 0 (u + 1) j q → (j = k ∧ q = (r : Int)) ∨ FrI τ 0 u j q := fun j q ⟨i, i1, i2, i3, i4⟩ => by
    by_cases e : i = u
    · subst e
      rw [hf.1] at i3
      rw [hf.2] at i4
      exact Or.inl ⟨by omega, i4.symm⟩
    · exact Or.inr ⟨i, i1, by omega, i3, i4⟩
  have here : FrI τ 0 (u + 1) k (r : Int) := ⟨u, Nat.zero_le _, by omega, hf.1, hf.2⟩
  obtain ⟨h1, h2⟩ := h
  refine ⟨fun j hj => ⟨fun z => (h1 j hj).1 (up _ _ ((hi _ _).mp z)), fun z => ?_, fun z => ?_⟩, LgR_fr h2 (fun _ _ _ _ => rfl) (fun f j q => o _ _ (by omega) (by omega) (by omega))⟩
  · rw [o _ _ (by omega) (by omega) (by omega)]
    refine (h1 j hj).2.1 (fun y => ?_)
    rcases dn _ _ y with q | q
    · omega
    · exact z ((hi _ _).mpr q)
  · obtain ⟨x1, x2, x3⟩ := (h1 j hj).2.2 z
    refine ⟨x1, fun y i hi25 => ⟨fun w => (x2 y i hi25).1 (up _ _ ((hi _ _).mp w)), fun w => ?_⟩, fun p hp y => ?_⟩
    · by_cases e : j = k ∧ i = r
      · obtain ⟨rfl, rfl⟩ := e
        rw [(x2 y i hi25).1 here, ← hτ', zrS_f (by decide), up3_s]
      · have e72 : τ' 72 0 (25 * j + i) = τ 72 0 (25 * j + i) := by rw [← hτ', zrS_f (by decide), up3_j _ _ (by omega), up3_f _ _ (by decide)]
        rw [e72]
        refine (x2 y i hi25).2 (fun v => ?_)
        rcases dn _ _ v with q | q
        · exact e ⟨q.1, by omega⟩
        · exact w ((hi _ _).mpr q)
    · have hne : ¬ (j = k ∧ p / 8 = r) := fun e => y (by
        obtain ⟨rfl, e⟩ := e
        rw [e]
        exact (x2 hb r hr25).1 here)
      have e73 : τ' 73 0 (200 * j + p) = τ 73 0 (200 * j + p) := by
        rw [← hτ']
        unfold zrS
        rw [if_neg (by omega), up3_f _ _ (by decide), up3_f _ _ (by decide)]
      rw [e73]
      exact x3 p hp y
theorem m_failAll (hn : n ≤ 12) {d u : Nat} {w : Int} {σ : Mm} (hu : σ 10 0 55 = (u : Int)) (hu12 : u ≤ 12) (hH : HM n S 0 u D σ) (hfr : ∀ i, i < u → FrW1 n S σ i) : ∃ σ', FrH σ' σ ∧ HR n S D σ' ∧ σ' 10 0 53 = ((if u = 0 then 1 else u : Nat) : Int) ∧ σ' 10 0 54 = w ∧ Ct d mX10_failAll 1 [vR 10 0, vI w] NALL σ none NALL σ' 0 0 := by
  have loop : ∀ (u : Nat) (τ : Mm), τ 10 0 55 = (u : Int) → u ≤ 12 → HM n S 0 u D τ → (∀ i, i < u → FrW1 n S τ i) → ∃ σ', (∀ f k j, ¬ (71 ≤ f ∨ (f = 10 ∧ j = 55)) → σ' f k j = τ f k j) ∧ HR n S D σ' ∧ ∀ C : Cx, Ok C RX10 cX10_failAll 4 d → Rt C 1 none none NALL σ' 0 0 → ∀ ls, lsub [(0, vR 10 0)] ls → X C 1 24 ls [] NALL τ 0 0 := by
    intro u
    induction u with
    | zero =>
      intro τ h55 hle hM _
      refine ⟨τ, fun _ _ _ _ => rfl, HR_of hM, fun C h hr ls hls => ?_⟩
      refine x_loc hls ?_
      refine x_aload_n h dX10_failAll_24 rfl ?_
      refine x_get (q := vI (0)) h fl_10_315 lvz_10 dX10_failAll_25 (congrArg vI (by first | exact h55 | simp [up3, h55])) ?_
      refine x_if_le_T (tgt := 156) h (by omega) dX10_failAll_28 (by decide) (by omega) ?_
      exact x_return h hr dX10_failAll_156 ⟨Nat.le_refl _, Nat.le_refl _⟩
    | succ u ih =>
      intro τ h55 hle hM hfr
      obtain ⟨k, hk, f86, f87⟩ := hfr u (by omega)
      have e1 : ((u + 1 : Nat) : Int) - 1 = (u : Int) := by omega
      have g55 : up3 τ 10 0 55 u 10 0 55 = u := up3_s _ _ _ _ _
      have g86 : up3 τ 10 0 55 u 86 0 u = k := by rw [up3_n _ (by omega)]; exact f86
      rcases f87 with f87 | ⟨r, hr25, hb, f87⟩
      · have g87 : up3 τ 10 0 55 u 87 0 u = -9 := by rw [up3_n _ (by omega)]; exact f87
        obtain ⟨T, t0⟩ : ∃ q, q = up3 (up3 τ 10 0 55 (u : Int)) 71 0 k 3 := ⟨_, rfl⟩
        have hT := HM_popT hM ⟨f86, f87⟩ (x := (u : Int))
        rw [← t0] at hT
        have oT : ∀ f k j, ¬ (71 ≤ f ∧ f ≤ 73) → ¬ (f = 10 ∧ j = 55) → T f k j = τ f k j := fun f k j q1 q2 => by rw [t0, up3_f _ _ (by omega), up3_n _ (by omega)]
        obtain ⟨σ', a1, a2, a3⟩ := ih T (by rw [t0, up3_n _ (by omega), up3_s]) (by omega) hT (fun i hi => by
          obtain ⟨k', h1, h2, h3⟩ := hfr i (by omega)
          exact ⟨k', h1, by rw [oT _ _ _ (by omega) (by omega)]; exact h2, by rw [oT _ _ _ (by omega) (by omega)]; exact h3⟩)
        refine ⟨σ', fun f k j q => (a1 f k j q).trans (oT _ _ _ (by omega) (by omega)), a2, fun C h hr ls hls => ?_⟩
        refine x_loc hls ?_
        refine x_aload_n h dX10_failAll_24 rfl ?_
        refine x_get (q := vI ((u + 1 : Nat))) h fl_10_315 lvz_10 dX10_failAll_25 (congrArg vI (by first | exact h55 | simp [up3, h55])) ?_
        refine x_if_le_F (tgt := 156) h (by omega) dX10_failAll_28 (by decide) (by omega) ?_
        refine x_aload_n h dX10_failAll_31 rfl ?_
        refine x_dup h dX10_failAll_32 rfl ?_
        refine x_get (q := vI ((u + 1 : Nat))) h fl_10_315 lvz_10 dX10_failAll_33 (congrArg vI (by first | exact h55 | simp [up3, h55])) ?_
        refine x_iconst h dX10_failAll_36 ?_
        refine x_isub h dX10_failAll_37 ?_
        rw [e1]
        refine x_put h fl_10_315 lvz_10 dX10_failAll_38 rfl (fun z => absurd z (by decide)) ?_
        refine x_aload_n h dX10_failAll_41 rfl ?_
        refine x_get h fl_10_130 lvz_10 dX10_failAll_42 (pvf_586 _ _) ?_
        refine x_aload_n h dX10_failAll_45 rfl ?_
        refine x_get (q := vI (u)) h fl_10_315 lvz_10 dX10_failAll_46 (congrArg vI (by first | exact g55 | simp [up3, g55])) ?_
        refine x_iald h kdf_86 lvz_86 dX10_failAll_49 rfl (by omega) ?_
        rw [g86]
        refine x_istore_n h dX10_failAll_50 (by decide) ?_
        refine x_aload_n h dX10_failAll_51 rfl ?_
        refine x_get h fl_10_133 lvz_10 dX10_failAll_52 (pvf_587 _ _) ?_
        refine x_aload_n h dX10_failAll_55 rfl ?_
        refine x_get (q := vI (u)) h fl_10_315 lvz_10 dX10_failAll_56 (congrArg vI (by first | exact g55 | simp [up3, g55])) ?_
        refine x_iald h kdf_87 lvz_87 dX10_failAll_59 rfl (by omega) ?_
        rw [g87]
        refine x_bipush h dX10_failAll_60 (by decide) ?_
        refine x_ic_ne_F (tgt := 75) h (by omega) dX10_failAll_62 (by decide) (by omega) ?_
        refine x_aload_n h dX10_failAll_65 rfl ?_
        refine x_get h fl_10_100 lvz_10 dX10_failAll_66 (pvf_571 _ _) ?_
        refine x_iload_n h dX10_failAll_69 rfl ?_
        refine x_iconst h dX10_failAll_70 ?_
        refine x_iast h kdf_71 lvz_71 dX10_failAll_71 rfl (by omega) ?_
        rw [← t0]
        refine x_goto (tgt := 153) h dX10_failAll_72 (by decide) ?_
        refine x_goto (tgt := 24) h dX10_failAll_153 (by decide) ?_
        exact a3 C h hr _ ⟨rfl, trivial⟩
      · have g87 : up3 τ 10 0 55 u 87 0 u = r := by rw [up3_n _ (by omega)]; exact f87
        obtain ⟨T1, t1⟩ : ∃ q, q = up3 (up3 τ 10 0 55 (u : Int)) 72 0 (25 * k + r) 3 := ⟨_, rfl⟩
        obtain ⟨T, t0⟩ : ∃ q, q = zrS T1 73 (200 * k + 8 * r) 8 := ⟨_, rfl⟩
        have hT := HM_popR hM hr25 hb ⟨f86, f87⟩ (x := (u : Int))
        rw [← t1, ← t0] at hT
        have oT : ∀ f k' j, ¬ (71 ≤ f ∧ f ≤ 73) → ¬ (f = 10 ∧ j = 55) → T f k' j = τ f k' j := fun f k' j q1 q2 => by rw [t0, zrS_f (by omega), t1, up3_f _ _ (by omega), up3_n _ (by omega)]
        obtain ⟨σ', a1, a2, a3⟩ := ih T (by rw [t0, zrS_f (by decide), t1, up3_n _ (by omega), up3_s]) (by omega) hT (fun i hi => by
          obtain ⟨k', h1, h2, h3⟩ := hfr i (by omega)
          exact ⟨k', h1, by rw [oT _ _ _ (by omega) (by omega)]; exact h2, by rw [oT _ _ _ (by omega) (by omega)]; exact h3⟩)
        refine ⟨σ', fun f k j q => (a1 f k j q).trans (oT _ _ _ (by omega) (by omega)), a2, fun C h hr ls hls => ?_⟩
        have e8 : (8 : Int) * (r : Int) = ((8 * r : Nat) : Int) := by omega
        have z55 : ∀ j, zrS T1 73 (200 * k + 8 * r) j 10 0 55 = u := fun j => by rw [zrS_f (by decide), t1, up3_n _ (by omega)]; exact g55
        have z87 : ∀ j, zrS T1 73 (200 * k + 8 * r) j 87 0 u = r := fun j => by rw [zrS_f (by decide), t1, up3_f _ _ (by decide)]; exact g87
        have lp : ∀ (c j : Nat), j + c = 8 → X C 1 108 [(0, vR 10 0), (2, vI k), (3, vI ((8 * r + j : Nat) : Int))] [] NALL (zrS T1 73 (200 * k + 8 * r) j) 0 0 := by
          intro c
          induction c with
          | zero =>
            intro j hj
            obtain rfl : j = 8 := by omega
            refine x_iload_n h dX10_failAll_108 rfl ?_
            refine x_bipush h dX10_failAll_109 (by decide) ?_
            refine x_aload_n h dX10_failAll_111 rfl ?_
            refine x_get h fl_10_133 lvz_10 dX10_failAll_112 (pvf_587 _ _) ?_
            refine x_aload_n h dX10_failAll_115 rfl ?_
            refine x_get (q := vI (u)) h fl_10_315 lvz_10 dX10_failAll_116 (congrArg vI (by first | exact z55 8 | simp [up3, z55 8])) ?_
            refine x_iald h kdf_87 lvz_87 dX10_failAll_119 rfl (by omega) ?_
            rw [z87]
            refine x_imul h dX10_failAll_120 ?_
            refine x_bipush h dX10_failAll_121 (by decide) ?_
            refine x_iadd h dX10_failAll_123 ?_
            refine x_ic_ge_T (tgt := 153) h (by omega) dX10_failAll_124 (by decide) (by omega) ?_
            refine x_goto (tgt := 24) h dX10_failAll_153 (by decide) ?_
            rw [← t0]
            exact a3 C h hr _ ⟨rfl, trivial⟩
          | succ c ih2 =>
            intro j hj
            have e2 : ((8 * r + j : Nat) : Int) + 1 = ((8 * r + (j + 1) : Nat) : Int) := by omega
            have goal := ih2 (j + 1) (by omega)
            rw [← e2, ← zrS_s] at goal
            refine x_iload_n h dX10_failAll_108 rfl ?_
            refine x_bipush h dX10_failAll_109 (by decide) ?_
            refine x_aload_n h dX10_failAll_111 rfl ?_
            refine x_get h fl_10_133 lvz_10 dX10_failAll_112 (pvf_587 _ _) ?_
            refine x_aload_n h dX10_failAll_115 rfl ?_
            refine x_get (q := vI (u)) h fl_10_315 lvz_10 dX10_failAll_116 (congrArg vI (by first | exact z55 j | simp [up3, z55 j])) ?_
            refine x_iald h kdf_87 lvz_87 dX10_failAll_119 rfl (by omega) ?_
            rw [z87]
            refine x_imul h dX10_failAll_120 ?_
            refine x_bipush h dX10_failAll_121 (by decide) ?_
            refine x_iadd h dX10_failAll_123 ?_
            refine x_ic_ge_F (tgt := 153) h (by omega) dX10_failAll_124 (by decide) (by omega) ?_
            refine x_iload_n h dX10_failAll_127 rfl ?_
            refine x_sipush h dX10_failAll_128 (by decide) ?_
            refine x_ic_ge_F (tgt := 153) h (by omega) dX10_failAll_131 (by decide) (by omega) ?_
            refine x_aload_n h dX10_failAll_134 rfl ?_
            refine x_get h fl_10_106 lvz_10 dX10_failAll_135 (pvf_573 _ _) ?_
            refine x_sipush h dX10_failAll_138 (by decide) ?_
            refine x_iload_n h dX10_failAll_141 rfl ?_
            refine x_imul h dX10_failAll_142 ?_
            refine x_iload_n h dX10_failAll_143 rfl ?_
            refine x_iadd h dX10_failAll_144 ?_
            refine x_lconst0 h dX10_failAll_145 ?_
            refine x_last (m := 200 * k + 8 * r + j) h kdf_73 lvz_73 dX10_failAll_146 (by omega) (by omega) ?_
            refine x_iinc h dX10_failAll_147 rfl (by decide) ?_
            refine x_goto (tgt := 108) h dX10_failAll_150 (by decide) ?_
            exact x_loc (ls' := [(0, vR 10 0), (2, vI k), (3, vI (((8 * r + j : Nat) : Int) + 1))]) ⟨rfl, rfl, rfl, trivial⟩ goal
        have goal := lp 8 0 (by omega)
        rw [zrS_0] at goal
        have h155 : T1 10 0 55 = u := by rw [t1, up3_n _ (by omega)]; exact g55
        have h187 : T1 87 0 u = r := by rw [t1, up3_f _ _ (by decide)]; exact g87
        refine x_loc hls ?_
        refine x_aload_n h dX10_failAll_24 rfl ?_
        refine x_get (q := vI ((u + 1 : Nat))) h fl_10_315 lvz_10 dX10_failAll_25 (congrArg vI (by first | exact h55 | simp [up3, h55])) ?_
        refine x_if_le_F (tgt := 156) h (by omega) dX10_failAll_28 (by decide) (by omega) ?_
        refine x_aload_n h dX10_failAll_31 rfl ?_
        refine x_dup h dX10_failAll_32 rfl ?_
        refine x_get (q := vI ((u + 1 : Nat))) h fl_10_315 lvz_10 dX10_failAll_33 (congrArg vI (by first | exact h55 | simp [up3, h55])) ?_
        refine x_iconst h dX10_failAll_36 ?_
        refine x_isub h dX10_failAll_37 ?_
        rw [e1]
        refine x_put h fl_10_315 lvz_10 dX10_failAll_38 rfl (fun z => absurd z (by decide)) ?_
        refine x_aload_n h dX10_failAll_41 rfl ?_
        refine x_get h fl_10_130 lvz_10 dX10_failAll_42 (pvf_586 _ _) ?_
        refine x_aload_n h dX10_failAll_45 rfl ?_
        refine x_get (q := vI (u)) h fl_10_315 lvz_10 dX10_failAll_46 (congrArg vI (by first | exact g55 | simp [up3, g55])) ?_
        refine x_iald h kdf_86 lvz_86 dX10_failAll_49 rfl (by omega) ?_
        rw [g86]
        refine x_istore_n h dX10_failAll_50 (by decide) ?_
        refine x_aload_n h dX10_failAll_51 rfl ?_
        refine x_get h fl_10_133 lvz_10 dX10_failAll_52 (pvf_587 _ _) ?_
        refine x_aload_n h dX10_failAll_55 rfl ?_
        refine x_get (q := vI (u)) h fl_10_315 lvz_10 dX10_failAll_56 (congrArg vI (by first | exact g55 | simp [up3, g55])) ?_
        refine x_iald h kdf_87 lvz_87 dX10_failAll_59 rfl (by omega) ?_
        rw [g87]
        refine x_bipush h dX10_failAll_60 (by decide) ?_
        refine x_ic_ne_T (tgt := 75) h (by omega) dX10_failAll_62 (by decide) (by omega) ?_
        refine x_aload_n h dX10_failAll_75 rfl ?_
        refine x_get h fl_10_103 lvz_10 dX10_failAll_76 (pvf_572 _ _) ?_
        refine x_bipush h dX10_failAll_79 (by decide) ?_
        refine x_iload_n h dX10_failAll_81 rfl ?_
        refine x_imul h dX10_failAll_82 ?_
        refine x_aload_n h dX10_failAll_83 rfl ?_
        refine x_get h fl_10_133 lvz_10 dX10_failAll_84 (pvf_587 _ _) ?_
        refine x_aload_n h dX10_failAll_87 rfl ?_
        refine x_get (q := vI (u)) h fl_10_315 lvz_10 dX10_failAll_88 (congrArg vI (by first | exact g55 | simp [up3, g55])) ?_
        refine x_iald h kdf_87 lvz_87 dX10_failAll_91 rfl (by omega) ?_
        rw [g87]
        refine x_iadd h dX10_failAll_92 ?_
        refine x_iconst h dX10_failAll_93 ?_
        refine x_iast (m := 25 * k + r) h kdf_72 lvz_72 dX10_failAll_94 (by omega) (by omega) ?_
        rw [← t1]
        refine x_bipush h dX10_failAll_95 (by decide) ?_
        refine x_aload_n h dX10_failAll_97 rfl ?_
        refine x_get h fl_10_133 lvz_10 dX10_failAll_98 (pvf_587 _ _) ?_
        refine x_aload_n h dX10_failAll_101 rfl ?_
        refine x_get (q := vI (u)) h fl_10_315 lvz_10 dX10_failAll_102 (congrArg vI (by first | exact h155 | simp [up3, h155])) ?_
        refine x_iald h kdf_87 lvz_87 dX10_failAll_105 rfl (by omega) ?_
        rw [h187]
        refine x_imul h dX10_failAll_106 ?_
        rw [e8]
        refine x_istore_n h dX10_failAll_107 (by decide) ?_
        exact x_loc (ls' := [(0, vR 10 0), (2, vI k), (3, vI ((8 * r + 0 : Nat) : Int))]) ⟨rfl, rfl, rfl, trivial⟩ goal
  obtain ⟨T, t0⟩ : ∃ q, q = up3 (up3 σ 10 0 53 ((if u = 0 then 1 else u : Nat) : Int)) 10 0 54 w := ⟨_, rfl⟩
  have oT : ∀ f k j, ¬ (f = 10 ∧ (j = 53 ∨ j = 54)) → T f k j = σ f k j := fun f k j q => by rw [t0, up3_n _ (by omega), up3_n _ (by omega)]
  have hM : HM n S 0 u D T := by
    obtain ⟨h1, h2⟩ := hH
    have hi : ∀ j q, FrI T 0 u j q ↔ FrI σ 0 u j q := fun j q => by
      constructor
      · rintro ⟨i, i1, i2, i3, i4⟩
        exact ⟨i, i1, i2, by rw [← i3, oT _ _ _ (by omega)], by rw [← i4, oT _ _ _ (by omega)]⟩
      · rintro ⟨i, i1, i2, i3, i4⟩
        exact ⟨i, i1, i2, by rw [oT _ _ _ (by omega)]; exact i3, by rw [oT _ _ _ (by omega)]; exact i4⟩
    refine ⟨fun j hj => ⟨fun z => (h1 j hj).1 ((hi _ _).mp z), fun z => by rw [oT _ _ _ (by omega)]; exact (h1 j hj).2.1 (fun y => z ((hi _ _).mpr y)), fun z => ?_⟩, LgR_fr h2 (fun _ _ _ _ => rfl) (fun f j q => oT _ _ _ (by omega))⟩
    obtain ⟨x1, x2, x3⟩ := (h1 j hj).2.2 z
    exact ⟨x1, fun y r hr => ⟨fun v => (x2 y r hr).1 ((hi _ _).mp v), fun v => by rw [oT _ _ _ (by omega)]; exact (x2 y r hr).2 (fun q => v ((hi _ _).mpr q))⟩, fun p hp y => by rw [oT _ _ _ (by omega)]; exact x3 p hp y⟩
  obtain ⟨σ', a1, a2, a3⟩ := loop u T (by rw [oT _ _ _ (by omega)]; exact hu) hu12 hM (fun i hi => by
    obtain ⟨k', h1, h2, h3⟩ := hfr i hi
    exact ⟨k', h1, by rw [oT _ _ _ (by omega)]; exact h2, by rw [oT _ _ _ (by omega)]; exact h3⟩)
  refine ⟨σ', fun f k j q => (a1 f k j (by omega)).trans (oT _ _ _ (by omega)), a2, by rw [a1 _ _ _ (by omega), t0, up3_n _ (by omega), up3_s], by rw [a1 _ _ _ (by omega), t0, up3_s], ?_⟩
  refine ct_of (by decide) (Nat.le_of_ble_eq_true rfl) (fun C h hr _ => ?_)
  have h : Ok C RX10 cX10_failAll 4 _ := h
  have fin := fun ls hls => a3 C h hr ls hls
  rw [t0] at fin
  by_cases h0 : u = 0
  · rw [if_pos h0] at fin
    refine x_aload_n h dX10_failAll_0 rfl ?_
    refine x_aload_n h dX10_failAll_1 rfl ?_
    refine x_get (q := vI (u)) h fl_10_315 lvz_10 dX10_failAll_2 (congrArg vI (by first | exact hu | simp [up3, hu])) ?_
    refine x_if_ne_F (tgt := 12) h (by omega) dX10_failAll_5 (by decide) (by omega) ?_
    refine x_iconst h dX10_failAll_8 ?_
    refine x_goto (tgt := 16) h dX10_failAll_9 (by decide) ?_
    refine x_put h fl_10_302 lvz_10 dX10_failAll_16 rfl (fun z => absurd z (by decide)) ?_
    refine x_aload_n h dX10_failAll_19 rfl ?_
    refine x_iload_n h dX10_failAll_20 rfl ?_
    refine x_put h fl_10_336 lvz_10 dX10_failAll_21 rfl (fun z => absurd z (by decide)) ?_
    exact fin _ ⟨rfl, trivial⟩
  · rw [if_neg h0] at fin
    refine x_aload_n h dX10_failAll_0 rfl ?_
    refine x_aload_n h dX10_failAll_1 rfl ?_
    refine x_get (q := vI (u)) h fl_10_315 lvz_10 dX10_failAll_2 (congrArg vI (by first | exact hu | simp [up3, hu])) ?_
    refine x_if_ne_T (tgt := 12) h (by omega) dX10_failAll_5 (by decide) (by omega) ?_
    refine x_aload_n h dX10_failAll_12 rfl ?_
    refine x_get (q := vI (u)) h fl_10_315 lvz_10 dX10_failAll_13 (congrArg vI (by first | exact hu | simp [up3, hu])) ?_
    refine x_put h fl_10_302 lvz_10 dX10_failAll_16 rfl (fun z => absurd z (by decide)) ?_
    refine x_aload_n h dX10_failAll_19 rfl ?_
    refine x_iload_n h dX10_failAll_20 rfl ?_
    refine x_put h fl_10_336 lvz_10 dX10_failAll_21 rfl (fun z => absurd z (by decide)) ?_
    exact fin _ ⟨rfl, trivial⟩
end FA
