/-! the class's own methods, but read -/
def RawX (t : Nat) (σ : Mm) : Prop := ∀ k, k < 12 → (0 ≤ σ 5 (12 * t + k) 8 ∧ σ 5 (12 * t + k) 8 ≤ 3 ∧ σ 5 (12 * t + k) 8 ≠ 1) ∧ (∀ r, r < 25 → 0 ≤ σ 17 (12 * t + k) r ∧ σ 17 (12 * t + k) r ≤ 3 ∧ σ 17 (12 * t + k) r ≠ 1) ∧ (∀ p, p < 200 → i64 (σ 16 (12 * t + k) p)) ∧ (σ 5 (12 * t + k) 8 = 0 → ∀ r, r < 25 → σ 17 (12 * t + k) r = 0)
def NU (D : Mm) : Prop := ∀ k, k < 12 → D 5 k 8 ≠ 1 ∧ ∀ r, r < 25 → D 17 k r ≠ 1
def CB (t n L : Nat) (S : Sd) (σ : Mm) : Prop := σ 0 0 3 = t ∧ σ 0 0 4 = ((1 - t : Nat) : Int) ∧ KC t n S σ ∧ SOk S n ∧ (∀ k, k < n → i64 (S k).1 ∧ ∀ z ∈ sCd S k, (0 ≤ z.1 ∧ z.1 ≤ 1000) ∧ i64 z.2.1) ∧ TapeL σ L ∧ BOk (tB σ 11 L) L ∧ RawX (1 - t) σ ∧ σ 7 0 8 = 0
def CI (t n L : Nat) (S : Sd) (D : Mm) (q : Nat) (why : Int) (σ : Mm) : Prop := CB t n L S σ ∧ HC t D σ ∧ DW S D ∧ NU D ∧ RS q why σ
/-- what the class leaves alone: all that is the reference's -/
def FrC (σ' σ : Mm) : Prop := ∀ f k j, (f = 10 ∨ 30 ≤ f ∨ f = 11) → σ' f k j = σ f k j
theorem FrC_T {t : Nat} {σ' σ : Mm} (h : FrT t σ' σ) : FrC σ' σ := fun f k j hf => h f k j (by omega)
theorem CB_fr {t n L : Nat} {S : Sd} {σ σ' : Mm} (h : CB t n L S σ) (hf : FrT t σ' σ) (h8 : σ' 7 0 8 = 0) : CB t n L S σ' := by
  obtain ⟨a1, a2, a3, a4, a5, a6, a7, a8, a9⟩ := h
  have ht := a3.1
  refine ⟨by rw [hf _ _ _ (by omega)]; exact a1, by rw [hf _ _ _ (by omega)]; exact a2, KC_frT a3 hf, a4, a5, ⟨by rw [hf _ _ _ (by omega)]; exact a6.1, a6.2⟩, ?_, fun k hk => ?_, h8⟩
  · have e : tB σ' 11 L = tB σ 11 L := by
      funext j
      unfold tB
      rw [hf _ _ _ (by omega)]
    rw [e]; exact a7
  · obtain ⟨b1, b2, b3, b4⟩ := a8 k hk
    have e5 : σ' 5 (12 * (1 - t) + k) 8 = σ 5 (12 * (1 - t) + k) 8 := hf _ _ _ (by omega)
    have e17 : ∀ r, σ' 17 (12 * (1 - t) + k) r = σ 17 (12 * (1 - t) + k) r := fun r => hf _ _ _ (by omega)
    have e16 : ∀ r, σ' 16 (12 * (1 - t) + k) r = σ 16 (12 * (1 - t) + k) r := fun r => hf _ _ _ (by omega)
    rw [e5]
    exact ⟨b1, fun r hr => by rw [e17]; exact b2 r hr, fun p hp => by rw [e16]; exact b3 p hp, fun z r hr => by rw [e17]; exact b4 z r hr⟩
def qF (res : ER) : Nat := match res with
  | .inl (_, m, _) => if m = 0 then 1 else m
  | .inr _ => 0
def whyF (res : ER) : Int := match res with
  | .inl (w, _, _) => w
  | .inr _ => 0
def dF (res : ER) : Mm := match res with
  | .inl (_, _, D) => D
  | .inr (_, D) => D
theorem NU_up {D D' : Mm} (h : NU D) (hu : UP X0 D D') : NU D' := fun k hk => ⟨fun z => (h k hk).1 ((hu k hk).2.1 z), fun r hr z => (h k hk).2 r hr (((hu k hk).2.2 r hr).2.1 z)⟩
theorem CI_call {t n L : Nat} {S : Sd} {D σ σ0 σ' : Mm} {q : Nat} {why c : Int} {res : ER} (h : CI t n L S D q why σ) (hf : FrT t σ0 σ) (hr : TRs t σ0 res σ') (he : EK S c D res) : CI t n L S (dF res) (qF res) (whyF res) σ' := by
  obtain ⟨h1, h2, h3, h4, h5⟩ := h
  obtain ⟨r1, r2⟩ := hr
  have hf' := FrT_tr r1 hf
  cases res with
  | inl y =>
    obtain ⟨w, m, D'⟩ := y
    obtain ⟨e1, e2, e3, e4, e5⟩ := he
    obtain ⟨r3, r4, r5, r6, r7, r8⟩ := r2
    refine ⟨CB_fr h1 hf' r4, r3, e1, NU_up h4 e3, ?_, r5, fun _ => r7, fun i i1 i2 => r8 i i1 ?_⟩
    · show (if m = 0 then 1 else m) ≤ 12
      split <;> omega
    · have i2 : i < (if m = 0 then 1 else m) := i2
      split at i2 <;> omega
  | inr y =>
    obtain ⟨v, D'⟩ := y
    obtain ⟨e1, e2, e3⟩ := he
    obtain ⟨r3, r4, r5, r6, r7⟩ := r2
    exact ⟨CB_fr h1 hf' r4, r3, e1, NU_up h4 e3, Nat.zero_le _, r6, fun z => absurd z (by show ¬ 1 ≤ 0; omega), fun i i1 i2 => by have i2 : i < 0 := i2; omega⟩
theorem CI_st {t n L : Nat} {S : Sd} {D σ : Mm} {q : Nat} {why : Int} (h : CI t n L S D q why σ) : WOk t n S D 0 0 (stS σ) := WOk_st h.2.1 h.1.2.2.1 h.2.2.1 h.1.2.2.2.2.2.2.2.2
theorem CI_0 {t n L : Nat} {S : Sd} {D σ : Mm} {q : Nat} {why : Int} (h : CI t n L S D q why σ) : CI t n L S D 0 0 (stS σ) := by
  have h2 := CI_st h
  exact ⟨CB_fr h.1 (FrT_W (FrW_st t σ)) h2.2.2.1.1, h2.1, h2.2.2.2, h.2.2.2.1, Nat.zero_le _, h2.2.2.1.2.2.1, fun z => absurd z (by omega), fun i i1 i2 => absurd i2 (Nat.not_lt_zero _)⟩
theorem TRs_W {t w u : Nat} {σ σ' : Mm} {res : ER} {b : Int} (h : WRes t σ 0 0 true res b σ') : TRs t σ res σ' := by
  refine ⟨FrT_W h.1, ?_⟩
  cases res with
  | inl y => exact h.2.2
  | inr y => exact ⟨h.2.2.1, h.2.2.2.1⟩
def i32 (x : Int) : Prop := -2147483648 ≤ x ∧ x < 2147483648
/-! feed, cut -/
theorem c9_feed {σ : Mm} {L : Nat} {w : Int} (hL : TapeL σ L) : Ct 2 mX9_feed 1 [vR 0 0, vL w] NALL σ (some (vI (if L + bin w ≤ 900 then ((L + bin w : Nat) : Int) else -4))) NALL (if L + bin w ≤ 900 then up3 (apdS σ 11 w L (bin w)) 1 0 1 (L + bin w) else σ) 0 0 := by
  by_cases hfit : L + bin w ≤ 900
  · rw [if_pos hfit, if_pos hfit]
    refine ct_of (by decide) (Nat.le_of_ble_eq_true rfl) (fun C h hr _ => ?_)
    have h : Ok C RX9 cX9_feed 3 _ := h
    refine x_aload_n h dX9_feed_0 rfl ?_
    refine x_get h fl_9_12 lvz_0 dX9_feed_1 (pvf_501 _ _) ?_
    refine x_lload_n h dX9_feed_4 rfl ?_
    refine x_cV1 h kVX3_append lkX9_44 ⟨_, _, _, rfl, rfl⟩ dX9_feed_5 (c_append (d := 0) hL.1 hL.2 hfit) lvz_1 rfl rfl (Nat.le_of_ble_eq_true rfl) (by omega) ?_
    refine x_if_eq_F (tgt := 21) h (by omega) dX9_feed_8 (by decide) (by omega) ?_
    refine x_aload_n h dX9_feed_11 rfl ?_
    refine x_get h fl_9_12 lvz_0 dX9_feed_12 (pvf_501 _ _) ?_
    refine x_get (q := vI (((L + bin w : Nat) : Int))) h fl_9_48 lvz_1 dX9_feed_15 (congrArg vI (by first | exact up3_s _ _ _ _ _ | simp [up3, up3_s _ _ _ _ _])) ?_
    refine x_goto (tgt := 23) h dX9_feed_18 (by decide) ?_
    exact x_ireturn h hr dX9_feed_23 (Or.inl rfl) ⟨Nat.le_refl _, Nat.le_refl _⟩
  · rw [if_neg hfit, if_neg hfit]
    refine ct_of (by decide) (Nat.le_of_ble_eq_true rfl) (fun C h hr _ => ?_)
    have h : Ok C RX9 cX9_feed 3 _ := h
    refine x_aload_n h dX9_feed_0 rfl ?_
    refine x_get h fl_9_12 lvz_0 dX9_feed_1 (pvf_501 _ _) ?_
    refine x_lload_n h dX9_feed_4 rfl ?_
    refine x_cV1 h kVX3_append lkX9_44 ⟨_, _, _, rfl, rfl⟩ dX9_feed_5 (c_appendF (d := 0) hL.1 hL.2 hfit) lvz_1 rfl rfl (Nat.le_of_ble_eq_true rfl) (by omega) ?_
    refine x_if_eq_T (tgt := 21) h (by omega) dX9_feed_8 (by decide) (by omega) ?_
    refine x_bipush h dX9_feed_21 (by decide) ?_
    exact x_ireturn h hr dX9_feed_23 (Or.inl rfl) ⟨Nat.le_refl _, Nat.le_refl _⟩
theorem c9_cut {σ : Mm} {L : Nat} (hL : TapeL σ L) : Ct 2 mX9_cut 1 [vR 0 0] NALL σ (some (vI L)) NALL (up3 σ 1 0 1 0) 0 0 := by
  refine ct_of (by decide) (Nat.le_of_ble_eq_true rfl) (fun C h hr _ => ?_)
  have h : Ok C RX9 cX9_cut 2 _ := h
  refine x_aload_n h dX9_cut_0 rfl ?_
  refine x_get h fl_9_12 lvz_0 dX9_cut_1 (pvf_501 _ _) ?_
  refine x_get (q := vI (L)) h fl_9_48 lvz_1 dX9_cut_4 (congrArg vI (by first | exact hL.1 | simp [up3, hL.1])) ?_
  refine x_istore_n h dX9_cut_7 (by decide) ?_
  refine x_aload_n h dX9_cut_8 rfl ?_
  refine x_get h fl_9_12 lvz_0 dX9_cut_9 (pvf_501 _ _) ?_
  refine x_cV0 h kVX3_empty lkX9_62 ⟨_, _, _, rfl, rfl⟩ dX9_cut_12 (c_empty (d := 0)) lvz_1 rfl rfl (Nat.le_of_ble_eq_true rfl) (by omega) ?_
  refine x_iload_n h dX9_cut_15 rfl ?_
  exact x_ireturn h hr dX9_cut_16 (Or.inl rfl) ⟨Nat.le_refl _, Nat.le_refl _⟩
/-! constants -/
theorem c9_named {σ D : Mm} {t n L q : Nat} {S : Sd} {why x : Int} (hI : CI t n L S D q why σ) (hx : i64 x) : Ct 2 mX9_named 1 [vR 0 0, vL x] NALL σ (some (vI (nof (fun k => (S k).1) x n))) NALL σ 0 0 := by
  obtain ⟨⟨a1, a2, a3, a4, a5, a6, a7, a8, a9⟩, -⟩ := hI
  have hn := a4.1
  have ht := a3.1
  have hg : ∀ k, k < n → nameG σ t k = (S k).1 := fun k hk => (a3.2.2.2 k hk).1.1
  have hno := c_numberOf (d := 0) (σ := σ) (t := t) (n := n) (x := x) a3.1 a3.2.1 hn hx (fun k hk => by rw [hg k hk]; exact (a5 k hk).1)
  rw [nof_ext hg] at hno
  refine ct_of (by decide) (Nat.le_of_ble_eq_true rfl) (fun C h hr _ => ?_)
  have h : Ok C RX9 cX9_named 3 _ := h
  refine x_aload_n h dX9_named_0 rfl ?_
  refine x_get h fl_9_28 lvz_0 dX9_named_1 (pvr a1 ⟨by decide, by decide⟩) ?_
  refine x_lload_n h dX9_named_4 rfl ?_
  refine x_cV1 h kVX4_numberOf lkX9_68 ⟨_, _, _, rfl, rfl⟩ dX9_named_5 (hno) (lvm_4 (by omega)) rfl rfl (Nat.le_of_ble_eq_true rfl) (by omega) ?_
  exact x_ireturn h hr dX9_named_8 (Or.inl rfl) ⟨Nat.le_refl _, Nat.le_refl _⟩
abbrev isT (n : Nat) (x : Int) : Prop := 0 ≤ x ∧ x < n
theorem isT_n {n : Nat} {x : Int} (h : isT n x) : ∃ k, x = ((k : Nat) : Int) ∧ k < n := by
  obtain ⟨k, hk⟩ := Int.eq_ofNat_of_zero_le h.1
  exact ⟨k, hk, by have := h.2; omega⟩
theorem no_T {n : Nat} {x : Int} (h : ¬ isT n x) : x < 0 ∨ (n : Int) ≤ x := by unfold isT at h; omega
theorem c9_size {σ D : Mm} {t n L q : Nat} {S : Sd} {why x : Int} (hI : CI t n L S D q why σ) (hx : i32 x) : Ct 2 mX9_size 1 [vR 0 0, vI x] NALL σ (some (vI (if isT n x then sSz S x.toNat else -1))) NALL σ 0 0 := by
  obtain ⟨⟨a1, a2, a3, a4, a5, a6, a7, a8, a9⟩, -⟩ := hI
  have hn := a4.1
  have ht := a3.1
  by_cases hT : isT n x
  · rw [if_pos hT]
    obtain ⟨k, rfl, hk⟩ := isT_n hT
    have hs : σ 5 (12 * t + k) 4 = sSz S k := (a3.2.2.2 k hk).1.2.1
    rw [show ((k : Nat) : Int).toNat = k by omega]
    refine ct_of (by decide) (Nat.le_of_ble_eq_true rfl) (fun C h hr _ => ?_)
    have h : Ok C RX9 cX9_size 3 _ := h
    refine x_aload_n h dX9_size_0 rfl ?_
    refine x_get h fl_9_28 lvz_0 dX9_size_1 (pvr a1 ⟨by decide, by decide⟩) ?_
    refine x_iload_n h dX9_size_4 rfl ?_
    refine x_cV1 h kVX4_tableAt lkX9_72 ⟨_, _, _, rfl, rfl⟩ dX9_size_5 (c_tableAt (d := 0) (k := k) a3.1 a3.2.1 hn hk) (lvm_4 (by omega)) rfl rfl (Nat.le_of_ble_eq_true rfl) (by omega) ?_
    refine x_astore_n h dX9_size_8 (by decide) ?_
    refine x_aload_n h dX9_size_9 rfl ?_
    refine x_ifnonnull (tgt := 17) h dX9_size_10 (by decide) ?_
    refine x_aload_n h dX9_size_17 rfl ?_
    refine x_get (q := vL (sSz S k)) h fl_9_76 (lvm_5 (by omega)) dX9_size_18 (congrArg vL (by first | exact hs | simp [up3, hs])) ?_
    refine x_l2i h dX9_size_21 ?_
    exact x_ireturn h hr dX9_size_22 (Or.inl rfl) ⟨Nat.le_refl _, Nat.le_refl _⟩
  · rw [if_neg hT]
    refine ct_of (by decide) (Nat.le_of_ble_eq_true rfl) (fun C h hr _ => ?_)
    have h : Ok C RX9 cX9_size 3 _ := h
    refine x_aload_n h dX9_size_0 rfl ?_
    refine x_get h fl_9_28 lvz_0 dX9_size_1 (pvr a1 ⟨by decide, by decide⟩) ?_
    refine x_iload_n h dX9_size_4 rfl ?_
    refine x_cV1 h kVX4_tableAt lkX9_72 ⟨_, _, _, rfl, rfl⟩ dX9_size_5 (c_tableAtN (d := 0) a3.1 a3.2.1 hn hx (no_T hT)) (lvm_4 (by omega)) rfl rfl (Nat.le_of_ble_eq_true rfl) (by omega) ?_
    refine x_astoreN_n h dX9_size_8 (by decide) ?_
    refine x_aloadN_n h dX9_size_9 rfl ?_
    refine x_ifnonnullN h dX9_size_10 ?_
    refine x_iconst h dX9_size_13 ?_
    refine x_goto (tgt := 22) h dX9_size_14 (by decide) ?_
    exact x_ireturn h hr dX9_size_22 (Or.inl rfl) ⟨Nat.le_refl _, Nat.le_refl _⟩
theorem HC_5 {t : Nat} {D σ : Mm} (h : HC t D σ) {k : Nat} (hk : k < 12) : σ 5 (12 * t + k) 8 = D 5 k 8 := h 5 k 8 (Or.inl ⟨rfl, hk, rfl⟩)
theorem HC_17 {t : Nat} {D σ : Mm} (h : HC t D σ) {k r : Nat} (hk : k < 12) (hr : r < 25) : σ 17 (12 * t + k) r = D 17 k r := h 17 k r (Or.inr (Or.inl ⟨rfl, hk, hr⟩))
theorem HC_18 {t : Nat} {D σ : Mm} (h : HC t D σ) {m j : Nat} (hm : m < 2) (hj : j < 400) : σ 18 m j = D 18 m j := h 18 m j (Or.inr (Or.inr (Or.inr (Or.inr ⟨rfl, hm, hj⟩))))
theorem c9_state {σ D : Mm} {t n L q : Nat} {S : Sd} {why x : Int} (hI : CI t n L S D q why σ) (hx : i32 x) : Ct 2 mX9_state 1 [vR 0 0, vI x] NALL σ (some (vI (if isT n x then D 5 x.toNat 8 else -1))) NALL σ 0 0 := by
  obtain ⟨⟨a1, a2, a3, a4, a5, a6, a7, a8, a9⟩, hc, -⟩ := hI
  have hn := a4.1
  have ht := a3.1
  by_cases hT : isT n x
  · rw [if_pos hT]
    obtain ⟨k, rfl, hk⟩ := isT_n hT
    rw [show ((k : Nat) : Int).toNat = k by omega]
    refine ct_of (by decide) (Nat.le_of_ble_eq_true rfl) (fun C h hr _ => ?_)
    have h : Ok C RX9 cX9_state 3 _ := h
    refine x_aload_n h dX9_state_0 rfl ?_
    refine x_get h fl_9_28 lvz_0 dX9_state_1 (pvr a1 ⟨by decide, by decide⟩) ?_
    refine x_iload_n h dX9_state_4 rfl ?_
    refine x_cV1 h kVX4_tableAt lkX9_72 ⟨_, _, _, rfl, rfl⟩ dX9_state_5 (c_tableAt (d := 0) (k := k) a3.1 a3.2.1 hn hk) (lvm_4 (by omega)) rfl rfl (Nat.le_of_ble_eq_true rfl) (by omega) ?_
    refine x_astore_n h dX9_state_8 (by decide) ?_
    refine x_aload_n h dX9_state_9 rfl ?_
    refine x_ifnonnull (tgt := 17) h dX9_state_10 (by decide) ?_
    refine x_aload_n h dX9_state_17 rfl ?_
    refine x_get (q := vI (D 5 k 8)) h fl_9_82 (lvm_5 (by omega)) dX9_state_18 (congrArg vI (by first | exact HC_5 hc (by omega) | simp [up3, HC_5 hc (by omega)])) ?_
    exact x_ireturn h hr dX9_state_21 (Or.inl rfl) ⟨Nat.le_refl _, Nat.le_refl _⟩
  · rw [if_neg hT]
    refine ct_of (by decide) (Nat.le_of_ble_eq_true rfl) (fun C h hr _ => ?_)
    have h : Ok C RX9 cX9_state 3 _ := h
    refine x_aload_n h dX9_state_0 rfl ?_
    refine x_get h fl_9_28 lvz_0 dX9_state_1 (pvr a1 ⟨by decide, by decide⟩) ?_
    refine x_iload_n h dX9_state_4 rfl ?_
    refine x_cV1 h kVX4_tableAt lkX9_72 ⟨_, _, _, rfl, rfl⟩ dX9_state_5 (c_tableAtN (d := 0) a3.1 a3.2.1 hn hx (no_T hT)) (lvm_4 (by omega)) rfl rfl (Nat.le_of_ble_eq_true rfl) (by omega) ?_
    refine x_astoreN_n h dX9_state_8 (by decide) ?_
    refine x_aloadN_n h dX9_state_9 rfl ?_
    refine x_ifnonnullN h dX9_state_10 ?_
    refine x_iconst h dX9_state_13 ?_
    refine x_goto (tgt := 21) h dX9_state_14 (by decide) ?_
    exact x_ireturn h hr dX9_state_21 (Or.inl rfl) ⟨Nat.le_refl _, Nat.le_refl _⟩
def vRow (n : Nat) (S : Sd) (D : Mm) (x r : Int) : Int :=
  if isT n x then (if sBy S x.toNat = 0 ∨ D 5 x.toNat 8 ≠ 2 then -3 else if r < 0 ∨ (entsZ (sSz S x.toNat) + 7) / 8 ≤ r then -2 else D 17 x.toNat r.toNat) else -1
theorem c9_row {σ D : Mm} {t n L q : Nat} {S : Sd} {why x r : Int} (hI : CI t n L S D q why σ) (hx : i32 x) (hr0 : i32 r) : Ct 3 mX9_row 1 [vR 0 0, vI x, vI r] NALL σ (some (vI (vRow n S D x r))) NALL σ 0 0 := by
  obtain ⟨⟨a1, a2, a3, a4, a5, a6, a7, a8, a9⟩, hc, hd, -⟩ := hI
  have hn := a4.1
  have ht := a3.1
  unfold i32 at hr0
  unfold vRow
  by_cases hT : isT n x
  · rw [if_pos hT]
    obtain ⟨k, rfl, hk⟩ := isT_n hT
    rw [show ((k : Nat) : Int).toNat = k by omega]
    obtain ⟨s1, s2, s3, s4, s5, s6, s7⟩ := a4.2 k hk
    have hs : σ 5 (12 * t + k) 4 = sSz S k := (a3.2.2.2 k hk).1.2.1
    have hby : σ 5 (12 * t + k) 5 = sBy S k := (a3.2.2.2 k hk).1.2.2.1
    have h5 := HC_5 hc (k := k) (by omega)
    have hd5 := (hd.1 k (by omega)).1
    have hez := entsZ_r (sSz S k)
    have htab := c_tableAt (d := 0) (σ := σ) (k := k) a3.1 a3.2.1 hn hk
    by_cases hb : sBy S k = 0
    · rw [if_pos (Or.inl hb)]
      refine ct_of (by decide) (Nat.le_of_ble_eq_true rfl) (fun C h hr _ => ?_)
      have h : Ok C RX9 cX9_row 4 _ := h
      refine x_aload_n h dX9_row_0 rfl ?_
      refine x_get h fl_9_28 lvz_0 dX9_row_1 (pvr a1 ⟨by decide, by decide⟩) ?_
      refine x_iload_n h dX9_row_4 rfl ?_
      refine x_cV1 h kVX4_tableAt lkX9_72 ⟨_, _, _, rfl, rfl⟩ dX9_row_5 (htab) (lvm_4 (by omega)) rfl rfl (Nat.le_of_ble_eq_true rfl) (by omega) ?_
      refine x_astore_n h dX9_row_8 (by decide) ?_
      refine x_aload_n h dX9_row_9 rfl ?_
      refine x_ifnonnull (tgt := 15) h dX9_row_10 (by decide) ?_
      refine x_aload_n h dX9_row_15 rfl ?_
      refine x_get (q := vI (0)) h fl_9_85 (lvm_5 (by omega)) dX9_row_16 (congrArg vI (by first | exact hby.trans hb | simp [up3, hby.trans hb])) ?_
      refine x_if_eq_T (tgt := 30) h (by omega) dX9_row_19 (by decide) (by omega) ?_
      refine x_bipush h dX9_row_30 (by decide) ?_
      exact x_ireturn h hr dX9_row_32 (Or.inl rfl) ⟨Nat.le_refl _, Nat.le_refl _⟩
    · have hb1 : sBy S k = 1 := by omega
      by_cases h2 : D 5 k 8 = 2
      · rw [if_neg (by omega)]
        have hrows := c_rowsInAll (d := 0) (σ := σ) (m := 12 * t + k) (by omega) (by rw [hs]; exact s1)
        rw [hs] at hrows
        by_cases hr1 : r < 0
        · rw [if_pos (Or.inl hr1)]
          refine ct_of (by decide) (Nat.le_of_ble_eq_true rfl) (fun C h hr _ => ?_)
          have h : Ok C RX9 cX9_row 4 _ := h
          refine x_aload_n h dX9_row_0 rfl ?_
          refine x_get h fl_9_28 lvz_0 dX9_row_1 (pvr a1 ⟨by decide, by decide⟩) ?_
          refine x_iload_n h dX9_row_4 rfl ?_
          refine x_cV1 h kVX4_tableAt lkX9_72 ⟨_, _, _, rfl, rfl⟩ dX9_row_5 (htab) (lvm_4 (by omega)) rfl rfl (Nat.le_of_ble_eq_true rfl) (by omega) ?_
          refine x_astore_n h dX9_row_8 (by decide) ?_
          refine x_aload_n h dX9_row_9 rfl ?_
          refine x_ifnonnull (tgt := 15) h dX9_row_10 (by decide) ?_
          refine x_aload_n h dX9_row_15 rfl ?_
          refine x_get (q := vI (1)) h fl_9_85 (lvm_5 (by omega)) dX9_row_16 (congrArg vI (by first | exact hby.trans hb1 | simp [up3, hby.trans hb1])) ?_
          refine x_if_eq_F (tgt := 30) h (by omega) dX9_row_19 (by decide) (by omega) ?_
          refine x_aload_n h dX9_row_22 rfl ?_
          refine x_get (q := vI (2)) h fl_9_82 (lvm_5 (by omega)) dX9_row_23 (congrArg vI (by first | exact h5.trans h2 | simp [up3, h5.trans h2])) ?_
          refine x_iconst h dX9_row_26 ?_
          refine x_ic_eq_T (tgt := 33) h (by omega) dX9_row_27 (by decide) (by omega) ?_
          refine x_iload_n h dX9_row_33 rfl ?_
          refine x_if_lt_T (tgt := 45) h (by omega) dX9_row_34 (by decide) (by omega) ?_
          refine x_bipush h dX9_row_45 (by decide) ?_
          refine x_goto (tgt := 58) h dX9_row_47 (by decide) ?_
          exact x_ireturn h hr dX9_row_58 (Or.inl rfl) ⟨Nat.le_refl _, Nat.le_refl _⟩
        · by_cases hr2 : (entsZ (sSz S k) + 7) / 8 ≤ r
          · rw [if_pos (Or.inr hr2)]
            refine ct_of (by decide) (Nat.le_of_ble_eq_true rfl) (fun C h hr _ => ?_)
            have h : Ok C RX9 cX9_row 4 _ := h
            refine x_aload_n h dX9_row_0 rfl ?_
            refine x_get h fl_9_28 lvz_0 dX9_row_1 (pvr a1 ⟨by decide, by decide⟩) ?_
            refine x_iload_n h dX9_row_4 rfl ?_
            refine x_cV1 h kVX4_tableAt lkX9_72 ⟨_, _, _, rfl, rfl⟩ dX9_row_5 (htab) (lvm_4 (by omega)) rfl rfl (Nat.le_of_ble_eq_true rfl) (by omega) ?_
            refine x_astore_n h dX9_row_8 (by decide) ?_
            refine x_aload_n h dX9_row_9 rfl ?_
            refine x_ifnonnull (tgt := 15) h dX9_row_10 (by decide) ?_
            refine x_aload_n h dX9_row_15 rfl ?_
            refine x_get (q := vI (1)) h fl_9_85 (lvm_5 (by omega)) dX9_row_16 (congrArg vI (by first | exact hby.trans hb1 | simp [up3, hby.trans hb1])) ?_
            refine x_if_eq_F (tgt := 30) h (by omega) dX9_row_19 (by decide) (by omega) ?_
            refine x_aload_n h dX9_row_22 rfl ?_
            refine x_get (q := vI (2)) h fl_9_82 (lvm_5 (by omega)) dX9_row_23 (congrArg vI (by first | exact h5.trans h2 | simp [up3, h5.trans h2])) ?_
            refine x_iconst h dX9_row_26 ?_
            refine x_ic_eq_T (tgt := 33) h (by omega) dX9_row_27 (by decide) (by omega) ?_
            refine x_iload_n h dX9_row_33 rfl ?_
            refine x_if_lt_F (tgt := 45) h (by omega) dX9_row_34 (by decide) (by omega) ?_
            refine x_iload_n h dX9_row_37 rfl ?_
            refine x_aload_n h dX9_row_38 rfl ?_
            refine x_cV1 h kVX2_rowsInAll lkX9_89 ⟨_, _, _, rfl, rfl⟩ dX9_row_39 (hrows) (lvm_5 (by omega)) rfl rfl (Nat.le_of_ble_eq_true rfl) (by omega) ?_
            refine x_ic_lt_F (tgt := 50) h (by omega) dX9_row_42 (by decide) (by omega) ?_
            refine x_bipush h dX9_row_45 (by decide) ?_
            refine x_goto (tgt := 58) h dX9_row_47 (by decide) ?_
            exact x_ireturn h hr dX9_row_58 (Or.inl rfl) ⟨Nat.le_refl _, Nat.le_refl _⟩
          · rw [if_neg (by omega)]
            obtain ⟨j, rfl⟩ := Int.eq_ofNat_of_zero_le (show 0 ≤ r by omega)
            rw [show ((j : Nat) : Int).toNat = j by omega]
            have hat := c_at (d := 0) (σ := σ) (f := 17) (m := 12 * t + k) (k := j) kdf_17 (lvm_17 (by omega)) (by omega)
            rw [HC_17 hc (by omega) (by omega)] at hat
            refine ct_of (by decide) (Nat.le_of_ble_eq_true rfl) (fun C h hr _ => ?_)
            have h : Ok C RX9 cX9_row 4 _ := h
            refine x_aload_n h dX9_row_0 rfl ?_
            refine x_get h fl_9_28 lvz_0 dX9_row_1 (pvr a1 ⟨by decide, by decide⟩) ?_
            refine x_iload_n h dX9_row_4 rfl ?_
            refine x_cV1 h kVX4_tableAt lkX9_72 ⟨_, _, _, rfl, rfl⟩ dX9_row_5 (htab) (lvm_4 (by omega)) rfl rfl (Nat.le_of_ble_eq_true rfl) (by omega) ?_
            refine x_astore_n h dX9_row_8 (by decide) ?_
            refine x_aload_n h dX9_row_9 rfl ?_
            refine x_ifnonnull (tgt := 15) h dX9_row_10 (by decide) ?_
            refine x_aload_n h dX9_row_15 rfl ?_
            refine x_get (q := vI (1)) h fl_9_85 (lvm_5 (by omega)) dX9_row_16 (congrArg vI (by first | exact hby.trans hb1 | simp [up3, hby.trans hb1])) ?_
            refine x_if_eq_F (tgt := 30) h (by omega) dX9_row_19 (by decide) (by omega) ?_
            refine x_aload_n h dX9_row_22 rfl ?_
            refine x_get (q := vI (2)) h fl_9_82 (lvm_5 (by omega)) dX9_row_23 (congrArg vI (by first | exact h5.trans h2 | simp [up3, h5.trans h2])) ?_
            refine x_iconst h dX9_row_26 ?_
            refine x_ic_eq_T (tgt := 33) h (by omega) dX9_row_27 (by decide) (by omega) ?_
            refine x_iload_n h dX9_row_33 rfl ?_
            refine x_if_lt_F (tgt := 45) h (by omega) dX9_row_34 (by decide) (by omega) ?_
            refine x_iload_n h dX9_row_37 rfl ?_
            refine x_aload_n h dX9_row_38 rfl ?_
            refine x_cV1 h kVX2_rowsInAll lkX9_89 ⟨_, _, _, rfl, rfl⟩ dX9_row_39 (hrows) (lvm_5 (by omega)) rfl rfl (Nat.le_of_ble_eq_true rfl) (by omega) ?_
            refine x_ic_lt_T (tgt := 50) h (by omega) dX9_row_42 (by decide) (by omega) ?_
            refine x_aload_n h dX9_row_50 rfl ?_
            refine x_get h fl_9_93 (lvm_5 (by omega)) dX9_row_51 (pvf_717 _ _) ?_
            refine x_iload_n h dX9_row_54 rfl ?_
            refine x_cS1 h kSX9_at lkX9_97 dX9_row_55 (hat) rfl rfl (Nat.le_of_ble_eq_true rfl) (by omega) ?_
            exact x_ireturn h hr dX9_row_58 (Or.inl rfl) ⟨Nat.le_refl _, Nat.le_refl _⟩
      · rw [if_pos (Or.inr h2)]
        refine ct_of (by decide) (Nat.le_of_ble_eq_true rfl) (fun C h hr _ => ?_)
        have h : Ok C RX9 cX9_row 4 _ := h
        refine x_aload_n h dX9_row_0 rfl ?_
        refine x_get h fl_9_28 lvz_0 dX9_row_1 (pvr a1 ⟨by decide, by decide⟩) ?_
        refine x_iload_n h dX9_row_4 rfl ?_
        refine x_cV1 h kVX4_tableAt lkX9_72 ⟨_, _, _, rfl, rfl⟩ dX9_row_5 (htab) (lvm_4 (by omega)) rfl rfl (Nat.le_of_ble_eq_true rfl) (by omega) ?_
        refine x_astore_n h dX9_row_8 (by decide) ?_
        refine x_aload_n h dX9_row_9 rfl ?_
        refine x_ifnonnull (tgt := 15) h dX9_row_10 (by decide) ?_
        refine x_aload_n h dX9_row_15 rfl ?_
        refine x_get (q := vI (1)) h fl_9_85 (lvm_5 (by omega)) dX9_row_16 (congrArg vI (by first | exact hby.trans hb1 | simp [up3, hby.trans hb1])) ?_
        refine x_if_eq_F (tgt := 30) h (by omega) dX9_row_19 (by decide) (by omega) ?_
        refine x_aload_n h dX9_row_22 rfl ?_
        refine x_get (q := vI (D 5 k 8)) h fl_9_82 (lvm_5 (by omega)) dX9_row_23 (congrArg vI (by first | exact h5 | simp [up3, h5])) ?_
        refine x_iconst h dX9_row_26 ?_
        refine x_ic_eq_F (tgt := 33) h (by omega) dX9_row_27 (by decide) (by omega) ?_
        refine x_bipush h dX9_row_30 (by decide) ?_
        exact x_ireturn h hr dX9_row_32 (Or.inl rfl) ⟨Nat.le_refl _, Nat.le_refl _⟩
  · rw [if_neg hT]
    refine ct_of (by decide) (Nat.le_of_ble_eq_true rfl) (fun C h hr _ => ?_)
    have h : Ok C RX9 cX9_row 4 _ := h
    refine x_aload_n h dX9_row_0 rfl ?_
    refine x_get h fl_9_28 lvz_0 dX9_row_1 (pvr a1 ⟨by decide, by decide⟩) ?_
    refine x_iload_n h dX9_row_4 rfl ?_
    refine x_cV1 h kVX4_tableAt lkX9_72 ⟨_, _, _, rfl, rfl⟩ dX9_row_5 (c_tableAtN (d := 0) a3.1 a3.2.1 hn hx (no_T hT)) (lvm_4 (by omega)) rfl rfl (Nat.le_of_ble_eq_true rfl) (by omega) ?_
    refine x_astoreN_n h dX9_row_8 (by decide) ?_
    refine x_aloadN_n h dX9_row_9 rfl ?_
    refine x_ifnonnullN h dX9_row_10 ?_
    refine x_iconst h dX9_row_13 ?_
    exact x_ireturn h hr dX9_row_14 (Or.inl rfl) ⟨Nat.le_refl _, Nat.le_refl _⟩
/-! entries -/
theorem c9_entry {σ D : Mm} {t n L q : Nat} {S : Sd} {why p : Int} {k : Nat} (hI : CI t n L S D q why σ) (hk : k < n) (hp : i32 p) (hP : Psi D ≤ 2147483600) : ∃ σ', FrC σ' σ ∧ CI t n L S (dF (askTop S D k p)) (qF (askTop S D k p)) (whyF (askTop S D k p)) σ' ∧ Ct 80 mX9_entry 1 [vR 0 0, vI k, vI p] NALL σ (some (vL (valF (askTop S D k p) 0))) NALL σ' 0 0 := by
  have hn := hI.1.2.2.2.1.1
  unfold i32 at hp
  obtain ⟨b, σ', hres, hct⟩ := c_askFor (x := p) hI.1.2.2.2.1 hk (CI_st hI) (by unfold i64; omega) hP
  have hT := TRs_W (w := 0) (u := 0) hres
  have he := EK_of (askTop_i hI.1.2.2.2.1 p hI.2.2.1 hk)
  refine ⟨σ', FrC_T (FrT_tr hT.1 (FrT_W (FrW_st t σ))), CI_call hI (FrT_W (FrW_st t σ)) hT he, ?_⟩
  cases hv : askTop S D k p with
  | inl y =>
    rw [hv] at hres
    have hb : b = 0 := hres.2.1
    subst hb
    show Ct 80 mX9_entry 1 [vR 0 0, vI k, vI p] NALL σ (some (vL 0)) NALL σ' 0 0
    refine ct_of (by decide) (Nat.le_of_ble_eq_true rfl) (fun C h hr _ => ?_)
    have h : Ok C RX9 cX9_entry 3 _ := h
    refine x_aload_n h dX9_entry_0 rfl ?_
    refine x_get h fl_9_40 lvz_0 dX9_entry_1 (pvf_507 _ _) ?_
    refine x_cV0 h kVX8_startCall lkX9_101 ⟨_, _, _, rfl, rfl⟩ dX9_entry_4 (c_startCall (d := 0)) lvz_7 rfl rfl (Nat.le_of_ble_eq_true rfl) (by omega) ?_
    refine x_aload_n h dX9_entry_7 rfl ?_
    refine x_get h fl_9_40 lvz_0 dX9_entry_8 (pvf_507 _ _) ?_
    refine x_iload_n h dX9_entry_11 rfl ?_
    refine x_iload_n h dX9_entry_12 rfl ?_
    refine x_i2l h (by omega) dX9_entry_13 ?_
    refine x_cV1 h kVX8_askFor lkX9_104 ⟨_, _, _, rfl, rfl⟩ dX9_entry_14 (hct) lvz_7 rfl rfl (Nat.le_of_ble_eq_true rfl) (by omega) ?_
    refine x_if_eq_T (tgt := 30) h (by omega) dX9_entry_17 (by decide) (by omega) ?_
    refine x_lconst0 h dX9_entry_30 ?_
    exact x_lreturn h hr dX9_entry_31 ⟨Nat.le_refl _, Nat.le_refl _⟩
  | inr y =>
    obtain ⟨v, D'⟩ := y
    rw [hv] at hres
    have hb : b = 1 := hres.2.1
    have hg : σ' 7 0 3 = v := hres.2.2.2.2.2 rfl
    subst hb
    show Ct 80 mX9_entry 1 [vR 0 0, vI k, vI p] NALL σ (some (vL v)) NALL σ' 0 0
    refine ct_of (by decide) (Nat.le_of_ble_eq_true rfl) (fun C h hr _ => ?_)
    have h : Ok C RX9 cX9_entry 3 _ := h
    refine x_aload_n h dX9_entry_0 rfl ?_
    refine x_get h fl_9_40 lvz_0 dX9_entry_1 (pvf_507 _ _) ?_
    refine x_cV0 h kVX8_startCall lkX9_101 ⟨_, _, _, rfl, rfl⟩ dX9_entry_4 (c_startCall (d := 0)) lvz_7 rfl rfl (Nat.le_of_ble_eq_true rfl) (by omega) ?_
    refine x_aload_n h dX9_entry_7 rfl ?_
    refine x_get h fl_9_40 lvz_0 dX9_entry_8 (pvf_507 _ _) ?_
    refine x_iload_n h dX9_entry_11 rfl ?_
    refine x_iload_n h dX9_entry_12 rfl ?_
    refine x_i2l h (by omega) dX9_entry_13 ?_
    refine x_cV1 h kVX8_askFor lkX9_104 ⟨_, _, _, rfl, rfl⟩ dX9_entry_14 (hct) lvz_7 rfl rfl (Nat.le_of_ble_eq_true rfl) (by omega) ?_
    refine x_if_eq_F (tgt := 30) h (by omega) dX9_entry_17 (by decide) (by omega) ?_
    refine x_aload_n h dX9_entry_20 rfl ?_
    refine x_get h fl_9_40 lvz_0 dX9_entry_21 (pvf_507 _ _) ?_
    refine x_get (q := vL (v)) h fl_9_108 lvz_7 dX9_entry_24 (congrArg vL (by first | exact hg | simp [up3, hg])) ?_
    refine x_goto (tgt := 31) h dX9_entry_27 (by decide) ?_
    exact x_lreturn h hr dX9_entry_31 ⟨Nat.le_refl _, Nat.le_refl _⟩
theorem c9_entryN {σ D : Mm} {t n L q : Nat} {S : Sd} {why x p : Int} (hI : CI t n L S D q why σ) (hx : i32 x) (hT : ¬ isT n x) (hp : i32 p) : FrC (stS σ) σ ∧ CI t n L S D 0 0 (stS σ) ∧ Ct 5 mX9_entry 1 [vR 0 0, vI x, vI p] NALL σ (some (vL 0)) NALL (stS σ) 0 0 := by
  refine ⟨FrC_T (FrT_W (FrW_st t σ)), CI_0 hI, ?_⟩
  unfold i32 at hp
  have hct := c_askForN (x := p) hI.1.2.2.2.1.1 hx (no_T hT) (CI_st hI) (by unfold i64; omega)
  refine ct_of (by decide) (Nat.le_of_ble_eq_true rfl) (fun C h hr _ => ?_)
  have h : Ok C RX9 cX9_entry 3 _ := h
  refine x_aload_n h dX9_entry_0 rfl ?_
  refine x_get h fl_9_40 lvz_0 dX9_entry_1 (pvf_507 _ _) ?_
  refine x_cV0 h kVX8_startCall lkX9_101 ⟨_, _, _, rfl, rfl⟩ dX9_entry_4 (c_startCall (d := 0)) lvz_7 rfl rfl (Nat.le_of_ble_eq_true rfl) (by omega) ?_
  refine x_aload_n h dX9_entry_7 rfl ?_
  refine x_get h fl_9_40 lvz_0 dX9_entry_8 (pvf_507 _ _) ?_
  refine x_iload_n h dX9_entry_11 rfl ?_
  refine x_iload_n h dX9_entry_12 rfl ?_
  refine x_i2l h (by omega) dX9_entry_13 ?_
  refine x_cV1 h kVX8_askFor lkX9_104 ⟨_, _, _, rfl, rfl⟩ dX9_entry_14 (hct) lvz_7 rfl rfl (Nat.le_of_ble_eq_true rfl) (by omega) ?_
  refine x_if_eq_T (tgt := 30) h (by omega) dX9_entry_17 (by decide) (by omega) ?_
  refine x_lconst0 h dX9_entry_30 ?_
  exact x_lreturn h hr dX9_entry_31 ⟨Nat.le_refl _, Nat.le_refl _⟩
theorem c9_reason {σ D : Mm} {t n L q : Nat} {S : Sd} {why k : Int} (hI : CI t n L S D q why σ) (hk : i32 k) : Ct 2 mX9_reason 1 [vR 0 0, vI k] NALL σ (some (vI (rsnF q why k))) NALL σ 0 0 := by
  refine ct_of (by decide) (Nat.le_of_ble_eq_true rfl) (fun C h hr _ => ?_)
  have h : Ok C RX9 cX9_reason 2 _ := h
  refine x_aload_n h dX9_reason_0 rfl ?_
  refine x_get h fl_9_40 lvz_0 dX9_reason_1 (pvf_507 _ _) ?_
  refine x_iload_n h dX9_reason_4 rfl ?_
  refine x_cV1 h kVX8_reasonAt lkX9_111 ⟨_, _, _, rfl, rfl⟩ dX9_reason_5 (c_reasonAt (d := 0) hI.2.2.2.2 hk) lvz_7 rfl rfl (Nat.le_of_ble_eq_true rfl) (by omega) ?_
  exact x_ireturn h hr dX9_reason_8 (Or.inl rfl) ⟨Nat.le_refl _, Nat.le_refl _⟩
abbrev badSum (a b k : Int) : Prop := k < 0 ∨ 2 < k ∨ b < a ∨ a + 1000 < b
theorem c9_sumN {σ D : Mm} {t n L q : Nat} {S : Sd} {why x a b k : Int} (hI : CI t n L S D q why σ) (hx : i32 x) (hT : ¬ isT n x) : Ct 2 mX9_sum 1 [vR 0 0, vI x, vI a, vI b, vI k] NALL σ (some (vL (-1))) NALL σ 0 0 := by
  obtain ⟨⟨a1, a2, a3, a4, a5, a6, a7, a8, a9⟩, -⟩ := hI
  have hn := a4.1
  have ht := a3.1
  refine ct_of (by decide) (Nat.le_of_ble_eq_true rfl) (fun C h hr _ => ?_)
  have h : Ok C RX9 cX9_sum 7 _ := h
  refine x_aload_n h dX9_sum_0 rfl ?_
  refine x_get h fl_9_28 lvz_0 dX9_sum_1 (pvr a1 ⟨by decide, by decide⟩) ?_
  refine x_iload_n h dX9_sum_4 rfl ?_
  refine x_cV1 h kVX4_tableAt lkX9_72 ⟨_, _, _, rfl, rfl⟩ dX9_sum_5 (c_tableAtN (d := 0) a3.1 a3.2.1 hn hx (no_T hT)) (lvm_4 (by omega)) rfl rfl (Nat.le_of_ble_eq_true rfl) (by omega) ?_
  refine x_ifnonnullN h dX9_sum_8 ?_
  refine x_ldc2 (x := (-1)) h dX9_sum_11 klX9_115 (by decide) ?_
  exact x_lreturn h hr dX9_sum_14 ⟨Nat.le_refl _, Nat.le_refl _⟩
theorem c9_sumO {σ D : Mm} {t n L q k0 : Nat} {S : Sd} {why a b k : Int} (hI : CI t n L S D q why σ) (hk0 : k0 < n) (ha : i32 a) (hb : i32 b) (hk : i32 k) (hbad : badSum a b k) : Ct 2 mX9_sum 1 [vR 0 0, vI k0, vI a, vI b, vI k] NALL σ (some (vL (-2))) NALL σ 0 0 := by
  obtain ⟨⟨a1, a2, a3, a4, a5, a6, a7, a8, a9⟩, -⟩ := hI
  have hn := a4.1
  have ht := a3.1
  unfold i32 at ha hb hk
  unfold badSum at hbad
  have htab := c_tableAt (d := 0) (σ := σ) (k := k0) a3.1 a3.2.1 hn hk0
  refine ct_of (by decide) (Nat.le_of_ble_eq_true rfl) (fun C h hr _ => ?_)
  have h : Ok C RX9 cX9_sum 7 _ := h
  by_cases h1 : k < 0
  · refine x_aload_n h dX9_sum_0 rfl ?_
    refine x_get h fl_9_28 lvz_0 dX9_sum_1 (pvr a1 ⟨by decide, by decide⟩) ?_
    refine x_iload_n h dX9_sum_4 rfl ?_
    refine x_cV1 h kVX4_tableAt lkX9_72 ⟨_, _, _, rfl, rfl⟩ dX9_sum_5 (htab) (lvm_4 (by omega)) rfl rfl (Nat.le_of_ble_eq_true rfl) (by omega) ?_
    refine x_ifnonnull (tgt := 15) h dX9_sum_8 (by decide) ?_
    refine x_iload_n h dX9_sum_15 rfl ?_
    refine x_i2l h (by omega) dX9_sum_16 ?_
    refine x_iload_n h dX9_sum_17 rfl ?_
    refine x_i2l h (by omega) dX9_sum_18 ?_
    refine x_lsub h dX9_sum_19 ?_
    refine x_lstore h dX9_sum_20 (by decide) ?_
    refine x_iload h dX9_sum_22 rfl ?_
    refine x_if_lt_T (tgt := 49) h (by omega) dX9_sum_24 (by decide) (by omega) ?_
    refine x_ldc2 (x := (-2)) h dX9_sum_49 klX9_119 (by decide) ?_
    exact x_lreturn h hr dX9_sum_52 ⟨Nat.le_refl _, Nat.le_refl _⟩
  · by_cases h2 : 2 < k
    · refine x_aload_n h dX9_sum_0 rfl ?_
      refine x_get h fl_9_28 lvz_0 dX9_sum_1 (pvr a1 ⟨by decide, by decide⟩) ?_
      refine x_iload_n h dX9_sum_4 rfl ?_
      refine x_cV1 h kVX4_tableAt lkX9_72 ⟨_, _, _, rfl, rfl⟩ dX9_sum_5 (htab) (lvm_4 (by omega)) rfl rfl (Nat.le_of_ble_eq_true rfl) (by omega) ?_
      refine x_ifnonnull (tgt := 15) h dX9_sum_8 (by decide) ?_
      refine x_iload_n h dX9_sum_15 rfl ?_
      refine x_i2l h (by omega) dX9_sum_16 ?_
      refine x_iload_n h dX9_sum_17 rfl ?_
      refine x_i2l h (by omega) dX9_sum_18 ?_
      refine x_lsub h dX9_sum_19 ?_
      refine x_lstore h dX9_sum_20 (by decide) ?_
      refine x_iload h dX9_sum_22 rfl ?_
      refine x_if_lt_F (tgt := 49) h (by omega) dX9_sum_24 (by decide) (by omega) ?_
      refine x_iload h dX9_sum_27 rfl ?_
      refine x_iconst h dX9_sum_29 ?_
      refine x_ic_gt_T (tgt := 49) h (by omega) dX9_sum_30 (by decide) (by omega) ?_
      refine x_ldc2 (x := (-2)) h dX9_sum_49 klX9_119 (by decide) ?_
      exact x_lreturn h hr dX9_sum_52 ⟨Nat.le_refl _, Nat.le_refl _⟩
    · by_cases h3 : b < a
      · refine x_aload_n h dX9_sum_0 rfl ?_
        refine x_get h fl_9_28 lvz_0 dX9_sum_1 (pvr a1 ⟨by decide, by decide⟩) ?_
        refine x_iload_n h dX9_sum_4 rfl ?_
        refine x_cV1 h kVX4_tableAt lkX9_72 ⟨_, _, _, rfl, rfl⟩ dX9_sum_5 (htab) (lvm_4 (by omega)) rfl rfl (Nat.le_of_ble_eq_true rfl) (by omega) ?_
        refine x_ifnonnull (tgt := 15) h dX9_sum_8 (by decide) ?_
        refine x_iload_n h dX9_sum_15 rfl ?_
        refine x_i2l h (by omega) dX9_sum_16 ?_
        refine x_iload_n h dX9_sum_17 rfl ?_
        refine x_i2l h (by omega) dX9_sum_18 ?_
        refine x_lsub h dX9_sum_19 ?_
        refine x_lstore h dX9_sum_20 (by decide) ?_
        refine x_iload h dX9_sum_22 rfl ?_
        refine x_if_lt_F (tgt := 49) h (by omega) dX9_sum_24 (by decide) (by omega) ?_
        refine x_iload h dX9_sum_27 rfl ?_
        refine x_iconst h dX9_sum_29 ?_
        refine x_ic_gt_F (tgt := 49) h (by omega) dX9_sum_30 (by decide) (by omega) ?_
        refine x_lload h dX9_sum_33 rfl ?_
        refine x_lconst0 h dX9_sum_35 ?_
        refine x_lc_lt (tgt := 49) h (by omega) dX9_sum_36 dX9_sum_37 (by decide) (fun _ => ?_) (fun q => absurd (by omega) q)
        refine x_ldc2 (x := (-2)) h dX9_sum_49 klX9_119 (by decide) ?_
        exact x_lreturn h hr dX9_sum_52 ⟨Nat.le_refl _, Nat.le_refl _⟩
      · refine x_aload_n h dX9_sum_0 rfl ?_
        refine x_get h fl_9_28 lvz_0 dX9_sum_1 (pvr a1 ⟨by decide, by decide⟩) ?_
        refine x_iload_n h dX9_sum_4 rfl ?_
        refine x_cV1 h kVX4_tableAt lkX9_72 ⟨_, _, _, rfl, rfl⟩ dX9_sum_5 (htab) (lvm_4 (by omega)) rfl rfl (Nat.le_of_ble_eq_true rfl) (by omega) ?_
        refine x_ifnonnull (tgt := 15) h dX9_sum_8 (by decide) ?_
        refine x_iload_n h dX9_sum_15 rfl ?_
        refine x_i2l h (by omega) dX9_sum_16 ?_
        refine x_iload_n h dX9_sum_17 rfl ?_
        refine x_i2l h (by omega) dX9_sum_18 ?_
        refine x_lsub h dX9_sum_19 ?_
        refine x_lstore h dX9_sum_20 (by decide) ?_
        refine x_iload h dX9_sum_22 rfl ?_
        refine x_if_lt_F (tgt := 49) h (by omega) dX9_sum_24 (by decide) (by omega) ?_
        refine x_iload h dX9_sum_27 rfl ?_
        refine x_iconst h dX9_sum_29 ?_
        refine x_ic_gt_F (tgt := 49) h (by omega) dX9_sum_30 (by decide) (by omega) ?_
        refine x_lload h dX9_sum_33 rfl ?_
        refine x_lconst0 h dX9_sum_35 ?_
        refine x_lc_lt (tgt := 49) h (by omega) dX9_sum_36 dX9_sum_37 (by decide) (fun q => absurd q (by omega)) (fun _ => ?_)
        refine x_lload h dX9_sum_40 rfl ?_
        refine x_ldc2 (x := 1000) h dX9_sum_42 klX9_117 (by decide) ?_
        refine x_lc_le (tgt := 53) h (by omega) dX9_sum_45 dX9_sum_46 (by decide) (fun q => absurd q (by omega)) (fun _ => ?_)
        refine x_ldc2 (x := (-2)) h dX9_sum_49 klX9_119 (by decide) ?_
        exact x_lreturn h hr dX9_sum_52 ⟨Nat.le_refl _, Nat.le_refl _⟩
def sumE9 (S : Sd) (D : Mm) (k0 : Nat) (a b : Int) : ER := sumR S k0 (b - a + 1).toNat a 0 D
theorem c9_sum {σ D : Mm} {t n L q k0 : Nat} {S : Sd} {why a b k : Int} (hI : CI t n L S D q why σ) (hk0 : k0 < n) (ha : i32 a) (hb : i32 b) (hk : i32 k) (hbad : ¬ badSum a b k) (hP : Psi D + 1001 ≤ 2147483600) : ∃ σ', FrC σ' σ ∧ CI t n L S (dF (sumE9 S D k0 a b)) (qF (sumE9 S D k0 a b)) (whyF (sumE9 S D k0 a b)) σ' ∧ Ct 80 mX9_sum 1 [vR 0 0, vI k0, vI a, vI b, vI k] NALL σ (some (vL (match sumE9 S D k0 a b with | .inl _ => 0 | .inr (s, _) => partZ s k))) NALL σ' 0 0 := by
  have a1 := hI.1.1
  have a3 := hI.1.2.2.1
  have a4 := hI.1.2.2.2.1
  have hn := a4.1
  have ht := a3.1
  unfold i32 at ha hb hk
  unfold badSum at hbad
  have htab := c_tableAt (d := 0) (σ := σ) (k := k0) a3.1 a3.2.1 hn hk0
  obtain ⟨r, σ', hT, hr2, hct⟩ := c_addUp (c := (b - a + 1).toNat) a4 hk0 (CI_st hI) ha hb (by omega) (by omega)
  have he := sumR_i a4 hk0 (b - a + 1).toNat a 0 D hI.2.2.1
  refine ⟨σ', FrC_T (FrT_tr hT.1 (FrT_W (FrW_st t σ))), CI_call hI (FrT_W (FrW_st t σ)) hT he, ?_⟩
  unfold sumE9
  cases hv : sumR S k0 (b - a + 1).toNat a 0 D with
  | inl y =>
    rw [hv] at hr2
    have hr0 : r = 0 := hr2
    subst hr0
    show Ct 80 mX9_sum 1 [vR 0 0, vI k0, vI a, vI b, vI k] NALL σ (some (vL 0)) NALL σ' 0 0
    refine ct_of (by decide) (Nat.le_of_ble_eq_true rfl) (fun C h hr _ => ?_)
    have h : Ok C RX9 cX9_sum 7 _ := h
    refine x_aload_n h dX9_sum_0 rfl ?_
    refine x_get h fl_9_28 lvz_0 dX9_sum_1 (pvr a1 ⟨by decide, by decide⟩) ?_
    refine x_iload_n h dX9_sum_4 rfl ?_
    refine x_cV1 h kVX4_tableAt lkX9_72 ⟨_, _, _, rfl, rfl⟩ dX9_sum_5 (htab) (lvm_4 (by omega)) rfl rfl (Nat.le_of_ble_eq_true rfl) (by omega) ?_
    refine x_ifnonnull (tgt := 15) h dX9_sum_8 (by decide) ?_
    refine x_iload_n h dX9_sum_15 rfl ?_
    refine x_i2l h (by omega) dX9_sum_16 ?_
    refine x_iload_n h dX9_sum_17 rfl ?_
    refine x_i2l h (by omega) dX9_sum_18 ?_
    refine x_lsub h dX9_sum_19 ?_
    refine x_lstore h dX9_sum_20 (by decide) ?_
    refine x_iload h dX9_sum_22 rfl ?_
    refine x_if_lt_F (tgt := 49) h (by omega) dX9_sum_24 (by decide) (by omega) ?_
    refine x_iload h dX9_sum_27 rfl ?_
    refine x_iconst h dX9_sum_29 ?_
    refine x_ic_gt_F (tgt := 49) h (by omega) dX9_sum_30 (by decide) (by omega) ?_
    refine x_lload h dX9_sum_33 rfl ?_
    refine x_lconst0 h dX9_sum_35 ?_
    refine x_lc_lt (tgt := 49) h (by omega) dX9_sum_36 dX9_sum_37 (by decide) (fun q => absurd q (by omega)) (fun _ => ?_)
    refine x_lload h dX9_sum_40 rfl ?_
    refine x_ldc2 (x := 1000) h dX9_sum_42 klX9_117 (by decide) ?_
    refine x_lc_le (tgt := 53) h (by omega) dX9_sum_45 dX9_sum_46 (by decide) (fun _ => ?_) (fun q => absurd (by omega) q)
    refine x_aload_n h dX9_sum_53 rfl ?_
    refine x_get h fl_9_40 lvz_0 dX9_sum_54 (pvf_507 _ _) ?_
    refine x_cV0 h kVX8_startCall lkX9_101 ⟨_, _, _, rfl, rfl⟩ dX9_sum_57 (c_startCall (d := 0)) lvz_7 rfl rfl (Nat.le_of_ble_eq_true rfl) (by omega) ?_
    refine x_aload_n h dX9_sum_60 rfl ?_
    refine x_get h fl_9_40 lvz_0 dX9_sum_61 (pvf_507 _ _) ?_
    refine x_iload_n h dX9_sum_64 rfl ?_
    refine x_iload_n h dX9_sum_65 rfl ?_
    refine x_iload_n h dX9_sum_66 rfl ?_
    refine x_cV1 h kVX8_addUp lkX9_121 ⟨_, _, _, rfl, rfl⟩ dX9_sum_67 (hct) lvz_7 rfl rfl (Nat.le_of_ble_eq_true rfl) (by omega) ?_
    refine x_if_eq_T (tgt := 88) h (by omega) dX9_sum_70 (by decide) (by omega) ?_
    refine x_lconst0 h dX9_sum_88 ?_
    exact x_lreturn h hr dX9_sum_89 ⟨Nat.le_refl _, Nat.le_refl _⟩
  | inr y =>
    obtain ⟨s, D'⟩ := y
    rw [hv] at hr2
    obtain ⟨hr0, ht⟩ := hr2
    subst hr0
    show Ct 80 mX9_sum 1 [vR 0 0, vI k0, vI a, vI b, vI k] NALL σ (some (vL (partZ s k))) NALL σ' 0 0
    refine ct_of (by decide) (Nat.le_of_ble_eq_true rfl) (fun C h hr _ => ?_)
    have h : Ok C RX9 cX9_sum 7 _ := h
    refine x_aload_n h dX9_sum_0 rfl ?_
    refine x_get h fl_9_28 lvz_0 dX9_sum_1 (pvr a1 ⟨by decide, by decide⟩) ?_
    refine x_iload_n h dX9_sum_4 rfl ?_
    refine x_cV1 h kVX4_tableAt lkX9_72 ⟨_, _, _, rfl, rfl⟩ dX9_sum_5 (htab) (lvm_4 (by omega)) rfl rfl (Nat.le_of_ble_eq_true rfl) (by omega) ?_
    refine x_ifnonnull (tgt := 15) h dX9_sum_8 (by decide) ?_
    refine x_iload_n h dX9_sum_15 rfl ?_
    refine x_i2l h (by omega) dX9_sum_16 ?_
    refine x_iload_n h dX9_sum_17 rfl ?_
    refine x_i2l h (by omega) dX9_sum_18 ?_
    refine x_lsub h dX9_sum_19 ?_
    refine x_lstore h dX9_sum_20 (by decide) ?_
    refine x_iload h dX9_sum_22 rfl ?_
    refine x_if_lt_F (tgt := 49) h (by omega) dX9_sum_24 (by decide) (by omega) ?_
    refine x_iload h dX9_sum_27 rfl ?_
    refine x_iconst h dX9_sum_29 ?_
    refine x_ic_gt_F (tgt := 49) h (by omega) dX9_sum_30 (by decide) (by omega) ?_
    refine x_lload h dX9_sum_33 rfl ?_
    refine x_lconst0 h dX9_sum_35 ?_
    refine x_lc_lt (tgt := 49) h (by omega) dX9_sum_36 dX9_sum_37 (by decide) (fun q => absurd q (by omega)) (fun _ => ?_)
    refine x_lload h dX9_sum_40 rfl ?_
    refine x_ldc2 (x := 1000) h dX9_sum_42 klX9_117 (by decide) ?_
    refine x_lc_le (tgt := 53) h (by omega) dX9_sum_45 dX9_sum_46 (by decide) (fun _ => ?_) (fun q => absurd (by omega) q)
    refine x_aload_n h dX9_sum_53 rfl ?_
    refine x_get h fl_9_40 lvz_0 dX9_sum_54 (pvf_507 _ _) ?_
    refine x_cV0 h kVX8_startCall lkX9_101 ⟨_, _, _, rfl, rfl⟩ dX9_sum_57 (c_startCall (d := 0)) lvz_7 rfl rfl (Nat.le_of_ble_eq_true rfl) (by omega) ?_
    refine x_aload_n h dX9_sum_60 rfl ?_
    refine x_get h fl_9_40 lvz_0 dX9_sum_61 (pvf_507 _ _) ?_
    refine x_iload_n h dX9_sum_64 rfl ?_
    refine x_iload_n h dX9_sum_65 rfl ?_
    refine x_iload_n h dX9_sum_66 rfl ?_
    refine x_cV1 h kVX8_addUp lkX9_121 ⟨_, _, _, rfl, rfl⟩ dX9_sum_67 (hct) lvz_7 rfl rfl (Nat.le_of_ble_eq_true rfl) (by omega) ?_
    refine x_if_eq_F (tgt := 88) h (by omega) dX9_sum_70 (by decide) (by omega) ?_
    refine x_aload_n h dX9_sum_73 rfl ?_
    refine x_get h fl_9_40 lvz_0 dX9_sum_74 (pvf_507 _ _) ?_
    refine x_get h fl_9_125 lvz_7 dX9_sum_77 (pvf_509 _ _) ?_
    refine x_iload h dX9_sum_80 rfl ?_
    refine x_cV1 h kVX7_part lkX9_129 ⟨_, _, _, rfl, rfl⟩ dX9_sum_82 (c_totpart (d := 0) (m := 0) (k := k) (by decide) ht (by omega)) (lvm_9 (by omega)) rfl rfl (Nat.le_of_ble_eq_true rfl) (by omega) ?_
    refine x_goto (tgt := 89) h dX9_sum_85 (by decide) ?_
    exact x_lreturn h hr dX9_sum_89 ⟨Nat.le_refl _, Nat.le_refl _⟩
theorem c9_findN {σ D : Mm} {t n L q : Nat} {S : Sd} {why x v : Int} (hI : CI t n L S D q why σ) (hx : i32 x) (hT : ¬ isT n x) : Ct 2 mX9_find 1 [vR 0 0, vI x, vL v] NALL σ (some (vI (-1))) NALL σ 0 0 := by
  obtain ⟨⟨a1, a2, a3, a4, a5, a6, a7, a8, a9⟩, -⟩ := hI
  have hn := a4.1
  have ht := a3.1
  refine ct_of (by decide) (Nat.le_of_ble_eq_true rfl) (fun C h hr _ => ?_)
  have h : Ok C RX9 cX9_find 4 _ := h
  refine x_aload_n h dX9_find_0 rfl ?_
  refine x_get h fl_9_28 lvz_0 dX9_find_1 (pvr a1 ⟨by decide, by decide⟩) ?_
  refine x_iload_n h dX9_find_4 rfl ?_
  refine x_cV1 h kVX4_tableAt lkX9_72 ⟨_, _, _, rfl, rfl⟩ dX9_find_5 (c_tableAtN (d := 0) a3.1 a3.2.1 hn hx (no_T hT)) (lvm_4 (by omega)) rfl rfl (Nat.le_of_ble_eq_true rfl) (by omega) ?_
  refine x_ifnonnullN h dX9_find_8 ?_
  refine x_iconst h dX9_find_11 ?_
  exact x_ireturn h hr dX9_find_12 (Or.inl rfl) ⟨Nat.le_refl _, Nat.le_refl _⟩
theorem c9_find {σ D : Mm} {t n L q k0 : Nat} {S : Sd} {why v : Int} (hI : CI t n L S D q why σ) (hk0 : k0 < n) (hv : i64 v) (hP : Psi D + 1001 ≤ 2147483600) : ∃ σ', FrC σ' σ ∧ CI t n L S (dF (findE S D k0 v)) (qF (findE S D k0 v)) (whyF (findE S D k0 v)) σ' ∧ Ct 80 mX9_find 1 [vR 0 0, vI k0, vL v] NALL σ (some (vI (valF (findE S D k0 v) (-10)))) NALL σ' 0 0 := by
  have a1 := hI.1.1
  have a3 := hI.1.2.2.1
  have a4 := hI.1.2.2.2.1
  have hn := a4.1
  have ht := a3.1
  have htab := c_tableAt (d := 0) (σ := σ) (k := k0) a3.1 a3.2.1 hn hk0
  obtain ⟨σ', hT, hct⟩ := c_search a4 hk0 (CI_st hI) hv (by omega)
  have he := findE_i a4 hI.2.2.1 hk0 (wanted := v)
  refine ⟨σ', FrC_T (FrT_tr hT.1 (FrT_W (FrW_st t σ))), CI_call hI (FrT_W (FrW_st t σ)) hT he, ?_⟩
  refine ct_of (by decide) (Nat.le_of_ble_eq_true rfl) (fun C h hr _ => ?_)
  have h : Ok C RX9 cX9_find 4 _ := h
  refine x_aload_n h dX9_find_0 rfl ?_
  refine x_get h fl_9_28 lvz_0 dX9_find_1 (pvr a1 ⟨by decide, by decide⟩) ?_
  refine x_iload_n h dX9_find_4 rfl ?_
  refine x_cV1 h kVX4_tableAt lkX9_72 ⟨_, _, _, rfl, rfl⟩ dX9_find_5 (htab) (lvm_4 (by omega)) rfl rfl (Nat.le_of_ble_eq_true rfl) (by omega) ?_
  refine x_ifnonnull (tgt := 13) h dX9_find_8 (by decide) ?_
  refine x_aload_n h dX9_find_13 rfl ?_
  refine x_get h fl_9_40 lvz_0 dX9_find_14 (pvf_507 _ _) ?_
  refine x_cV0 h kVX8_startCall lkX9_101 ⟨_, _, _, rfl, rfl⟩ dX9_find_17 (c_startCall (d := 0)) lvz_7 rfl rfl (Nat.le_of_ble_eq_true rfl) (by omega) ?_
  refine x_aload_n h dX9_find_20 rfl ?_
  refine x_get h fl_9_40 lvz_0 dX9_find_21 (pvf_507 _ _) ?_
  refine x_iload_n h dX9_find_24 rfl ?_
  refine x_lload_n h dX9_find_25 rfl ?_
  refine x_cV1 h kVX8_search lkX9_135 ⟨_, _, _, rfl, rfl⟩ dX9_find_26 (hct) lvz_7 rfl rfl (Nat.le_of_ble_eq_true rfl) (by omega) ?_
  exact x_ireturn h hr dX9_find_29 (Or.inl rfl) ⟨Nat.le_refl _, Nat.le_refl _⟩
/-! drop -/
def vDrop (n : Nat) (S : Sd) (D : Mm) (x : Int) : Int := if isT n x then (if D 5 x.toNat 8 = 2 then sSz S x.toNat else -3) else -1
def dDrop (n : Nat) (D : Mm) (x : Int) : Mm := if isT n x then (if D 5 x.toNat 8 = 2 then sleepT D x.toNat else D) else D
theorem sleepT_5 (D : Mm) (k j : Nat) : sleepT D k 5 j 8 = if j = k then 0 else D 5 j 8 := by
  unfold sleepT zeroA up3
  rw [if_neg (by omega)]
  by_cases q : j = k
  · rw [if_pos ⟨rfl, q, rfl⟩, if_pos q]
  · rw [if_neg (fun z => q z.2.1), if_neg q]
theorem sleepT_17 (D : Mm) (k j r : Nat) (hr : r < 25) : sleepT D k 17 j r = if j = k then 0 else D 17 j r := by
  unfold sleepT zeroA
  by_cases q : j = k
  · rw [if_pos ⟨rfl, q, hr⟩, if_pos q]
  · rw [if_neg (fun z => q z.2.1), if_neg q, up3_f _ _ (by decide)]
theorem sleepT_o (D : Mm) (k : Nat) {f j i : Nat} (h : f ≠ 17) (h5 : ¬ (f = 5 ∧ j = k ∧ i = 8)) : sleepT D k f j i = D f j i := by
  unfold sleepT zeroA up3
  rw [if_neg (by omega), if_neg h5]
theorem DW_sleep {S : Sd} {D : Mm} (k : Nat) (h : DW S D) : DW S (sleepT D k) := by
  obtain ⟨h1, h2, h3⟩ := h
  refine ⟨fun j hj => ?_, ?_, fun j hj => ?_⟩
  · obtain ⟨b1, b2, b3, b4⟩ := h1 j hj
    rw [sleepT_5]
    by_cases q : j = k
    · rw [if_pos q]
      refine ⟨by omega, fun r hr => by rw [sleepT_17 _ _ _ _ hr, if_pos q]; omega, fun p hp => ?_, fun _ r hr => by rw [sleepT_17 _ _ _ _ hr, if_pos q]⟩
      rw [sleepT_o _ _ (by decide) (by omega)]; exact b3 p hp
    · rw [if_neg q]
      refine ⟨b1, fun r hr => by rw [sleepT_17 _ _ _ _ hr, if_neg q]; exact b2 r hr, fun p hp => ?_, fun z r hr => by rw [sleepT_17 _ _ _ _ hr, if_neg q]; exact b4 z r hr⟩
      rw [sleepT_o _ _ (by decide) (by omega)]; exact b3 p hp
  · rw [sleepT_o _ _ (by decide) (by omega), sleepT_o _ _ (by decide) (by omega)]; exact h2
  · rw [sleepT_o _ _ (by decide) (by omega), sleepT_o _ _ (by decide) (by omega)]; exact h3 j hj
theorem NU_sleep {D : Mm} (k : Nat) (h : NU D) : NU (sleepT D k) := by
  intro j hj
  refine ⟨?_, fun r hr => ?_⟩
  · rw [sleepT_5]
    split
    · decide
    · exact (h j hj).1
  · rw [sleepT_17 _ _ _ _ hr]
    split
    · decide
    · exact (h j hj).2 r hr
theorem HC_sleep {t k : Nat} {D σ : Mm} (h : HC t D σ) : HC t (sleepT D k) (sleepT σ (12 * t + k)) := by
  have h1 : HC t (up3 D 5 k 8 0) (up3 σ 5 (12 * t + k) 8 0) := HC_up h 5 k 8 0
  intro f' k' j' hd
  unfold sleepT zeroA
  by_cases q : f' = 17 ∧ k' = k ∧ j' < 25
  · obtain ⟨rfl, rfl, q3⟩ := q
    rw [if_pos ⟨rfl, rfl, q3⟩, if_pos ⟨rfl, rfl, q3⟩]
  · rw [if_neg q, if_neg (fun z => q (by obtain ⟨rfl, z2, z3⟩ := z; exact ⟨rfl, by unfold trk at z2; rw [if_pos (by omega)] at z2; omega, z3⟩))]
    exact h1 f' k' j' hd
theorem FrT_sleep {t k : Nat} {σ : Mm} (hk : k < 12) : FrT t (sleepT σ (12 * t + k)) σ := fun f j i hf => by
  unfold sleepT zeroA up3
  rw [if_neg (by omega), if_neg (by omega)]
theorem c9_drop {σ D : Mm} {t n L q : Nat} {S : Sd} {why x : Int} (hI : CI t n L S D q why σ) (hx : i32 x) : ∃ σ', FrC σ' σ ∧ CI t n L S (dDrop n D x) q why σ' ∧ Ct 2 mX9_drop 1 [vR 0 0, vI x] NALL σ (some (vI (vDrop n S D x))) NALL σ' 0 0 := by
  have hh := hI
  obtain ⟨⟨a1, a2, a3, a4, a5, a6, a7, a8, a9⟩, hc, hd, hnu, hrs⟩ := hI
  have hn := a4.1
  have ht := a3.1
  unfold vDrop dDrop
  by_cases hT : isT n x
  · rw [if_pos hT, if_pos hT]
    obtain ⟨k, rfl, hk⟩ := isT_n hT
    rw [show ((k : Nat) : Int).toNat = k by omega]
    have hs : σ 5 (12 * t + k) 4 = sSz S k := (a3.2.2.2 k hk).1.2.1
    have htab := c_tableAt (d := 0) (σ := σ) (k := k) a3.1 a3.2.1 hn hk
    have h5 := HC_5 hc (k := k) (by omega)
    have hd5 := (hd.1 k (by omega)).1
    by_cases h2 : D 5 k 8 = 2
    · rw [if_pos h2, if_pos h2]
      have hfr : FrT t (sleepT σ (12 * t + k)) σ := FrT_sleep (by omega)
      refine ⟨sleepT σ (12 * t + k), FrC_T hfr, ⟨CB_fr hh.1 hfr (by rw [sleepT_o _ _ (by decide) (by omega)]; exact a9), HC_sleep hc, DW_sleep k hd, NU_sleep k hnu, ?_⟩, ?_⟩
      · obtain ⟨r1, r2, r3, r4⟩ := hrs
        exact ⟨r1, by rw [sleepT_o _ _ (by decide) (by omega)]; exact r2, fun z => by rw [sleepT_o _ _ (by decide) (by omega)]; exact r3 z, fun i i1 i2 => by rw [sleepT_o _ _ (by decide) (by omega)]; exact r4 i i1 i2⟩
      · have hs2 : sleepT σ (12 * t + k) 5 (12 * t + k) 4 = sSz S k := by rw [sleepT_o _ _ (by decide) (by omega)]; exact hs
        refine ct_of (by decide) (Nat.le_of_ble_eq_true rfl) (fun C h hr _ => ?_)
        have h : Ok C RX9 cX9_drop 3 _ := h
        refine x_aload_n h dX9_drop_0 rfl ?_
        refine x_get h fl_9_28 lvz_0 dX9_drop_1 (pvr a1 ⟨by decide, by decide⟩) ?_
        refine x_iload_n h dX9_drop_4 rfl ?_
        refine x_cV1 h kVX4_tableAt lkX9_72 ⟨_, _, _, rfl, rfl⟩ dX9_drop_5 (htab) (lvm_4 (by omega)) rfl rfl (Nat.le_of_ble_eq_true rfl) (by omega) ?_
        refine x_astore_n h dX9_drop_8 (by decide) ?_
        refine x_aload_n h dX9_drop_9 rfl ?_
        refine x_ifnonnull (tgt := 15) h dX9_drop_10 (by decide) ?_
        refine x_aload_n h dX9_drop_15 rfl ?_
        refine x_get (q := vI (2)) h fl_9_82 (lvm_5 (by omega)) dX9_drop_16 (congrArg vI (by first | exact h5.trans h2 | simp [up3, h5.trans h2])) ?_
        refine x_iconst h dX9_drop_19 ?_
        refine x_ic_eq_T (tgt := 26) h (by omega) dX9_drop_20 (by decide) (by omega) ?_
        refine x_aload_n h dX9_drop_26 rfl ?_
        refine x_cV0 h kVX2_putToSleep lkX9_139 ⟨_, _, _, rfl, rfl⟩ dX9_drop_27 (c_tsleep (d := 0) (m := 12 * t + k) (by omega)) (lvm_5 (by omega)) rfl rfl (Nat.le_of_ble_eq_true rfl) (by omega) ?_
        refine x_aload_n h dX9_drop_30 rfl ?_
        refine x_get (q := vL (sSz S k)) h fl_9_76 (lvm_5 (by omega)) dX9_drop_31 (congrArg vL (by first | exact hs2 | simp [up3, hs2])) ?_
        refine x_l2i h dX9_drop_34 ?_
        exact x_ireturn h hr dX9_drop_35 (Or.inl rfl) ⟨Nat.le_refl _, Nat.le_refl _⟩
    · rw [if_neg h2, if_neg h2]
      refine ⟨σ, fun _ _ _ _ => rfl, hh, ?_⟩
      refine ct_of (by decide) (Nat.le_of_ble_eq_true rfl) (fun C h hr _ => ?_)
      have h : Ok C RX9 cX9_drop 3 _ := h
      refine x_aload_n h dX9_drop_0 rfl ?_
      refine x_get h fl_9_28 lvz_0 dX9_drop_1 (pvr a1 ⟨by decide, by decide⟩) ?_
      refine x_iload_n h dX9_drop_4 rfl ?_
      refine x_cV1 h kVX4_tableAt lkX9_72 ⟨_, _, _, rfl, rfl⟩ dX9_drop_5 (htab) (lvm_4 (by omega)) rfl rfl (Nat.le_of_ble_eq_true rfl) (by omega) ?_
      refine x_astore_n h dX9_drop_8 (by decide) ?_
      refine x_aload_n h dX9_drop_9 rfl ?_
      refine x_ifnonnull (tgt := 15) h dX9_drop_10 (by decide) ?_
      refine x_aload_n h dX9_drop_15 rfl ?_
      refine x_get (q := vI (D 5 k 8)) h fl_9_82 (lvm_5 (by omega)) dX9_drop_16 (congrArg vI (by first | exact h5 | simp [up3, h5])) ?_
      refine x_iconst h dX9_drop_19 ?_
      refine x_ic_eq_F (tgt := 26) h (by omega) dX9_drop_20 (by decide) (by omega) ?_
      refine x_bipush h dX9_drop_23 (by decide) ?_
      exact x_ireturn h hr dX9_drop_25 (Or.inl rfl) ⟨Nat.le_refl _, Nat.le_refl _⟩
  · rw [if_neg hT, if_neg hT]
    refine ⟨σ, fun _ _ _ _ => rfl, hh, ?_⟩
    refine ct_of (by decide) (Nat.le_of_ble_eq_true rfl) (fun C h hr _ => ?_)
    have h : Ok C RX9 cX9_drop 3 _ := h
    refine x_aload_n h dX9_drop_0 rfl ?_
    refine x_get h fl_9_28 lvz_0 dX9_drop_1 (pvr a1 ⟨by decide, by decide⟩) ?_
    refine x_iload_n h dX9_drop_4 rfl ?_
    refine x_cV1 h kVX4_tableAt lkX9_72 ⟨_, _, _, rfl, rfl⟩ dX9_drop_5 (c_tableAtN (d := 0) a3.1 a3.2.1 hn hx (no_T hT)) (lvm_4 (by omega)) rfl rfl (Nat.le_of_ble_eq_true rfl) (by omega) ?_
    refine x_astoreN_n h dX9_drop_8 (by decide) ?_
    refine x_aloadN_n h dX9_drop_9 rfl ?_
    refine x_ifnonnullN h dX9_drop_10 ?_
    refine x_iconst h dX9_drop_13 ?_
    exact x_ireturn h hr dX9_drop_14 (Or.inl rfl) ⟨Nat.le_refl _, Nat.le_refl _⟩
/-! what was done -/
theorem c9_builds {σ D : Mm} {t n L q : Nat} {S : Sd} {why : Int} (hI : CI t n L S D q why σ) : Ct 2 mX9_builds 1 [vR 0 0] NALL σ (some (vI (D 8 0 1))) NALL σ 0 0 := by
  refine ct_of (by decide) (Nat.le_of_ble_eq_true rfl) (fun C h hr _ => ?_)
  have h : Ok C RX9 cX9_builds 1 _ := h
  refine x_aload_n h dX9_builds_0 rfl ?_
  refine x_get h fl_9_40 lvz_0 dX9_builds_1 (pvf_507 _ _) ?_
  refine x_get h fl_9_140 lvz_7 dX9_builds_4 (pvf_508 _ _) ?_
  refine x_get (q := vI (D 8 0 1)) h fl_9_144 (lvm_8 (by omega)) dX9_builds_7 (congrArg vI (by first | exact HC_8 hI.2.1 (by decide) | simp [up3, HC_8 hI.2.1 (by decide)])) ?_
  exact x_ireturn h hr dX9_builds_10 (Or.inl rfl) ⟨Nat.le_refl _, Nat.le_refl _⟩
theorem c9_halves {σ D : Mm} {t n L q : Nat} {S : Sd} {why : Int} (hI : CI t n L S D q why σ) : Ct 2 mX9_halves 1 [vR 0 0] NALL σ (some (vI (D 8 1 1))) NALL σ 0 0 := by
  refine ct_of (by decide) (Nat.le_of_ble_eq_true rfl) (fun C h hr _ => ?_)
  have h : Ok C RX9 cX9_halves 1 _ := h
  refine x_aload_n h dX9_halves_0 rfl ?_
  refine x_get h fl_9_40 lvz_0 dX9_halves_1 (pvf_507 _ _) ?_
  refine x_get h fl_9_156 lvz_7 dX9_halves_4 (pvf_608 _ _) ?_
  refine x_get (q := vI (D 8 1 1)) h fl_9_144 (lvm_8 (by omega)) dX9_halves_7 (congrArg vI (by first | exact HC_8 hI.2.1 (by decide) | simp [up3, HC_8 hI.2.1 (by decide)])) ?_
  exact x_ireturn h hr dX9_halves_10 (Or.inl rfl) ⟨Nat.le_refl _, Nat.le_refl _⟩
def vLog (D : Mm) (m c : Nat) (i w : Int) : Int := if i < 0 ∨ D 8 m 1 ≤ i ∨ 100 ≤ i then -1 else if w < 0 ∨ (c : Int) < w then -2 else D 18 m (4 * i.toNat + w.toNat)
theorem c9_build {σ D : Mm} {t n L q : Nat} {S : Sd} {why i w : Int} (hI : CI t n L S D q why σ) (hP : Psi D ≤ 2147483600) (hi : i32 i) (hw : i32 w) : Ct 3 mX9_build 1 [vR 0 0, vI i, vI w] NALL σ (some (vI (vLog D 0 2 i w))) NALL σ 0 0 := by
  have h8 := HC_8 hI.2.1 (m := 0) (by decide)
  have hd8 := hI.2.2.1.2.1
  have hps := Psi_c hI.2.2.1
  unfold i32 at hi hw
  obtain ⟨b, hb⟩ := Int.eq_ofNat_of_zero_le hd8.1
  unfold vLog
  by_cases h1 : i < 0 ∨ D 8 0 1 ≤ i ∨ 100 ≤ i
  · rw [if_pos h1]
    refine ct_of (by decide) (Nat.le_of_ble_eq_true rfl) (fun C h hr _ => ?_)
    have h : Ok C RX9 cX9_build 4 _ := h
    refine x_aload_n h dX9_build_0 rfl ?_
    refine x_get h fl_9_40 lvz_0 dX9_build_1 (pvf_507 _ _) ?_
    refine x_get h fl_9_140 lvz_7 dX9_build_4 (pvf_508 _ _) ?_
    refine x_astore_n h dX9_build_7 (by decide) ?_
    refine x_aload_n h dX9_build_8 rfl ?_
    refine x_iload_n h dX9_build_9 rfl ?_
    refine x_cV1 h kVX1_keeps lkX9_149 ⟨_, _, _, rfl, rfl⟩ dX9_build_10 (c_keepsF (d := 0) (m := 0) (b := b) (i := i) (by decide) (h8.trans hb) (by omega) hi (by omega)) (lvm_8 (by omega)) rfl rfl (Nat.le_of_ble_eq_true rfl) (by omega) ?_
    refine x_if_ne_F (tgt := 18) h (by omega) dX9_build_13 (by decide) (by omega) ?_
    refine x_iconst h dX9_build_16 ?_
    exact x_ireturn h hr dX9_build_17 (Or.inl rfl) ⟨Nat.le_refl _, Nat.le_refl _⟩
  · rw [if_neg h1]
    obtain ⟨j, rfl⟩ := Int.eq_ofNat_of_zero_le (show 0 ≤ i by omega)
    have hke := c_keepsT (d := 0) (σ := σ) (m := 0) (b := b) (i := j) (by decide) (h8.trans hb) (by omega) (by omega) (by omega)
    by_cases h2 : w < 0 ∨ ((2 : Nat) : Int) < w
    · rw [if_pos h2]
      by_cases h3 : w < 0
      · refine ct_of (by decide) (Nat.le_of_ble_eq_true rfl) (fun C h hr _ => ?_)
        have h : Ok C RX9 cX9_build 4 _ := h
        refine x_aload_n h dX9_build_0 rfl ?_
        refine x_get h fl_9_40 lvz_0 dX9_build_1 (pvf_507 _ _) ?_
        refine x_get h fl_9_140 lvz_7 dX9_build_4 (pvf_508 _ _) ?_
        refine x_astore_n h dX9_build_7 (by decide) ?_
        refine x_aload_n h dX9_build_8 rfl ?_
        refine x_iload_n h dX9_build_9 rfl ?_
        refine x_cV1 h kVX1_keeps lkX9_149 ⟨_, _, _, rfl, rfl⟩ dX9_build_10 (hke) (lvm_8 (by omega)) rfl rfl (Nat.le_of_ble_eq_true rfl) (by omega) ?_
        refine x_if_ne_T (tgt := 18) h (by omega) dX9_build_13 (by decide) (by omega) ?_
        refine x_iload_n h dX9_build_18 rfl ?_
        refine x_if_lt_T (tgt := 27) h (by omega) dX9_build_19 (by decide) (by omega) ?_
        refine x_bipush h dX9_build_27 (by decide) ?_
        refine x_goto (tgt := 39) h dX9_build_29 (by decide) ?_
        exact x_ireturn h hr dX9_build_39 (Or.inl rfl) ⟨Nat.le_refl _, Nat.le_refl _⟩
      · refine ct_of (by decide) (Nat.le_of_ble_eq_true rfl) (fun C h hr _ => ?_)
        have h : Ok C RX9 cX9_build 4 _ := h
        refine x_aload_n h dX9_build_0 rfl ?_
        refine x_get h fl_9_40 lvz_0 dX9_build_1 (pvf_507 _ _) ?_
        refine x_get h fl_9_140 lvz_7 dX9_build_4 (pvf_508 _ _) ?_
        refine x_astore_n h dX9_build_7 (by decide) ?_
        refine x_aload_n h dX9_build_8 rfl ?_
        refine x_iload_n h dX9_build_9 rfl ?_
        refine x_cV1 h kVX1_keeps lkX9_149 ⟨_, _, _, rfl, rfl⟩ dX9_build_10 (hke) (lvm_8 (by omega)) rfl rfl (Nat.le_of_ble_eq_true rfl) (by omega) ?_
        refine x_if_ne_T (tgt := 18) h (by omega) dX9_build_13 (by decide) (by omega) ?_
        refine x_iload_n h dX9_build_18 rfl ?_
        refine x_if_lt_F (tgt := 27) h (by omega) dX9_build_19 (by decide) (by omega) ?_
        refine x_iload_n h dX9_build_22 rfl ?_
        refine x_iconst h dX9_build_23 ?_
        refine x_ic_le_F (tgt := 32) h (by omega) dX9_build_24 (by decide) (by omega) ?_
        refine x_bipush h dX9_build_27 (by decide) ?_
        refine x_goto (tgt := 39) h dX9_build_29 (by decide) ?_
        exact x_ireturn h hr dX9_build_39 (Or.inl rfl) ⟨Nat.le_refl _, Nat.le_refl _⟩
    · rw [if_neg h2]
      obtain ⟨c, rfl⟩ := Int.eq_ofNat_of_zero_le (show 0 ≤ w by omega)
      have hto := c_told (d := 0) (σ := σ) (m := 0) (i := j) (c := c) (by decide) (by omega) (by omega)
      rw [HC_18 hI.2.1 (by decide) (by omega)] at hto
      rw [show ((j : Nat) : Int).toNat = j by omega, show ((c : Nat) : Int).toNat = c by omega]
      refine ct_of (by decide) (Nat.le_of_ble_eq_true rfl) (fun C h hr _ => ?_)
      have h : Ok C RX9 cX9_build 4 _ := h
      refine x_aload_n h dX9_build_0 rfl ?_
      refine x_get h fl_9_40 lvz_0 dX9_build_1 (pvf_507 _ _) ?_
      refine x_get h fl_9_140 lvz_7 dX9_build_4 (pvf_508 _ _) ?_
      refine x_astore_n h dX9_build_7 (by decide) ?_
      refine x_aload_n h dX9_build_8 rfl ?_
      refine x_iload_n h dX9_build_9 rfl ?_
      refine x_cV1 h kVX1_keeps lkX9_149 ⟨_, _, _, rfl, rfl⟩ dX9_build_10 (hke) (lvm_8 (by omega)) rfl rfl (Nat.le_of_ble_eq_true rfl) (by omega) ?_
      refine x_if_ne_T (tgt := 18) h (by omega) dX9_build_13 (by decide) (by omega) ?_
      refine x_iload_n h dX9_build_18 rfl ?_
      refine x_if_lt_F (tgt := 27) h (by omega) dX9_build_19 (by decide) (by omega) ?_
      refine x_iload_n h dX9_build_22 rfl ?_
      refine x_iconst h dX9_build_23 ?_
      refine x_ic_le_T (tgt := 32) h (by omega) dX9_build_24 (by decide) (by omega) ?_
      refine x_aload_n h dX9_build_32 rfl ?_
      refine x_iload_n h dX9_build_33 rfl ?_
      refine x_iload_n h dX9_build_34 rfl ?_
      refine x_cV1 h kVX1_told lkX9_153 ⟨_, _, _, rfl, rfl⟩ dX9_build_35 (hto) (lvm_8 (by omega)) rfl rfl (Nat.le_of_ble_eq_true rfl) (by omega) ?_
      refine x_l2i h dX9_build_38 ?_
      exact x_ireturn h hr dX9_build_39 (Or.inl rfl) ⟨Nat.le_refl _, Nat.le_refl _⟩
theorem c9_half {σ D : Mm} {t n L q : Nat} {S : Sd} {why i w : Int} (hI : CI t n L S D q why σ) (hP : Psi D ≤ 2147483600) (hi : i32 i) (hw : i32 w) : Ct 3 mX9_half 1 [vR 0 0, vI i, vI w] NALL σ (some (vL (vLog D 1 3 i w))) NALL σ 0 0 := by
  have h8 := HC_8 hI.2.1 (m := 1) (by decide)
  have hd8 := hI.2.2.1.2.1
  have hps := Psi_c hI.2.2.1
  unfold i32 at hi hw
  obtain ⟨b, hb⟩ := Int.eq_ofNat_of_zero_le hd8.2
  unfold vLog
  by_cases h1 : i < 0 ∨ D 8 1 1 ≤ i ∨ 100 ≤ i
  · rw [if_pos h1]
    refine ct_of (by decide) (Nat.le_of_ble_eq_true rfl) (fun C h hr _ => ?_)
    have h : Ok C RX9 cX9_half 4 _ := h
    refine x_aload_n h dX9_half_0 rfl ?_
    refine x_get h fl_9_40 lvz_0 dX9_half_1 (pvf_507 _ _) ?_
    refine x_get h fl_9_156 lvz_7 dX9_half_4 (pvf_608 _ _) ?_
    refine x_astore_n h dX9_half_7 (by decide) ?_
    refine x_aload_n h dX9_half_8 rfl ?_
    refine x_iload_n h dX9_half_9 rfl ?_
    refine x_cV1 h kVX1_keeps lkX9_149 ⟨_, _, _, rfl, rfl⟩ dX9_half_10 (c_keepsF (d := 0) (m := 1) (b := b) (i := i) (by decide) (h8.trans hb) (by omega) hi (by omega)) (lvm_8 (by omega)) rfl rfl (Nat.le_of_ble_eq_true rfl) (by omega) ?_
    refine x_if_ne_F (tgt := 20) h (by omega) dX9_half_13 (by decide) (by omega) ?_
    refine x_ldc2 (x := (-1)) h dX9_half_16 klX9_115 (by decide) ?_
    exact x_lreturn h hr dX9_half_19 ⟨Nat.le_refl _, Nat.le_refl _⟩
  · rw [if_neg h1]
    obtain ⟨j, rfl⟩ := Int.eq_ofNat_of_zero_le (show 0 ≤ i by omega)
    have hke := c_keepsT (d := 0) (σ := σ) (m := 1) (b := b) (i := j) (by decide) (h8.trans hb) (by omega) (by omega) (by omega)
    by_cases h2 : w < 0 ∨ ((3 : Nat) : Int) < w
    · rw [if_pos h2]
      by_cases h3 : w < 0
      · refine ct_of (by decide) (Nat.le_of_ble_eq_true rfl) (fun C h hr _ => ?_)
        have h : Ok C RX9 cX9_half 4 _ := h
        refine x_aload_n h dX9_half_0 rfl ?_
        refine x_get h fl_9_40 lvz_0 dX9_half_1 (pvf_507 _ _) ?_
        refine x_get h fl_9_156 lvz_7 dX9_half_4 (pvf_608 _ _) ?_
        refine x_astore_n h dX9_half_7 (by decide) ?_
        refine x_aload_n h dX9_half_8 rfl ?_
        refine x_iload_n h dX9_half_9 rfl ?_
        refine x_cV1 h kVX1_keeps lkX9_149 ⟨_, _, _, rfl, rfl⟩ dX9_half_10 (hke) (lvm_8 (by omega)) rfl rfl (Nat.le_of_ble_eq_true rfl) (by omega) ?_
        refine x_if_ne_T (tgt := 20) h (by omega) dX9_half_13 (by decide) (by omega) ?_
        refine x_iload_n h dX9_half_20 rfl ?_
        refine x_if_lt_T (tgt := 29) h (by omega) dX9_half_21 (by decide) (by omega) ?_
        refine x_ldc2 (x := (-2)) h dX9_half_29 klX9_119 (by decide) ?_
        refine x_goto (tgt := 41) h dX9_half_32 (by decide) ?_
        exact x_lreturn h hr dX9_half_41 ⟨Nat.le_refl _, Nat.le_refl _⟩
      · refine ct_of (by decide) (Nat.le_of_ble_eq_true rfl) (fun C h hr _ => ?_)
        have h : Ok C RX9 cX9_half 4 _ := h
        refine x_aload_n h dX9_half_0 rfl ?_
        refine x_get h fl_9_40 lvz_0 dX9_half_1 (pvf_507 _ _) ?_
        refine x_get h fl_9_156 lvz_7 dX9_half_4 (pvf_608 _ _) ?_
        refine x_astore_n h dX9_half_7 (by decide) ?_
        refine x_aload_n h dX9_half_8 rfl ?_
        refine x_iload_n h dX9_half_9 rfl ?_
        refine x_cV1 h kVX1_keeps lkX9_149 ⟨_, _, _, rfl, rfl⟩ dX9_half_10 (hke) (lvm_8 (by omega)) rfl rfl (Nat.le_of_ble_eq_true rfl) (by omega) ?_
        refine x_if_ne_T (tgt := 20) h (by omega) dX9_half_13 (by decide) (by omega) ?_
        refine x_iload_n h dX9_half_20 rfl ?_
        refine x_if_lt_F (tgt := 29) h (by omega) dX9_half_21 (by decide) (by omega) ?_
        refine x_iload_n h dX9_half_24 rfl ?_
        refine x_iconst h dX9_half_25 ?_
        refine x_ic_le_F (tgt := 35) h (by omega) dX9_half_26 (by decide) (by omega) ?_
        refine x_ldc2 (x := (-2)) h dX9_half_29 klX9_119 (by decide) ?_
        refine x_goto (tgt := 41) h dX9_half_32 (by decide) ?_
        exact x_lreturn h hr dX9_half_41 ⟨Nat.le_refl _, Nat.le_refl _⟩
    · rw [if_neg h2]
      obtain ⟨c, rfl⟩ := Int.eq_ofNat_of_zero_le (show 0 ≤ w by omega)
      have hto := c_told (d := 0) (σ := σ) (m := 1) (i := j) (c := c) (by decide) (by omega) (by omega)
      rw [HC_18 hI.2.1 (by decide) (by omega)] at hto
      rw [show ((j : Nat) : Int).toNat = j by omega, show ((c : Nat) : Int).toNat = c by omega]
      refine ct_of (by decide) (Nat.le_of_ble_eq_true rfl) (fun C h hr _ => ?_)
      have h : Ok C RX9 cX9_half 4 _ := h
      refine x_aload_n h dX9_half_0 rfl ?_
      refine x_get h fl_9_40 lvz_0 dX9_half_1 (pvf_507 _ _) ?_
      refine x_get h fl_9_156 lvz_7 dX9_half_4 (pvf_608 _ _) ?_
      refine x_astore_n h dX9_half_7 (by decide) ?_
      refine x_aload_n h dX9_half_8 rfl ?_
      refine x_iload_n h dX9_half_9 rfl ?_
      refine x_cV1 h kVX1_keeps lkX9_149 ⟨_, _, _, rfl, rfl⟩ dX9_half_10 (hke) (lvm_8 (by omega)) rfl rfl (Nat.le_of_ble_eq_true rfl) (by omega) ?_
      refine x_if_ne_T (tgt := 20) h (by omega) dX9_half_13 (by decide) (by omega) ?_
      refine x_iload_n h dX9_half_20 rfl ?_
      refine x_if_lt_F (tgt := 29) h (by omega) dX9_half_21 (by decide) (by omega) ?_
      refine x_iload_n h dX9_half_24 rfl ?_
      refine x_iconst h dX9_half_25 ?_
      refine x_ic_le_T (tgt := 35) h (by omega) dX9_half_26 (by decide) (by omega) ?_
      refine x_aload_n h dX9_half_35 rfl ?_
      refine x_iload_n h dX9_half_36 rfl ?_
      refine x_iload_n h dX9_half_37 rfl ?_
      refine x_cV1 h kVX1_told lkX9_153 ⟨_, _, _, rfl, rfl⟩ dX9_half_38 (hto) (lvm_8 (by omega)) rfl rfl (Nat.le_of_ble_eq_true rfl) (by omega) ?_
      exact x_lreturn h hr dX9_half_41 ⟨Nat.le_refl _, Nat.le_refl _⟩
def namesE (S : Sd) (k : Nat) (y : Int) : Prop := ∃ z ∈ sCd S k, z.1 = 3 ∧ z.2.1 = y
def isReads (n : Nat) (S : Sd) (x y r : Int) : Prop := (¬ (isT n x ∧ isT n y) → r = -1) ∧ (isT n x ∧ isT n y → (namesE S x.toNat y → r = 1) ∧ (¬ namesE S x.toNat y → r = 0))
theorem wf_steps : ∀ (n : Nat) (c : List Zs) (h : Nat), wf n c h → True := fun _ _ _ _ => trivial
theorem c9_reads {σ D : Mm} {t n L q : Nat} {S : Sd} {why x y r : Int} (hI : CI t n L S D q why σ) (hx : i32 x) (hy : i32 y) (hr : isReads n S x y r) : Ct 2 mX9_reads 1 [vR 0 0, vI x, vI y] NALL σ (some (vI r)) NALL σ 0 0 := by
  obtain ⟨⟨a1, a2, a3, a4, a5, a6, a7, a8, a9⟩, hc, hd, hnu, hrs⟩ := hI
  have hn := a4.1
  have ht := a3.1
  by_cases hT : isT n x
  · obtain ⟨k, rfl, hk⟩ := isT_n hT
    have htab := c_tableAt (d := 0) (σ := σ) (k := k) a3.1 a3.2.1 hn hk
    by_cases hU : isT n y
    · obtain ⟨y', rfl, hy'⟩ := isT_n hU
      have htab2 := c_tableAt (d := 0) (σ := σ) (k := y') a3.1 a3.2.1 hn hy'
      obtain ⟨r1, r0⟩ := hr.2 ⟨hT, hU⟩
      rw [show ((k : Nat) : Int).toNat = k by omega] at r1 r0
      obtain ⟨f1, f2⟩ := (a3.2.2.2 k hk).2
      have hlen := (a4.2 k hk).2.2.2.2.2.1
      have mem : ∀ j, j < (sCd S k).length → (sCd S k).getD j (0, 0, 0) ∈ sCd S k := fun j hj => by
        rw [List.getD_eq_getElem?_getD, List.getElem?_eq_getElem hj]
        exact List.getElem_mem hj
      have hiff : namesF σ (12 * t + k) (sCd S k).length (y' : Int) ↔ namesE S k (y' : Int) := by
        constructor
        · rintro ⟨j, j1, j2, j3⟩
          obtain ⟨g1, g2, -⟩ := f2 j j1
          exact ⟨_, mem j j1, by omega, by omega⟩
        · rintro ⟨z, z1, z2, z3⟩
          obtain ⟨j, hj⟩ := List.getElem?_of_mem z1
          have hjl : j < (sCd S k).length := (List.getElem?_eq_some_iff.mp hj).1
          obtain ⟨g1, g2, -⟩ := f2 j hjl
          have e : (sCd S k).getD j (0, 0, 0) = z := by rw [List.getD_eq_getElem?_getD, hj]; rfl
          rw [e] at g1 g2
          exact ⟨j, hjl, by omega, by omega⟩
      have hr01 : r = 0 ∨ r = 1 := by
        rcases Classical.em (namesE S k (y' : Int)) with e | e
        · exact Or.inr (r1 e)
        · exact Or.inl (r0 e)
      have hnm := c_names (d := 0) (σ := σ) (m := 12 * t + k) (n := (sCd S k).length) (x := (y' : Int)) (r := r) (by omega) f1 hlen hy (fun j hj => by
        obtain ⟨g1, g2, -⟩ := f2 j hj
        have z := (a5 k hk).2 _ (mem j hj)
        rw [g1, g2]
        exact z) (fun e => r1 (hiff.mp e)) (fun e => r0 (fun e2 => e (hiff.mpr e2)))
      rcases hr01 with rfl | rfl
      · refine ct_of (by decide) (Nat.le_of_ble_eq_true rfl) (fun C h hr _ => ?_)
        have h : Ok C RX9 cX9_reads 4 _ := h
        refine x_aload_n h dX9_reads_0 rfl ?_
        refine x_get h fl_9_28 lvz_0 dX9_reads_1 (pvr a1 ⟨by decide, by decide⟩) ?_
        refine x_iload_n h dX9_reads_4 rfl ?_
        refine x_cV1 h kVX4_tableAt lkX9_72 ⟨_, _, _, rfl, rfl⟩ dX9_reads_5 (htab) (lvm_4 (by omega)) rfl rfl (Nat.le_of_ble_eq_true rfl) (by omega) ?_
        refine x_astore_n h dX9_reads_8 (by decide) ?_
        refine x_aload_n h dX9_reads_9 rfl ?_
        refine x_ifnull h dX9_reads_10 ?_
        refine x_aload_n h dX9_reads_13 rfl ?_
        refine x_get h fl_9_28 lvz_0 dX9_reads_14 (pvr a1 ⟨by decide, by decide⟩) ?_
        refine x_iload_n h dX9_reads_17 rfl ?_
        refine x_cV1 h kVX4_tableAt lkX9_72 ⟨_, _, _, rfl, rfl⟩ dX9_reads_18 (htab2) (lvm_4 (by omega)) rfl rfl (Nat.le_of_ble_eq_true rfl) (by omega) ?_
        refine x_ifnonnull (tgt := 26) h dX9_reads_21 (by decide) ?_
        refine x_aload_n h dX9_reads_26 rfl ?_
        refine x_get h fl_9_159 (lvm_5 (by omega)) dX9_reads_27 (pvf_706 _ _) ?_
        refine x_iload_n h dX9_reads_30 rfl ?_
        refine x_cV1 h kVX0_names lkX9_163 ⟨_, _, _, rfl, rfl⟩ dX9_reads_31 (hnm) (lvm_6 (by omega)) rfl rfl (Nat.le_of_ble_eq_true rfl) (by omega) ?_
        refine x_if_eq_T (tgt := 41) h (by omega) dX9_reads_34 (by decide) (by omega) ?_
        refine x_iconst h dX9_reads_41 ?_
        exact x_ireturn h hr dX9_reads_42 (Or.inl rfl) ⟨Nat.le_refl _, Nat.le_refl _⟩
      · refine ct_of (by decide) (Nat.le_of_ble_eq_true rfl) (fun C h hr _ => ?_)
        have h : Ok C RX9 cX9_reads 4 _ := h
        refine x_aload_n h dX9_reads_0 rfl ?_
        refine x_get h fl_9_28 lvz_0 dX9_reads_1 (pvr a1 ⟨by decide, by decide⟩) ?_
        refine x_iload_n h dX9_reads_4 rfl ?_
        refine x_cV1 h kVX4_tableAt lkX9_72 ⟨_, _, _, rfl, rfl⟩ dX9_reads_5 (htab) (lvm_4 (by omega)) rfl rfl (Nat.le_of_ble_eq_true rfl) (by omega) ?_
        refine x_astore_n h dX9_reads_8 (by decide) ?_
        refine x_aload_n h dX9_reads_9 rfl ?_
        refine x_ifnull h dX9_reads_10 ?_
        refine x_aload_n h dX9_reads_13 rfl ?_
        refine x_get h fl_9_28 lvz_0 dX9_reads_14 (pvr a1 ⟨by decide, by decide⟩) ?_
        refine x_iload_n h dX9_reads_17 rfl ?_
        refine x_cV1 h kVX4_tableAt lkX9_72 ⟨_, _, _, rfl, rfl⟩ dX9_reads_18 (htab2) (lvm_4 (by omega)) rfl rfl (Nat.le_of_ble_eq_true rfl) (by omega) ?_
        refine x_ifnonnull (tgt := 26) h dX9_reads_21 (by decide) ?_
        refine x_aload_n h dX9_reads_26 rfl ?_
        refine x_get h fl_9_159 (lvm_5 (by omega)) dX9_reads_27 (pvf_706 _ _) ?_
        refine x_iload_n h dX9_reads_30 rfl ?_
        refine x_cV1 h kVX0_names lkX9_163 ⟨_, _, _, rfl, rfl⟩ dX9_reads_31 (hnm) (lvm_6 (by omega)) rfl rfl (Nat.le_of_ble_eq_true rfl) (by omega) ?_
        refine x_if_eq_F (tgt := 41) h (by omega) dX9_reads_34 (by decide) (by omega) ?_
        refine x_iconst h dX9_reads_37 ?_
        refine x_goto (tgt := 42) h dX9_reads_38 (by decide) ?_
        exact x_ireturn h hr dX9_reads_42 (Or.inl rfl) ⟨Nat.le_refl _, Nat.le_refl _⟩
    · have hr1 : r = -1 := hr.1 (fun e => hU e.2)
      subst hr1
      refine ct_of (by decide) (Nat.le_of_ble_eq_true rfl) (fun C h hr _ => ?_)
      have h : Ok C RX9 cX9_reads 4 _ := h
      refine x_aload_n h dX9_reads_0 rfl ?_
      refine x_get h fl_9_28 lvz_0 dX9_reads_1 (pvr a1 ⟨by decide, by decide⟩) ?_
      refine x_iload_n h dX9_reads_4 rfl ?_
      refine x_cV1 h kVX4_tableAt lkX9_72 ⟨_, _, _, rfl, rfl⟩ dX9_reads_5 (htab) (lvm_4 (by omega)) rfl rfl (Nat.le_of_ble_eq_true rfl) (by omega) ?_
      refine x_astore_n h dX9_reads_8 (by decide) ?_
      refine x_aload_n h dX9_reads_9 rfl ?_
      refine x_ifnull h dX9_reads_10 ?_
      refine x_aload_n h dX9_reads_13 rfl ?_
      refine x_get h fl_9_28 lvz_0 dX9_reads_14 (pvr a1 ⟨by decide, by decide⟩) ?_
      refine x_iload_n h dX9_reads_17 rfl ?_
      refine x_cV1 h kVX4_tableAt lkX9_72 ⟨_, _, _, rfl, rfl⟩ dX9_reads_18 (c_tableAtN (d := 0) a3.1 a3.2.1 hn hy (no_T hU)) (lvm_4 (by omega)) rfl rfl (Nat.le_of_ble_eq_true rfl) (by omega) ?_
      refine x_ifnonnullN h dX9_reads_21 ?_
      refine x_iconst h dX9_reads_24 ?_
      exact x_ireturn h hr dX9_reads_25 (Or.inl rfl) ⟨Nat.le_refl _, Nat.le_refl _⟩
  · have hr1 : r = -1 := hr.1 (fun e => hT e.1)
    subst hr1
    refine ct_of (by decide) (Nat.le_of_ble_eq_true rfl) (fun C h hr _ => ?_)
    have h : Ok C RX9 cX9_reads 4 _ := h
    refine x_aload_n h dX9_reads_0 rfl ?_
    refine x_get h fl_9_28 lvz_0 dX9_reads_1 (pvr a1 ⟨by decide, by decide⟩) ?_
    refine x_iload_n h dX9_reads_4 rfl ?_
    refine x_cV1 h kVX4_tableAt lkX9_72 ⟨_, _, _, rfl, rfl⟩ dX9_reads_5 (c_tableAtN (d := 0) a3.1 a3.2.1 hn hx (no_T hT)) (lvm_4 (by omega)) rfl rfl (Nat.le_of_ble_eq_true rfl) (by omega) ?_
    refine x_astoreN_n h dX9_reads_8 (by decide) ?_
    refine x_aloadN_n h dX9_reads_9 rfl ?_
    refine x_ifnullN (tgt := 24) h dX9_reads_10 (by decide) ?_
    refine x_iconst h dX9_reads_24 ?_
    exact x_ireturn h hr dX9_reads_25 (Or.inl rfl) ⟨Nat.le_refl _, Nat.le_refl _⟩
def vCount (n L : Nat) (S : Sd) (D : Mm) (w : Int) : Int :=
  if w = 0 then n else if w = 1 then cntC (fun k => D 5 k 8) 2 n else if w = 2 then cntC (fun k => D 5 k 8) 3 n
  else if w = 3 then rdyA (fun k => rdyT (D 5 k 8) (sBy S k) (sSz S k) (D 17 k)) n else if w = 4 then L else -2
theorem cntC_ext {g g' : Nat → Int} {x : Int} : ∀ n : Nat, (∀ k, k < n → g k = g' k) → cntC g x n = cntC g' x n := by
  intro n
  induction n with
  | zero => intro _; rfl
  | succ n ih => intro h; unfold cntC; rw [ih (fun k hk => h k (by omega)), h n (by omega)]
theorem rdyA_ext {g g' : Nat → Int} : ∀ n : Nat, (∀ k, k < n → g k = g' k) → rdyA g n = rdyA g' n := by
  intro n
  induction n with
  | zero => intro _; rfl
  | succ n ih => intro h; unfold rdyA; rw [ih (fun k hk => h k (by omega)), h n (by omega)]
theorem rdySum_ext {e : Int} {g g' : Nat → Int} : ∀ n : Nat, (∀ k, k < n → g k = g' k) → rdySum e g n = rdySum e g' n := by
  intro n
  induction n with
  | zero => intro _; rfl
  | succ n ih => intro h; unfold rdySum; rw [ih (fun k hk => h k (by omega)), h n (by omega)]
theorem rdyT_ext {a b c : Int} {g g' : Nat → Int} (h : ∀ r, r < 25 → g r = g' r) : rdyT a b c g = rdyT a b c g' := by
  have := entsZ_r c
  unfold rdyT
  rw [rdySum_ext (g := g) (g' := g') _ (fun k hk => h k (by omega))]
theorem c9_count {σ D : Mm} {t n L q : Nat} {S : Sd} {why w : Int} (hI : CI t n L S D q why σ) (hw : i32 w) : Ct 5 mX9_count 1 [vR 0 0, vI w] NALL σ (some (vI (vCount n L S D w))) NALL σ 0 0 := by
  obtain ⟨⟨a1, a2, a3, a4, a5, a6, a7, a8, a9⟩, hc, hd, hnu, hrs⟩ := hI
  have hn := a4.1
  have ht := a3.1
  unfold i32 at hw
  have g5 : ∀ k, k < n → condG σ t k = D 5 k 8 := fun k hk => HC_5 hc (by omega)
  have h5 : ∀ k, k < n → 0 ≤ condG σ t k ∧ condG σ t k ≤ 3 := fun k hk => by rw [g5 k hk]; exact (hd.1 k (by omega)).1
  have hs : ∀ k, k < n → σ 5 (12 * t + k) 4 = sSz S k := fun k hk => (a3.2.2.2 k hk).1.2.1
  have hby : ∀ k, k < n → σ 5 (12 * t + k) 5 = sBy S k := fun k hk => (a3.2.2.2 k hk).1.2.2.1
  have h17 : ∀ k, k < n → ∀ r, r < 25 → σ 17 (12 * t + k) r = D 17 k r := fun k hk r hr => HC_17 hc (by omega) hr
  rcases (by omega : w = 0 ∨ w = 1 ∨ w = 2 ∨ w = 3 ∨ w = 4 ∨ w < 0 ∨ 4 < w) with rfl | rfl | rfl | rfl | rfl | q | q
  · show Ct 5 mX9_count 1 [vR 0 0, vI 0] NALL σ (some (vI n)) NALL σ 0 0
    refine ct_of (by decide) (Nat.le_of_ble_eq_true rfl) (fun C h hr _ => ?_)
    have h : Ok C RX9 cX9_count 2 _ := h
    refine x_iload_n h dX9_count_0 rfl ?_
    refine x_tsIn (tgt := 36) (off := 35) h dX9_count_1 (by omega) (by omega) (by rfl) (by decide) ?_
    refine x_aload_n h dX9_count_36 rfl ?_
    refine x_get h fl_9_28 lvz_0 dX9_count_37 (pvr a1 ⟨by decide, by decide⟩) ?_
    refine x_get (q := vI (n)) h fl_9_65 (lvm_4 (by omega)) dX9_count_40 (congrArg vI (by first | exact a3.2.1 | simp [up3, a3.2.1])) ?_
    exact x_ireturn h hr dX9_count_43 (Or.inl rfl) ⟨Nat.le_refl _, Nat.le_refl _⟩
  · have hct := c_howManyAre (d := 0) (σ := σ) (t := t) (n := n) (x := 2) ht a3.2.1 hn (by omega) h5
    rw [cntC_ext n g5] at hct
    show Ct 5 mX9_count 1 [vR 0 0, vI 1] NALL σ (some (vI (cntC (fun k => D 5 k 8) 2 n))) NALL σ 0 0
    refine ct_of (by decide) (Nat.le_of_ble_eq_true rfl) (fun C h hr _ => ?_)
    have h : Ok C RX9 cX9_count 2 _ := h
    refine x_iload_n h dX9_count_0 rfl ?_
    refine x_tsIn (tgt := 44) (off := 43) h dX9_count_1 (by omega) (by omega) (by rfl) (by decide) ?_
    refine x_aload_n h dX9_count_44 rfl ?_
    refine x_get h fl_9_28 lvz_0 dX9_count_45 (pvr a1 ⟨by decide, by decide⟩) ?_
    refine x_iconst h dX9_count_48 ?_
    refine x_cV1 h kVX4_howManyAre lkX9_168 ⟨_, _, _, rfl, rfl⟩ dX9_count_49 (hct) (lvm_4 (by omega)) rfl rfl (Nat.le_of_ble_eq_true rfl) (by omega) ?_
    exact x_ireturn h hr dX9_count_52 (Or.inl rfl) ⟨Nat.le_refl _, Nat.le_refl _⟩
  · have hct := c_howManyAre (d := 0) (σ := σ) (t := t) (n := n) (x := 3) ht a3.2.1 hn (by omega) h5
    rw [cntC_ext n g5] at hct
    show Ct 5 mX9_count 1 [vR 0 0, vI 2] NALL σ (some (vI (cntC (fun k => D 5 k 8) 3 n))) NALL σ 0 0
    refine ct_of (by decide) (Nat.le_of_ble_eq_true rfl) (fun C h hr _ => ?_)
    have h : Ok C RX9 cX9_count 2 _ := h
    refine x_iload_n h dX9_count_0 rfl ?_
    refine x_tsIn (tgt := 53) (off := 52) h dX9_count_1 (by omega) (by omega) (by rfl) (by decide) ?_
    refine x_aload_n h dX9_count_53 rfl ?_
    refine x_get h fl_9_28 lvz_0 dX9_count_54 (pvr a1 ⟨by decide, by decide⟩) ?_
    refine x_iconst h dX9_count_57 ?_
    refine x_cV1 h kVX4_howManyAre lkX9_168 ⟨_, _, _, rfl, rfl⟩ dX9_count_58 (hct) (lvm_4 (by omega)) rfl rfl (Nat.le_of_ble_eq_true rfl) (by omega) ?_
    exact x_ireturn h hr dX9_count_61 (Or.inl rfl) ⟨Nat.le_refl _, Nat.le_refl _⟩
  · have hct := c_xready (d := 0) (σ := σ) (t := t) (n := n) ht a3.2.1 hn (fun k hk => by rw [hs k hk]; exact (a4.2 k hk).1) (fun k hk => h5 k hk) (fun k hk => by rw [hby k hk]; have := (a4.2 k hk).2.1; omega) (fun k hk r hr => by rw [h17 k hk r hr]; exact (hd.1 k (by omega)).2.1 r hr)
    rw [rdyA_ext (g' := fun k => rdyT (D 5 k 8) (sBy S k) (sSz S k) (D 17 k)) n (fun k hk => by
      unfold rdyG
      rw [hs k hk, hby k hk, show σ 5 (12 * t + k) 8 = D 5 k 8 from g5 k hk]
      exact rdyT_ext (h17 k hk))] at hct
    show Ct 5 mX9_count 1 [vR 0 0, vI 3] NALL σ (some (vI (rdyA (fun k => rdyT (D 5 k 8) (sBy S k) (sSz S k) (D 17 k)) n))) NALL σ 0 0
    refine ct_of (by decide) (Nat.le_of_ble_eq_true rfl) (fun C h hr _ => ?_)
    have h : Ok C RX9 cX9_count 2 _ := h
    refine x_iload_n h dX9_count_0 rfl ?_
    refine x_tsIn (tgt := 62) (off := 61) h dX9_count_1 (by omega) (by omega) (by rfl) (by decide) ?_
    refine x_aload_n h dX9_count_62 rfl ?_
    refine x_get h fl_9_28 lvz_0 dX9_count_63 (pvr a1 ⟨by decide, by decide⟩) ?_
    refine x_cV1 h kVX4_readyEntries lkX9_171 ⟨_, _, _, rfl, rfl⟩ dX9_count_66 (hct) (lvm_4 (by omega)) rfl rfl (Nat.le_of_ble_eq_true rfl) (by omega) ?_
    exact x_ireturn h hr dX9_count_69 (Or.inl rfl) ⟨Nat.le_refl _, Nat.le_refl _⟩
  · show Ct 5 mX9_count 1 [vR 0 0, vI 4] NALL σ (some (vI L)) NALL σ 0 0
    refine ct_of (by decide) (Nat.le_of_ble_eq_true rfl) (fun C h hr _ => ?_)
    have h : Ok C RX9 cX9_count 2 _ := h
    refine x_iload_n h dX9_count_0 rfl ?_
    refine x_tsIn (tgt := 70) (off := 69) h dX9_count_1 (by omega) (by omega) (by rfl) (by decide) ?_
    refine x_aload_n h dX9_count_70 rfl ?_
    refine x_get h fl_9_12 lvz_0 dX9_count_71 (pvf_501 _ _) ?_
    refine x_get (q := vI (L)) h fl_9_48 lvz_1 dX9_count_74 (congrArg vI (by first | exact a6.1 | simp [up3, a6.1])) ?_
    exact x_ireturn h hr dX9_count_77 (Or.inl rfl) ⟨Nat.le_refl _, Nat.le_refl _⟩
  · rw [show vCount n L S D w = -2 by unfold vCount; rw [if_neg (by omega), if_neg (by omega), if_neg (by omega), if_neg (by omega), if_neg (by omega)]]
    refine ct_of (by decide) (Nat.le_of_ble_eq_true rfl) (fun C h hr _ => ?_)
    have h : Ok C RX9 cX9_count 2 _ := h
    refine x_iload_n h dX9_count_0 rfl ?_
    refine x_tsOut (tgt := 78) h dX9_count_1 (by omega) (by omega) (by decide) ?_
    refine x_bipush h dX9_count_78 (by decide) ?_
    exact x_ireturn h hr dX9_count_80 (Or.inl rfl) ⟨Nat.le_refl _, Nat.le_refl _⟩
  · rw [show vCount n L S D w = -2 by unfold vCount; rw [if_neg (by omega), if_neg (by omega), if_neg (by omega), if_neg (by omega), if_neg (by omega)]]
    refine ct_of (by decide) (Nat.le_of_ble_eq_true rfl) (fun C h hr _ => ?_)
    have h : Ok C RX9 cX9_count 2 _ := h
    refine x_iload_n h dX9_count_0 rfl ?_
    refine x_tsOut (tgt := 78) h dX9_count_1 (by omega) (by omega) (by decide) ?_
    refine x_bipush h dX9_count_78 (by decide) ?_
    exact x_ireturn h hr dX9_count_80 (Or.inl rfl) ⟨Nat.le_refl _, Nat.le_refl _⟩
