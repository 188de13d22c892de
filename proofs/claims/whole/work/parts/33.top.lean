/-! the workshop's doors -/
section NULLS2
variable {C : Cx} {own : String} {cc : ByteArray} {nL d ph pc n nc ns : Nat} {ls : List (Nat × PV)} {st : List PV} {σ : Mm}
theorem x_astoreN (h : Ok C own cc nL d) {i : Nat} (hd : decode cc pc = .ok (.astore i, 2)) (hi : i < nL) (k : X C ph (pc + 2) (lput1 i vN ls) st n σ nc ns) : X C ph pc ls (vN :: st) n σ nc ns := by
  obtain ⟨p, l, e, R, s, m, args, below, meth, c, Q, D, ca, bs⟩ := C
  intro H locs lm hR hm
  obtain ⟨ls', e', h'⟩ := lv_store1 (v := Value.null) hm (h.2.2.1 ▸ hi) rfl
  rw [show (Value.null) = vv bs vN from rfl, lvs_1] at h'
  intro T hT X
  obtain ⟨t, a, b⟩ := k H locs ls' hR h' T hT X
  refine ⟨t, ?_, b⟩
  have e2 : storeLocals lm i Value.null = some ls' := e'
  have hx := h.1
  have hb := h.2.1
  jvm_step X.here [X.here.top, ↓top_set X.here.top, hx, hb, hd, e2, vv, Value.isRef]
  exact a
theorem x_aloadN (h : Ok C own cc nL d) {i : Nat} (hd : decode cc pc = .ok (.aload i, 2)) (hl : lget ls i = some vN) (k : X C ph (pc + 2) ls (vN :: st) n σ nc ns) : X C ph pc ls st n σ nc ns := by
  obtain ⟨p, l, e, R, s, m, args, below, meth, c, Q, D, ca, bs⟩ := C
  intro H locs lm hR hm
  have hg := lv_get hm hl
  intro T hT X
  obtain ⟨t, a, b⟩ := k H locs lm hR hm T hT X
  refine ⟨t, ?_, b⟩
  have hx := h.1
  have hb := h.2.1
  have hg2 : lm[i]? = some (.val .null) := hg
  jvm_step X.here [X.here.top, hx, hb, hd, hg2, vv, Value.isRef]
  exact a
end NULLS2
def FrT (t : Nat) (σ' σ : Mm) : Prop := ∀ f k j, ¬ ((f = 5 ∧ j = 8 ∧ 12 * t ≤ k ∧ k < 12 * t + 12) ∨ ((f = 16 ∨ f = 17) ∧ 12 * t ≤ k ∧ k < 12 * t + 12) ∨ (f = 8 ∧ j = 1) ∨ f = 18 ∨ f = 9 ∨ (f = 7 ∧ (j = 3 ∨ j = 7 ∨ j = 8 ∨ j = 10 ∨ j = 11)) ∨ f = 19 ∨ f = 20) → σ' f k j = σ f k j
theorem FrT_W {t : Nat} {σ' σ : Mm} (h : FrW t σ' σ) : FrT t σ' σ := fun f k j hf => h f k j (by omega)
theorem FrT_tr {t : Nat} {a b c : Mm} (h : FrT t a b) (h' : FrT t b c) : FrT t a c := fun f k j hf => (h f k j hf).trans (h' f k j hf)
theorem FrT_refl (t : Nat) (σ : Mm) : FrT t σ σ := fun _ _ _ _ => rfl
theorem KC_frT {t n : Nat} {S : Sd} {σ σ' : Mm} (h : KC t n S σ) (hf : FrT t σ' σ) : KC t n S σ' := by
  obtain ⟨h1, h2, h3, h4⟩ := h
  refine ⟨h1, by rw [hf _ _ _ (by omega)]; exact h2, by rw [hf _ _ _ (by omega)]; exact h3, fun k hk => ?_⟩
  obtain ⟨⟨t1, t2, t3, t4, t5⟩, f1, f2⟩ := h4 k hk
  refine ⟨⟨by rw [hf _ _ _ (by omega)]; exact t1, by rw [hf _ _ _ (by omega)]; exact t2, by rw [hf _ _ _ (by omega)]; exact t3, by rw [hf _ _ _ (by omega)]; exact t4, fun z => by rw [hf _ _ _ (by omega)]; exact t5 z⟩, by rw [hf _ _ _ (by omega)]; exact f1, fun j hj => ?_⟩
  obtain ⟨g1, g2, g3⟩ := f2 j hj
  exact ⟨by rw [hf _ _ _ (by omega)]; exact g1, by rw [hf _ _ _ (by omega)]; exact g2, by rw [hf _ _ _ (by omega)]; exact g3⟩
def stS (σ : Mm) : Mm := up3 (up3 (up3 σ 7 0 7 0) 7 0 10 0) 7 0 11 0
theorem c_startCall {d : Nat} {σ : Mm} : Ct d mX8_startCall 1 [vR 7 0] NALL σ none NALL (stS σ) 0 0 := by
  refine ct_of (by decide) (Nat.le_of_ble_eq_true rfl) (fun C h hr _ => ?_)
  have h : Ok C RX8 cX8_startCall 1 _ := h
  refine x_aload_n h dX8_startCall_0 rfl ?_
  refine x_iconst h dX8_startCall_1 ?_
  refine x_put h fl_8_43 lvz_7 dX8_startCall_2 rfl (fun z => absurd z (by decide)) ?_
  refine x_aload_n h dX8_startCall_5 rfl ?_
  refine x_iconst h dX8_startCall_6 ?_
  refine x_put h fl_8_54 lvz_7 dX8_startCall_7 rfl (fun z => absurd z (by decide)) ?_
  refine x_aload_n h dX8_startCall_10 rfl ?_
  refine x_iconst h dX8_startCall_11 ?_
  refine x_put h fl_8_57 lvz_7 dX8_startCall_12 rfl (fun _ => by omega) ?_
  exact x_return h hr dX8_startCall_15 ⟨Nat.le_refl _, Nat.le_refl _⟩
theorem FrW_st (t : Nat) (σ : Mm) : FrW t (stS σ) σ := FrW_up (FrW_up (FrW_up (FrW_refl t σ) _ (by omega)) _ (by omega)) _ (by omega)
theorem WOk_st {t n : Nat} {S : Sd} {D σ : Mm} (hc : HC t D σ) (hk : KC t n S σ) (hd : DW S D) (h8 : σ 7 0 8 = 0) : WOk t n S D 0 0 (stS σ) := by
  refine ⟨HC_no (HC_no (HC_no hc (by omega)) (by omega)) (by omega), KC_fr hk (FrW_st t σ), ⟨?_, ?_, ?_, ?_⟩, hd⟩
  · unfold stS; rw [up3_j _ _ (by decide), up3_j _ _ (by decide), up3_j _ _ (by decide)]; exact h8
  · unfold stS; rw [up3_j _ _ (by decide), up3_j _ _ (by decide), up3_s]; rfl
  · unfold stS; rw [up3_j _ _ (by decide), up3_s]
  · unfold stS; rw [up3_s]
def askTop (S : Sd) (D : Mm) (k : Nat) (x : Int) : ER := askE S 12 D k x (-9)
def sumR (S : Sd) (k : Nat) : Nat → Int → Int → Mm → ER
  | 0, _, acc, D => .inr (acc, D)
  | c + 1, p, acc, D => bindE (askTop S D k p) (fun v D' => sumR S k c (p + 1) (acc + v) D')
def findR (S : Sd) (k : Nat) (wanted : Int) : Nat → Nat → Mm → ER
  | 0, _, D => .inr (-9, D)
  | c + 1, p, D => bindE (askTop S D k p) (fun v D' => if v = wanted then .inr (p, D') else findR S k wanted c (p + 1) D')
def findE (S : Sd) (D : Mm) (k : Nat) (wanted : Int) : ER := bindE (awkF (lvW S 12).1 D k (-9)) (fun _ D' => findR S k wanted (entsZ (sSz S k)).toNat 0 D')
def EK (S : Sd) (c : Int) (D : Mm) (r : ER) : Prop := match r with
  | .inl (w, m, D') => DW S D' ∧ Psi D' ≤ Psi D + c ∧ UP X0 D D' ∧ (1 ≤ w ∧ w ≤ 8) ∧ m ≤ 12
  | .inr (_, D') => DW S D' ∧ Psi D' ≤ Psi D + c ∧ UP X0 D D'
theorem EK_of {S : Sd} {c : Int} {D : Mm} {r : ER} (h : EI S X0 12 c D r) : EK S c D r := by
  cases r with
  | inl t => exact h
  | inr t => exact ⟨h.1, h.2.1, h.2.2.1⟩
theorem EK_bind {S : Sd} {c c1 c2 : Int} {D : Mm} {r : ER} {f : Int → Mm → ER} (h : EK S c1 D r) (hc : c1 + c2 ≤ c) (hc0 : c1 ≤ c) (hf : ∀ v D', r = .inr (v, D') → DW S D' → EK S c2 D' (f v D')) : EK S c D (bindE r f) := by
  cases r with
  | inl t =>
    obtain ⟨w, m, D'⟩ := t
    obtain ⟨a1, a2, a3, a4, a5⟩ := h
    exact ⟨a1, by omega, a3, a4, a5⟩
  | inr t =>
    obtain ⟨v, D'⟩ := t
    obtain ⟨a1, a2, a3⟩ := h
    have g := hf v D' rfl a1
    show EK S c D (f v D')
    cases hr : f v D' with
    | inl t =>
      obtain ⟨w, m, D2⟩ := t
      rw [hr] at g
      obtain ⟨b1, b2, b3, b4, b5⟩ := g
      exact ⟨b1, by omega, UP_tr a3 b3, b4, b5⟩
    | inr t =>
      obtain ⟨v2, D2⟩ := t
      rw [hr] at g
      obtain ⟨b1, b2, b3⟩ := g
      exact ⟨b1, by omega, UP_tr a3 b3⟩
theorem askTop_i {S : Sd} {n : Nat} (hS : SOk S n) {D : Mm} {k : Nat} (x : Int) (h : DW S D) (hk : k < n) : EI S X0 12 1 D (askTop S D k x) := by
  obtain ⟨i1, i2⟩ := lv_i hS 12
  exact ask_i hS.1 i1 i2 D k x (-9) h hk (by omega)
theorem sumR_i {S : Sd} {n : Nat} (hS : SOk S n) {k : Nat} (hk : k < n) : ∀ (c : Nat) (p acc : Int) (D : Mm), DW S D → EK S c D (sumR S k c p acc D) := by
  intro c
  induction c with
  | zero => intro p acc D h; exact ⟨h, by omega, UP_refl _ _⟩
  | succ c ih =>
    intro p acc D h
    exact EK_bind (c2 := (c : Int)) (EK_of (askTop_i hS p h hk)) (by omega) (by omega) (fun v D' _ hd => ih (p + 1) (acc + v) D' hd)
theorem findR_i {S : Sd} {n : Nat} (hS : SOk S n) {k : Nat} (hk : k < n) {wanted : Int} : ∀ (c p : Nat) (D : Mm), DW S D → EK S c D (findR S k wanted c p D) := by
  intro c
  induction c with
  | zero => intro p D h; exact ⟨h, by omega, UP_refl _ _⟩
  | succ c ih =>
    intro p D h
    refine EK_bind (c2 := (c : Int)) (EK_of (askTop_i hS p h hk)) (by omega) (by omega) (fun v D' _ hd => ?_)
    split
    · exact ⟨hd, by omega, UP_refl _ _⟩
    · exact ih (p + 1) D' hd
theorem findE_i {S : Sd} {n : Nat} (hS : SOk S n) {D : Mm} {k : Nat} (h : DW S D) (hk : k < n) {wanted : Int} : EK S 200 D (findE S D k wanted) := by
  obtain ⟨i1, i2⟩ := lv_i hS 12
  have he := entsZ_r (sSz S k)
  have g := findR_i hS hk (wanted := wanted) (entsZ (sSz S k)).toNat 0
  refine EK_bind (c1 := 0) (c2 := ((entsZ (sSz S k)).toNat : Int)) (EK_of (awk_i i1 h hk hS.1 (by omega)).1) (by omega) (by omega) (fun v D' _ hd => g D' hd)
/-- the outcome of a call that may fail; on success the workshop is as it was -/
def TRs (t : Nat) (σ : Mm) (res : ER) (σ' : Mm) : Prop := FrT t σ' σ ∧ match res with
  | .inl (why, m, D') => HC t D' σ' ∧ WF 0 why m σ'
  | .inr (_, D') => HC t D' σ' ∧ WS 0 0 σ'
theorem c_addUp {t n k : Nat} {S : Sd} {D σ : Mm} {a b : Int} (hS : SOk S n) (hk : k < n) (hok : WOk t n S D 0 0 σ) (ha : -2147483648 ≤ a ∧ a < 2147483648) (hb : -2147483648 ≤ b ∧ b < 2147483648) {c : Nat} (hc : a + c = b + 1) (hP : Psi D + c ≤ 2147483600) : ∃ (r : Int) (σ' : Mm), TRs t σ (sumR S k c a 0 D) σ' ∧ (match sumR S k c a 0 D with | .inl _ => r = 0 | .inr (s, _) => r = 1 ∧ TotOk σ' 0 s) ∧ Ct 79 mX8_addUp 1 [vR 7 0, vI k, vI a, vI b] NALL σ (some (vI r)) NALL σ' 0 0 := by
  have hn := hS.1
  have loop : ∀ (c : Nat) (p acc : Int) (τ D : Mm), p + c = b + 1 → a ≤ p → WOk t n S D 0 0 τ → FrT t τ σ → TotOk τ 0 acc → Psi D + c ≤ 2147483600 → ∃ (r : Int) (σ' : Mm), TRs t σ (sumR S k c p acc D) σ' ∧ (match sumR S k c p acc D with | .inl _ => r = 0 | .inr (s, _) => r = 1 ∧ TotOk σ' 0 s) ∧ ∀ C : Cx, Ok C RX8 cX8_addUp 6 79 → Rt C 1 (some .boolean) (some (vI r)) NALL σ' 0 0 → ∀ ls, lsub [(0, vR 7 0), (1, vI k), (3, vI b), (4, vL p)] ls → X C 1 11 ls [] NALL τ 0 0 := by
    intro c
    induction c with
    | zero =>
      intro p acc τ D hp hap hok hfr ht hP
      refine ⟨1, τ, ⟨hfr, hok.1, hok.2.2.1⟩, ⟨rfl, ht⟩, fun C h hr ls hls => x_loc hls ?_⟩
      refine x_lload h dX8_addUp_11 rfl ?_
      refine x_iload_n h dX8_addUp_13 rfl ?_
      refine x_i2l h (by omega) dX8_addUp_14 ?_
      refine x_lc_gt (tgt := 53) h (by omega) dX8_addUp_15 dX8_addUp_16 (by decide) (fun _ => ?_) (fun q => absurd (by omega) q)
      refine x_iconst h dX8_addUp_53 ?_
      exact x_ireturn h hr dX8_addUp_54 (Or.inr ⟨rfl, by omega⟩) ⟨Nat.le_refl _, Nat.le_refl _⟩
    | succ c ih =>
      intro p acc τ D hp hap hok hfr ht hP
      obtain ⟨b1, σ1, hres1, hct1⟩ := c_askTop hS τ D k p (-9) 0 hok (by omega) hk (by unfold i64; omega) (by omega) (Nat.zero_le _)
      have hE := askTop_i hS p hok.2.2.2 hk
      have hres1 : WRes t τ 0 0 true (askTop S D k p) b1 σ1 := hres1
      rw [sumR]
      cases hv : askTop S D k p with
      | inl y =>
        obtain ⟨why, m, D'⟩ := y
        rw [hv] at hres1
        obtain ⟨r1, rfl, r3, r4⟩ := hres1
        refine ⟨0, σ1, ⟨FrT_tr (FrT_W r1) hfr, r3, r4⟩, rfl, fun C h hr ls hls => x_loc hls ?_⟩
        refine x_lload h dX8_addUp_11 rfl ?_
        refine x_iload_n h dX8_addUp_13 rfl ?_
        refine x_i2l h (by omega) dX8_addUp_14 ?_
        refine x_lc_gt (tgt := 53) h (by omega) dX8_addUp_15 dX8_addUp_16 (by decide) (fun q => absurd q (by omega)) (fun _ => ?_)
        refine x_aload_n h dX8_addUp_19 rfl ?_
        refine x_iload_n h dX8_addUp_20 rfl ?_
        refine x_lload h dX8_addUp_21 rfl ?_
        refine x_bipush h dX8_addUp_23 (by decide) ?_
        refine x_cV1 h kVX8_ask lkX8_71 ⟨_, _, _, rfl, rfl⟩ dX8_addUp_25 (hct1) lvz_7 rfl rfl (Nat.le_of_ble_eq_true rfl) (by omega) ?_
        refine x_if_ne_F (tgt := 33) h (by omega) dX8_addUp_28 (by decide) (by omega) ?_
        refine x_iconst h dX8_addUp_31 ?_
        exact x_ireturn h hr dX8_addUp_32 (Or.inr ⟨rfl, by omega⟩) ⟨Nat.le_refl _, Nat.le_refl _⟩
      | inr y =>
        obtain ⟨v, D'⟩ := y
        rw [hv] at hres1 hE
        obtain ⟨r1, rfl, r3, r4, r5, r6⟩ := hres1
        have r6 := r6 rfl
        obtain ⟨e1, e2, e3, e4⟩ := hE
        have ht1 : TotOk σ1 0 acc := ⟨by rw [r1 9 0 0 (by omega)]; exact ht.1, by rw [r1 9 0 1 (by omega)]; exact ht.2⟩
        have had := c_totadd (d := 0) (σ := σ1) (m := 0) (S := acc) (v := v) (by decide) ht1 e4
        have hfr2 : FrT t (totS σ1 0 (acc + v)) σ1 := fun f k j hf => totS_f _ _ _ (by omega)
        have hok2 : WOk t n S D' 0 0 (totS σ1 0 (acc + v)) := ⟨HC_no (HC_no r3 (by omega)) (by omega), KC_frT (KC_fr hok.2.1 r1) hfr2, WS_no (WS_no r4 (by omega)) (by omega), e1⟩
        obtain ⟨r, σ', h1, h2, hx⟩ := ih (p + 1) (acc + v) _ D' (by omega) (by omega) hok2 (FrT_tr hfr2 (FrT_tr (FrT_W r1) hfr)) (totS_ok _ _ _) (by omega)
        refine ⟨r, σ', h1, h2, fun C h hr ls hls => x_loc hls ?_⟩
        refine x_lload h dX8_addUp_11 rfl ?_
        refine x_iload_n h dX8_addUp_13 rfl ?_
        refine x_i2l h (by omega) dX8_addUp_14 ?_
        refine x_lc_gt (tgt := 53) h (by omega) dX8_addUp_15 dX8_addUp_16 (by decide) (fun q => absurd q (by omega)) (fun _ => ?_)
        refine x_aload_n h dX8_addUp_19 rfl ?_
        refine x_iload_n h dX8_addUp_20 rfl ?_
        refine x_lload h dX8_addUp_21 rfl ?_
        refine x_bipush h dX8_addUp_23 (by decide) ?_
        refine x_cV1 h kVX8_ask lkX8_71 ⟨_, _, _, rfl, rfl⟩ dX8_addUp_25 (hct1) lvz_7 rfl rfl (Nat.le_of_ble_eq_true rfl) (by omega) ?_
        refine x_if_ne_T (tgt := 33) h (by omega) dX8_addUp_28 (by decide) (by omega) ?_
        refine x_aload_n h dX8_addUp_33 rfl ?_
        refine x_get h fl_8_24 lvz_7 dX8_addUp_34 (pvf_509 _ _) ?_
        refine x_aload_n h dX8_addUp_37 rfl ?_
        refine x_get (q := vL (v)) h fl_8_28 lvz_7 dX8_addUp_38 (congrArg vL (by first | exact r6 | simp [up3, r6])) ?_
        refine x_cV0 h kVX7_add lkX8_76 ⟨_, _, _, rfl, rfl⟩ dX8_addUp_41 (had) (lvm_9 (by omega)) rfl rfl (Nat.le_of_ble_eq_true rfl) (by omega) ?_
        refine x_lload h dX8_addUp_44 rfl ?_
        refine x_lconst1 h dX8_addUp_46 ?_
        refine x_ladd h dX8_addUp_47 ?_
        refine x_lstore h dX8_addUp_48 (by decide) ?_
        refine x_goto (tgt := 11) h dX8_addUp_50 (by decide) ?_
        exact hx C h hr _ ⟨rfl, rfl, rfl, rfl, trivial⟩
  have hcl := c_totclear (d := 0) (σ := σ) (m := 0) (by decide)
  rw [totS_0] at hcl
  have hfr2 : FrT t (totS σ 0 0) σ := fun f k j hf => totS_f _ _ _ (by omega)
  obtain ⟨r, σ', h1, h2, hx⟩ := loop c a 0 (totS σ 0 0) D hc (Int.le_refl _) ⟨HC_no (HC_no hok.1 (by omega)) (by omega), KC_frT hok.2.1 hfr2, WS_no (WS_no hok.2.2.1 (by omega)) (by omega), hok.2.2.2⟩ hfr2 (totS_ok _ _ _) hP
  refine ⟨r, σ', h1, h2, ?_⟩
  refine ct_of (by decide) (Nat.le_of_ble_eq_true rfl) (fun C h hr _ => ?_)
  have h : Ok C RX8 cX8_addUp 6 _ := h
  refine x_aload_n h dX8_addUp_0 rfl ?_
  refine x_get h fl_8_24 lvz_7 dX8_addUp_1 (pvf_509 _ _) ?_
  refine x_cV0 h kVX7_clear lkX8_75 ⟨_, _, _, rfl, rfl⟩ dX8_addUp_4 (hcl) (lvm_9 (by omega)) rfl rfl (Nat.le_of_ble_eq_true rfl) (by omega) ?_
  refine x_iload_n h dX8_addUp_7 rfl ?_
  refine x_i2l h (by omega) dX8_addUp_8 ?_
  refine x_lstore h dX8_addUp_9 (by decide) ?_
  exact hx C h hr _ ⟨rfl, rfl, rfl, rfl, trivial⟩
def valF (res : ER) (no : Int) : Int := match res with
  | .inl _ => no
  | .inr (v, _) => v
theorem c_search {t n k : Nat} {S : Sd} {D σ : Mm} {x : Int} (hS : SOk S n) (hk : k < n) (hok : WOk t n S D 0 0 σ) (hx : i64 x) (hP : Psi D + 200 ≤ 2147483600) : ∃ (σ' : Mm), TRs t σ (findE S D k x) σ' ∧ Ct 79 mX8_search 1 [vR 7 0, vI k, vL x] NALL σ (some (vI (valF (findE S D k x) (-10)))) NALL σ' 0 0 := by
  have hn := hS.1
  have ht := hok.2.1.1
  obtain ⟨s1, s2, s3, s4, s5, s6, s7⟩ := hS.2 k hk
  have hez := entsZ_r (sSz S k)
  unfold i64 at hx
  obtain ⟨i1, i2⟩ := lv_i hS 12
  obtain ⟨w1, w2⟩ := lv_c (t := t) hS 12 0 rfl
  have loop : ∀ (c p : Nat) (τ D : Mm), (p : Int) + c = entsZ (sSz S k) → WOk t n S D 0 0 τ → FrT t τ σ → Psi D + c ≤ 2147483600 → ∃ (σ' : Mm), TRs t σ (findR S k x c p D) σ' ∧ ∀ C : Cx, Ok C RX8 cX8_search 6 79 → Rt C 1 (some .int) (some (vI (valF (findR S k x c p D) (-10)))) NALL σ' 0 0 → ∀ ls, lsub [(0, vR 7 0), (1, vI k), (2, vL x), (4, vR 5 (12 * t + k)), (5, vI p)] ls → X C 1 33 ls [] NALL τ 0 0 := by
    intro c
    induction c with
    | zero =>
      intro p τ D hp hok hfr hP
      have z2 : τ 5 (12 * t + k) 4 = sSz S k := (hok.2.1.2.2.2 k hk).1.2.1
      have hent := c_entriesInAll (d := 0) (σ := τ) (m := 12 * t + k) (by omega) (by rw [z2]; exact s1)
      rw [z2] at hent
      refine ⟨τ, ⟨hfr, hok.1, hok.2.2.1⟩, fun C h hr ls hls => x_loc hls ?_⟩
      have hr : Rt C 1 (some .int) (some (vI (-9))) NALL τ 0 0 := hr
      refine x_iload h dX8_search_33 rfl ?_
      refine x_aload h dX8_search_35 rfl ?_
      refine x_cV1 h kVX2_entriesInAll lkX8_90 ⟨_, _, _, rfl, rfl⟩ dX8_search_37 (hent) (lvm_5 (by omega)) rfl rfl (Nat.le_of_ble_eq_true rfl) (by omega) ?_
      refine x_ic_ge_T (tgt := 77) h (by omega) dX8_search_40 (by decide) (by omega) ?_
      refine x_bipush h dX8_search_77 (by decide) ?_
      exact x_ireturn h hr dX8_search_79 (Or.inl rfl) ⟨Nat.le_refl _, Nat.le_refl _⟩
    | succ c ih =>
      intro p τ D hp hok hfr hP
      have z2 : τ 5 (12 * t + k) 4 = sSz S k := (hok.2.1.2.2.2 k hk).1.2.1
      have hent := c_entriesInAll (d := 0) (σ := τ) (m := 12 * t + k) (by omega) (by rw [z2]; exact s1)
      rw [z2] at hent
      obtain ⟨b1, σ1, hres1, hct1⟩ := c_askTop hS τ D k p (-9) 0 hok (by omega) hk (by unfold i64; omega) (by omega) (Nat.zero_le _)
      have hE := askTop_i hS p hok.2.2.2 hk
      have hres1 : WRes t τ 0 0 true (askTop S D k p) b1 σ1 := hres1
      rw [findR]
      cases hv : askTop S D k p with
      | inl y =>
        obtain ⟨why, m, D'⟩ := y
        rw [hv] at hres1
        obtain ⟨r1, rfl, r3, r4⟩ := hres1
        refine ⟨σ1, ⟨FrT_tr (FrT_W r1) hfr, r3, r4⟩, fun C h hr ls hls => x_loc hls ?_⟩
        have hr : Rt C 1 (some .int) (some (vI (-10))) NALL σ1 0 0 := hr
        refine x_iload h dX8_search_33 rfl ?_
        refine x_aload h dX8_search_35 rfl ?_
        refine x_cV1 h kVX2_entriesInAll lkX8_90 ⟨_, _, _, rfl, rfl⟩ dX8_search_37 (hent) (lvm_5 (by omega)) rfl rfl (Nat.le_of_ble_eq_true rfl) (by omega) ?_
        refine x_ic_ge_F (tgt := 77) h (by omega) dX8_search_40 (by decide) (by omega) ?_
        refine x_aload_n h dX8_search_43 rfl ?_
        refine x_iload_n h dX8_search_44 rfl ?_
        refine x_iload h dX8_search_45 rfl ?_
        refine x_i2l h (by omega) dX8_search_47 ?_
        refine x_bipush h dX8_search_48 (by decide) ?_
        refine x_cV1 h kVX8_ask lkX8_71 ⟨_, _, _, rfl, rfl⟩ dX8_search_50 (hct1) lvz_7 rfl rfl (Nat.le_of_ble_eq_true rfl) (by omega) ?_
        refine x_if_ne_F (tgt := 59) h (by omega) dX8_search_53 (by decide) (by omega) ?_
        refine x_bipush h dX8_search_56 (by decide) ?_
        exact x_ireturn h hr dX8_search_58 (Or.inl rfl) ⟨Nat.le_refl _, Nat.le_refl _⟩
      | inr y =>
        obtain ⟨v, D'⟩ := y
        rw [hv] at hres1 hE
        obtain ⟨r1, rfl, r3, r4, r5, r6⟩ := hres1
        have r6 := r6 rfl
        obtain ⟨e1, e2, e3, e4⟩ := hE
        unfold i64 at e4
        have hok2 : WOk t n S D' 0 0 σ1 := ⟨r3, KC_fr hok.2.1 r1, r4, e1⟩
        show ∃ σ', TRs t σ (if v = x then .inr ((p : Int), D') else findR S k x c (p + 1) D') σ' ∧ ∀ C : Cx, Ok C RX8 cX8_search 6 79 → Rt C 1 (some .int) (some (vI (valF (if v = x then .inr ((p : Int), D') else findR S k x c (p + 1) D') (-10)))) NALL σ' 0 0 → _
        by_cases hvx : v = x
        · rw [if_pos hvx]
          refine ⟨σ1, ⟨FrT_tr (FrT_W r1) hfr, r3, r4⟩, fun C h hr ls hls => x_loc hls ?_⟩
          have hr : Rt C 1 (some .int) (some (vI (p : Int))) NALL σ1 0 0 := hr
          refine x_iload h dX8_search_33 rfl ?_
          refine x_aload h dX8_search_35 rfl ?_
          refine x_cV1 h kVX2_entriesInAll lkX8_90 ⟨_, _, _, rfl, rfl⟩ dX8_search_37 (hent) (lvm_5 (by omega)) rfl rfl (Nat.le_of_ble_eq_true rfl) (by omega) ?_
          refine x_ic_ge_F (tgt := 77) h (by omega) dX8_search_40 (by decide) (by omega) ?_
          refine x_aload_n h dX8_search_43 rfl ?_
          refine x_iload_n h dX8_search_44 rfl ?_
          refine x_iload h dX8_search_45 rfl ?_
          refine x_i2l h (by omega) dX8_search_47 ?_
          refine x_bipush h dX8_search_48 (by decide) ?_
          refine x_cV1 h kVX8_ask lkX8_71 ⟨_, _, _, rfl, rfl⟩ dX8_search_50 (hct1) lvz_7 rfl rfl (Nat.le_of_ble_eq_true rfl) (by omega) ?_
          refine x_if_ne_T (tgt := 59) h (by omega) dX8_search_53 (by decide) (by omega) ?_
          refine x_aload_n h dX8_search_59 rfl ?_
          refine x_get (q := vL (v)) h fl_8_28 lvz_7 dX8_search_60 (congrArg vL (by first | exact r6 | simp [up3, r6])) ?_
          refine x_lload_n h dX8_search_63 rfl ?_
          refine x_lc_ne (tgt := 71) h (by omega) dX8_search_64 dX8_search_65 (by decide) (fun q => absurd q (by omega)) (fun _ => ?_)
          refine x_iload h dX8_search_68 rfl ?_
          exact x_ireturn h hr dX8_search_70 (Or.inl rfl) ⟨Nat.le_refl _, Nat.le_refl _⟩
        · rw [if_neg hvx]
          obtain ⟨σ', h1, hx2⟩ := ih (p + 1) σ1 D' (by omega) hok2 (FrT_tr (FrT_W r1) hfr) (by omega)
          refine ⟨σ', h1, fun C h hr ls hls => x_loc hls ?_⟩
          refine x_iload h dX8_search_33 rfl ?_
          refine x_aload h dX8_search_35 rfl ?_
          refine x_cV1 h kVX2_entriesInAll lkX8_90 ⟨_, _, _, rfl, rfl⟩ dX8_search_37 (hent) (lvm_5 (by omega)) rfl rfl (Nat.le_of_ble_eq_true rfl) (by omega) ?_
          refine x_ic_ge_F (tgt := 77) h (by omega) dX8_search_40 (by decide) (by omega) ?_
          refine x_aload_n h dX8_search_43 rfl ?_
          refine x_iload_n h dX8_search_44 rfl ?_
          refine x_iload h dX8_search_45 rfl ?_
          refine x_i2l h (by omega) dX8_search_47 ?_
          refine x_bipush h dX8_search_48 (by decide) ?_
          refine x_cV1 h kVX8_ask lkX8_71 ⟨_, _, _, rfl, rfl⟩ dX8_search_50 (hct1) lvz_7 rfl rfl (Nat.le_of_ble_eq_true rfl) (by omega) ?_
          refine x_if_ne_T (tgt := 59) h (by omega) dX8_search_53 (by decide) (by omega) ?_
          refine x_aload_n h dX8_search_59 rfl ?_
          refine x_get (q := vL (v)) h fl_8_28 lvz_7 dX8_search_60 (congrArg vL (by first | exact r6 | simp [up3, r6])) ?_
          refine x_lload_n h dX8_search_63 rfl ?_
          refine x_lc_ne (tgt := 71) h (by omega) dX8_search_64 dX8_search_65 (by decide) (fun _ => ?_) (fun q => absurd (by omega) q)
          refine x_iinc h dX8_search_71 rfl (by decide) ?_
          refine x_goto (tgt := 33) h dX8_search_74 (by decide) ?_
          exact hx2 C h hr _ ⟨rfl, rfl, rfl, rfl, rfl, trivial⟩
  obtain ⟨b1, σ1, hres1, hct1⟩ := c_awaken (d := 76) (a := -9) (by omega) w1 hok (by omega) hk hn (by omega) (Nat.zero_le _)
  have hE := (awk_i i1 hok.2.2.2 hk hn (a := -9) (by omega)).1
  have htab := c_tableAt (d := 0) (σ := σ) (t := t) (k := k) (n := n) ht hok.2.1.2.1 hn hk
  have hk5 := hok.2.1.2.2.1
  rw [findE]
  cases hA : awkF (lvW S 12).1 D k (-9) with
  | inl y =>
    obtain ⟨why, m, D'⟩ := y
    rw [hA] at hres1
    obtain ⟨r1, rfl, r3, r4⟩ := hres1
    refine ⟨σ1, ⟨FrT_W r1, r3, r4⟩, ?_⟩
    show Ct 79 mX8_search 1 [vR 7 0, vI k, vL x] NALL σ (some (vI (-10))) NALL σ1 0 0
    refine ct_of (by decide) (Nat.le_of_ble_eq_true rfl) (fun C h hr _ => ?_)
    have h : Ok C RX8 cX8_search 6 _ := h
    refine x_aload_n h dX8_search_0 rfl ?_
    refine x_get h fl_8_35 lvz_7 dX8_search_1 (pvr hk5 ⟨by decide, by decide⟩) ?_
    refine x_iload_n h dX8_search_4 rfl ?_
    refine x_cV1 h kVX4_tableAt lkX8_80 ⟨_, _, _, rfl, rfl⟩ dX8_search_5 (htab) (lvm_4 (by omega)) rfl rfl (Nat.le_of_ble_eq_true rfl) (by omega) ?_
    refine x_astore h dX8_search_8 (by decide) ?_
    refine x_aload h dX8_search_10 rfl ?_
    refine x_ifnull h dX8_search_12 ?_
    refine x_aload_n h dX8_search_15 rfl ?_
    refine x_aload h dX8_search_16 rfl ?_
    refine x_iload_n h dX8_search_18 rfl ?_
    refine x_bipush h dX8_search_19 (by decide) ?_
    refine x_cV1 h kVX8_awaken lkX8_86 ⟨_, _, _, rfl, rfl⟩ dX8_search_21 (hct1) lvz_7 rfl rfl (Nat.le_of_ble_eq_true rfl) (by omega) ?_
    refine x_if_ne_F (tgt := 30) h (by omega) dX8_search_24 (by decide) (by omega) ?_
    refine x_bipush h dX8_search_27 (by decide) ?_
    exact x_ireturn h hr dX8_search_29 (Or.inl rfl) ⟨Nat.le_refl _, Nat.le_refl _⟩
  | inr y =>
    obtain ⟨v, D'⟩ := y
    rw [hA] at hres1 hE
    obtain ⟨r1, rfl, r3, r4, r5, -⟩ := hres1
    obtain ⟨e1, e2, e3, e4⟩ := hE
    obtain ⟨σ', h1, hx2⟩ := loop (entsZ (sSz S k)).toNat 0 σ1 D' (by omega) ⟨r3, KC_fr hok.2.1 r1, r4, e1⟩ (FrT_W r1) (by omega)
    refine ⟨σ', h1, ?_⟩
    show Ct 79 mX8_search 1 [vR 7 0, vI k, vL x] NALL σ (some (vI (valF (findR S k x (entsZ (sSz S k)).toNat 0 D') (-10)))) NALL σ' 0 0
    refine ct_of (by decide) (Nat.le_of_ble_eq_true rfl) (fun C h hr _ => ?_)
    have h : Ok C RX8 cX8_search 6 _ := h
    refine x_aload_n h dX8_search_0 rfl ?_
    refine x_get h fl_8_35 lvz_7 dX8_search_1 (pvr hk5 ⟨by decide, by decide⟩) ?_
    refine x_iload_n h dX8_search_4 rfl ?_
    refine x_cV1 h kVX4_tableAt lkX8_80 ⟨_, _, _, rfl, rfl⟩ dX8_search_5 (htab) (lvm_4 (by omega)) rfl rfl (Nat.le_of_ble_eq_true rfl) (by omega) ?_
    refine x_astore h dX8_search_8 (by decide) ?_
    refine x_aload h dX8_search_10 rfl ?_
    refine x_ifnull h dX8_search_12 ?_
    refine x_aload_n h dX8_search_15 rfl ?_
    refine x_aload h dX8_search_16 rfl ?_
    refine x_iload_n h dX8_search_18 rfl ?_
    refine x_bipush h dX8_search_19 (by decide) ?_
    refine x_cV1 h kVX8_awaken lkX8_86 ⟨_, _, _, rfl, rfl⟩ dX8_search_21 (hct1) lvz_7 rfl rfl (Nat.le_of_ble_eq_true rfl) (by omega) ?_
    refine x_if_ne_T (tgt := 30) h (by omega) dX8_search_24 (by decide) (by omega) ?_
    refine x_iconst h dX8_search_30 ?_
    refine x_istore h dX8_search_31 (by decide) ?_
    exact hx2 C h hr _ ⟨rfl, rfl, rfl, rfl, rfl, trivial⟩
/-- what reason answers -/
def rsnF (q : Nat) (why k : Int) : Int := if k < 0 ∨ q ≤ k then -9 else if k = (q : Int) - 1 then why else 7
def RS (q : Nat) (why : Int) (σ : Mm) : Prop := q ≤ 12 ∧ σ 7 0 10 = q ∧ (1 ≤ q → σ 20 0 0 = why) ∧ ∀ i, 1 ≤ i → i < q → σ 20 0 i = 7
theorem c_reasonAt {d q : Nat} {why k : Int} {σ : Mm} (h : RS q why σ) (hk : -2147483648 ≤ k ∧ k < 2147483648) : Ct (d + 1) mX8_reasonAt 1 [vR 7 0, vI k] NALL σ (some (vI (rsnF q why k))) NALL σ 0 0 := by
  obtain ⟨h1, h2, h3, h4⟩ := h
  by_cases h0 : k < 0
  · rw [rsnF, if_pos (Or.inl h0)]
    refine ct_of (by decide) (Nat.le_of_ble_eq_true rfl) (fun C h hr _ => ?_)
    have h : Ok C RX8 cX8_reasonAt 2 _ := h
    refine x_iload_n h dX8_reasonAt_0 rfl ?_
    refine x_if_lt_T (tgt := 12) h (by omega) dX8_reasonAt_1 (by decide) (by omega) ?_
    refine x_bipush h dX8_reasonAt_12 (by decide) ?_
    refine x_goto (tgt := 32) h dX8_reasonAt_14 (by decide) ?_
    exact x_ireturn h hr dX8_reasonAt_32 (Or.inl rfl) ⟨Nat.le_refl _, Nat.le_refl _⟩
  · by_cases hq : (q : Int) ≤ k
    · rw [rsnF, if_pos (Or.inr hq)]
      refine ct_of (by decide) (Nat.le_of_ble_eq_true rfl) (fun C h hr _ => ?_)
      have h : Ok C RX8 cX8_reasonAt 2 _ := h
      refine x_iload_n h dX8_reasonAt_0 rfl ?_
      refine x_if_lt_F (tgt := 12) h (by omega) dX8_reasonAt_1 (by decide) (by omega) ?_
      refine x_iload_n h dX8_reasonAt_4 rfl ?_
      refine x_aload_n h dX8_reasonAt_5 rfl ?_
      refine x_get (q := vI (q)) h fl_8_54 lvz_7 dX8_reasonAt_6 (congrArg vI (by first | exact h2 | simp [up3, h2])) ?_
      refine x_ic_lt_F (tgt := 17) h (by omega) dX8_reasonAt_9 (by decide) (by omega) ?_
      refine x_bipush h dX8_reasonAt_12 (by decide) ?_
      refine x_goto (tgt := 32) h dX8_reasonAt_14 (by decide) ?_
      exact x_ireturn h hr dX8_reasonAt_32 (Or.inl rfl) ⟨Nat.le_refl _, Nat.le_refl _⟩
    · rw [rsnF, if_neg (by omega)]
      obtain ⟨j, hj⟩ := Int.eq_ofNat_of_zero_le (show 0 ≤ (q : Int) - 1 - k by omega)
      have hat := c_at (d := d) (σ := σ) (f := 20) (m := 0) (k := j) kdf_20 lvz_20 (by omega)
      have hv : σ 20 0 j = if k = (q : Int) - 1 then why else 7 := by
        by_cases hj0 : j = 0
        · subst hj0; rw [if_pos (by omega)]; exact h3 (by omega)
        · rw [if_neg (by omega)]; exact h4 j (by omega) (by omega)
      rw [hv] at hat
      refine ct_of (by decide) (Nat.le_of_ble_eq_true rfl) (fun C h hr _ => ?_)
      have h : Ok C RX8 cX8_reasonAt 2 _ := h
      refine x_iload_n h dX8_reasonAt_0 rfl ?_
      refine x_if_lt_F (tgt := 12) h (by omega) dX8_reasonAt_1 (by decide) (by omega) ?_
      refine x_iload_n h dX8_reasonAt_4 rfl ?_
      refine x_aload_n h dX8_reasonAt_5 rfl ?_
      refine x_get (q := vI (q)) h fl_8_54 lvz_7 dX8_reasonAt_6 (congrArg vI (by first | exact h2 | simp [up3, h2])) ?_
      refine x_ic_lt_T (tgt := 17) h (by omega) dX8_reasonAt_9 (by decide) (by omega) ?_
      refine x_aload_n h dX8_reasonAt_17 rfl ?_
      refine x_get h fl_8_50 lvz_7 dX8_reasonAt_18 (pvf_520 _ _) ?_
      refine x_aload_n h dX8_reasonAt_21 rfl ?_
      refine x_get (q := vI (q)) h fl_8_54 lvz_7 dX8_reasonAt_22 (congrArg vI (by first | exact h2 | simp [up3, h2])) ?_
      refine x_iconst h dX8_reasonAt_25 ?_
      refine x_isub h dX8_reasonAt_26 ?_
      refine x_iload_n h dX8_reasonAt_27 rfl ?_
      refine x_isub h dX8_reasonAt_28 ?_
      rw [hj]
      refine x_cN1 h kSX9_at lkNX8_67 dX8_reasonAt_29 (hat) rfl rfl (Nat.le_of_ble_eq_true rfl) (by omega) ?_
      exact x_ireturn h hr dX8_reasonAt_32 (Or.inl rfl) ⟨Nat.le_refl _, Nat.le_refl _⟩
theorem c_askFor {t n k : Nat} {S : Sd} {D σ : Mm} {x : Int} (hS : SOk S n) (hk : k < n) (hok : WOk t n S D 0 0 σ) (hx : i64 x) (hP : Psi D ≤ 2147483600) : ∃ (b : Int) (σ' : Mm), WRes t σ 0 0 true (askTop S D k x) b σ' ∧ Ct 79 mX8_askFor 1 [vR 7 0, vI k, vL x] NALL σ (some (vI b)) NALL σ' 0 0 := by
  obtain ⟨b1, σ1, hres1, hct1⟩ := c_askTop hS σ D k x (-9) 0 hok (by omega) hk hx (by omega) (Nat.zero_le _)
  have hn := hS.1
  have hb : b1 = 0 ∨ b1 = 1 := by
    cases hv : askE S 12 D k x (-9) with
    | inl y => rw [hv] at hres1; exact Or.inl hres1.2.1
    | inr y => rw [hv] at hres1; exact Or.inr hres1.2.1
  refine ⟨b1, σ1, hres1, ?_⟩
  refine ct_of (by decide) (Nat.le_of_ble_eq_true rfl) (fun C h hr _ => ?_)
  have h : Ok C RX8 cX8_askFor 4 _ := h
  refine x_aload_n h dX8_askFor_0 rfl ?_
  refine x_iload_n h dX8_askFor_1 rfl ?_
  refine x_lload_n h dX8_askFor_2 rfl ?_
  refine x_bipush h dX8_askFor_3 (by decide) ?_
  refine x_cV1 h kVX8_ask lkX8_71 ⟨_, _, _, rfl, rfl⟩ dX8_askFor_5 (hct1) lvz_7 rfl rfl (Nat.le_of_ble_eq_true rfl) (by omega) ?_
  exact x_ireturn h hr dX8_askFor_8 (Or.inr ⟨rfl, by omega⟩) ⟨Nat.le_refl _, Nat.le_refl _⟩
theorem c_askForN {t n : Nat} {S : Sd} {D σ : Mm} {k x : Int} (hn : n ≤ 12) (hk : -2147483648 ≤ k ∧ k < 2147483648) (hkn : k < 0 ∨ n ≤ k) (hok : WOk t n S D 0 0 σ) (hx : i64 x) : Ct 4 mX8_askFor 1 [vR 7 0, vI k, vL x] NALL σ (some (vI 0)) NALL σ 0 0 := by
  have htab := c_tableAtN (d := 0) (σ := σ) (t := t) (n := n) (x := k) hok.2.1.1 hok.2.1.2.1 hn hk hkn
  have hk5 := hok.2.1.2.2.1
  have ht := hok.2.1.1
  have ha : Ct 3 mX8_ask 1 [vR 7 0, vI k, vL x, vI (-9)] NALL σ (some (vI 0)) NALL σ 0 0 := by
    refine ct_of (by decide) (Nat.le_of_ble_eq_true rfl) (fun C h hr _ => ?_)
    have h : Ok C RX8 cX8_ask 9 _ := h
    refine x_aload_n h dX8_ask_0 rfl ?_
    refine x_get h fl_8_35 lvz_7 dX8_ask_1 (pvr hk5 ⟨by decide, by decide⟩) ?_
    refine x_iload_n h dX8_ask_4 rfl ?_
    refine x_cV1 h kVX4_tableAt lkX8_80 ⟨_, _, _, rfl, rfl⟩ dX8_ask_5 (htab) (lvm_4 (by omega)) rfl rfl (Nat.le_of_ble_eq_true rfl) (by omega) ?_
    refine x_astoreN h dX8_ask_8 (by decide) ?_
    refine x_aloadN h dX8_ask_10 rfl ?_
    refine x_ifnullN (tgt := 27) h dX8_ask_12 (by decide) ?_
    refine x_iconst h dX8_ask_27 ?_
    exact x_ireturn h hr dX8_ask_28 (Or.inr ⟨rfl, by omega⟩) ⟨Nat.le_refl _, Nat.le_refl _⟩
  refine ct_of (by decide) (Nat.le_of_ble_eq_true rfl) (fun C h hr _ => ?_)
  have h : Ok C RX8 cX8_askFor 4 _ := h
  refine x_aload_n h dX8_askFor_0 rfl ?_
  refine x_iload_n h dX8_askFor_1 rfl ?_
  refine x_lload_n h dX8_askFor_2 rfl ?_
  refine x_bipush h dX8_askFor_3 (by decide) ?_
  refine x_cV1 h kVX8_ask lkX8_71 ⟨_, _, _, rfl, rfl⟩ dX8_askFor_5 (ha) lvz_7 rfl rfl (Nat.le_of_ble_eq_true rfl) (by omega) ?_
  exact x_ireturn h hr dX8_askFor_8 (Or.inr ⟨rfl, by omega⟩) ⟨Nat.le_refl _, Nat.le_refl _⟩
def opS (σ : Mm) (t : Nat) : Mm := stS (up3 (up3 (up3 σ 7 0 5 t) 8 0 1 0) 8 1 1 0)
theorem c_open {d : Nat} {σ : Mm} {t : Nat} (ht : t < 2) : Ct (d + 1) mX8_open 1 [vR 7 0, vR 4 t] NALL σ none NALL (opS σ t) 0 0 := by
  refine ct_of (by decide) (Nat.le_of_ble_eq_true rfl) (fun C h hr _ => ?_)
  have h : Ok C RX8 cX8_open 2 _ := h
  refine x_aload_n h dX8_open_0 rfl ?_
  refine x_aload_n h dX8_open_1 rfl ?_
  refine x_put (x := (t : Int)) h fl_8_35 lvz_7 dX8_open_2 (pvr rfl ⟨by decide, by decide⟩) (fun z => absurd z (by decide)) ?_
  refine x_aload_n h dX8_open_5 rfl ?_
  refine x_get h fl_8_12 lvz_7 dX8_open_6 (pvf_508 _ _) ?_
  refine x_cV0 h kVX1_clear lkX8_61 ⟨_, _, _, rfl, rfl⟩ dX8_open_9 (c_lclear (d := d) (m := 0) (by decide)) (lvm_8 (by omega)) rfl rfl (Nat.le_of_ble_eq_true rfl) (by omega) ?_
  refine x_aload_n h dX8_open_12 rfl ?_
  refine x_get h fl_8_18 lvz_7 dX8_open_13 (pvf_608 _ _) ?_
  refine x_cV0 h kVX1_clear lkX8_61 ⟨_, _, _, rfl, rfl⟩ dX8_open_16 (c_lclear (d := d) (m := 1) (by decide)) (lvm_8 (by omega)) rfl rfl (Nat.le_of_ble_eq_true rfl) (by omega) ?_
  refine x_aload_n h dX8_open_19 rfl ?_
  refine x_cV0 h kVX8_startCall lkX8_64 ⟨_, _, _, rfl, rfl⟩ dX8_open_20 (c_startCall (d := d)) lvz_7 rfl rfl (Nat.le_of_ble_eq_true rfl) (by omega) ?_
  exact x_return h hr dX8_open_23 ⟨Nat.le_refl _, Nat.le_refl _⟩
