/-! workOut, makeEntries : over a contract of ask -/
def Stk (σ : Mm) (w : Nat) : List Int → Prop
  | [] => True
  | v :: st => σ 19 0 (w + st.length) = v ∧ Stk σ w st
theorem Stk_low {σ σ' : Mm} {w : Nat} : ∀ (st : List Int), LowW (w + st.length) σ' σ → Stk σ w st → Stk σ' w st := by
  intro st
  induction st with
  | nil => intro _ _; trivial
  | cons v st ih =>
    intro h hs
    exact ⟨by rw [h _ (by simp only [List.length_cons]; omega)]; exact hs.1, ih (fun j hj => h j (by simp only [List.length_cons]; omega)) hs.2⟩
/-- in the middle of a SUM, st waits above w -/
def MB (t : Nat) (σ : Mm) (u w : Nat) (D : Mm) (st : List Int) (τ : Mm) : Prop := FrW t τ σ ∧ HC t D τ ∧ WS u (w + st.length) τ ∧ LowW w τ σ ∧ Stk τ w st
theorem MB_push {t u w : Nat} {σ D τ : Mm} {st : List Int} {x : Int} (h : MB t σ u w D st τ) : MB t σ u w D (x :: st) (pushS τ (w + st.length) x) := by
  obtain ⟨h1, h2, ⟨w8, w7, w10, w11⟩, h4, h5⟩ := h
  unfold pushS
  refine ⟨FrW_up (FrW_up h1 _ (by omega)) _ (by omega), HC_no (HC_no h2 (by omega)) (by omega), ⟨?_, ?_, ?_, ?_⟩, fun j hj => ?_, ?_, ?_⟩
  · rw [up3_j _ _ (by decide), up3_f _ _ (by decide)]; exact w8
  · rw [up3_s]; simp only [List.length_cons]; omega
  · rw [up3_j _ _ (by decide), up3_f _ _ (by decide)]; exact w10
  · rw [up3_j _ _ (by decide), up3_f _ _ (by decide)]; exact w11
  · rw [up3_f _ _ (by decide), up3_j _ _ (by omega)]; exact h4 j hj
  · rw [up3_f _ _ (by decide), up3_s]
  · exact Stk_low st (fun j hj => by rw [up3_f _ _ (by decide), up3_j _ _ (by omega)]) h5
theorem MB_pop {t u w : Nat} {σ D τ : Mm} {st : List Int} {v : Int} (h : MB t σ u w D (v :: st) τ) : MB t σ u w D st (up3 τ 7 0 7 ((w + st.length : Nat) : Int)) ∧ τ 7 0 7 = ((w + st.length + 1 : Nat) : Int) ∧ τ 19 0 (w + st.length) = v := by
  obtain ⟨h1, h2, ⟨w8, w7, w10, w11⟩, h4, h5, h6⟩ := h
  refine ⟨⟨FrW_up h1 _ (by omega), HC_no h2 (by omega), ⟨?_, ?_, ?_, ?_⟩, fun j hj => ?_, ?_⟩, ?_, h5⟩
  · rw [up3_j _ _ (by decide)]; exact w8
  · rw [up3_s]
  · rw [up3_j _ _ (by decide)]; exact w10
  · rw [up3_j _ _ (by decide)]; exact w11
  · rw [up3_f _ _ (by decide)]; exact h4 j hj
  · exact Stk_low st (fun j hj => by rw [up3_f _ _ (by decide)]) h6
  · rw [w7]; simp only [List.length_cons]; omega
def RRes (t : Nat) (σ : Mm) (u w : Nat) (res : ER) (b : Int) (σ' : Mm) : Prop := FrW t σ' σ ∧ match res with
  | .inl (why, m, D') => b = 0 ∧ HC t D' σ' ∧ WF u why m σ'
  | .inr (v, D') => b = 1 ∧ MB t σ u w D' [v] σ'
theorem drop_cons {α : Type} {l : List α} {k : Nat} {z : α} {r : List α} (h : l.drop k = z :: r) : k < l.length ∧ l[k]? = some z ∧ r = l.drop (k + 1) := by
  have h1 : k < l.length := by
    rcases Nat.lt_or_ge k l.length with q | q
    · exact q
    · rw [List.drop_eq_nil_of_le q] at h; cases h
  have h2 := List.drop_eq_getElem_cons h1
  rw [h2] at h
  injection h with h3 h4
  exact ⟨h1, by rw [List.getElem?_eq_getElem h1, h3], h4.symm⟩
theorem wo_loop {t n u w A t0 p δ : Nat} {S : Sd} {ask : Mm → Nat → Int → Int → ER} {σ : Mm} (hS : SOk S n) (hask : CAk t n S u ask A) (iask : AkOk S n δ ask) (hA : 4 ≤ A) (ht0 : t0 < n) (hp : p < 200) (hu : u ≤ 12) (hw : w + 24 ≤ 24 * u) (hK : KC t n S σ) : ∀ (c k : Nat) (ss : List Zs) (st : List Int) (τ D : Mm), wf c ss st.length → ss = (sCd S t0).drop k → k + ss.length = (sCd S t0).length → (∀ v ∈ st, i64 v) → MB t σ u w D st τ → DW S D → Psi D + c ≤ 2147483600 → st.length ≤ 24 →
    ∃ (b : Int) (σ' : Mm), RRes t σ u w (runF S t0 p ask c ss st D) b σ' ∧ ∀ C : Cx, Ok C RX8 cX8_workOut 6 (A + 1) → Rt C 1 (some .boolean) (some (vI b)) NALL σ' 0 0 → ∀ ls, lsub [(0, vR 7 0), (1, vR 6 (12 * t + t0)), (2, vI t0), (3, vI p), (4, vI k)] ls → X C 1 3 ls [] NALL τ 0 0 := by
  have hn := hS.1
  have ht := hK.1
  obtain ⟨s1, s2, s3, s4, s5, s6, s7⟩ := hS.2 t0 ht0
  intro c
  induction c with
  | zero => intro k ss st τ D hwf; exact hwf.elim
  | succ c ih =>
    intro k ss st τ D hwf hss hkl hst hM hD hP hl24
    have hKt := KC_fr hK hM.1
    obtain ⟨kk1, kk2, kk3, kk4⟩ := hKt
    obtain ⟨f1, f2⟩ := (kk4 t0 ht0).2
    cases ss with
    | nil =>
      have hwf : st.length = 1 := hwf
      match st, hwf, hM with
      | [v], _, hM =>
        refine ⟨1, τ, ⟨hM.1, rfl, hM⟩, fun C h hr ls hls => x_loc hls ?_⟩
        have hk : k = (sCd S t0).length := by simpa using hkl
        subst hk
        refine x_iload h dX8_workOut_3 rfl ?_
        refine x_aload_n h dX8_workOut_5 rfl ?_
        refine x_get (q := vI (((sCd S t0).length : Int))) h fl_8_193 (lvm_6 (by omega)) dX8_workOut_6 (congrArg vI (by first | exact f1 | simp [up3, f1])) ?_
        refine x_ic_ge_T (tgt := 209) h (by omega) dX8_workOut_9 (by decide) (by omega) ?_
        refine x_iconst h dX8_workOut_209 ?_
        exact x_ireturn h hr dX8_workOut_210 (Or.inr ⟨rfl, by omega⟩) ⟨Nat.le_refl _, Nat.le_refl _⟩
    | cons z ss =>
      obtain ⟨hk1, hk2, hk3⟩ := drop_cons hss.symm
      have hgd : (sCd S t0).getD k (0, 0, 0) = z := by rw [List.getD_eq_getElem?_getD, hk2]; rfl
      obtain ⟨g13, g14, -⟩ := f2 k hk1
      rw [hgd] at g13 g14
      have hkn : k + 1 + ss.length = (sCd S t0).length := by simp only [List.length_cons] at hkl; omega
      have hzm : z ∈ sCd S t0 := List.mem_of_getElem? hk2
      have hk48 : k < 48 := by omega
      have hstp := c_stepAt (d := 0) (σ := τ) (m := 12 * t + t0) (k := k) (by omega) hk48
      rw [g13] at hstp
      have hwth := c_withAt (d := 0) (σ := τ) (m := 12 * t + t0) (k := k) (by omega) hk48
      rw [g14] at hwth
      have hcw : ∀ {x : Int} {st' : List Int}, i64 x → (∀ y ∈ st', i64 y) → ∀ y ∈ x :: st', i64 y := fun g1 g2 y hy => by
        rcases List.mem_cons.mp hy with e | e
        · rw [e]; exact g1
        · exact g2 y e
      unfold wf at hwf
      unfold runF
      rcases hwf with ⟨w1, w2, w3, w4⟩ | ⟨w1, w2, w3⟩ | ⟨w1, w2, w3⟩ | ⟨w1, w2, w3⟩ | ⟨w1, w2, w3⟩ | ⟨w1, w2, w3, w4⟩ | ⟨w1, w2, w3, w4, w5, w6⟩ | ⟨w1, w2, w3⟩
      · rw [if_pos w1]
        rw [w1] at hstp
        obtain ⟨b, σ', hres, hx⟩ := ih (k + 1) ss (z.2.1 :: st) (pushS τ (w + st.length) z.2.1) D w4 hk3 hkn (hcw w2 hst) (MB_push hM) hD (by omega) (by simp only [List.length_cons]; omega)
        refine ⟨b, σ', hres, fun C h hr ls hls => x_loc hls ?_⟩
        have hpu := c_push (d := 0) (σ := τ) (x := z.2.1) hM.2.2.1.2.1 (by omega)
        refine x_iload h dX8_workOut_3 rfl ?_
        refine x_aload_n h dX8_workOut_5 rfl ?_
        refine x_get (q := vI (((sCd S t0).length : Int))) h fl_8_193 (lvm_6 (by omega)) dX8_workOut_6 (congrArg vI (by first | exact f1 | simp [up3, f1])) ?_
        refine x_ic_ge_F (tgt := 209) h (by omega) dX8_workOut_9 (by decide) (by omega) ?_
        refine x_aload_n h dX8_workOut_12 rfl ?_
        refine x_iload h dX8_workOut_13 rfl ?_
        refine x_cV1 h kVX0_stepAt lkX8_198 ⟨_, _, _, rfl, rfl⟩ dX8_workOut_15 (hstp) (lvm_6 (by omega)) rfl rfl (Nat.le_of_ble_eq_true rfl) (by omega) ?_
        refine x_istore h dX8_workOut_18 (by decide) ?_
        refine x_iload h dX8_workOut_20 rfl ?_
        refine x_tsIn (tgt := 64) (off := 42) h dX8_workOut_22 (by omega) (by omega) (by rfl) (by decide) ?_
        refine x_aload_n h dX8_workOut_64 rfl ?_
        refine x_aload_n h dX8_workOut_65 rfl ?_
        refine x_iload h dX8_workOut_66 rfl ?_
        refine x_cV1 h kVX0_withAt lkX8_201 ⟨_, _, _, rfl, rfl⟩ dX8_workOut_68 (hwth) (lvm_6 (by omega)) rfl rfl (Nat.le_of_ble_eq_true rfl) (by omega) ?_
        refine x_cV0 h kVX8_push lkX8_205 ⟨_, _, _, rfl, rfl⟩ dX8_workOut_71 (hpu) lvz_7 rfl rfl (Nat.le_of_ble_eq_true rfl) (by omega) ?_
        refine x_goto (tgt := 203) h dX8_workOut_74 (by decide) ?_
        refine x_iinc h dX8_workOut_203 rfl (by decide) ?_
        refine x_goto (tgt := 3) h dX8_workOut_206 (by decide) ?_
        exact hx C h hr _ ⟨rfl, rfl, rfl, rfl, rfl, trivial⟩
      · rw [if_neg (by omega), if_pos w1]
        rw [w1] at hstp
        obtain ⟨b, σ', hres, hx⟩ := ih (k + 1) ss ((p : Int) :: st) (pushS τ (w + st.length) p) D w3 hk3 hkn (hcw (by unfold i64; omega) hst) (MB_push hM) hD (by omega) (by simp only [List.length_cons]; omega)
        refine ⟨b, σ', hres, fun C h hr ls hls => x_loc hls ?_⟩
        have hpu := c_push (d := 0) (σ := τ) (x := (p : Int)) hM.2.2.1.2.1 (by omega)
        refine x_iload h dX8_workOut_3 rfl ?_
        refine x_aload_n h dX8_workOut_5 rfl ?_
        refine x_get (q := vI (((sCd S t0).length : Int))) h fl_8_193 (lvm_6 (by omega)) dX8_workOut_6 (congrArg vI (by first | exact f1 | simp [up3, f1])) ?_
        refine x_ic_ge_F (tgt := 209) h (by omega) dX8_workOut_9 (by decide) (by omega) ?_
        refine x_aload_n h dX8_workOut_12 rfl ?_
        refine x_iload h dX8_workOut_13 rfl ?_
        refine x_cV1 h kVX0_stepAt lkX8_198 ⟨_, _, _, rfl, rfl⟩ dX8_workOut_15 (hstp) (lvm_6 (by omega)) rfl rfl (Nat.le_of_ble_eq_true rfl) (by omega) ?_
        refine x_istore h dX8_workOut_18 (by decide) ?_
        refine x_iload h dX8_workOut_20 rfl ?_
        refine x_tsIn (tgt := 77) (off := 55) h dX8_workOut_22 (by omega) (by omega) (by rfl) (by decide) ?_
        refine x_aload_n h dX8_workOut_77 rfl ?_
        refine x_iload_n h dX8_workOut_78 rfl ?_
        refine x_i2l h (by omega) dX8_workOut_79 ?_
        refine x_cV0 h kVX8_push lkX8_205 ⟨_, _, _, rfl, rfl⟩ dX8_workOut_80 (hpu) lvz_7 rfl rfl (Nat.le_of_ble_eq_true rfl) (by omega) ?_
        refine x_goto (tgt := 203) h dX8_workOut_83 (by decide) ?_
        refine x_iinc h dX8_workOut_203 rfl (by decide) ?_
        refine x_goto (tgt := 3) h dX8_workOut_206 (by decide) ?_
        exact hx C h hr _ ⟨rfl, rfl, rfl, rfl, rfl, trivial⟩
      · have hzn := s7 z hzm (Or.inl w1)
        obtain ⟨q, hq⟩ := Int.eq_ofNat_of_zero_le hzn.1
        have hqt : z.2.1.toNat = q := by omega
        rw [if_neg (by omega), if_neg (by omega), if_pos w1, hqt]
        rw [w1] at hstp
        rw [hq] at hwth
        have hsz := c_sizeOf (d := 0) (σ := τ) (t := t) (k := q) (n := n) ht kk2 hn (by omega)
        rw [show τ 5 (12 * t + q) 4 = sSz S q from (kk4 q (by omega)).1.2.1] at hsz
        obtain ⟨b, σ', hres, hx⟩ := ih (k + 1) ss (sSz S q :: st) (pushS τ (w + st.length) (sSz S q)) D w3 hk3 hkn (hcw (hS.2 q (by omega)).1 hst) (MB_push hM) hD (by omega) (by simp only [List.length_cons]; omega)
        refine ⟨b, σ', hres, fun C h hr ls hls => x_loc hls ?_⟩
        have hpu := c_push (d := 0) (σ := τ) (x := sSz S q) hM.2.2.1.2.1 (by omega)
        refine x_iload h dX8_workOut_3 rfl ?_
        refine x_aload_n h dX8_workOut_5 rfl ?_
        refine x_get (q := vI (((sCd S t0).length : Int))) h fl_8_193 (lvm_6 (by omega)) dX8_workOut_6 (congrArg vI (by first | exact f1 | simp [up3, f1])) ?_
        refine x_ic_ge_F (tgt := 209) h (by omega) dX8_workOut_9 (by decide) (by omega) ?_
        refine x_aload_n h dX8_workOut_12 rfl ?_
        refine x_iload h dX8_workOut_13 rfl ?_
        refine x_cV1 h kVX0_stepAt lkX8_198 ⟨_, _, _, rfl, rfl⟩ dX8_workOut_15 (hstp) (lvm_6 (by omega)) rfl rfl (Nat.le_of_ble_eq_true rfl) (by omega) ?_
        refine x_istore h dX8_workOut_18 (by decide) ?_
        refine x_iload h dX8_workOut_20 rfl ?_
        refine x_tsIn (tgt := 86) (off := 64) h dX8_workOut_22 (by omega) (by omega) (by rfl) (by decide) ?_
        refine x_aload_n h dX8_workOut_86 rfl ?_
        refine x_aload_n h dX8_workOut_87 rfl ?_
        refine x_get h fl_8_35 lvz_7 dX8_workOut_88 (pvr kk3 ⟨by decide, by decide⟩) ?_
        refine x_aload_n h dX8_workOut_91 rfl ?_
        refine x_iload h dX8_workOut_92 rfl ?_
        refine x_cV1 h kVX0_withAt lkX8_201 ⟨_, _, _, rfl, rfl⟩ dX8_workOut_94 (hwth) (lvm_6 (by omega)) rfl rfl (Nat.le_of_ble_eq_true rfl) (by omega) ?_
        refine x_l2i h dX8_workOut_97 ?_
        refine x_cV1 h kVX4_sizeOf lkX8_208 ⟨_, _, _, rfl, rfl⟩ dX8_workOut_98 (hsz) (lvm_4 (by omega)) rfl rfl (Nat.le_of_ble_eq_true rfl) (by omega) ?_
        refine x_cV0 h kVX8_push lkX8_205 ⟨_, _, _, rfl, rfl⟩ dX8_workOut_101 (hpu) lvz_7 rfl rfl (Nat.le_of_ble_eq_true rfl) (by omega) ?_
        refine x_goto (tgt := 203) h dX8_workOut_104 (by decide) ?_
        refine x_iinc h dX8_workOut_203 rfl (by decide) ?_
        refine x_goto (tgt := 3) h dX8_workOut_206 (by decide) ?_
        exact hx C h hr _ ⟨rfl, rfl, rfl, rfl, rfl, trivial⟩
      · have hzn := s7 z hzm (Or.inr w1)
        obtain ⟨q, hq⟩ := Int.eq_ofNat_of_zero_le hzn.1
        have hqt : z.2.1.toNat = q := by omega
        match st, w2, w3, hst, hM, hl24 with
        | v :: st', _, w3, hst, hM, hl24 =>
          rw [if_neg (by omega), if_neg (by omega), if_neg (by omega), if_pos w1, hqt]
          simp only [List.length_cons] at hl24
          rw [w1] at hstp
          rw [hq] at hwth
          have hvi : i64 v := hst v List.mem_cons_self
          have hst' : ∀ y ∈ st', i64 y := fun y hy => hst y (List.mem_cons_of_mem _ hy)
          obtain ⟨m1, m2, m3⟩ := MB_pop hM
          have hpo := c_pop (d := 0) (σ := τ) (w := w + st'.length) m2 (by omega)
          rw [m3] at hpo
          obtain ⟨b1, σ1, hres1, hct1⟩ := hask (up3 τ 7 0 7 ((w + st'.length : Nat) : Int)) D q v t0 (w + st'.length) ⟨m1.2.1, KC_fr hK m1.1, m1.2.2.1, hD⟩ (by omega) (by omega) hvi (by omega) (by omega)
          have hE := iask D q v t0 hD (by omega) (by omega)
          show ∃ b σ', RRes t σ u w (bindE (ask D q v t0) (fun x D' => runF S t0 p ask c ss (x :: st') D')) b σ' ∧ _
          cases hv : ask D q v t0 with
          | inl y =>
            obtain ⟨why, m, D'⟩ := y
            rw [hv] at hres1
            obtain ⟨r1, rfl, r3, r4⟩ := hres1
            refine ⟨0, σ1, ⟨FrW_tr r1 m1.1, rfl, r3, r4⟩, fun C h hr ls hls => x_loc hls ?_⟩
            refine x_iload h dX8_workOut_3 rfl ?_
            refine x_aload_n h dX8_workOut_5 rfl ?_
            refine x_get (q := vI (((sCd S t0).length : Int))) h fl_8_193 (lvm_6 (by omega)) dX8_workOut_6 (congrArg vI (by first | exact f1 | simp [up3, f1])) ?_
            refine x_ic_ge_F (tgt := 209) h (by omega) dX8_workOut_9 (by decide) (by omega) ?_
            refine x_aload_n h dX8_workOut_12 rfl ?_
            refine x_iload h dX8_workOut_13 rfl ?_
            refine x_cV1 h kVX0_stepAt lkX8_198 ⟨_, _, _, rfl, rfl⟩ dX8_workOut_15 (hstp) (lvm_6 (by omega)) rfl rfl (Nat.le_of_ble_eq_true rfl) (by omega) ?_
            refine x_istore h dX8_workOut_18 (by decide) ?_
            refine x_iload h dX8_workOut_20 rfl ?_
            refine x_tsIn (tgt := 107) (off := 85) h dX8_workOut_22 (by omega) (by omega) (by rfl) (by decide) ?_
            refine x_aload_n h dX8_workOut_107 rfl ?_
            refine x_aload_n h dX8_workOut_108 rfl ?_
            refine x_iload h dX8_workOut_109 rfl ?_
            refine x_cV1 h kVX0_withAt lkX8_201 ⟨_, _, _, rfl, rfl⟩ dX8_workOut_111 (hwth) (lvm_6 (by omega)) rfl rfl (Nat.le_of_ble_eq_true rfl) (by omega) ?_
            refine x_l2i h dX8_workOut_114 ?_
            refine x_aload_n h dX8_workOut_115 rfl ?_
            refine x_cV1 h kVX8_pop lkX8_186 ⟨_, _, _, rfl, rfl⟩ dX8_workOut_116 (hpo) lvz_7 rfl rfl (Nat.le_of_ble_eq_true rfl) (by omega) ?_
            refine x_iload_n h dX8_workOut_119 rfl ?_
            refine x_cV1 h kVX8_ask lkX8_71 ⟨_, _, _, rfl, rfl⟩ dX8_workOut_120 (hct1) lvz_7 rfl rfl (Nat.le_of_ble_eq_true rfl) (by omega) ?_
            refine x_if_ne_F (tgt := 128) h (by omega) dX8_workOut_123 (by decide) (by omega) ?_
            refine x_iconst h dX8_workOut_126 ?_
            exact x_ireturn h hr dX8_workOut_127 (Or.inr ⟨rfl, by omega⟩) ⟨Nat.le_refl _, Nat.le_refl _⟩
          | inr y =>
            obtain ⟨x, D'⟩ := y
            rw [hv] at hres1 hE
            obtain ⟨r1, rfl, r3, r4, r5, r6⟩ := hres1
            have r6 := r6 rfl
            obtain ⟨e1, e2, e3, e4⟩ := hE
            have hM1 : MB t σ u w D' st' σ1 := ⟨FrW_tr r1 m1.1, r3, r4, fun j hj => (r5 j (by omega)).trans (m1.2.2.2.1 j hj), Stk_low st' r5 m1.2.2.2.2⟩
            obtain ⟨b, σ', hres, hx⟩ := ih (k + 1) ss (x :: st') (pushS σ1 (w + st'.length) x) D' w3 hk3 hkn (hcw e4 hst') (MB_push hM1) e1 (by omega) (by simp only [List.length_cons]; omega)
            refine ⟨b, σ', hres, fun C h hr ls hls => x_loc hls ?_⟩
            have hpu := c_push (d := 0) (σ := σ1) (x := x) r4.2.1 (by omega)
            refine x_iload h dX8_workOut_3 rfl ?_
            refine x_aload_n h dX8_workOut_5 rfl ?_
            refine x_get (q := vI (((sCd S t0).length : Int))) h fl_8_193 (lvm_6 (by omega)) dX8_workOut_6 (congrArg vI (by first | exact f1 | simp [up3, f1])) ?_
            refine x_ic_ge_F (tgt := 209) h (by omega) dX8_workOut_9 (by decide) (by omega) ?_
            refine x_aload_n h dX8_workOut_12 rfl ?_
            refine x_iload h dX8_workOut_13 rfl ?_
            refine x_cV1 h kVX0_stepAt lkX8_198 ⟨_, _, _, rfl, rfl⟩ dX8_workOut_15 (hstp) (lvm_6 (by omega)) rfl rfl (Nat.le_of_ble_eq_true rfl) (by omega) ?_
            refine x_istore h dX8_workOut_18 (by decide) ?_
            refine x_iload h dX8_workOut_20 rfl ?_
            refine x_tsIn (tgt := 107) (off := 85) h dX8_workOut_22 (by omega) (by omega) (by rfl) (by decide) ?_
            refine x_aload_n h dX8_workOut_107 rfl ?_
            refine x_aload_n h dX8_workOut_108 rfl ?_
            refine x_iload h dX8_workOut_109 rfl ?_
            refine x_cV1 h kVX0_withAt lkX8_201 ⟨_, _, _, rfl, rfl⟩ dX8_workOut_111 (hwth) (lvm_6 (by omega)) rfl rfl (Nat.le_of_ble_eq_true rfl) (by omega) ?_
            refine x_l2i h dX8_workOut_114 ?_
            refine x_aload_n h dX8_workOut_115 rfl ?_
            refine x_cV1 h kVX8_pop lkX8_186 ⟨_, _, _, rfl, rfl⟩ dX8_workOut_116 (hpo) lvz_7 rfl rfl (Nat.le_of_ble_eq_true rfl) (by omega) ?_
            refine x_iload_n h dX8_workOut_119 rfl ?_
            refine x_cV1 h kVX8_ask lkX8_71 ⟨_, _, _, rfl, rfl⟩ dX8_workOut_120 (hct1) lvz_7 rfl rfl (Nat.le_of_ble_eq_true rfl) (by omega) ?_
            refine x_if_ne_T (tgt := 128) h (by omega) dX8_workOut_123 (by decide) (by omega) ?_
            refine x_aload_n h dX8_workOut_128 rfl ?_
            refine x_aload_n h dX8_workOut_129 rfl ?_
            refine x_get (q := vL (x)) h fl_8_28 lvz_7 dX8_workOut_130 (congrArg vL (by first | exact r6 | simp [up3, r6])) ?_
            refine x_cV0 h kVX8_push lkX8_205 ⟨_, _, _, rfl, rfl⟩ dX8_workOut_133 (hpu) lvz_7 rfl rfl (Nat.le_of_ble_eq_true rfl) (by omega) ?_
            refine x_goto (tgt := 203) h dX8_workOut_136 (by decide) ?_
            refine x_iinc h dX8_workOut_203 rfl (by decide) ?_
            refine x_goto (tgt := 3) h dX8_workOut_206 (by decide) ?_
            exact hx C h hr _ ⟨rfl, rfl, rfl, rfl, rfl, trivial⟩
      · match st, w2, w3, hst, hM, hl24 with
        | v :: st', _, w3, hst, hM, hl24 =>
          rw [if_neg (by omega), if_neg (by omega), if_neg (by omega), if_neg (by omega), if_pos w1]
          simp only [List.length_cons] at hl24
          rw [w1] at hstp
          have hst' : ∀ y ∈ st', i64 y := fun y hy => hst y (List.mem_cons_of_mem _ hy)
          obtain ⟨m1, m2, m3⟩ := MB_pop hM
          have hpo := c_pop (d := 0) (σ := τ) (w := w + st'.length) m2 (by omega)
          rw [m3] at hpo
          obtain ⟨b, σ', hres, hx⟩ := ih (k + 1) ss (w64 (-v) :: st') _ D w3 hk3 hkn (hcw (w64_range _) hst') (MB_push (x := w64 (-v)) m1) hD (by omega) (by simp only [List.length_cons]; omega)
          refine ⟨b, σ', hres, fun C h hr ls hls => x_loc hls ?_⟩
          have hpu := c_push (d := 0) (x := w64 (-v)) m1.2.2.1.2.1 (by omega)
          refine x_iload h dX8_workOut_3 rfl ?_
          refine x_aload_n h dX8_workOut_5 rfl ?_
          refine x_get (q := vI (((sCd S t0).length : Int))) h fl_8_193 (lvm_6 (by omega)) dX8_workOut_6 (congrArg vI (by first | exact f1 | simp [up3, f1])) ?_
          refine x_ic_ge_F (tgt := 209) h (by omega) dX8_workOut_9 (by decide) (by omega) ?_
          refine x_aload_n h dX8_workOut_12 rfl ?_
          refine x_iload h dX8_workOut_13 rfl ?_
          refine x_cV1 h kVX0_stepAt lkX8_198 ⟨_, _, _, rfl, rfl⟩ dX8_workOut_15 (hstp) (lvm_6 (by omega)) rfl rfl (Nat.le_of_ble_eq_true rfl) (by omega) ?_
          refine x_istore h dX8_workOut_18 (by decide) ?_
          refine x_iload h dX8_workOut_20 rfl ?_
          refine x_tsIn (tgt := 139) (off := 117) h dX8_workOut_22 (by omega) (by omega) (by rfl) (by decide) ?_
          refine x_aload_n h dX8_workOut_139 rfl ?_
          refine x_aload_n h dX8_workOut_140 rfl ?_
          refine x_cV1 h kVX8_pop lkX8_186 ⟨_, _, _, rfl, rfl⟩ dX8_workOut_141 (hpo) lvz_7 rfl rfl (Nat.le_of_ble_eq_true rfl) (by omega) ?_
          refine x_lneg h dX8_workOut_144 ?_
          refine x_wL ?_
          refine x_cV0 h kVX8_push lkX8_205 ⟨_, _, _, rfl, rfl⟩ dX8_workOut_145 (hpu) lvz_7 rfl rfl (Nat.le_of_ble_eq_true rfl) (by omega) ?_
          refine x_goto (tgt := 203) h dX8_workOut_148 (by decide) ?_
          refine x_iinc h dX8_workOut_203 rfl (by decide) ?_
          refine x_goto (tgt := 3) h dX8_workOut_206 (by decide) ?_
          exact hx C h hr _ ⟨rfl, rfl, rfl, rfl, rfl, trivial⟩
      · obtain ⟨q, hq⟩ := Int.eq_ofNat_of_zero_le w2
        have hqt : z.2.1.toNat = q := by omega
        rw [if_neg (by omega), if_neg (by omega), if_neg (by omega), if_neg (by omega), if_neg (by omega), if_pos w1, hqt]
        rw [w1] at hstp
        rw [hqt] at w4
        have hsk := c_skipAt (d := 0) (σ := τ) (m := 12 * t + t0) (k := k) (by omega) hk48 (by rw [g14]; omega)
        rw [g14, hq] at hsk
        obtain ⟨b, σ', hres, hx⟩ := ih (k + q + 1) (ss.drop q) st τ D w4 (by rw [hk3, List.drop_drop]; congr 1; omega) (by rw [List.length_drop]; omega) hst hM hD (by omega) hl24
        refine ⟨b, σ', hres, fun C h hr ls hls => x_loc hls ?_⟩
        refine x_iload h dX8_workOut_3 rfl ?_
        refine x_aload_n h dX8_workOut_5 rfl ?_
        refine x_get (q := vI (((sCd S t0).length : Int))) h fl_8_193 (lvm_6 (by omega)) dX8_workOut_6 (congrArg vI (by first | exact f1 | simp [up3, f1])) ?_
        refine x_ic_ge_F (tgt := 209) h (by omega) dX8_workOut_9 (by decide) (by omega) ?_
        refine x_aload_n h dX8_workOut_12 rfl ?_
        refine x_iload h dX8_workOut_13 rfl ?_
        refine x_cV1 h kVX0_stepAt lkX8_198 ⟨_, _, _, rfl, rfl⟩ dX8_workOut_15 (hstp) (lvm_6 (by omega)) rfl rfl (Nat.le_of_ble_eq_true rfl) (by omega) ?_
        refine x_istore h dX8_workOut_18 (by decide) ?_
        refine x_iload h dX8_workOut_20 rfl ?_
        refine x_tsIn (tgt := 151) (off := 129) h dX8_workOut_22 (by omega) (by omega) (by rfl) (by decide) ?_
        refine x_iload h dX8_workOut_151 rfl ?_
        refine x_aload_n h dX8_workOut_153 rfl ?_
        refine x_iload h dX8_workOut_154 rfl ?_
        refine x_cV1 h kVX0_skipAt lkX8_211 ⟨_, _, _, rfl, rfl⟩ dX8_workOut_156 (hsk) (lvm_6 (by omega)) rfl rfl (Nat.le_of_ble_eq_true rfl) (by omega) ?_
        refine x_iadd h dX8_workOut_159 ?_
        refine x_istore h dX8_workOut_160 (by decide) ?_
        refine x_goto (tgt := 203) h dX8_workOut_162 (by decide) ?_
        refine x_iinc h dX8_workOut_203 rfl (by decide) ?_
        refine x_goto (tgt := 3) h dX8_workOut_206 (by decide) ?_
        exact hx C h hr _ ⟨rfl, rfl, rfl, rfl, rfl, trivial⟩
      · obtain ⟨q, hq⟩ := Int.eq_ofNat_of_zero_le w3
        have hqt : z.2.1.toNat = q := by omega
        match st, w2, w5, w6, hst, hM, hl24 with
        | v :: st', _, w5, w6, hst, hM, hl24 =>
          rw [if_neg (by omega), if_neg (by omega), if_neg (by omega), if_neg (by omega), if_neg (by omega), if_neg (by omega), if_pos w1, hqt]
          simp only [List.length_cons] at hl24
          rw [w1] at hstp
          rw [hqt] at w5
          have hvi : i64 v := hst v List.mem_cons_self
          unfold i64 at hvi
          have hst' : ∀ y ∈ st', i64 y := fun y hy => hst y (List.mem_cons_of_mem _ hy)
          obtain ⟨m1, m2, m3⟩ := MB_pop hM
          have hpo := c_pop (d := 0) (σ := τ) (w := w + st'.length) m2 (by omega)
          rw [m3] at hpo
          have g14' : up3 τ 7 0 7 ((w + st'.length : Nat) : Int) 14 (12 * t + t0) k = z.2.1 := by rw [up3_f _ _ (by decide)]; exact g14
          have hsk := c_skipAt (d := 0) (σ := up3 τ 7 0 7 ((w + st'.length : Nat) : Int)) (m := 12 * t + t0) (k := k) (by omega) hk48 (by rw [g14']; omega)
          rw [g14', hq] at hsk
          show ∃ b σ', RRes t σ u w (runF S t0 p ask c (if v = 0 then ss.drop q else ss) st' D) b σ' ∧ _
          by_cases hv0 : v = 0
          · rw [if_pos hv0]
            obtain ⟨b, σ', hres, hx⟩ := ih (k + q + 1) (ss.drop q) st' _ D w5 (by rw [hk3, List.drop_drop]; congr 1; omega) (by rw [List.length_drop]; omega) hst' m1 hD (by omega) (by omega)
            refine ⟨b, σ', hres, fun C h hr ls hls => x_loc hls ?_⟩
            refine x_iload h dX8_workOut_3 rfl ?_
            refine x_aload_n h dX8_workOut_5 rfl ?_
            refine x_get (q := vI (((sCd S t0).length : Int))) h fl_8_193 (lvm_6 (by omega)) dX8_workOut_6 (congrArg vI (by first | exact f1 | simp [up3, f1])) ?_
            refine x_ic_ge_F (tgt := 209) h (by omega) dX8_workOut_9 (by decide) (by omega) ?_
            refine x_aload_n h dX8_workOut_12 rfl ?_
            refine x_iload h dX8_workOut_13 rfl ?_
            refine x_cV1 h kVX0_stepAt lkX8_198 ⟨_, _, _, rfl, rfl⟩ dX8_workOut_15 (hstp) (lvm_6 (by omega)) rfl rfl (Nat.le_of_ble_eq_true rfl) (by omega) ?_
            refine x_istore h dX8_workOut_18 (by decide) ?_
            refine x_iload h dX8_workOut_20 rfl ?_
            refine x_tsIn (tgt := 165) (off := 143) h dX8_workOut_22 (by omega) (by omega) (by rfl) (by decide) ?_
            refine x_iload h dX8_workOut_165 rfl ?_
            refine x_aload_n h dX8_workOut_167 rfl ?_
            refine x_cV1 h kVX8_pop lkX8_186 ⟨_, _, _, rfl, rfl⟩ dX8_workOut_168 (hpo) lvz_7 rfl rfl (Nat.le_of_ble_eq_true rfl) (by omega) ?_
            refine x_lconst0 h dX8_workOut_171 ?_
            refine x_lc_ne (tgt := 185) h (by omega) dX8_workOut_172 dX8_workOut_173 (by decide) (fun q => absurd q (by omega)) (fun _ => ?_)
            refine x_aload_n h dX8_workOut_176 rfl ?_
            refine x_iload h dX8_workOut_177 rfl ?_
            refine x_cV1 h kVX0_skipAt lkX8_211 ⟨_, _, _, rfl, rfl⟩ dX8_workOut_179 (hsk) (lvm_6 (by omega)) rfl rfl (Nat.le_of_ble_eq_true rfl) (by omega) ?_
            refine x_goto (tgt := 186) h dX8_workOut_182 (by decide) ?_
            refine x_iadd h dX8_workOut_186 ?_
            refine x_istore h dX8_workOut_187 (by decide) ?_
            refine x_goto (tgt := 203) h dX8_workOut_189 (by decide) ?_
            refine x_iinc h dX8_workOut_203 rfl (by decide) ?_
            refine x_goto (tgt := 3) h dX8_workOut_206 (by decide) ?_
            exact hx C h hr _ ⟨rfl, rfl, rfl, rfl, rfl, trivial⟩
          · rw [if_neg hv0]
            obtain ⟨b, σ', hres, hx⟩ := ih (k + 1) ss st' _ D w6 hk3 hkn hst' m1 hD (by omega) (by omega)
            refine ⟨b, σ', hres, fun C h hr ls hls => x_loc hls ?_⟩
            refine x_iload h dX8_workOut_3 rfl ?_
            refine x_aload_n h dX8_workOut_5 rfl ?_
            refine x_get (q := vI (((sCd S t0).length : Int))) h fl_8_193 (lvm_6 (by omega)) dX8_workOut_6 (congrArg vI (by first | exact f1 | simp [up3, f1])) ?_
            refine x_ic_ge_F (tgt := 209) h (by omega) dX8_workOut_9 (by decide) (by omega) ?_
            refine x_aload_n h dX8_workOut_12 rfl ?_
            refine x_iload h dX8_workOut_13 rfl ?_
            refine x_cV1 h kVX0_stepAt lkX8_198 ⟨_, _, _, rfl, rfl⟩ dX8_workOut_15 (hstp) (lvm_6 (by omega)) rfl rfl (Nat.le_of_ble_eq_true rfl) (by omega) ?_
            refine x_istore h dX8_workOut_18 (by decide) ?_
            refine x_iload h dX8_workOut_20 rfl ?_
            refine x_tsIn (tgt := 165) (off := 143) h dX8_workOut_22 (by omega) (by omega) (by rfl) (by decide) ?_
            refine x_iload h dX8_workOut_165 rfl ?_
            refine x_aload_n h dX8_workOut_167 rfl ?_
            refine x_cV1 h kVX8_pop lkX8_186 ⟨_, _, _, rfl, rfl⟩ dX8_workOut_168 (hpo) lvz_7 rfl rfl (Nat.le_of_ble_eq_true rfl) (by omega) ?_
            refine x_lconst0 h dX8_workOut_171 ?_
            refine x_lc_ne (tgt := 185) h (by omega) dX8_workOut_172 dX8_workOut_173 (by decide) (fun _ => ?_) (fun q => absurd (by omega) q)
            refine x_iconst h dX8_workOut_185 ?_
            refine x_iadd h dX8_workOut_186 ?_
            rw [show (k : Int) + 0 = k by omega]
            refine x_istore h dX8_workOut_187 (by decide) ?_
            refine x_goto (tgt := 203) h dX8_workOut_189 (by decide) ?_
            refine x_iinc h dX8_workOut_203 rfl (by decide) ?_
            refine x_goto (tgt := 3) h dX8_workOut_206 (by decide) ?_
            exact hx C h hr _ ⟨rfl, rfl, rfl, rfl, rfl, trivial⟩
      · match st, w2, w3, hst, hM, hl24 with
        | v :: l :: st', _, w3, hst, hM, hl24 =>
          rw [if_neg (by omega), if_neg (by omega), if_neg (by omega), if_neg (by omega), if_neg (by omega), if_neg (by omega), if_neg (by omega)]
          simp only [List.length_cons] at hl24
          have hvi : i64 v := hst v List.mem_cons_self
          have hli : i64 l := hst l (List.mem_cons_of_mem _ List.mem_cons_self)
          have hst' : ∀ y ∈ st', i64 y := fun y hy => hst y (List.mem_cons_of_mem _ (List.mem_cons_of_mem _ hy))
          obtain ⟨m1, m2, m3⟩ := MB_pop hM
          obtain ⟨n1, n2, n3⟩ := MB_pop m1
          rw [up3_up3] at n1
          rw [up3_f _ _ (by decide)] at n3
          have hbi : ∀ x, binF z.1 l v = some x → i64 x := fun x hb => by
            unfold binF at hb
            repeat' split at hb
            all_goals first
              | (cases hb; exact w64_range _)
              | (cases hb; exact ⟨by decide, by decide⟩)
              | (cases hb; split <;> exact ⟨by decide, by decide⟩)
              | (cases hb; done)
          have hwp := c_workOutPair (d := 0) (σ := τ) (w := w + st'.length) (op := z.1) (l := l) (r := v) (by omega) (by rw [m2]; simp only [List.length_cons]; omega) (by omega) n3 (by rw [show w + st'.length + 1 = w + (l :: st').length by simp only [List.length_cons]; omega]; exact m3) hli hvi hM.2.2.1.2.2.1
          show ∃ b σ', RRes t σ u w (match binF z.1 l v with | none => .inl (1, 0, D) | some v => runF S t0 p ask c ss (v :: st') D) b σ' ∧ _
          cases hb : binF z.1 l v with
          | none =>
            rw [hb] at hwp
            have hwp : Ct 3 mX8_workOutPair 1 [vR 7 0, vI z.1] NALL τ (some (vI 0)) NALL (addRS (up3 τ 7 0 7 ((w + st'.length : Nat) : Int)) 0 1) 0 0 := hwp
            have hff := WRes_fail (w := w) (g := false) (why := 1) n1.1 n1.2.1 n1.2.2.1.1 n1.2.2.1.2.2.2
            refine ⟨0, _, ⟨hff.1, hff.2⟩, fun C h hr ls hls => x_loc hls ?_⟩
            refine x_iload h dX8_workOut_3 rfl ?_
            refine x_aload_n h dX8_workOut_5 rfl ?_
            refine x_get (q := vI (((sCd S t0).length : Int))) h fl_8_193 (lvm_6 (by omega)) dX8_workOut_6 (congrArg vI (by first | exact f1 | simp [up3, f1])) ?_
            refine x_ic_ge_F (tgt := 209) h (by omega) dX8_workOut_9 (by decide) (by omega) ?_
            refine x_aload_n h dX8_workOut_12 rfl ?_
            refine x_iload h dX8_workOut_13 rfl ?_
            refine x_cV1 h kVX0_stepAt lkX8_198 ⟨_, _, _, rfl, rfl⟩ dX8_workOut_15 (hstp) (lvm_6 (by omega)) rfl rfl (Nat.le_of_ble_eq_true rfl) (by omega) ?_
            refine x_istore h dX8_workOut_18 (by decide) ?_
            refine x_iload h dX8_workOut_20 rfl ?_
            refine x_tsOut (tgt := 192) h dX8_workOut_22 (by omega) (by omega) (by decide) ?_
            refine x_aload_n h dX8_workOut_192 rfl ?_
            refine x_iload h dX8_workOut_193 rfl ?_
            refine x_cV1 h kVX8_workOutPair lkX8_214 ⟨_, _, _, rfl, rfl⟩ dX8_workOut_195 (hwp) lvz_7 rfl rfl (Nat.le_of_ble_eq_true rfl) (by omega) ?_
            refine x_if_ne_F (tgt := 203) h (by omega) dX8_workOut_198 (by decide) (by omega) ?_
            refine x_iconst h dX8_workOut_201 ?_
            exact x_ireturn h hr dX8_workOut_202 (Or.inr ⟨rfl, by omega⟩) ⟨Nat.le_refl _, Nat.le_refl _⟩
          | some x =>
            rw [hb] at hwp
            have hwp : Ct 3 mX8_workOutPair 1 [vR 7 0, vI z.1] NALL τ (some (vI 1)) NALL (pushS (up3 τ 7 0 7 ((w + st'.length : Nat) : Int)) (w + st'.length) x) 0 0 := hwp
            obtain ⟨b, σ', hres, hx⟩ := ih (k + 1) ss (x :: st') _ D w3 hk3 hkn (hcw (hbi x hb) hst') (MB_push (x := x) n1) hD (by omega) (by simp only [List.length_cons]; omega)
            refine ⟨b, σ', hres, fun C h hr ls hls => x_loc hls ?_⟩
            refine x_iload h dX8_workOut_3 rfl ?_
            refine x_aload_n h dX8_workOut_5 rfl ?_
            refine x_get (q := vI (((sCd S t0).length : Int))) h fl_8_193 (lvm_6 (by omega)) dX8_workOut_6 (congrArg vI (by first | exact f1 | simp [up3, f1])) ?_
            refine x_ic_ge_F (tgt := 209) h (by omega) dX8_workOut_9 (by decide) (by omega) ?_
            refine x_aload_n h dX8_workOut_12 rfl ?_
            refine x_iload h dX8_workOut_13 rfl ?_
            refine x_cV1 h kVX0_stepAt lkX8_198 ⟨_, _, _, rfl, rfl⟩ dX8_workOut_15 (hstp) (lvm_6 (by omega)) rfl rfl (Nat.le_of_ble_eq_true rfl) (by omega) ?_
            refine x_istore h dX8_workOut_18 (by decide) ?_
            refine x_iload h dX8_workOut_20 rfl ?_
            refine x_tsOut (tgt := 192) h dX8_workOut_22 (by omega) (by omega) (by decide) ?_
            refine x_aload_n h dX8_workOut_192 rfl ?_
            refine x_iload h dX8_workOut_193 rfl ?_
            refine x_cV1 h kVX8_workOutPair lkX8_214 ⟨_, _, _, rfl, rfl⟩ dX8_workOut_195 (hwp) lvz_7 rfl rfl (Nat.le_of_ble_eq_true rfl) (by omega) ?_
            refine x_if_ne_T (tgt := 203) h (by omega) dX8_workOut_198 (by decide) (by omega) ?_
            refine x_iinc h dX8_workOut_203 rfl (by decide) ?_
            refine x_goto (tgt := 3) h dX8_workOut_206 (by decide) ?_
            exact hx C h hr _ ⟨rfl, rfl, rfl, rfl, rfl, trivial⟩
theorem c_workOut {t n u w A t0 p δ : Nat} {S : Sd} {ask : Mm → Nat → Int → Int → ER} {σ D : Mm} (hS : SOk S n) (hask : CAk t n S u ask A) (iask : AkOk S n δ ask) (hA : 4 ≤ A) (ht0 : t0 < n) (hp : p < 200) (hu : u ≤ 12) (hw : w + 24 ≤ 24 * u) (hok : WOk t n S D u w σ) (hP : Psi D + 60 ≤ 2147483600) : ∃ (b : Int) (σ' : Mm), RRes t σ u w (runF S t0 p ask 60 (sCd S t0) [] D) b σ' ∧ Ct (A + 1) mX8_workOut 1 [vR 7 0, vR 6 (12 * t + t0), vI t0, vI p] NALL σ (some (vI b)) NALL σ' 0 0 := by
  obtain ⟨h1, h2, h3, h4⟩ := hok
  obtain ⟨s1, s2, s3, s4, s5, s6, s7⟩ := hS.2 t0 ht0
  obtain ⟨b, σ', hres, hx⟩ := wo_loop hS hask iask hA ht0 hp hu hw h2 60 0 (sCd S t0) [] σ D s5 rfl (by omega) (fun v hv => by cases hv) ⟨FrW_refl t σ, h1, h3, fun _ _ => rfl, trivial⟩ h4 (by omega) (Nat.zero_le _)
  refine ⟨b, σ', hres, ?_⟩
  refine ct_of (by decide) (Nat.le_of_ble_eq_true rfl) (fun C h hr _ => ?_)
  have h : Ok C RX8 cX8_workOut 6 _ := h
  refine x_iconst h dX8_workOut_0 ?_
  refine x_istore h dX8_workOut_1 (by decide) ?_
  exact hx C h hr _ ⟨rfl, rfl, rfl, rfl, rfl, trivial⟩
theorem c_makeEntries {t n u w A t0 δ : Nat} {S : Sd} {ask : Mm → Nat → Int → Int → ER} {σ D : Mm} {p e : Nat} (hS : SOk S n) (hask : CAk t n S u ask A) (iask : AkOk S n δ ask) (hA : 4 ≤ A) (ht0 : t0 < n) (hpe : p ≤ e) (he : e ≤ 200) (hu : u ≤ 12) (hw : w + 24 ≤ 24 * u) (hok : WOk t n S D u w σ) (hP : Psi D + 60 * (e - p : Nat) ≤ 2147483600) : ∃ (b : Int) (σ' : Mm), WRes t σ u w false (mkF S ask t0 (e - p) p D) b σ' ∧ Ct (A + 2) mX8_makeEntries 1 [vR 7 0, vR 5 (12 * t + t0), vI t0, vI p, vI e] NALL σ (some (vI b)) NALL σ' 0 0 := by
  have hn := hS.1
  have ht := hok.2.1.1
  obtain ⟨s1, s2, s3, s4, s5, s6, s7⟩ := hS.2 t0 ht0
  have loop : ∀ (c p : Nat) (τ D : Mm), p + c = e → MB t σ u w D [] τ → DW S D → Psi D + 60 * c ≤ 2147483600 → ∃ (b : Int) (σ' : Mm), WRes t σ u w false (mkF S ask t0 c p D) b σ' ∧ ∀ C : Cx, Ok C RX8 cX8_makeEntries 6 (A + 2) → Rt C 1 (some .boolean) (some (vI b)) NALL σ' 0 0 → ∀ ls, lsub [(0, vR 7 0), (1, vR 5 (12 * t + t0)), (2, vI t0), (4, vI e), (5, vI p)] ls → X C 1 3 ls [] NALL τ 0 0 := by
    intro c
    induction c with
    | zero =>
      intro p τ D hp hM hD hP
      obtain rfl : p = e := by omega
      refine ⟨1, τ, ⟨hM.1, rfl, hM.2.1, hM.2.2.1, hM.2.2.2.1, fun z => absurd z (by decide)⟩, fun C h hr ls hls => x_loc hls ?_⟩
      refine x_iload h dX8_makeEntries_3 rfl ?_
      refine x_iload h dX8_makeEntries_5 rfl ?_
      refine x_ic_ge_T (tgt := 45) h (by omega) dX8_makeEntries_7 (by decide) (by omega) ?_
      refine x_iconst h dX8_makeEntries_45 ?_
      exact x_ireturn h hr dX8_makeEntries_46 (Or.inr ⟨rfl, by omega⟩) ⟨Nat.le_refl _, Nat.le_refl _⟩
    | succ c ih =>
      intro p τ D hp hM hD hP
      obtain ⟨b1, σ1, hres1, hct1⟩ := c_workOut (σ := τ) (D := D) (p := p) (w := w) hS hask iask hA ht0 (by omega) hu hw ⟨hM.2.1, KC_fr hok.2.1 hM.1, hM.2.2.1, hD⟩ (by omega)
      have hE := run_i (t := t0) (pl := (p : Int)) hS (by omega) (by unfold i64; omega) iask 60 (sCd S t0) [] D hD s5 (fun v hv => by cases hv) s7
      rw [mkF]
      cases hv : runF S t0 p ask 60 (sCd S t0) [] D with
      | inl y =>
        obtain ⟨why, m, D'⟩ := y
        rw [hv] at hres1
        obtain ⟨r1, rfl, r3, r4⟩ := hres1
        refine ⟨0, σ1, ⟨FrW_tr r1 hM.1, rfl, r3, r4⟩, fun C h hr ls hls => x_loc hls ?_⟩
        refine x_iload h dX8_makeEntries_3 rfl ?_
        refine x_iload h dX8_makeEntries_5 rfl ?_
        refine x_ic_ge_F (tgt := 45) h (by omega) dX8_makeEntries_7 (by decide) (by omega) ?_
        refine x_aload_n h dX8_makeEntries_10 rfl ?_
        refine x_aload_n h dX8_makeEntries_11 rfl ?_
        refine x_get h fl_8_178 (lvm_5 (by omega)) dX8_makeEntries_12 (pvf_706 _ _) ?_
        refine x_iload_n h dX8_makeEntries_15 rfl ?_
        refine x_iload h dX8_makeEntries_16 rfl ?_
        refine x_cV1 h kVX8_workOut lkX8_182 ⟨_, _, _, rfl, rfl⟩ dX8_makeEntries_18 (hct1) lvz_7 rfl rfl (Nat.le_of_ble_eq_true rfl) (by omega) ?_
        refine x_if_ne_F (tgt := 26) h (by omega) dX8_makeEntries_21 (by decide) (by omega) ?_
        refine x_iconst h dX8_makeEntries_24 ?_
        exact x_ireturn h hr dX8_makeEntries_25 (Or.inr ⟨rfl, by omega⟩) ⟨Nat.le_refl _, Nat.le_refl _⟩
      | inr y =>
        obtain ⟨v, D'⟩ := y
        rw [hv] at hres1 hE
        obtain ⟨r1, rfl, r3⟩ := hres1
        obtain ⟨e1, e2, e3, e4⟩ := hE
        have hM1 : MB t σ u w D' [v] σ1 := ⟨FrW_tr r1 hM.1, r3.2.1, r3.2.2.1, fun j hj => (r3.2.2.2.1 j hj).trans (hM.2.2.2.1 j hj), r3.2.2.2.2⟩
        obtain ⟨m1, m2, m3⟩ := MB_pop hM1
        have hpo := c_pop (d := 0) (σ := σ1) (w := w) m2 (by omega)
        rw [show σ1 19 0 w = v from m3] at hpo
        have hpu := c_putL (d := 0) (σ := up3 σ1 7 0 7 (w : Int)) (f := 16) (m := 12 * t + t0) (k := p) (x := v) kdf_16 (lvm_16 (by omega)) (by omega)
        have hM2 : MB t σ u w (up3 D' 16 t0 p v) [] (up3 (up3 σ1 7 0 7 (w : Int)) 16 (12 * t + t0) p v) := ⟨FrW_up m1.1 _ (by omega), HC_up m1.2.1 16 t0 p v, WS_no m1.2.2.1 (by omega), fun j hj => by rw [up3_f _ _ (by decide)]; exact m1.2.2.2.1 j hj, trivial⟩
        have hf : ∀ f j i, f ≠ 16 → up3 D' 16 t0 p v f j i = D' f j i := fun f j i hf => up3_f _ _ hf
        obtain ⟨b, σ', hres, hx⟩ := ih (p + 1) _ (up3 D' 16 t0 p v) (by omega) hM2 (DW_16 e1 hf (fun j i hj hi => by
          unfold up3
          split
          · exact e4
          · exact (e1.1 j hj).2.2.1 i hi)) (by rw [Psi_16 hf]; omega)
        refine ⟨b, σ', hres, fun C h hr ls hls => x_loc hls ?_⟩
        refine x_iload h dX8_makeEntries_3 rfl ?_
        refine x_iload h dX8_makeEntries_5 rfl ?_
        refine x_ic_ge_F (tgt := 45) h (by omega) dX8_makeEntries_7 (by decide) (by omega) ?_
        refine x_aload_n h dX8_makeEntries_10 rfl ?_
        refine x_aload_n h dX8_makeEntries_11 rfl ?_
        refine x_get h fl_8_178 (lvm_5 (by omega)) dX8_makeEntries_12 (pvf_706 _ _) ?_
        refine x_iload_n h dX8_makeEntries_15 rfl ?_
        refine x_iload h dX8_makeEntries_16 rfl ?_
        refine x_cV1 h kVX8_workOut lkX8_182 ⟨_, _, _, rfl, rfl⟩ dX8_makeEntries_18 (hct1) lvz_7 rfl rfl (Nat.le_of_ble_eq_true rfl) (by omega) ?_
        refine x_if_ne_T (tgt := 26) h (by omega) dX8_makeEntries_21 (by decide) (by omega) ?_
        refine x_aload_n h dX8_makeEntries_26 rfl ?_
        refine x_get h fl_8_113 (lvm_5 (by omega)) dX8_makeEntries_27 (pvf_716 _ _) ?_
        refine x_iload h dX8_makeEntries_30 rfl ?_
        refine x_aload_n h dX8_makeEntries_32 rfl ?_
        refine x_cV1 h kVX8_pop lkX8_186 ⟨_, _, _, rfl, rfl⟩ dX8_makeEntries_33 (hpo) lvz_7 rfl rfl (Nat.le_of_ble_eq_true rfl) (by omega) ?_
        refine x_cN0 h kSX9_put_ lkNX8_190 dX8_makeEntries_36 (hpu) rfl rfl (Nat.le_of_ble_eq_true rfl) (by omega) ?_
        refine x_iinc h dX8_makeEntries_39 rfl (by decide) ?_
        refine x_goto (tgt := 3) h dX8_makeEntries_42 (by decide) ?_
        exact hx C h hr _ ⟨rfl, rfl, rfl, rfl, rfl, trivial⟩
  obtain ⟨b, σ', hres, hx⟩ := loop (e - p) p σ D (by omega) ⟨FrW_refl t σ, hok.1, hok.2.2.1, fun _ _ => rfl, trivial⟩ hok.2.2.2 hP
  refine ⟨b, σ', hres, ?_⟩
  refine ct_of (by decide) (Nat.le_of_ble_eq_true rfl) (fun C h hr _ => ?_)
  have h : Ok C RX8 cX8_makeEntries 6 _ := h
  refine x_iload_n h dX8_makeEntries_0 rfl ?_
  refine x_istore h dX8_makeEntries_1 (by decide) ?_
  exact hx C h hr _ ⟨rfl, rfl, rfl, rfl, rfl, trivial⟩
