/-! the workshop's small methods -/
theorem up3_up3 (σ : Mm) (f k j : Nat) (x y : Int) : up3 (up3 σ f k j x) f k j y = up3 σ f k j y := by
  funext f' k' j'
  unfold up3
  split <;> rfl
theorem up3_eta (σ : Mm) (f k j : Nat) {x : Int} (h : σ f k j = x) : up3 σ f k j x = σ := by
  funext f' k' j'
  unfold up3
  split
  · next q => obtain ⟨rfl, rfl, rfl⟩ := q; exact h.symm
  · rfl
def addRS (σ : Mm) (n : Nat) (why : Int) : Mm := up3 (up3 σ 20 0 n why) 7 0 10 (n + 1)
theorem c_addReason {d : Nat} {σ : Mm} {n : Nat} {why : Int} (hn : σ 7 0 10 = n) (hn2 : n < 12) : Ct (d + 1) mX8_addReason 1 [vR 7 0, vI why] NALL σ none NALL (addRS σ n why) 0 0 := by
  refine ct_of (by decide) (Nat.le_of_ble_eq_true rfl) (fun C h hr _ => ?_)
  have h : Ok C RX8 cX8_addReason 2 _ := h
  refine x_aload_n h dX8_addReason_0 rfl ?_
  refine x_get h fl_8_50 lvz_7 dX8_addReason_1 (pvf_520 _ _) ?_
  refine x_aload_n h dX8_addReason_4 rfl ?_
  refine x_get (q := vI (n)) h fl_8_54 lvz_7 dX8_addReason_5 (congrArg vI (by first | exact hn | simp [up3, hn])) ?_
  refine x_iload_n h dX8_addReason_8 rfl ?_
  refine x_cN0 h kSX9_put lkNX8_170 dX8_addReason_9 (c_put (d := d) kdf_20 lvz_20 hn2) rfl rfl (Nat.le_of_ble_eq_true rfl) (by omega) ?_
  refine x_aload_n h dX8_addReason_12 rfl ?_
  refine x_dup h dX8_addReason_13 rfl ?_
  refine x_get (q := vI (n)) h fl_8_54 lvz_7 dX8_addReason_14 (congrArg vI (by first | exact hn | simp [up3, hn])) ?_
  refine x_iconst h dX8_addReason_17 ?_
  refine x_iadd h dX8_addReason_18 ?_
  refine x_put h fl_8_54 lvz_7 dX8_addReason_19 rfl (fun z => absurd z (by decide)) ?_
  exact x_return h hr dX8_addReason_22 ⟨Nat.le_refl _, Nat.le_refl _⟩
theorem c_fail {d : Nat} {σ : Mm} {why : Int} (hn : σ 7 0 10 = 0) : Ct (d + 2) mX8_fail 1 [vR 7 0, vI why] NALL σ (some (vI 0)) NALL (addRS σ 0 why) 0 0 := by
  refine ct_of (by decide) (Nat.le_of_ble_eq_true rfl) (fun C h hr _ => ?_)
  have h : Ok C RX8 cX8_fail 2 _ := h
  refine x_aload_n h dX8_fail_0 rfl ?_
  refine x_iload_n h dX8_fail_1 rfl ?_
  refine x_cV0 h kVX8_addReason lkX8_217 ⟨_, _, _, rfl, rfl⟩ dX8_fail_2 (c_addReason (d := d) (n := 0) hn (by omega)) lvz_7 rfl rfl (Nat.le_of_ble_eq_true rfl) (by omega) ?_
  refine x_iconst h dX8_fail_5 ?_
  exact x_ireturn h hr dX8_fail_6 (Or.inr ⟨rfl, by omega⟩) ⟨Nat.le_refl _, Nat.le_refl _⟩
theorem c_failWR0 {d : Nat} {σ : Mm} (hn : σ 7 0 11 = 0) : Ct (d + 2) mX8_failWithReason 1 [vR 7 0] NALL σ (some (vI 0)) NALL (up3 σ 7 0 11 1) 0 0 := by
  refine ct_of (by decide) (Nat.le_of_ble_eq_true rfl) (fun C h hr _ => ?_)
  have h : Ok C RX8 cX8_failWithReason 1 _ := h
  refine x_aload_n h dX8_failWithReason_0 rfl ?_
  refine x_get (q := vI (0)) h fl_8_57 lvz_7 dX8_failWithReason_1 (congrArg vI (by first | exact hn | simp [up3, hn])) ?_
  refine x_if_eq_T (tgt := 13) h (by omega) dX8_failWithReason_4 (by decide) (by omega) ?_
  refine x_aload_n h dX8_failWithReason_13 rfl ?_
  refine x_iconst h dX8_failWithReason_14 ?_
  refine x_put h fl_8_57 lvz_7 dX8_failWithReason_15 rfl (fun _ => by omega) ?_
  refine x_iconst h dX8_failWithReason_18 ?_
  exact x_ireturn h hr dX8_failWithReason_19 (Or.inr ⟨rfl, by omega⟩) ⟨Nat.le_refl _, Nat.le_refl _⟩
theorem c_failWR1 {d : Nat} {σ : Mm} {n : Nat} (hn : σ 7 0 11 = 1) (hm : σ 7 0 10 = n) (hm2 : n < 12) : Ct (d + 2) mX8_failWithReason 1 [vR 7 0] NALL σ (some (vI 0)) NALL (up3 (addRS σ n 7) 7 0 11 1) 0 0 := by
  refine ct_of (by decide) (Nat.le_of_ble_eq_true rfl) (fun C h hr _ => ?_)
  have h : Ok C RX8 cX8_failWithReason 1 _ := h
  refine x_aload_n h dX8_failWithReason_0 rfl ?_
  refine x_get (q := vI (1)) h fl_8_57 lvz_7 dX8_failWithReason_1 (congrArg vI (by first | exact hn | simp [up3, hn])) ?_
  refine x_if_eq_F (tgt := 13) h (by omega) dX8_failWithReason_4 (by decide) (by omega) ?_
  refine x_aload_n h dX8_failWithReason_7 rfl ?_
  refine x_bipush h dX8_failWithReason_8 (by decide) ?_
  refine x_cV0 h kVX8_addReason lkX8_217 ⟨_, _, _, rfl, rfl⟩ dX8_failWithReason_10 (c_addReason (d := d) (n := n) hm hm2) lvz_7 rfl rfl (Nat.le_of_ble_eq_true rfl) (by omega) ?_
  refine x_aload_n h dX8_failWithReason_13 rfl ?_
  refine x_iconst h dX8_failWithReason_14 ?_
  refine x_put h fl_8_57 lvz_7 dX8_failWithReason_15 rfl (fun _ => by omega) ?_
  refine x_iconst h dX8_failWithReason_18 ?_
  exact x_ireturn h hr dX8_failWithReason_19 (Or.inr ⟨rfl, by omega⟩) ⟨Nat.le_refl _, Nat.le_refl _⟩
def pushS (σ : Mm) (w : Nat) (x : Int) : Mm := up3 (up3 σ 19 0 w x) 7 0 7 (w + 1)
theorem c_push {d : Nat} {σ : Mm} {w : Nat} {x : Int} (hw : σ 7 0 7 = w) (hw2 : w < 288) : Ct (d + 1) mX8_push 1 [vR 7 0, vL x] NALL σ none NALL (pushS σ w x) 0 0 := by
  refine ct_of (by decide) (Nat.le_of_ble_eq_true rfl) (fun C h hr _ => ?_)
  have h : Ok C RX8 cX8_push 3 _ := h
  refine x_aload_n h dX8_push_0 rfl ?_
  refine x_get h fl_8_39 lvz_7 dX8_push_1 (pvf_519 _ _) ?_
  refine x_aload_n h dX8_push_4 rfl ?_
  refine x_get (q := vI (w)) h fl_8_43 lvz_7 dX8_push_5 (congrArg vI (by first | exact hw | simp [up3, hw])) ?_
  refine x_lload_n h dX8_push_8 rfl ?_
  refine x_cN0 h kSX9_put_ lkNX8_190 dX8_push_9 (c_putL (d := d) kdf_19 lvz_19 hw2) rfl rfl (Nat.le_of_ble_eq_true rfl) (by omega) ?_
  refine x_aload_n h dX8_push_12 rfl ?_
  refine x_dup h dX8_push_13 rfl ?_
  refine x_get (q := vI (w)) h fl_8_43 lvz_7 dX8_push_14 (congrArg vI (by first | exact hw | simp [up3, hw])) ?_
  refine x_iconst h dX8_push_17 ?_
  refine x_iadd h dX8_push_18 ?_
  refine x_put h fl_8_43 lvz_7 dX8_push_19 rfl (fun z => absurd z (by decide)) ?_
  exact x_return h hr dX8_push_22 ⟨Nat.le_refl _, Nat.le_refl _⟩
theorem c_pop {d : Nat} {σ : Mm} {w : Nat} (hw : σ 7 0 7 = ((w + 1 : Nat) : Int)) (hw2 : w < 288) : Ct (d + 1) mX8_pop 1 [vR 7 0] NALL σ (some (vL (σ 19 0 w))) NALL (up3 σ 7 0 7 w) 0 0 := by
  refine ct_of (by decide) (Nat.le_of_ble_eq_true rfl) (fun C h hr _ => ?_)
  have h : Ok C RX8 cX8_pop 1 _ := h
  have e : ((w + 1 : Nat) : Int) - 1 = w := by omega
  refine x_aload_n h dX8_pop_0 rfl ?_
  refine x_dup h dX8_pop_1 rfl ?_
  refine x_get (q := vI (((w + 1 : Nat) : Int))) h fl_8_43 lvz_7 dX8_pop_2 (congrArg vI (by first | exact hw | simp [up3, hw])) ?_
  refine x_iconst h dX8_pop_5 ?_
  refine x_isub h dX8_pop_6 ?_
  rw [e]
  refine x_put h fl_8_43 lvz_7 dX8_pop_7 rfl (fun z => absurd z (by decide)) ?_
  refine x_aload_n h dX8_pop_10 rfl ?_
  refine x_get h fl_8_39 lvz_7 dX8_pop_11 (pvf_519 _ _) ?_
  refine x_aload_n h dX8_pop_14 rfl ?_
  refine x_get (q := vI (w)) h fl_8_43 lvz_7 dX8_pop_15 (congrArg vI (by first | exact up3_s _ _ _ _ _ | simp [up3, up3_s _ _ _ _ _])) ?_
  refine x_cN1 h kSX9_at_ lkNX8_116 dX8_pop_18 (c_atL (d := d) (k := w) kdf_19 lvz_19 hw2) rfl rfl (Nat.le_of_ble_eq_true rfl) (by omega) ?_
  exact x_lreturn h hr dX8_pop_21 ⟨Nat.le_refl _, Nat.le_refl _⟩
/-- two numbers wait at w: l, then r -/
theorem c_workOutPair {d : Nat} {σ : Mm} {w : Nat} {op l r : Int} (hop : op = 43 ∨ op = 45 ∨ op = 42 ∨ op = 47 ∨ op = 37 ∨ op = 60) (hw : σ 7 0 7 = ((w + 2 : Nat) : Int)) (hw2 : w + 1 < 288) (hl : σ 19 0 w = l) (hr2 : σ 19 0 (w + 1) = r) (hl2 : i64 l) (hr3 : i64 r) (hn : σ 7 0 10 = 0) :
    match binF op l r with
    | none => Ct (d + 3) mX8_workOutPair 1 [vR 7 0, vI op] NALL σ (some (vI 0)) NALL (addRS (up3 σ 7 0 7 w) 0 1) 0 0
    | some v => Ct (d + 3) mX8_workOutPair 1 [vR 7 0, vI op] NALL σ (some (vI 1)) NALL (pushS (up3 σ 7 0 7 w) w v) 0 0 := by
  unfold i64 at hl2 hr3
  have hp1 := c_pop (d := d + 1) (σ := σ) (w := w + 1) hw (by omega)
  rw [hr2] at hp1
  have hp2 := c_pop (d := d + 1) (σ := up3 σ 7 0 7 ((w + 1 : Nat) : Int)) (w := w) (up3_s _ _ _ _ _) (by omega)
  rw [up3_f _ _ (by decide), hl, up3_up3] at hp2
  have hw7 : up3 σ 7 0 7 (w : Int) 7 0 7 = w := up3_s _ _ _ _ _
  have hn7 : up3 σ 7 0 7 (w : Int) 7 0 10 = 0 := by rw [up3_j _ _ (by decide)]; exact hn
  have hpush := fun v => c_push (d := d + 1) (x := v) hw7 (by omega)
  have hfail := c_fail (d := d) (why := 1) hn7
  rcases hop with rfl | rfl | rfl | rfl | rfl | rfl
  · show Ct (d + 3) mX8_workOutPair 1 [vR 7 0, vI 43] NALL σ (some (vI 1)) NALL (pushS (up3 σ 7 0 7 w) w (w64 (l + r))) 0 0
    refine ct_of (by decide) (Nat.le_of_ble_eq_true rfl) (fun C h hr _ => ?_)
    have h : Ok C RX8 cX8_workOutPair 6 _ := h
    refine x_aload_n h dX8_workOutPair_0 rfl ?_
    refine x_cV1 h kVX8_pop lkX8_186 ⟨_, _, _, rfl, rfl⟩ dX8_workOutPair_1 (hp1) lvz_7 rfl rfl (Nat.le_of_ble_eq_true rfl) (by omega) ?_
    refine x_lstore_n h dX8_workOutPair_4 (by decide) ?_
    refine x_aload_n h dX8_workOutPair_5 rfl ?_
    refine x_cV1 h kVX8_pop lkX8_186 ⟨_, _, _, rfl, rfl⟩ dX8_workOutPair_6 (hp2) lvz_7 rfl rfl (Nat.le_of_ble_eq_true rfl) (by omega) ?_
    refine x_lstore h dX8_workOutPair_9 (by decide) ?_
    refine x_iload_n h dX8_workOutPair_11 rfl ?_
    refine x_ls (tgt := 56) h dX8_workOutPair_12 (by decide) (by omega) (off := 44) (by rfl) (by decide) ?_
    refine x_aload_n h dX8_workOutPair_56 rfl ?_
    refine x_lload h dX8_workOutPair_57 rfl ?_
    refine x_lload_n h dX8_workOutPair_59 rfl ?_
    refine x_ladd h dX8_workOutPair_60 ?_
    refine x_wL ?_
    refine x_cV0 h kVX8_push lkX8_205 ⟨_, _, _, rfl, rfl⟩ dX8_workOutPair_61 (hpush _) lvz_7 rfl rfl (Nat.le_of_ble_eq_true rfl) (by omega) ?_
    refine x_iconst h dX8_workOutPair_64 ?_
    exact x_ireturn h hr dX8_workOutPair_65 (Or.inr ⟨rfl, by omega⟩) ⟨Nat.le_refl _, Nat.le_refl _⟩
  · show Ct (d + 3) mX8_workOutPair 1 [vR 7 0, vI 45] NALL σ (some (vI 1)) NALL (pushS (up3 σ 7 0 7 w) w (w64 (l - r))) 0 0
    refine ct_of (by decide) (Nat.le_of_ble_eq_true rfl) (fun C h hr _ => ?_)
    have h : Ok C RX8 cX8_workOutPair 6 _ := h
    refine x_aload_n h dX8_workOutPair_0 rfl ?_
    refine x_cV1 h kVX8_pop lkX8_186 ⟨_, _, _, rfl, rfl⟩ dX8_workOutPair_1 (hp1) lvz_7 rfl rfl (Nat.le_of_ble_eq_true rfl) (by omega) ?_
    refine x_lstore_n h dX8_workOutPair_4 (by decide) ?_
    refine x_aload_n h dX8_workOutPair_5 rfl ?_
    refine x_cV1 h kVX8_pop lkX8_186 ⟨_, _, _, rfl, rfl⟩ dX8_workOutPair_6 (hp2) lvz_7 rfl rfl (Nat.le_of_ble_eq_true rfl) (by omega) ?_
    refine x_lstore h dX8_workOutPair_9 (by decide) ?_
    refine x_iload_n h dX8_workOutPair_11 rfl ?_
    refine x_ls (tgt := 66) h dX8_workOutPair_12 (by decide) (by omega) (off := 54) (by rfl) (by decide) ?_
    refine x_aload_n h dX8_workOutPair_66 rfl ?_
    refine x_lload h dX8_workOutPair_67 rfl ?_
    refine x_lload_n h dX8_workOutPair_69 rfl ?_
    refine x_lsub h dX8_workOutPair_70 ?_
    refine x_wL ?_
    refine x_cV0 h kVX8_push lkX8_205 ⟨_, _, _, rfl, rfl⟩ dX8_workOutPair_71 (hpush _) lvz_7 rfl rfl (Nat.le_of_ble_eq_true rfl) (by omega) ?_
    refine x_iconst h dX8_workOutPair_74 ?_
    exact x_ireturn h hr dX8_workOutPair_75 (Or.inr ⟨rfl, by omega⟩) ⟨Nat.le_refl _, Nat.le_refl _⟩
  · show Ct (d + 3) mX8_workOutPair 1 [vR 7 0, vI 42] NALL σ (some (vI 1)) NALL (pushS (up3 σ 7 0 7 w) w (w64 (l * r))) 0 0
    refine ct_of (by decide) (Nat.le_of_ble_eq_true rfl) (fun C h hr _ => ?_)
    have h : Ok C RX8 cX8_workOutPair 6 _ := h
    refine x_aload_n h dX8_workOutPair_0 rfl ?_
    refine x_cV1 h kVX8_pop lkX8_186 ⟨_, _, _, rfl, rfl⟩ dX8_workOutPair_1 (hp1) lvz_7 rfl rfl (Nat.le_of_ble_eq_true rfl) (by omega) ?_
    refine x_lstore_n h dX8_workOutPair_4 (by decide) ?_
    refine x_aload_n h dX8_workOutPair_5 rfl ?_
    refine x_cV1 h kVX8_pop lkX8_186 ⟨_, _, _, rfl, rfl⟩ dX8_workOutPair_6 (hp2) lvz_7 rfl rfl (Nat.le_of_ble_eq_true rfl) (by omega) ?_
    refine x_lstore h dX8_workOutPair_9 (by decide) ?_
    refine x_iload_n h dX8_workOutPair_11 rfl ?_
    refine x_ls (tgt := 76) h dX8_workOutPair_12 (by decide) (by omega) (off := 64) (by rfl) (by decide) ?_
    refine x_aload_n h dX8_workOutPair_76 rfl ?_
    refine x_lload h dX8_workOutPair_77 rfl ?_
    refine x_lload_n h dX8_workOutPair_79 rfl ?_
    refine x_lmul h dX8_workOutPair_80 ?_
    refine x_wL ?_
    refine x_cV0 h kVX8_push lkX8_205 ⟨_, _, _, rfl, rfl⟩ dX8_workOutPair_81 (hpush _) lvz_7 rfl rfl (Nat.le_of_ble_eq_true rfl) (by omega) ?_
    refine x_iconst h dX8_workOutPair_84 ?_
    exact x_ireturn h hr dX8_workOutPair_85 (Or.inr ⟨rfl, by omega⟩) ⟨Nat.le_refl _, Nat.le_refl _⟩
  · by_cases hr0 : r = 0
    · rw [show binF 47 l r = none by unfold binF; rw [if_neg (by decide), if_neg (by decide), if_neg (by decide), if_neg (by decide), if_pos hr0]]
      show Ct (d + 3) mX8_workOutPair 1 [vR 7 0, vI 47] NALL σ (some (vI 0)) NALL (addRS (up3 σ 7 0 7 w) 0 1) 0 0
      refine ct_of (by decide) (Nat.le_of_ble_eq_true rfl) (fun C h hr _ => ?_)
      have h : Ok C RX8 cX8_workOutPair 6 _ := h
      refine x_aload_n h dX8_workOutPair_0 rfl ?_
      refine x_cV1 h kVX8_pop lkX8_186 ⟨_, _, _, rfl, rfl⟩ dX8_workOutPair_1 (hp1) lvz_7 rfl rfl (Nat.le_of_ble_eq_true rfl) (by omega) ?_
      refine x_lstore_n h dX8_workOutPair_4 (by decide) ?_
      refine x_aload_n h dX8_workOutPair_5 rfl ?_
      refine x_cV1 h kVX8_pop lkX8_186 ⟨_, _, _, rfl, rfl⟩ dX8_workOutPair_6 (hp2) lvz_7 rfl rfl (Nat.le_of_ble_eq_true rfl) (by omega) ?_
      refine x_lstore h dX8_workOutPair_9 (by decide) ?_
      refine x_iload_n h dX8_workOutPair_11 rfl ?_
      refine x_ls (tgt := 104) h dX8_workOutPair_12 (by decide) (by omega) (off := 92) (by rfl) (by decide) ?_
      refine x_lload_n h dX8_workOutPair_104 rfl ?_
      refine x_lconst0 h dX8_workOutPair_105 ?_
      refine x_lc_ne (tgt := 116) h (by omega) dX8_workOutPair_106 dX8_workOutPair_107 (by decide) (fun q => absurd q (by omega)) (fun _ => ?_)
      refine x_aload_n h dX8_workOutPair_110 rfl ?_
      refine x_iconst h dX8_workOutPair_111 ?_
      refine x_cV1 h kVX8_fail lkX8_96 ⟨_, _, _, rfl, rfl⟩ dX8_workOutPair_112 (hfail) lvz_7 rfl rfl (Nat.le_of_ble_eq_true rfl) (by omega) ?_
      exact x_ireturn h hr dX8_workOutPair_115 (Or.inr ⟨rfl, by omega⟩) ⟨Nat.le_refl _, Nat.le_refl _⟩
    · rw [show binF 47 l r = some (w64 (Int.tdiv l r)) by unfold binF; rw [if_neg (by decide), if_neg (by decide), if_neg (by decide), if_neg (by decide), if_neg hr0, if_pos rfl]]
      show Ct (d + 3) mX8_workOutPair 1 [vR 7 0, vI 47] NALL σ (some (vI 1)) NALL (pushS (up3 σ 7 0 7 w) w (w64 (Int.tdiv l r))) 0 0
      refine ct_of (by decide) (Nat.le_of_ble_eq_true rfl) (fun C h hr _ => ?_)
      have h : Ok C RX8 cX8_workOutPair 6 _ := h
      refine x_aload_n h dX8_workOutPair_0 rfl ?_
      refine x_cV1 h kVX8_pop lkX8_186 ⟨_, _, _, rfl, rfl⟩ dX8_workOutPair_1 (hp1) lvz_7 rfl rfl (Nat.le_of_ble_eq_true rfl) (by omega) ?_
      refine x_lstore_n h dX8_workOutPair_4 (by decide) ?_
      refine x_aload_n h dX8_workOutPair_5 rfl ?_
      refine x_cV1 h kVX8_pop lkX8_186 ⟨_, _, _, rfl, rfl⟩ dX8_workOutPair_6 (hp2) lvz_7 rfl rfl (Nat.le_of_ble_eq_true rfl) (by omega) ?_
      refine x_lstore h dX8_workOutPair_9 (by decide) ?_
      refine x_iload_n h dX8_workOutPair_11 rfl ?_
      refine x_ls (tgt := 104) h dX8_workOutPair_12 (by decide) (by omega) (off := 92) (by rfl) (by decide) ?_
      refine x_lload_n h dX8_workOutPair_104 rfl ?_
      refine x_lconst0 h dX8_workOutPair_105 ?_
      refine x_lc_ne (tgt := 116) h (by omega) dX8_workOutPair_106 dX8_workOutPair_107 (by decide) (fun _ => ?_) (fun q => absurd (by omega) q)
      refine x_aload_n h dX8_workOutPair_116 rfl ?_
      refine x_iload_n h dX8_workOutPair_117 rfl ?_
      refine x_bipush h dX8_workOutPair_118 (by decide) ?_
      refine x_ic_ne_F (tgt := 130) h (by omega) dX8_workOutPair_120 (by decide) (by omega) ?_
      refine x_lload h dX8_workOutPair_123 rfl ?_
      refine x_lload_n h dX8_workOutPair_125 rfl ?_
      refine x_ldiv h (by omega) dX8_workOutPair_126 ?_
      refine x_goto (tgt := 134) h dX8_workOutPair_127 (by decide) ?_
      refine x_wL ?_
      refine x_cV0 h kVX8_push lkX8_205 ⟨_, _, _, rfl, rfl⟩ dX8_workOutPair_134 (hpush _) lvz_7 rfl rfl (Nat.le_of_ble_eq_true rfl) (by omega) ?_
      refine x_iconst h dX8_workOutPair_137 ?_
      exact x_ireturn h hr dX8_workOutPair_138 (Or.inr ⟨rfl, by omega⟩) ⟨Nat.le_refl _, Nat.le_refl _⟩
  · by_cases hr0 : r = 0
    · rw [show binF 37 l r = none by unfold binF; rw [if_neg (by decide), if_neg (by decide), if_neg (by decide), if_neg (by decide), if_pos hr0]]
      show Ct (d + 3) mX8_workOutPair 1 [vR 7 0, vI 37] NALL σ (some (vI 0)) NALL (addRS (up3 σ 7 0 7 w) 0 1) 0 0
      refine ct_of (by decide) (Nat.le_of_ble_eq_true rfl) (fun C h hr _ => ?_)
      have h : Ok C RX8 cX8_workOutPair 6 _ := h
      refine x_aload_n h dX8_workOutPair_0 rfl ?_
      refine x_cV1 h kVX8_pop lkX8_186 ⟨_, _, _, rfl, rfl⟩ dX8_workOutPair_1 (hp1) lvz_7 rfl rfl (Nat.le_of_ble_eq_true rfl) (by omega) ?_
      refine x_lstore_n h dX8_workOutPair_4 (by decide) ?_
      refine x_aload_n h dX8_workOutPair_5 rfl ?_
      refine x_cV1 h kVX8_pop lkX8_186 ⟨_, _, _, rfl, rfl⟩ dX8_workOutPair_6 (hp2) lvz_7 rfl rfl (Nat.le_of_ble_eq_true rfl) (by omega) ?_
      refine x_lstore h dX8_workOutPair_9 (by decide) ?_
      refine x_iload_n h dX8_workOutPair_11 rfl ?_
      refine x_ls (tgt := 104) h dX8_workOutPair_12 (by decide) (by omega) (off := 92) (by rfl) (by decide) ?_
      refine x_lload_n h dX8_workOutPair_104 rfl ?_
      refine x_lconst0 h dX8_workOutPair_105 ?_
      refine x_lc_ne (tgt := 116) h (by omega) dX8_workOutPair_106 dX8_workOutPair_107 (by decide) (fun q => absurd q (by omega)) (fun _ => ?_)
      refine x_aload_n h dX8_workOutPair_110 rfl ?_
      refine x_iconst h dX8_workOutPair_111 ?_
      refine x_cV1 h kVX8_fail lkX8_96 ⟨_, _, _, rfl, rfl⟩ dX8_workOutPair_112 (hfail) lvz_7 rfl rfl (Nat.le_of_ble_eq_true rfl) (by omega) ?_
      exact x_ireturn h hr dX8_workOutPair_115 (Or.inr ⟨rfl, by omega⟩) ⟨Nat.le_refl _, Nat.le_refl _⟩
    · rw [show binF 37 l r = some (w64 (l - Int.tdiv l r * r)) by unfold binF; rw [if_neg (by decide), if_neg (by decide), if_neg (by decide), if_neg (by decide), if_neg hr0, if_neg (by decide)]]
      show Ct (d + 3) mX8_workOutPair 1 [vR 7 0, vI 37] NALL σ (some (vI 1)) NALL (pushS (up3 σ 7 0 7 w) w (w64 (l - Int.tdiv l r * r))) 0 0
      refine ct_of (by decide) (Nat.le_of_ble_eq_true rfl) (fun C h hr _ => ?_)
      have h : Ok C RX8 cX8_workOutPair 6 _ := h
      refine x_aload_n h dX8_workOutPair_0 rfl ?_
      refine x_cV1 h kVX8_pop lkX8_186 ⟨_, _, _, rfl, rfl⟩ dX8_workOutPair_1 (hp1) lvz_7 rfl rfl (Nat.le_of_ble_eq_true rfl) (by omega) ?_
      refine x_lstore_n h dX8_workOutPair_4 (by decide) ?_
      refine x_aload_n h dX8_workOutPair_5 rfl ?_
      refine x_cV1 h kVX8_pop lkX8_186 ⟨_, _, _, rfl, rfl⟩ dX8_workOutPair_6 (hp2) lvz_7 rfl rfl (Nat.le_of_ble_eq_true rfl) (by omega) ?_
      refine x_lstore h dX8_workOutPair_9 (by decide) ?_
      refine x_iload_n h dX8_workOutPair_11 rfl ?_
      refine x_ls (tgt := 104) h dX8_workOutPair_12 (by decide) (by omega) (off := 92) (by rfl) (by decide) ?_
      refine x_lload_n h dX8_workOutPair_104 rfl ?_
      refine x_lconst0 h dX8_workOutPair_105 ?_
      refine x_lc_ne (tgt := 116) h (by omega) dX8_workOutPair_106 dX8_workOutPair_107 (by decide) (fun _ => ?_) (fun q => absurd (by omega) q)
      refine x_aload_n h dX8_workOutPair_116 rfl ?_
      refine x_iload_n h dX8_workOutPair_117 rfl ?_
      refine x_bipush h dX8_workOutPair_118 (by decide) ?_
      refine x_ic_ne_T (tgt := 130) h (by omega) dX8_workOutPair_120 (by decide) (by omega) ?_
      refine x_lload h dX8_workOutPair_130 rfl ?_
      refine x_lload_n h dX8_workOutPair_132 rfl ?_
      refine x_lrem h (by omega) dX8_workOutPair_133 ?_
      refine x_wL ?_
      refine x_cV0 h kVX8_push lkX8_205 ⟨_, _, _, rfl, rfl⟩ dX8_workOutPair_134 (hpush _) lvz_7 rfl rfl (Nat.le_of_ble_eq_true rfl) (by omega) ?_
      refine x_iconst h dX8_workOutPair_137 ?_
      exact x_ireturn h hr dX8_workOutPair_138 (Or.inr ⟨rfl, by omega⟩) ⟨Nat.le_refl _, Nat.le_refl _⟩
  · show Ct (d + 3) mX8_workOutPair 1 [vR 7 0, vI 60] NALL σ (some (vI 1)) NALL (pushS (up3 σ 7 0 7 w) w (if l < r then 1 else 0)) 0 0
    refine ct_of (by decide) (Nat.le_of_ble_eq_true rfl) (fun C h hr _ => ?_)
    have h : Ok C RX8 cX8_workOutPair 6 _ := h
    refine x_aload_n h dX8_workOutPair_0 rfl ?_
    refine x_cV1 h kVX8_pop lkX8_186 ⟨_, _, _, rfl, rfl⟩ dX8_workOutPair_1 (hp1) lvz_7 rfl rfl (Nat.le_of_ble_eq_true rfl) (by omega) ?_
    refine x_lstore_n h dX8_workOutPair_4 (by decide) ?_
    refine x_aload_n h dX8_workOutPair_5 rfl ?_
    refine x_cV1 h kVX8_pop lkX8_186 ⟨_, _, _, rfl, rfl⟩ dX8_workOutPair_6 (hp2) lvz_7 rfl rfl (Nat.le_of_ble_eq_true rfl) (by omega) ?_
    refine x_lstore h dX8_workOutPair_9 (by decide) ?_
    refine x_iload_n h dX8_workOutPair_11 rfl ?_
    refine x_ls (tgt := 86) h dX8_workOutPair_12 (by decide) (by omega) (off := 74) (by rfl) (by decide) ?_
    refine x_aload_n h dX8_workOutPair_86 rfl ?_
    refine x_lload h dX8_workOutPair_87 rfl ?_
    refine x_lload_n h dX8_workOutPair_89 rfl ?_
    refine x_lc_ge (tgt := 98) h (by omega) dX8_workOutPair_90 dX8_workOutPair_91 (by decide) (fun hc => ?_) (fun hc => ?_)
    · rw [if_neg (by omega)] at hr
      refine x_lconst0 h dX8_workOutPair_98 ?_
      refine x_cV0 h kVX8_push lkX8_205 ⟨_, _, _, rfl, rfl⟩ dX8_workOutPair_99 (hpush _) lvz_7 rfl rfl (Nat.le_of_ble_eq_true rfl) (by omega) ?_
      refine x_iconst h dX8_workOutPair_102 ?_
      exact x_ireturn h hr dX8_workOutPair_103 (Or.inr ⟨rfl, by omega⟩) ⟨Nat.le_refl _, Nat.le_refl _⟩
    · rw [if_pos (by omega)] at hr
      refine x_lconst1 h dX8_workOutPair_94 ?_
      refine x_goto (tgt := 99) h dX8_workOutPair_95 (by decide) ?_
      refine x_cV0 h kVX8_push lkX8_205 ⟨_, _, _, rfl, rfl⟩ dX8_workOutPair_99 (hpush _) lvz_7 rfl rfl (Nat.le_of_ble_eq_true rfl) (by omega) ?_
      refine x_iconst h dX8_workOutPair_102 ?_
      exact x_ireturn h hr dX8_workOutPair_103 (Or.inr ⟨rfl, by omega⟩) ⟨Nat.le_refl _, Nat.le_refl _⟩
/-! the picture D and the class's memory, text t -/
def dyn (f k j : Nat) : Prop := (f = 5 ∧ k < 12 ∧ j = 8) ∨ (f = 17 ∧ k < 12 ∧ j < 25) ∨ (f = 16 ∧ k < 12 ∧ j < 200) ∨ (f = 8 ∧ k < 2 ∧ j = 1) ∨ (f = 18 ∧ k < 2 ∧ j < 400)
def trk (t f k : Nat) : Nat := if f = 5 ∨ f = 16 ∨ f = 17 then 12 * t + k else k
def HC (t : Nat) (D σ : Mm) : Prop := ∀ f k j, dyn f k j → σ f (trk t f k) j = D f k j
theorem trk_inj {t f k k' : Nat} (h : trk t f k = trk t f k') : k = k' := by
  unfold trk at h
  split at h <;> omega
theorem HC_up {t : Nat} {D σ : Mm} (h : HC t D σ) (f k j : Nat) (x : Int) : HC t (up3 D f k j x) (up3 σ f (trk t f k) j x) := by
  intro f' k' j' hd
  unfold up3
  by_cases q : f' = f ∧ k' = k ∧ j' = j
  · obtain ⟨rfl, rfl, rfl⟩ := q
    rw [if_pos ⟨rfl, rfl, rfl⟩, if_pos ⟨rfl, rfl, rfl⟩]
  · rw [if_neg q, if_neg (fun z => q (by obtain ⟨rfl, z2, z3⟩ := z; exact ⟨rfl, trk_inj z2, z3⟩))]
    exact h f' k' j' hd
theorem HC_no {t : Nat} {D σ : Mm} (h : HC t D σ) {f k j : Nat} {x : Int} (hn : ¬ (f = 5 ∧ j = 8 ∨ f = 17 ∨ f = 16 ∨ f = 8 ∧ j = 1 ∨ f = 18)) : HC t D (up3 σ f k j x) := by
  intro f' k' j' hd
  have e : up3 σ f k j x f' (trk t f' k') j' = σ f' (trk t f' k') j' := by
    unfold up3
    rw [if_neg (fun z => hn (by unfold dyn at hd; omega))]
  rw [e]
  exact h f' k' j' hd
theorem HC_note {t : Nat} {D σ : Mm} (h : HC t D σ) {m : Nat} (x0 x1 x2 x3 : Int) (hm : m < 2) : HC t (bNote D m x0 x1 x2 x3) (noteS σ m (D 8 m 1).toNat x0 x1 x2 x3) := by
  unfold bNote noteS
  split
  · exact HC_up (HC_up (HC_up (HC_up (HC_up h 18 m _ _) 18 m _ _) 18 m _ _) 18 m _ _) 8 m 1 _
  · exact HC_up h 8 m 1 _
theorem HC_clear {t : Nat} {D σ : Mm} (h : HC t D σ) (k : Nat) : HC t (zeroA D 16 k 200) (zeroA σ 16 (12 * t + k) 200) := by
  intro f' k' j' hd
  unfold zeroA
  by_cases q : f' = 16 ∧ k' = k ∧ j' < 200
  · obtain ⟨rfl, rfl, q3⟩ := q
    rw [if_pos ⟨rfl, rfl, q3⟩, if_pos ⟨rfl, rfl, q3⟩]
  · rw [if_neg q, if_neg (fun z => q (by obtain ⟨rfl, z2, z3⟩ := z; exact ⟨rfl, by unfold trk at z2; rw [if_pos (by omega)] at z2; omega, z3⟩))]
    exact h f' k' j' hd
/-- what the class holds of the TEXT in use -/
def KC (t n : Nat) (S : Sd) (σ : Mm) : Prop := t < 2 ∧ σ 4 t 1 = n ∧ σ 7 0 5 = t ∧ ∀ k, k < n → TabOk σ (12 * t + k) (S k) ∧ FormOk σ (12 * t + k) (sCd S k)
def FrW (t : Nat) (σ' σ : Mm) : Prop := ∀ f k j, ¬ ((f = 5 ∧ j = 8 ∧ 12 * t ≤ k ∧ k < 12 * t + 12) ∨ ((f = 16 ∨ f = 17) ∧ 12 * t ≤ k ∧ k < 12 * t + 12) ∨ (f = 8 ∧ j = 1) ∨ f = 18 ∨ (f = 9 ∧ k = 1) ∨ (f = 7 ∧ (j = 3 ∨ j = 7 ∨ j = 8 ∨ j = 10 ∨ j = 11)) ∨ f = 19 ∨ f = 20) → σ' f k j = σ f k j
theorem FrW_refl (t : Nat) (σ : Mm) : FrW t σ σ := fun _ _ _ _ => rfl
theorem FrW_tr {t : Nat} {a b c : Mm} (h : FrW t a b) (h' : FrW t b c) : FrW t a c := fun f k j hf => (h f k j hf).trans (h' f k j hf)
theorem FrW_up {t : Nat} {σ' σ : Mm} (h : FrW t σ' σ) {f k j : Nat} (x : Int) (hf : (f = 5 ∧ j = 8 ∧ 12 * t ≤ k ∧ k < 12 * t + 12) ∨ ((f = 16 ∨ f = 17) ∧ 12 * t ≤ k ∧ k < 12 * t + 12) ∨ (f = 8 ∧ j = 1) ∨ f = 18 ∨ (f = 9 ∧ k = 1) ∨ (f = 7 ∧ (j = 3 ∨ j = 7 ∨ j = 8 ∨ j = 10 ∨ j = 11)) ∨ f = 19 ∨ f = 20) : FrW t (up3 σ' f k j x) σ := by
  intro f' k' j' hn
  have e : up3 σ' f k j x f' k' j' = σ' f' k' j' := by
    unfold up3
    rw [if_neg (fun z => hn (by obtain ⟨rfl, rfl, rfl⟩ := z; exact hf))]
  rw [e]
  exact h f' k' j' hn
theorem FrW_note {t : Nat} {σ' σ : Mm} (h : FrW t σ' σ) (m b : Nat) (x0 x1 x2 x3 : Int) : FrW t (noteS σ' m b x0 x1 x2 x3) σ := by
  unfold noteS
  split
  · exact FrW_up (FrW_up (FrW_up (FrW_up (FrW_up h _ (by omega)) _ (by omega)) _ (by omega)) _ (by omega)) _ (by omega)
  · exact FrW_up h _ (by omega)
theorem KC_fr {t n : Nat} {S : Sd} {σ σ' : Mm} (h : KC t n S σ) (hf : FrW t σ' σ) : KC t n S σ' := by
  obtain ⟨h1, h2, h3, h4⟩ := h
  refine ⟨h1, by rw [hf _ _ _ (by omega)]; exact h2, by rw [hf _ _ _ (by omega)]; exact h3, fun k hk => ?_⟩
  obtain ⟨⟨t1, t2, t3, t4, t5⟩, f1, f2⟩ := h4 k hk
  refine ⟨⟨by rw [hf _ _ _ (by omega)]; exact t1, by rw [hf _ _ _ (by omega)]; exact t2, by rw [hf _ _ _ (by omega)]; exact t3, by rw [hf _ _ _ (by omega)]; exact t4, fun z => by rw [hf _ _ _ (by omega)]; exact t5 z⟩, by rw [hf _ _ _ (by omega)]; exact f1, fun j hj => ?_⟩
  obtain ⟨g1, g2, g3⟩ := f2 j hj
  exact ⟨by rw [hf _ _ _ (by omega)]; exact g1, by rw [hf _ _ _ (by omega)]; exact g2, by rw [hf _ _ _ (by omega)]; exact g3⟩
/-- u are under way, w numbers wait, nothing failed -/
def WS (u w : Nat) (σ : Mm) : Prop := σ 7 0 8 = u ∧ σ 7 0 7 = w ∧ σ 7 0 10 = 0 ∧ σ 7 0 11 = 0
/-- what a failure leaves behind -/
def WF (u : Nat) (why : Int) (m : Nat) (σ : Mm) : Prop := σ 7 0 8 = u ∧ σ 7 0 10 = ((if m = 0 then 1 else m : Nat) : Int) ∧ σ 7 0 11 = (if m = 0 then 0 else 1) ∧ σ 20 0 0 = why ∧ ∀ i, 1 ≤ i → i < m → σ 20 0 i = 7
def LowW (w : Nat) (σ' σ : Mm) : Prop := ∀ j, j < w → σ' 19 0 j = σ 19 0 j
/-- the answer b with memory σ' is what the spec says; g : also got -/
def WRes (t : Nat) (σ : Mm) (u w : Nat) (g : Bool) (res : ER) (b : Int) (σ' : Mm) : Prop := FrW t σ' σ ∧ match res with
  | .inl (why, m, D') => b = 0 ∧ HC t D' σ' ∧ WF u why m σ'
  | .inr (v, D') => b = 1 ∧ HC t D' σ' ∧ WS u w σ' ∧ LowW w σ' σ ∧ (g = true → σ' 7 0 3 = v)
/-- all that holds as a method of the workshop begins -/
def WOk (t n : Nat) (S : Sd) (D : Mm) (u w : Nat) (σ : Mm) : Prop := HC t D σ ∧ KC t n S σ ∧ WS u w σ ∧ DW S D
theorem WS_no {u w : Nat} {σ : Mm} (h : WS u w σ) {f k j : Nat} {x : Int} (hn : ¬ (f = 7 ∧ (j = 7 ∨ j = 8 ∨ j = 10 ∨ j = 11))) : WS u w (up3 σ f k j x) := by
  obtain ⟨h1, h2, h3, h4⟩ := h
  refine ⟨?_, ?_, ?_, ?_⟩
  · rw [show up3 σ f k j x 7 0 8 = σ 7 0 8 by unfold up3; rw [if_neg (by omega)]]; exact h1
  · rw [show up3 σ f k j x 7 0 7 = σ 7 0 7 by unfold up3; rw [if_neg (by omega)]]; exact h2
  · rw [show up3 σ f k j x 7 0 10 = σ 7 0 10 by unfold up3; rw [if_neg (by omega)]]; exact h3
  · rw [show up3 σ f k j x 7 0 11 = σ 7 0 11 by unfold up3; rw [if_neg (by omega)]]; exact h4
/-- a failure right here -/
theorem WRes_fail {t u w : Nat} {σ τ : Mm} {g : Bool} {D : Mm} {why : Int} (hfr : FrW t τ σ) (hc : HC t D τ) (h8 : τ 7 0 8 = u) (h11 : τ 7 0 11 = 0) : WRes t σ u w g (.inl (why, 0, D)) 0 (addRS τ 0 why) := by
  unfold addRS
  refine ⟨FrW_up (FrW_up hfr _ (by omega)) _ (by omega), rfl, HC_no (HC_no hc (by omega)) (by omega), ?_, ?_, ?_, ?_, fun i h1 h2 => by omega⟩
  · rw [up3_j _ _ (by decide), up3_f _ _ (by decide)]; exact h8
  · rw [up3_s]; rfl
  · rw [up3_j _ _ (by decide), up3_f _ _ (by decide)]; exact h11
  · rw [up3_f _ _ (by decide), up3_s]
theorem WRes_tr {t u w : Nat} {σ τ σ' : Mm} {g : Bool} {res : ER} {b : Int} (hfr : FrW t τ σ) (hl : LowW w τ σ) (h : WRes t τ u w g res b σ') : WRes t σ u w g res b σ' := by
  obtain ⟨h1, h2⟩ := h
  refine ⟨FrW_tr h1 hfr, ?_⟩
  cases res with
  | inl t => exact h2
  | inr t =>
    obtain ⟨a1, a2, a3, a4, a5⟩ := h2
    exact ⟨a1, a2, a3, fun j hj => (a4 j hj).trans (hl j hj), a5⟩
