/-! the constructor of a text: twelve tables -/
def gT (m i : Nat) : Nat → Int := fun j => if j < i then ((12 * m + j : Nat) : Int) else -1
theorem gT_0 (m : Nat) : gT m 0 = fun _ => -1 := by
  funext j
  unfold gT
  rw [if_neg (by omega)]
theorem gT_s (m i : Nat) : up1 (gT m i) i ((12 * m + i : Nat) : Int) = gT m (i + 1) := by
  funext j
  unfold gT up1
  by_cases h : j = i
  · rw [if_pos h, if_pos (by omega), h]
  · rw [if_neg h]
    show (if j < i then ((12 * m + j : Nat) : Int) else -1) = _
    by_cases h2 : j < i
    · rw [if_pos h2, if_pos (by omega)]
    · rw [if_neg h2, if_neg (by omega)]
theorem gT_12 (m : Nat) : gT m 12 = sF 12 m := by
  funext j
  show (if j < 12 then ((12 * m + j : Nat) : Int) else -1) = (if 12 ≤ 10 then gF 12 m j else if 12 = 12 then (if j < 12 then ((12 * m + j : Nat) : Int) else -1) else 0)
  rw [if_neg (by omega : ¬ (12 : Nat) ≤ 10), if_pos (rfl : (12 : Nat) = 12)]
def g4 (m : Nat) : Nat → Int := up1 (dfl 4) 0 ((m : Nat) : Int)
def at4 (n m : Nat) : Prop := ALL[n]? = some (12, m) ∧ ∀ i, i < 12 → ALL[n + 1 + 7 * i]? = some (5, 12 * m + i) ∧ ALL[n + 1 + 7 * i + 1]? = some (6, 12 * m + i) ∧ ALL[n + 1 + 7 * i + 1 + 1]? = some (13, 12 * m + i) ∧ ALL[n + 1 + 7 * i + 1 + 2]? = some (14, 12 * m + i) ∧ ALL[n + 1 + 7 * i + 1 + 3]? = some (15, 12 * m + i) ∧ ALL[n + 1 + 7 * i + 1 + 4]? = some (16, 12 * m + i) ∧ ALL[n + 1 + 7 * i + 1 + 5]? = some (17, 12 * m + i)
theorem i_X4 {d n m : Nat} {σ : Mm} (hk : Lv n 4 m) (ha : at4 n m) (hσ : ∀ f' k', (f' = 5 ∨ f' = 6 ∨ (12 ≤ f' ∧ f' ≤ 17)) → σ f' k' = sF f' k') : Ct (d + 3) mX4_init 0 [vR 4 m] n (up2 σ 4 m (dfl 4)) none (n + 85) (up2 σ 4 m (sF 4 m)) 85 4596 := by
  refine ct_of (by decide) (Nat.le_of_ble_eq_true rfl) (fun C h hr hI => ?_)
  have h : Ok C RX4 cX4_init 2 _ := h
  have hI := hI rfl
  obtain ⟨hc, hs⟩ := rt_room hr
  obtain ⟨a0, aT⟩ := ha
  have l12 : Lv (n + 1) 12 m := lv_new a0
  have loop : ∀ (c i nn nc ns : Nat) (ls : List (Nat × PV)), i + c = 12 → nn = n + 1 + 7 * i → nc = 1 + 7 * i → ns = 12 + 382 * i → lsub [(0, vR 4 m), (1, vI i)] ls → X C 0 15 ls [] nn (up2 (up2 σ 4 m (g4 m)) 12 m (gT m i)) nc ns := by
    intro c
    induction c with
    | zero =>
      intro i nn nc ns ls hi hn hnc hns hls
      refine x_loc hls ?_
      obtain rfl : i = 12 := by omega
      refine x_iload_n h dX4_init_15 rfl ?_
      refine x_aload_n h dX4_init_16 rfl ?_
      refine x_getF (t := m) h fl_4_11 (by decide) (lv_le hk (by omega)) dX4_init_17 (by rw [up2_o (by omega), up2_s]; rfl) ?_
      refine x_alen h kdf_12 (by decide) (lv_le l12 (by omega)) dX4_init_20 ?_
      refine x_ic_ge_T (tgt := 43) h (by omega) dX4_init_21 (by decide) (by omega) ?_
      rw [gT_12, up2_id (f := 12) (k := m) (g := sF 12 m) (by rw [up2_o (by omega)]; exact hσ _ _ (by omega))]
      refine x_aload_n h dX4_init_43 rfl ?_
      refine x_iconst h dX4_init_44 ?_
      refine x_put h fl_4_18 (lv_le hk (by omega)) dX4_init_45 rfl (fun z => absurd z (by decide)) ?_
      rw [up3_2]
      refine x_mem (inj_gF (f := 4) (k := m) (fun j => ?_)) ?_
      · by_cases hj : j < 2
        · rcases (by omega : j = 0 ∨ j = 1) with rfl | rfl
          · rw [sF_7 (by decide) ty_4_0 (by decide)]
            unfold g4 up1
            rw [if_neg (by decide), if_pos rfl]
          · rw [sF_0 (by decide) ty_4_1 (by decide) (by decide)]
            unfold up1
            rw [if_pos rfl]
        · rw [← out_eq (f := 4) (k := m) (N := 2) (by decide) tl_4 (by omega) (by omega)]
          unfold g4 up1
          rw [if_neg (by omega), if_neg (by omega)]
      obtain rfl : nn = n + 85 := by omega
      exact x_return h hr dX4_init_48 ⟨by omega, by omega⟩
    | succ c ih =>
      intro i nn nc ns ls hi hn hnc hns hls
      subst hn
      obtain ⟨b0, b1, b2, b3, b4, b5, b6⟩ := aT i (by omega)
      refine x_loc hls ?_
      refine x_iload_n h dX4_init_15 rfl ?_
      refine x_aload_n h dX4_init_16 rfl ?_
      refine x_getF (t := m) h fl_4_11 (by decide) (lv_le hk (by omega)) dX4_init_17 (by rw [up2_o (by omega), up2_s]; rfl) ?_
      refine x_alen h kdf_12 (by decide) (lv_le l12 (by omega)) dX4_init_20 ?_
      refine x_ic_ge_F (tgt := 43) h (by omega) dX4_init_21 (by decide) (by omega) ?_
      refine x_aload_n h dX4_init_24 rfl ?_
      refine x_getF (t := m) h fl_4_11 (by decide) (lv_le hk (by omega)) dX4_init_25 (by rw [up2_o (by omega), up2_s]; rfl) ?_
      refine x_iload_n h dX4_init_28 rfl ?_
      refine x_new (f := 5) (k := 12 * m + i) h cl_2 ckX4_9 in2 iz2 b0 dX4_init_29 ⟨by rw [hc]; omega, by rw [hs]; omega⟩ ?_
      refine x_dup h dX4_init_32 rfl ?_
      refine x_callI h kIX2_init lkX4_17 (i_X2 (d := d) (n := n + 1 + 7 * i + 1) (k := 12 * m + i) (lv_new b0) b1 b2 b3 b4 b5 b6 (fun f' k' hp => by rw [up2_o (by omega), up2_o (by omega)]; exact hσ f' k' (by omega))) rfl dX4_init_33 rfl (Nat.le_of_ble_eq_true rfl) (by omega) ⟨by rw [hc]; omega, by rw [hs]; omega⟩ ?_
      rw [up2_id (f := 5) (k := 12 * m + i) (g := sF 5 (12 * m + i)) (by rw [up2_o (by omega), up2_o (by omega)]; exact hσ _ _ (by omega))]
      refine x_aast h kdf_12 (lv_le l12 (by omega)) (lv_le (lv_new b0) (by omega)) dX4_init_36 rfl (by omega) ?_
      rw [up3_2, gT_s]
      refine x_iinc h dX4_init_37 rfl (by decide) ?_
      refine x_goto (tgt := 15) h dX4_init_40 (by decide) ?_
      exact ih (i + 1) _ _ _ _ (by omega) (by omega) (by omega) (by omega) ⟨rfl, rfl, trivial⟩
  refine x_aload_n h dX4_init_0 rfl ?_
  refine x_objinit h (by omega) lkX4_3 dX4_init_1 (Nat.le_of_ble_eq_true rfl) ?_
  refine x_aload_n h dX4_init_4 rfl ?_
  refine x_bipush h dX4_init_5 (by decide) ?_
  refine x_anew (f := 12) (k := m) (len := 12) h kdf_12 ckX4_9 a0 dX4_init_7 rfl (by decide) ⟨by rw [hc]; decide, by rw [hs]; decide⟩ ?_
  refine x_putG (g := 12) (code := 712) (x := ((m : Nat) : Int)) (t := m) h hI fl_4_11 rfl cl_4 (Nat.le_of_ble_eq_true rfl) rfl (lv_le hk (by omega)) dX4_init_10 ?_
  refine x_iconst h dX4_init_13 ?_
  refine x_istore_n h dX4_init_14 (by decide) ?_
  have e : up3 (up2 (up2 σ 4 m (dfl 4)) 12 m (fun _ => -1)) 4 m 0 ((m : Nat) : Int) = up2 (up2 σ 4 m (g4 m)) 12 m (gT m 0) := by
    rw [gT_0]
    funext f' k' j'
    unfold up3 up2 g4 up1
    by_cases h12 : f' = 12 ∧ k' = m
    · rw [if_neg (by omega), if_pos h12, if_pos h12]
    · rw [if_neg h12, if_neg h12]
      by_cases h4 : f' = 4 ∧ k' = m
      · rw [if_pos h4, if_pos h4]
        by_cases hj : j' = 0
        · rw [if_pos ⟨h4.1, h4.2, hj⟩, if_pos hj]
        · rw [if_neg (by omega), if_neg hj]
      · rw [if_neg (by omega), if_neg h4, if_neg h4]
  rw [e]
  exact loop 12 0 _ _ _ _ rfl rfl rfl rfl ⟨rfl, rfl, trivial⟩
theorem at4_0 : at4 6 0 := ⟨by decide +kernel, by decide +kernel⟩
theorem at4_1 : at4 92 1 := ⟨by decide +kernel, by decide +kernel⟩
theorem pvx_14 {k : Nat} (t : Nat) : pv 0 14 k (t : Int) = vR 4 t := by
  unfold pv
  rw [if_neg (by decide), if_neg (by decide), if_neg (by decide), if_pos (by decide), if_neg (by omega), Int.toNat_natCast]
theorem i_X9 {d : Nat} : Ct (d + 4) mX9_init 0 [vR 0 0] 1 (up2 sF 0 0 (dfl 0)) none 186 sF 185 11228 := by
  have e0 : sF = up2 sF 0 0 (sF 0 0) := (up2_id rfl).symm
  have hk : Lv 1 0 0 := ⟨by decide, by decide +kernel⟩
  suffices H : Ct (d + 4) mX9_init 0 [vR 0 0] 1 (up2 sF 0 0 (dfl 0)) none 186 (up2 sF 0 0 (sF 0 0)) 185 11228 by
    rw [← e0] at H
    exact H
  refine ct_of (by decide) (Nat.le_of_ble_eq_true rfl) (fun C h hr hI => ?_)
  have h : Ok C RX9 cX9_init 1 _ := h
  have hI := hI rfl
  obtain ⟨hc, hs⟩ := rt_room hr
  refine x_aload_n h dX9_init_0 rfl ?_
  refine x_objinit h (by omega) lkX9_3 dX9_init_1 (Nat.le_of_ble_eq_true rfl) ?_
  refine x_aload_n h dX9_init_4 rfl ?_
  refine x_new (f := 1) (k := 0) h cl_3 ckX9_9 in3 iz3 (by decide +kernel) dX9_init_5 ⟨by rw [hc]; decide, by rw [hs]; decide⟩ ?_
  refine x_dup h dX9_init_8 rfl ?_
  refine x_callI h kIX3_init lkX9_11 (i_X3 (k := 0) (d := d + 2) (n := 2) ⟨by decide, by decide +kernel⟩ (by decide +kernel) (fun f' k' hp => up2_o (by omega))) rfl dX9_init_9 rfl (Nat.le_of_ble_eq_true rfl) (by omega) ⟨by rw [hc]; decide, by rw [hs]; decide⟩ ?_
  rw [up2_id (f := 1) (k := 0) (g := sF 1 0) (up2_o (by omega))]
  refine x_putG (g := 1) (code := 501) (x := ((0 : Nat) : Int)) (t := 0) h hI fl_9_12 rfl cl_9 (Nat.le_of_ble_eq_true rfl) rfl (lv_le hk (by omega)) dX9_init_12 ?_
  rw [up3_2]
  refine x_aload_n h dX9_init_15 rfl ?_
  refine x_new (f := 2) (k := 0) h cl_5 ckX9_16 in5 iz5 (by decide +kernel) dX9_init_16 ⟨by rw [hc]; decide, by rw [hs]; decide⟩ ?_
  refine x_dup h dX9_init_19 rfl ?_
  refine x_aload_n h dX9_init_20 rfl ?_
  refine x_getF (t := 0) h fl_9_12 (by decide) (lv_le hk (by omega)) dX9_init_21 (by first | rfl | simp [up2, up1]) ?_
  refine x_callI h kIX5_init lkX9_18 (i_X5 (k := 0) (d := d + 1) (n := 4) ⟨by decide, by decide +kernel⟩ (by decide +kernel) (fun f' k' hp => up2_o (by omega))) rfl dX9_init_24 rfl (Nat.le_of_ble_eq_true rfl) (by omega) ⟨by rw [hc]; decide, by rw [hs]; decide⟩ ?_
  rw [up2_id (f := 2) (k := 0) (g := sF 2 0) (up2_o (by omega))]
  refine x_putG (g := 2) (code := 502) (x := ((0 : Nat) : Int)) (t := 0) h hI fl_9_21 rfl cl_9 (Nat.le_of_ble_eq_true rfl) rfl (lv_le hk (by omega)) dX9_init_27 ?_
  rw [up3_2]
  refine x_aload_n h dX9_init_30 rfl ?_
  refine x_new (f := 4) (k := 0) h cl_4 ckX9_25 in4 iz4 (by decide +kernel) dX9_init_31 ⟨by rw [hc]; decide, by rw [hs]; decide⟩ ?_
  refine x_dup h dX9_init_34 rfl ?_
  refine x_callI h kIX4_init lkX9_27 (i_X4 (d := d) (n := 6) (m := 0) ⟨by decide, by decide +kernel⟩ at4_0 (fun f' k' hp => up2_o (by omega))) rfl dX9_init_35 rfl (Nat.le_of_ble_eq_true rfl) (by omega) ⟨by rw [hc]; decide, by rw [hs]; decide⟩ ?_
  rw [up2_id (f := 4) (k := 0) (g := sF 4 0) (up2_o (by omega))]
  refine x_put (x := ((0 : Nat) : Int)) h fl_9_28 (lv_le hk (by omega)) dX9_init_38 (pvx_14 0) (fun z => absurd z (by decide)) ?_
  rw [up3_2]
  refine x_aload_n h dX9_init_41 rfl ?_
  refine x_new (f := 4) (k := 1) h cl_4 ckX9_25 in4 iz4 (by decide +kernel) dX9_init_42 ⟨by rw [hc]; decide, by rw [hs]; decide⟩ ?_
  refine x_dup h dX9_init_45 rfl ?_
  refine x_callI h kIX4_init lkX9_27 (i_X4 (d := d) (n := 92) (m := 1) ⟨by decide, by decide +kernel⟩ at4_1 (fun f' k' hp => up2_o (by omega))) rfl dX9_init_46 rfl (Nat.le_of_ble_eq_true rfl) (by omega) ⟨by rw [hc]; decide, by rw [hs]; decide⟩ ?_
  rw [up2_id (f := 4) (k := 1) (g := sF 4 1) (up2_o (by omega))]
  refine x_put (x := ((1 : Nat) : Int)) h fl_9_32 (lv_le hk (by omega)) dX9_init_49 (pvx_14 1) (fun z => absurd z (by decide)) ?_
  rw [up3_2]
  refine x_aload_n h dX9_init_52 rfl ?_
  refine x_new (f := 7) (k := 0) h cl_8 ckX9_35 in8 iz8 (by decide +kernel) dX9_init_53 ⟨by rw [hc]; decide, by rw [hs]; decide⟩ ?_
  refine x_dup h dX9_init_56 rfl ?_
  refine x_aload_n h dX9_init_57 rfl ?_
  refine x_get h fl_9_28 (lv_le hk (by omega)) dX9_init_58 (pvx_14 0) ?_
  refine x_callI h kIX8_init lkX9_37 (i_X8 (k := 0) (d := d + 1) (n := 178) ⟨by decide, by decide +kernel⟩ (by decide +kernel) (by decide +kernel) (by decide +kernel) (by decide +kernel) (by decide +kernel) (by decide +kernel) (by decide +kernel) (by decide +kernel) (fun f' k' hp => up2_o (by omega))) rfl dX9_init_61 rfl (Nat.le_of_ble_eq_true rfl) (by omega) ⟨by rw [hc]; decide, by rw [hs]; decide⟩ ?_
  rw [up2_id (f := 7) (k := 0) (g := sF 7 0) (up2_o (by omega))]
  refine x_putG (g := 7) (code := 507) (x := ((0 : Nat) : Int)) (t := 0) h hI fl_9_40 rfl cl_9 (Nat.le_of_ble_eq_true rfl) rfl (lv_le hk (by omega)) dX9_init_64 ?_
  rw [up3_2]
  refine x_mem (inj_gF (f := 0) (k := 0) (fun j => ?_)) ?_
  · by_cases hj : j < 5
    · rcases (by omega : j = 0 ∨ j = 1 ∨ j = 2 ∨ j = 3 ∨ j = 4) with rfl | rfl | rfl | rfl | rfl
      · rw [sF_5 (by decide) ty_0_0 (by decide)]
        unfold up1
        rw [if_neg (by decide), if_neg (by decide), if_neg (by decide), if_neg (by decide), if_pos rfl]
      · rw [sF_5 (by decide) ty_0_1 (by decide)]
        unfold up1
        rw [if_neg (by decide), if_neg (by decide), if_neg (by decide), if_pos rfl]
      · rw [sF_5 (by decide) ty_0_2 (by decide)]
        unfold up1
        rw [if_pos rfl]
      · rw [sF_0 (by decide) ty_0_3 (by decide) (by decide)]
        show up1 _ _ _ _ = ((0 : Nat) : Int)
        unfold up1
        rw [if_neg (by decide), if_neg (by decide), if_pos rfl]
      · rw [sF_04 ty_0_4]
        show up1 _ _ _ _ = ((1 : Nat) : Int)
        unfold up1
        rw [if_neg (by decide), if_pos rfl]
    · rw [← out_eq (f := 0) (k := 0) (N := 5) (by decide) tl_0 (by omega) (by omega)]
      unfold up1
      rw [if_neg (by omega), if_neg (by omega), if_neg (by omega), if_neg (by omega), if_neg (by omega)]
  exact x_return h hr dX9_init_67 ⟨by decide, by decide⟩
/-- the reference's fields, some of them set -/
def pF (S : List Nat) : Nat → Int := fun j => if j ∈ S then sF 10 0 j else dfl 10 j
theorem pF_0 : dfl 10 = pF [] := by
  funext j
  unfold pF
  rw [if_neg (by simp)]
theorem pF_s {S : List Nat} {j : Nat} {x : Int} (h : sF 10 0 j = x) : up1 (pF S) j x = pF (j :: S) := by
  funext i
  unfold pF up1
  by_cases hi : i = j
  · rw [if_pos hi, if_pos (by simp [hi]), hi, h]
  · rw [if_neg hi]
    show (if i ∈ S then sF 10 0 i else dfl 10 i) = _
    by_cases h2 : i ∈ S
    · rw [if_pos h2, if_pos (by simp [h2])]
    · rw [if_neg h2, if_neg (by simp [h2, hi])]
def pS : List Nat := [62, 61, 60, 59, 58, 57, 56, 52, 51, 50, 49, 47, 46, 45, 43, 42, 41, 40, 39, 38, 37, 36, 35, 34, 33, 29, 28, 27, 25, 24, 23, 21, 20, 18, 17, 15, 14, 13, 12, 11, 10, 9, 5, 4, 3, 0]
theorem pF_end0 : ∀ j, j < 66 → (if j ∈ pS then sF 10 0 j else dfl 10 j) = sF 10 0 j := by decide +kernel
theorem pF_end : pF pS = sF 10 0 := by
  funext j
  by_cases h : j < 66
  · exact pF_end0 j h
  · have e : j ∉ pS := fun z => absurd (show ∀ i ∈ pS, i < 66 by decide) (fun q => h (q j z))
    unfold pF
    rw [if_neg e]
    exact out_eq (f := 10) (k := 0) (N := 66) (by decide) tl_10 (by omega) (by omega)
theorem i_X10 {d : Nat} : Ct (d + 1) mX10_init 0 [vR 10 0] 187 (up2 sF 10 0 (dfl 10)) none 233 sF 46 14461 := by
  have e0 : sF = up2 sF 10 0 (pF pS) := by
    rw [pF_end]
    exact (up2_id rfl).symm
  have hk : Lv 187 10 0 := ⟨by decide, by decide +kernel⟩
  suffices H : Ct (d + 1) mX10_init 0 [vR 10 0] 187 (up2 sF 10 0 (dfl 10)) none 233 (up2 sF 10 0 (pF pS)) 46 14461 by
    rw [← e0] at H
    exact H
  rw [pF_0]
  refine ct_of (by decide) (Nat.le_of_ble_eq_true rfl) (fun C h hr hI => ?_)
  have h : Ok C RX10 cX10_init 1 _ := h
  have hI := hI rfl
  obtain ⟨hc, hs⟩ := rt_room hr
  have z : ∀ f, 10 < f ∧ f ≠ 12 → ∀ (S : List Nat) (j : Nat), up2 sF 10 0 (pF S) f 0 j = 0 := fun f hf S j => by
    rw [up2_o (by omega)]
    exact sF_arr hf
  refine x_aload_n h dX10_init_0 rfl ?_
  refine x_objinit h (by omega) lkX10_1 dX10_init_1 (Nat.le_of_ble_eq_true rfl) ?_
  refine x_aload_n h dX10_init_4 rfl ?_
  refine x_sipush h dX10_init_5 (by decide) ?_
  refine x_newB (n := 187) (nc := 0) (ns := 0) (f := 30) (k := 0) h kdf_30 (by decide +kernel) (z 30 (by decide) _) dX10_init_8 rfl (by decide) ⟨by rw [hc]; decide, by rw [hs]; decide⟩ ?_
  refine x_putG (n := 188) (nc := 1) (ns := 900) (g := 30) (code := 530) (x := ((0 : Nat) : Int)) (t := 0) h hI fl_10_7 rfl cl_10 (Nat.le_of_ble_eq_true rfl) rfl (lv_le hk (by omega)) dX10_init_10 ?_
  rw [up3_2, pF_s (sF_5 (by decide) ty_10_0 (by decide))]
  refine x_aload_n h dX10_init_13 rfl ?_
  refine x_sipush h dX10_init_14 (by decide) ?_
  refine x_newI (n := 188) (nc := 1) (ns := 900) (f := 33) (k := 0) h kdf_33 (by decide +kernel) (z 33 (by decide) _) dX10_init_17 rfl (by decide) ⟨by rw [hc]; decide, by rw [hs]; decide⟩ ?_
  refine x_putG (n := 189) (nc := 2) (ns := 1801) (g := 33) (code := 533) (x := ((0 : Nat) : Int)) (t := 0) h hI fl_10_13 rfl cl_10 (Nat.le_of_ble_eq_true rfl) rfl (lv_le hk (by omega)) dX10_init_19 ?_
  rw [up3_2, pF_s (sF_5 (by decide) ty_10_3 (by decide))]
  refine x_aload_n h dX10_init_22 rfl ?_
  refine x_sipush h dX10_init_23 (by decide) ?_
  refine x_newI (n := 189) (nc := 2) (ns := 1801) (f := 34) (k := 0) h kdf_34 (by decide +kernel) (z 34 (by decide) _) dX10_init_26 rfl (by decide) ⟨by rw [hc]; decide, by rw [hs]; decide⟩ ?_
  refine x_putG (n := 190) (nc := 3) (ns := 2702) (g := 34) (code := 534) (x := ((0 : Nat) : Int)) (t := 0) h hI fl_10_17 rfl cl_10 (Nat.le_of_ble_eq_true rfl) rfl (lv_le hk (by omega)) dX10_init_28 ?_
  rw [up3_2, pF_s (sF_5 (by decide) ty_10_4 (by decide))]
  refine x_aload_n h dX10_init_31 rfl ?_
  refine x_sipush h dX10_init_32 (by decide) ?_
  refine x_newL (n := 190) (nc := 3) (ns := 2702) (f := 35) (k := 0) h kdf_35 (by decide +kernel) (z 35 (by decide) _) dX10_init_35 rfl (by decide) ⟨by rw [hc]; decide, by rw [hs]; decide⟩ ?_
  refine x_putG (n := 191) (nc := 4) (ns := 3603) (g := 35) (code := 535) (x := ((0 : Nat) : Int)) (t := 0) h hI fl_10_20 rfl cl_10 (Nat.le_of_ble_eq_true rfl) rfl (lv_le hk (by omega)) dX10_init_37 ?_
  rw [up3_2, pF_s (sF_5 (by decide) ty_10_5 (by decide))]
  refine x_aload_n h dX10_init_40 rfl ?_
  refine x_bipush h dX10_init_41 (by decide) ?_
  refine x_newL (n := 191) (nc := 4) (ns := 3603) (f := 39) (k := 0) h kdf_39 (by decide +kernel) (z 39 (by decide) _) dX10_init_43 rfl (by decide) ⟨by rw [hc]; decide, by rw [hs]; decide⟩ ?_
  refine x_putG (n := 192) (nc := 5) (ns := 3615) (g := 39) (code := 539) (x := ((0 : Nat) : Int)) (t := 0) h hI fl_10_24 rfl cl_10 (Nat.le_of_ble_eq_true rfl) rfl (lv_le hk (by omega)) dX10_init_45 ?_
  rw [up3_2, pF_s (sF_5 (by decide) ty_10_9 (by decide))]
  refine x_aload_n h dX10_init_48 rfl ?_
  refine x_bipush h dX10_init_49 (by decide) ?_
  refine x_newI (n := 192) (nc := 5) (ns := 3615) (f := 40) (k := 0) h kdf_40 (by decide +kernel) (z 40 (by decide) _) dX10_init_51 rfl (by decide) ⟨by rw [hc]; decide, by rw [hs]; decide⟩ ?_
  refine x_putG (n := 193) (nc := 6) (ns := 3627) (g := 40) (code := 540) (x := ((0 : Nat) : Int)) (t := 0) h hI fl_10_27 rfl cl_10 (Nat.le_of_ble_eq_true rfl) rfl (lv_le hk (by omega)) dX10_init_53 ?_
  rw [up3_2, pF_s (sF_5 (by decide) ty_10_10 (by decide))]
  refine x_aload_n h dX10_init_56 rfl ?_
  refine x_bipush h dX10_init_57 (by decide) ?_
  refine x_newZ (n := 193) (nc := 6) (ns := 3627) (f := 41) (k := 0) h kdf_41 (by decide +kernel) (z 41 (by decide) _) dX10_init_59 rfl (by decide) ⟨by rw [hc]; decide, by rw [hs]; decide⟩ ?_
  refine x_putG (n := 194) (nc := 7) (ns := 3639) (g := 41) (code := 541) (x := ((0 : Nat) : Int)) (t := 0) h hI fl_10_30 rfl cl_10 (Nat.le_of_ble_eq_true rfl) rfl (lv_le hk (by omega)) dX10_init_61 ?_
  rw [up3_2, pF_s (sF_5 (by decide) ty_10_11 (by decide))]
  refine x_aload_n h dX10_init_64 rfl ?_
  refine x_bipush h dX10_init_65 (by decide) ?_
  refine x_newZ (n := 194) (nc := 7) (ns := 3639) (f := 42) (k := 0) h kdf_42 (by decide +kernel) (z 42 (by decide) _) dX10_init_67 rfl (by decide) ⟨by rw [hc]; decide, by rw [hs]; decide⟩ ?_
  refine x_putG (n := 195) (nc := 8) (ns := 3651) (g := 42) (code := 542) (x := ((0 : Nat) : Int)) (t := 0) h hI fl_10_34 rfl cl_10 (Nat.le_of_ble_eq_true rfl) rfl (lv_le hk (by omega)) dX10_init_69 ?_
  rw [up3_2, pF_s (sF_5 (by decide) ty_10_12 (by decide))]
  refine x_aload_n h dX10_init_72 rfl ?_
  refine x_bipush h dX10_init_73 (by decide) ?_
  refine x_newL (n := 195) (nc := 8) (ns := 3651) (f := 43) (k := 0) h kdf_43 (by decide +kernel) (z 43 (by decide) _) dX10_init_75 rfl (by decide) ⟨by rw [hc]; decide, by rw [hs]; decide⟩ ?_
  refine x_putG (n := 196) (nc := 9) (ns := 3663) (g := 43) (code := 543) (x := ((0 : Nat) : Int)) (t := 0) h hI fl_10_37 rfl cl_10 (Nat.le_of_ble_eq_true rfl) rfl (lv_le hk (by omega)) dX10_init_77 ?_
  rw [up3_2, pF_s (sF_5 (by decide) ty_10_13 (by decide))]
  refine x_aload_n h dX10_init_80 rfl ?_
  refine x_bipush h dX10_init_81 (by decide) ?_
  refine x_newI (n := 196) (nc := 9) (ns := 3663) (f := 44) (k := 0) h kdf_44 (by decide +kernel) (z 44 (by decide) _) dX10_init_83 rfl (by decide) ⟨by rw [hc]; decide, by rw [hs]; decide⟩ ?_
  refine x_putG (n := 197) (nc := 10) (ns := 3676) (g := 44) (code := 544) (x := ((0 : Nat) : Int)) (t := 0) h hI fl_10_40 rfl cl_10 (Nat.le_of_ble_eq_true rfl) rfl (lv_le hk (by omega)) dX10_init_85 ?_
  rw [up3_2, pF_s (sF_5 (by decide) ty_10_14 (by decide))]
  refine x_aload_n h dX10_init_88 rfl ?_
  refine x_bipush h dX10_init_89 (by decide) ?_
  refine x_newI (n := 197) (nc := 10) (ns := 3676) (f := 45) (k := 0) h kdf_45 (by decide +kernel) (z 45 (by decide) _) dX10_init_91 rfl (by decide) ⟨by rw [hc]; decide, by rw [hs]; decide⟩ ?_
  refine x_putG (n := 198) (nc := 11) (ns := 3689) (g := 45) (code := 545) (x := ((0 : Nat) : Int)) (t := 0) h hI fl_10_43 rfl cl_10 (Nat.le_of_ble_eq_true rfl) rfl (lv_le hk (by omega)) dX10_init_93 ?_
  rw [up3_2, pF_s (sF_5 (by decide) ty_10_15 (by decide))]
  refine x_aload_n h dX10_init_96 rfl ?_
  refine x_sipush h dX10_init_97 (by decide) ?_
  refine x_newI (n := 198) (nc := 11) (ns := 3689) (f := 47) (k := 0) h kdf_47 (by decide +kernel) (z 47 (by decide) _) dX10_init_100 rfl (by decide) ⟨by rw [hc]; decide, by rw [hs]; decide⟩ ?_
  refine x_putG (n := 199) (nc := 12) (ns := 4589) (g := 47) (code := 547) (x := ((0 : Nat) : Int)) (t := 0) h hI fl_10_46 rfl cl_10 (Nat.le_of_ble_eq_true rfl) rfl (lv_le hk (by omega)) dX10_init_102 ?_
  rw [up3_2, pF_s (sF_5 (by decide) ty_10_17 (by decide))]
  refine x_aload_n h dX10_init_105 rfl ?_
  refine x_sipush h dX10_init_106 (by decide) ?_
  refine x_newL (n := 199) (nc := 12) (ns := 4589) (f := 48) (k := 0) h kdf_48 (by decide +kernel) (z 48 (by decide) _) dX10_init_109 rfl (by decide) ⟨by rw [hc]; decide, by rw [hs]; decide⟩ ?_
  refine x_putG (n := 200) (nc := 13) (ns := 5489) (g := 48) (code := 548) (x := ((0 : Nat) : Int)) (t := 0) h hI fl_10_49 rfl cl_10 (Nat.le_of_ble_eq_true rfl) rfl (lv_le hk (by omega)) dX10_init_111 ?_
  rw [up3_2, pF_s (sF_5 (by decide) ty_10_18 (by decide))]
  refine x_aload_n h dX10_init_114 rfl ?_
  refine x_bipush h dX10_init_115 (by decide) ?_
  refine x_newI (n := 200) (nc := 13) (ns := 5489) (f := 50) (k := 0) h kdf_50 (by decide +kernel) (z 50 (by decide) _) dX10_init_117 rfl (by decide) ⟨by rw [hc]; decide, by rw [hs]; decide⟩ ?_
  refine x_putG (n := 201) (nc := 14) (ns := 5609) (g := 50) (code := 550) (x := ((0 : Nat) : Int)) (t := 0) h hI fl_10_52 rfl cl_10 (Nat.le_of_ble_eq_true rfl) rfl (lv_le hk (by omega)) dX10_init_119 ?_
  rw [up3_2, pF_s (sF_5 (by decide) ty_10_20 (by decide))]
  refine x_aload_n h dX10_init_122 rfl ?_
  refine x_bipush h dX10_init_123 (by decide) ?_
  refine x_newL (n := 201) (nc := 14) (ns := 5609) (f := 51) (k := 0) h kdf_51 (by decide +kernel) (z 51 (by decide) _) dX10_init_125 rfl (by decide) ⟨by rw [hc]; decide, by rw [hs]; decide⟩ ?_
  refine x_putG (n := 202) (nc := 15) (ns := 5729) (g := 51) (code := 551) (x := ((0 : Nat) : Int)) (t := 0) h hI fl_10_55 rfl cl_10 (Nat.le_of_ble_eq_true rfl) rfl (lv_le hk (by omega)) dX10_init_127 ?_
  rw [up3_2, pF_s (sF_5 (by decide) ty_10_21 (by decide))]
  refine x_aload_n h dX10_init_130 rfl ?_
  refine x_sipush h dX10_init_131 (by decide) ?_
  refine x_newI (n := 202) (nc := 15) (ns := 5729) (f := 53) (k := 0) h kdf_53 (by decide +kernel) (z 53 (by decide) _) dX10_init_134 rfl (by decide) ⟨by rw [hc]; decide, by rw [hs]; decide⟩ ?_
  refine x_putG (n := 203) (nc := 16) (ns := 6630) (g := 53) (code := 553) (x := ((0 : Nat) : Int)) (t := 0) h hI fl_10_58 rfl cl_10 (Nat.le_of_ble_eq_true rfl) rfl (lv_le hk (by omega)) dX10_init_136 ?_
  rw [up3_2, pF_s (sF_5 (by decide) ty_10_23 (by decide))]
  refine x_aload_n h dX10_init_139 rfl ?_
  refine x_sipush h dX10_init_140 (by decide) ?_
  refine x_newI (n := 203) (nc := 16) (ns := 6630) (f := 54) (k := 0) h kdf_54 (by decide +kernel) (z 54 (by decide) _) dX10_init_143 rfl (by decide) ⟨by rw [hc]; decide, by rw [hs]; decide⟩ ?_
  refine x_putG (n := 204) (nc := 17) (ns := 7531) (g := 54) (code := 554) (x := ((0 : Nat) : Int)) (t := 0) h hI fl_10_61 rfl cl_10 (Nat.le_of_ble_eq_true rfl) rfl (lv_le hk (by omega)) dX10_init_145 ?_
  rw [up3_2, pF_s (sF_5 (by decide) ty_10_24 (by decide))]
  refine x_aload_n h dX10_init_148 rfl ?_
  refine x_sipush h dX10_init_149 (by decide) ?_
  refine x_newZ (n := 204) (nc := 17) (ns := 7531) (f := 55) (k := 0) h kdf_55 (by decide +kernel) (z 55 (by decide) _) dX10_init_152 rfl (by decide) ⟨by rw [hc]; decide, by rw [hs]; decide⟩ ?_
  refine x_putG (n := 205) (nc := 18) (ns := 8432) (g := 55) (code := 555) (x := ((0 : Nat) : Int)) (t := 0) h hI fl_10_64 rfl cl_10 (Nat.le_of_ble_eq_true rfl) rfl (lv_le hk (by omega)) dX10_init_154 ?_
  rw [up3_2, pF_s (sF_5 (by decide) ty_10_25 (by decide))]
  refine x_aload_n h dX10_init_157 rfl ?_
  refine x_bipush h dX10_init_158 (by decide) ?_
  refine x_newI (n := 205) (nc := 18) (ns := 8432) (f := 57) (k := 0) h kdf_57 (by decide +kernel) (z 57 (by decide) _) dX10_init_160 rfl (by decide) ⟨by rw [hc]; decide, by rw [hs]; decide⟩ ?_
  refine x_putG (n := 206) (nc := 19) (ns := 8496) (g := 57) (code := 557) (x := ((0 : Nat) : Int)) (t := 0) h hI fl_10_67 rfl cl_10 (Nat.le_of_ble_eq_true rfl) rfl (lv_le hk (by omega)) dX10_init_162 ?_
  rw [up3_2, pF_s (sF_5 (by decide) ty_10_27 (by decide))]
  refine x_aload_n h dX10_init_165 rfl ?_
  refine x_bipush h dX10_init_166 (by decide) ?_
  refine x_newI (n := 206) (nc := 19) (ns := 8496) (f := 58) (k := 0) h kdf_58 (by decide +kernel) (z 58 (by decide) _) dX10_init_168 rfl (by decide) ⟨by rw [hc]; decide, by rw [hs]; decide⟩ ?_
  refine x_putG (n := 207) (nc := 20) (ns := 8560) (g := 58) (code := 558) (x := ((0 : Nat) : Int)) (t := 0) h hI fl_10_70 rfl cl_10 (Nat.le_of_ble_eq_true rfl) rfl (lv_le hk (by omega)) dX10_init_170 ?_
  rw [up3_2, pF_s (sF_5 (by decide) ty_10_28 (by decide))]
  refine x_aload_n h dX10_init_173 rfl ?_
  refine x_bipush h dX10_init_174 (by decide) ?_
  refine x_newI (n := 207) (nc := 20) (ns := 8560) (f := 59) (k := 0) h kdf_59 (by decide +kernel) (z 59 (by decide) _) dX10_init_176 rfl (by decide) ⟨by rw [hc]; decide, by rw [hs]; decide⟩ ?_
  refine x_putG (n := 208) (nc := 21) (ns := 8624) (g := 59) (code := 559) (x := ((0 : Nat) : Int)) (t := 0) h hI fl_10_73 rfl cl_10 (Nat.le_of_ble_eq_true rfl) rfl (lv_le hk (by omega)) dX10_init_178 ?_
  rw [up3_2, pF_s (sF_5 (by decide) ty_10_29 (by decide))]
  refine x_aload_n h dX10_init_181 rfl ?_
  refine x_bipush h dX10_init_182 (by decide) ?_
  refine x_newL (n := 208) (nc := 21) (ns := 8624) (f := 63) (k := 0) h kdf_63 (by decide +kernel) (z 63 (by decide) _) dX10_init_184 rfl (by decide) ⟨by rw [hc]; decide, by rw [hs]; decide⟩ ?_
  refine x_putG (n := 209) (nc := 22) (ns := 8636) (g := 63) (code := 563) (x := ((0 : Nat) : Int)) (t := 0) h hI fl_10_76 rfl cl_10 (Nat.le_of_ble_eq_true rfl) rfl (lv_le hk (by omega)) dX10_init_186 ?_
  rw [up3_2, pF_s (sF_5 (by decide) ty_10_33 (by decide))]
  refine x_aload_n h dX10_init_189 rfl ?_
  refine x_bipush h dX10_init_190 (by decide) ?_
  refine x_newZ (n := 209) (nc := 22) (ns := 8636) (f := 64) (k := 0) h kdf_64 (by decide +kernel) (z 64 (by decide) _) dX10_init_192 rfl (by decide) ⟨by rw [hc]; decide, by rw [hs]; decide⟩ ?_
  refine x_putG (n := 210) (nc := 23) (ns := 8648) (g := 64) (code := 564) (x := ((0 : Nat) : Int)) (t := 0) h hI fl_10_79 rfl cl_10 (Nat.le_of_ble_eq_true rfl) rfl (lv_le hk (by omega)) dX10_init_194 ?_
  rw [up3_2, pF_s (sF_5 (by decide) ty_10_34 (by decide))]
  refine x_aload_n h dX10_init_197 rfl ?_
  refine x_bipush h dX10_init_198 (by decide) ?_
  refine x_newZ (n := 210) (nc := 23) (ns := 8648) (f := 65) (k := 0) h kdf_65 (by decide +kernel) (z 65 (by decide) _) dX10_init_200 rfl (by decide) ⟨by rw [hc]; decide, by rw [hs]; decide⟩ ?_
  refine x_putG (n := 211) (nc := 24) (ns := 8660) (g := 65) (code := 565) (x := ((0 : Nat) : Int)) (t := 0) h hI fl_10_82 rfl cl_10 (Nat.le_of_ble_eq_true rfl) rfl (lv_le hk (by omega)) dX10_init_202 ?_
  rw [up3_2, pF_s (sF_5 (by decide) ty_10_35 (by decide))]
  refine x_aload_n h dX10_init_205 rfl ?_
  refine x_bipush h dX10_init_206 (by decide) ?_
  refine x_newL (n := 211) (nc := 24) (ns := 8660) (f := 66) (k := 0) h kdf_66 (by decide +kernel) (z 66 (by decide) _) dX10_init_208 rfl (by decide) ⟨by rw [hc]; decide, by rw [hs]; decide⟩ ?_
  refine x_putG (n := 212) (nc := 25) (ns := 8672) (g := 66) (code := 566) (x := ((0 : Nat) : Int)) (t := 0) h hI fl_10_85 rfl cl_10 (Nat.le_of_ble_eq_true rfl) rfl (lv_le hk (by omega)) dX10_init_210 ?_
  rw [up3_2, pF_s (sF_5 (by decide) ty_10_36 (by decide))]
  refine x_aload_n h dX10_init_213 rfl ?_
  refine x_bipush h dX10_init_214 (by decide) ?_
  refine x_newL (n := 212) (nc := 25) (ns := 8672) (f := 67) (k := 0) h kdf_67 (by decide +kernel) (z 67 (by decide) _) dX10_init_216 rfl (by decide) ⟨by rw [hc]; decide, by rw [hs]; decide⟩ ?_
  refine x_putG (n := 213) (nc := 26) (ns := 8684) (g := 67) (code := 567) (x := ((0 : Nat) : Int)) (t := 0) h hI fl_10_88 rfl cl_10 (Nat.le_of_ble_eq_true rfl) rfl (lv_le hk (by omega)) dX10_init_218 ?_
  rw [up3_2, pF_s (sF_5 (by decide) ty_10_37 (by decide))]
  refine x_aload_n h dX10_init_221 rfl ?_
  refine x_bipush h dX10_init_222 (by decide) ?_
  refine x_newI (n := 213) (nc := 26) (ns := 8684) (f := 68) (k := 0) h kdf_68 (by decide +kernel) (z 68 (by decide) _) dX10_init_224 rfl (by decide) ⟨by rw [hc]; decide, by rw [hs]; decide⟩ ?_
  refine x_putG (n := 214) (nc := 27) (ns := 8697) (g := 68) (code := 568) (x := ((0 : Nat) : Int)) (t := 0) h hI fl_10_91 rfl cl_10 (Nat.le_of_ble_eq_true rfl) rfl (lv_le hk (by omega)) dX10_init_226 ?_
  rw [up3_2, pF_s (sF_5 (by decide) ty_10_38 (by decide))]
  refine x_aload_n h dX10_init_229 rfl ?_
  refine x_sipush h dX10_init_230 (by decide) ?_
  refine x_newI (n := 214) (nc := 27) (ns := 8697) (f := 69) (k := 0) h kdf_69 (by decide +kernel) (z 69 (by decide) _) dX10_init_233 rfl (by decide) ⟨by rw [hc]; decide, by rw [hs]; decide⟩ ?_
  refine x_putG (n := 215) (nc := 28) (ns := 9597) (g := 69) (code := 569) (x := ((0 : Nat) : Int)) (t := 0) h hI fl_10_94 rfl cl_10 (Nat.le_of_ble_eq_true rfl) rfl (lv_le hk (by omega)) dX10_init_235 ?_
  rw [up3_2, pF_s (sF_5 (by decide) ty_10_39 (by decide))]
  refine x_aload_n h dX10_init_238 rfl ?_
  refine x_sipush h dX10_init_239 (by decide) ?_
  refine x_newL (n := 215) (nc := 28) (ns := 9597) (f := 70) (k := 0) h kdf_70 (by decide +kernel) (z 70 (by decide) _) dX10_init_242 rfl (by decide) ⟨by rw [hc]; decide, by rw [hs]; decide⟩ ?_
  refine x_putG (n := 216) (nc := 29) (ns := 10497) (g := 70) (code := 570) (x := ((0 : Nat) : Int)) (t := 0) h hI fl_10_97 rfl cl_10 (Nat.le_of_ble_eq_true rfl) rfl (lv_le hk (by omega)) dX10_init_244 ?_
  rw [up3_2, pF_s (sF_5 (by decide) ty_10_40 (by decide))]
  refine x_aload_n h dX10_init_247 rfl ?_
  refine x_bipush h dX10_init_248 (by decide) ?_
  refine x_newI (n := 216) (nc := 29) (ns := 10497) (f := 71) (k := 0) h kdf_71 (by decide +kernel) (z 71 (by decide) _) dX10_init_250 rfl (by decide) ⟨by rw [hc]; decide, by rw [hs]; decide⟩ ?_
  refine x_putG (n := 217) (nc := 30) (ns := 10509) (g := 71) (code := 571) (x := ((0 : Nat) : Int)) (t := 0) h hI fl_10_100 rfl cl_10 (Nat.le_of_ble_eq_true rfl) rfl (lv_le hk (by omega)) dX10_init_252 ?_
  rw [up3_2, pF_s (sF_5 (by decide) ty_10_41 (by decide))]
  refine x_aload_n h dX10_init_255 rfl ?_
  refine x_sipush h dX10_init_256 (by decide) ?_
  refine x_newI (n := 217) (nc := 30) (ns := 10509) (f := 72) (k := 0) h kdf_72 (by decide +kernel) (z 72 (by decide) _) dX10_init_259 rfl (by decide) ⟨by rw [hc]; decide, by rw [hs]; decide⟩ ?_
  refine x_putG (n := 218) (nc := 31) (ns := 10809) (g := 72) (code := 572) (x := ((0 : Nat) : Int)) (t := 0) h hI fl_10_103 rfl cl_10 (Nat.le_of_ble_eq_true rfl) rfl (lv_le hk (by omega)) dX10_init_261 ?_
  rw [up3_2, pF_s (sF_5 (by decide) ty_10_42 (by decide))]
  refine x_aload_n h dX10_init_264 rfl ?_
  refine x_sipush h dX10_init_265 (by decide) ?_
  refine x_newL (n := 218) (nc := 31) (ns := 10809) (f := 73) (k := 0) h kdf_73 (by decide +kernel) (z 73 (by decide) _) dX10_init_268 rfl (by decide) ⟨by rw [hc]; decide, by rw [hs]; decide⟩ ?_
  refine x_putG (n := 219) (nc := 32) (ns := 13209) (g := 73) (code := 573) (x := ((0 : Nat) : Int)) (t := 0) h hI fl_10_106 rfl cl_10 (Nat.le_of_ble_eq_true rfl) rfl (lv_le hk (by omega)) dX10_init_270 ?_
  rw [up3_2, pF_s (sF_5 (by decide) ty_10_43 (by decide))]
  refine x_aload_n h dX10_init_273 rfl ?_
  refine x_bipush h dX10_init_274 (by decide) ?_
  refine x_newI (n := 219) (nc := 32) (ns := 13209) (f := 75) (k := 0) h kdf_75 (by decide +kernel) (z 75 (by decide) _) dX10_init_276 rfl (by decide) ⟨by rw [hc]; decide, by rw [hs]; decide⟩ ?_
  refine x_putG (n := 220) (nc := 33) (ns := 13309) (g := 75) (code := 575) (x := ((0 : Nat) : Int)) (t := 0) h hI fl_10_109 rfl cl_10 (Nat.le_of_ble_eq_true rfl) rfl (lv_le hk (by omega)) dX10_init_278 ?_
  rw [up3_2, pF_s (sF_5 (by decide) ty_10_45 (by decide))]
  refine x_aload_n h dX10_init_281 rfl ?_
  refine x_bipush h dX10_init_282 (by decide) ?_
  refine x_newI (n := 220) (nc := 33) (ns := 13309) (f := 76) (k := 0) h kdf_76 (by decide +kernel) (z 76 (by decide) _) dX10_init_284 rfl (by decide) ⟨by rw [hc]; decide, by rw [hs]; decide⟩ ?_
  refine x_putG (n := 221) (nc := 34) (ns := 13409) (g := 76) (code := 576) (x := ((0 : Nat) : Int)) (t := 0) h hI fl_10_112 rfl cl_10 (Nat.le_of_ble_eq_true rfl) rfl (lv_le hk (by omega)) dX10_init_286 ?_
  rw [up3_2, pF_s (sF_5 (by decide) ty_10_46 (by decide))]
  refine x_aload_n h dX10_init_289 rfl ?_
  refine x_bipush h dX10_init_290 (by decide) ?_
  refine x_newI (n := 221) (nc := 34) (ns := 13409) (f := 77) (k := 0) h kdf_77 (by decide +kernel) (z 77 (by decide) _) dX10_init_292 rfl (by decide) ⟨by rw [hc]; decide, by rw [hs]; decide⟩ ?_
  refine x_putG (n := 222) (nc := 35) (ns := 13509) (g := 77) (code := 577) (x := ((0 : Nat) : Int)) (t := 0) h hI fl_10_115 rfl cl_10 (Nat.le_of_ble_eq_true rfl) rfl (lv_le hk (by omega)) dX10_init_294 ?_
  rw [up3_2, pF_s (sF_5 (by decide) ty_10_47 (by decide))]
  refine x_aload_n h dX10_init_297 rfl ?_
  refine x_bipush h dX10_init_298 (by decide) ?_
  refine x_newI (n := 222) (nc := 35) (ns := 13509) (f := 79) (k := 0) h kdf_79 (by decide +kernel) (z 79 (by decide) _) dX10_init_300 rfl (by decide) ⟨by rw [hc]; decide, by rw [hs]; decide⟩ ?_
  refine x_putG (n := 223) (nc := 36) (ns := 13609) (g := 79) (code := 579) (x := ((0 : Nat) : Int)) (t := 0) h hI fl_10_118 rfl cl_10 (Nat.le_of_ble_eq_true rfl) rfl (lv_le hk (by omega)) dX10_init_302 ?_
  rw [up3_2, pF_s (sF_5 (by decide) ty_10_49 (by decide))]
  refine x_aload_n h dX10_init_305 rfl ?_
  refine x_bipush h dX10_init_306 (by decide) ?_
  refine x_newI (n := 223) (nc := 36) (ns := 13609) (f := 80) (k := 0) h kdf_80 (by decide +kernel) (z 80 (by decide) _) dX10_init_308 rfl (by decide) ⟨by rw [hc]; decide, by rw [hs]; decide⟩ ?_
  refine x_putG (n := 224) (nc := 37) (ns := 13709) (g := 80) (code := 580) (x := ((0 : Nat) : Int)) (t := 0) h hI fl_10_121 rfl cl_10 (Nat.le_of_ble_eq_true rfl) rfl (lv_le hk (by omega)) dX10_init_310 ?_
  rw [up3_2, pF_s (sF_5 (by decide) ty_10_50 (by decide))]
  refine x_aload_n h dX10_init_313 rfl ?_
  refine x_bipush h dX10_init_314 (by decide) ?_
  refine x_newI (n := 224) (nc := 37) (ns := 13709) (f := 81) (k := 0) h kdf_81 (by decide +kernel) (z 81 (by decide) _) dX10_init_316 rfl (by decide) ⟨by rw [hc]; decide, by rw [hs]; decide⟩ ?_
  refine x_putG (n := 225) (nc := 38) (ns := 13809) (g := 81) (code := 581) (x := ((0 : Nat) : Int)) (t := 0) h hI fl_10_124 rfl cl_10 (Nat.le_of_ble_eq_true rfl) rfl (lv_le hk (by omega)) dX10_init_318 ?_
  rw [up3_2, pF_s (sF_5 (by decide) ty_10_51 (by decide))]
  refine x_aload_n h dX10_init_321 rfl ?_
  refine x_bipush h dX10_init_322 (by decide) ?_
  refine x_newL (n := 225) (nc := 38) (ns := 13809) (f := 82) (k := 0) h kdf_82 (by decide +kernel) (z 82 (by decide) _) dX10_init_324 rfl (by decide) ⟨by rw [hc]; decide, by rw [hs]; decide⟩ ?_
  refine x_putG (n := 226) (nc := 39) (ns := 13909) (g := 82) (code := 582) (x := ((0 : Nat) : Int)) (t := 0) h hI fl_10_127 rfl cl_10 (Nat.le_of_ble_eq_true rfl) rfl (lv_le hk (by omega)) dX10_init_326 ?_
  rw [up3_2, pF_s (sF_5 (by decide) ty_10_52 (by decide))]
  refine x_aload_n h dX10_init_329 rfl ?_
  refine x_bipush h dX10_init_330 (by decide) ?_
  refine x_newI (n := 226) (nc := 39) (ns := 13909) (f := 86) (k := 0) h kdf_86 (by decide +kernel) (z 86 (by decide) _) dX10_init_332 rfl (by decide) ⟨by rw [hc]; decide, by rw [hs]; decide⟩ ?_
  refine x_putG (n := 227) (nc := 40) (ns := 13921) (g := 86) (code := 586) (x := ((0 : Nat) : Int)) (t := 0) h hI fl_10_130 rfl cl_10 (Nat.le_of_ble_eq_true rfl) rfl (lv_le hk (by omega)) dX10_init_334 ?_
  rw [up3_2, pF_s (sF_5 (by decide) ty_10_56 (by decide))]
  refine x_aload_n h dX10_init_337 rfl ?_
  refine x_bipush h dX10_init_338 (by decide) ?_
  refine x_newI (n := 227) (nc := 40) (ns := 13921) (f := 87) (k := 0) h kdf_87 (by decide +kernel) (z 87 (by decide) _) dX10_init_340 rfl (by decide) ⟨by rw [hc]; decide, by rw [hs]; decide⟩ ?_
  refine x_putG (n := 228) (nc := 41) (ns := 13933) (g := 87) (code := 587) (x := ((0 : Nat) : Int)) (t := 0) h hI fl_10_133 rfl cl_10 (Nat.le_of_ble_eq_true rfl) rfl (lv_le hk (by omega)) dX10_init_342 ?_
  rw [up3_2, pF_s (sF_5 (by decide) ty_10_57 (by decide))]
  refine x_aload_n h dX10_init_345 rfl ?_
  refine x_bipush h dX10_init_346 (by decide) ?_
  refine x_newI (n := 228) (nc := 41) (ns := 13933) (f := 88) (k := 0) h kdf_88 (by decide +kernel) (z 88 (by decide) _) dX10_init_348 rfl (by decide) ⟨by rw [hc]; decide, by rw [hs]; decide⟩ ?_
  refine x_putG (n := 229) (nc := 42) (ns := 13945) (g := 88) (code := 588) (x := ((0 : Nat) : Int)) (t := 0) h hI fl_10_136 rfl cl_10 (Nat.le_of_ble_eq_true rfl) rfl (lv_le hk (by omega)) dX10_init_350 ?_
  rw [up3_2, pF_s (sF_5 (by decide) ty_10_58 (by decide))]
  refine x_aload_n h dX10_init_353 rfl ?_
  refine x_bipush h dX10_init_354 (by decide) ?_
  refine x_newI (n := 229) (nc := 42) (ns := 13945) (f := 89) (k := 0) h kdf_89 (by decide +kernel) (z 89 (by decide) _) dX10_init_356 rfl (by decide) ⟨by rw [hc]; decide, by rw [hs]; decide⟩ ?_
  refine x_putG (n := 230) (nc := 43) (ns := 13957) (g := 89) (code := 589) (x := ((0 : Nat) : Int)) (t := 0) h hI fl_10_139 rfl cl_10 (Nat.le_of_ble_eq_true rfl) rfl (lv_le hk (by omega)) dX10_init_358 ?_
  rw [up3_2, pF_s (sF_5 (by decide) ty_10_59 (by decide))]
  refine x_aload_n h dX10_init_361 rfl ?_
  refine x_bipush h dX10_init_362 (by decide) ?_
  refine x_newI (n := 230) (nc := 43) (ns := 13957) (f := 90) (k := 0) h kdf_90 (by decide +kernel) (z 90 (by decide) _) dX10_init_364 rfl (by decide) ⟨by rw [hc]; decide, by rw [hs]; decide⟩ ?_
  refine x_putG (n := 231) (nc := 44) (ns := 13969) (g := 90) (code := 590) (x := ((0 : Nat) : Int)) (t := 0) h hI fl_10_142 rfl cl_10 (Nat.le_of_ble_eq_true rfl) rfl (lv_le hk (by omega)) dX10_init_366 ?_
  rw [up3_2, pF_s (sF_5 (by decide) ty_10_60 (by decide))]
  refine x_aload_n h dX10_init_369 rfl ?_
  refine x_bipush h dX10_init_370 (by decide) ?_
  refine x_newI (n := 231) (nc := 44) (ns := 13969) (f := 91) (k := 0) h kdf_91 (by decide +kernel) (z 91 (by decide) _) dX10_init_372 rfl (by decide) ⟨by rw [hc]; decide, by rw [hs]; decide⟩ ?_
  refine x_putG (n := 232) (nc := 45) (ns := 13981) (g := 91) (code := 591) (x := ((0 : Nat) : Int)) (t := 0) h hI fl_10_145 rfl cl_10 (Nat.le_of_ble_eq_true rfl) rfl (lv_le hk (by omega)) dX10_init_374 ?_
  rw [up3_2, pF_s (sF_5 (by decide) ty_10_61 (by decide))]
  refine x_aload_n h dX10_init_377 rfl ?_
  refine x_sipush h dX10_init_378 (by decide) ?_
  refine x_newL (n := 232) (nc := 45) (ns := 13981) (f := 92) (k := 0) h kdf_92 (by decide +kernel) (z 92 (by decide) _) dX10_init_381 rfl (by decide) ⟨by rw [hc]; decide, by rw [hs]; decide⟩ ?_
  refine x_putG (n := 233) (nc := 46) (ns := 14461) (g := 92) (code := 592) (x := ((0 : Nat) : Int)) (t := 0) h hI fl_10_148 rfl cl_10 (Nat.le_of_ble_eq_true rfl) rfl (lv_le hk (by omega)) dX10_init_383 ?_
  rw [up3_2, pF_s (sF_5 (by decide) ty_10_62 (by decide))]
  exact x_return h hr dX10_init_386 ⟨by decide, by decide⟩
