/-! the constructors -/
theorem up3_2 (σ : Mm) (f k j : Nat) (g : Nat → Int) (x : Int) : up3 (up2 σ f k g) f k j x = up2 σ f k (up1 g j x) := by
  rw [up3_up2]
  funext f' k'
  unfold up2
  by_cases h : f' = f ∧ k' = k
  · rw [if_pos h, if_pos h, if_pos ⟨rfl, rfl⟩]
  · rw [if_neg h, if_neg h, if_neg h]
theorem up2_o {σ : Mm} {f k f' k' : Nat} {g : Nat → Int} (h : f' ≠ f) : up2 σ f k g f' k' = σ f' k' := by
  unfold up2
  rw [if_neg (fun z => h z.1)]
theorem up2_s {σ : Mm} {f k : Nat} {g : Nat → Int} : up2 σ f k g f k = g := by
  unfold up2
  rw [if_pos ⟨rfl, rfl⟩]
theorem up2_id {σ : Mm} {f k : Nat} {g : Nat → Int} (h : σ f k = g) : up2 σ f k g = σ := by
  funext f' k'
  unfold up2
  split
  · next z => obtain ⟨rfl, rfl⟩ := z; exact h.symm
  · rfl
theorem lv_le {n n' f k : Nat} (h : Lv n f k) (hn : n ≤ n') : Lv n' f k := ⟨h.1, Nat.lt_of_lt_of_le h.2 hn⟩
theorem rt_room {C : Cx} {ph : Nat} {ret : Option FieldType} {r : Option PV} {n mc ms : Nat} {σ : Mm} (h : Rt C ph ret r n σ mc ms) : C.2.2.2.1.cells = mc ∧ C.2.2.2.1.slots = ms := by
  obtain ⟨p, l, e, R, s, m, args, below, meth, c, Q, D, ca, bs⟩ := C
  exact ⟨h.2.2.2.1, h.2.2.2.2⟩
/-- what the fields hold when all is made -/
def gF (f k j : Nat) : Int := if 500 ≤ tyf f j then ((fmem (tyf f j) k : Nat) : Int) else if f = 2 ∧ j = 1 then -1 else if f = 2 ∧ (j = 3 ∨ j = 4) then -9 else if f = 0 ∧ j = 4 then 1 else 0
def sF : Mm := fun f k j => if f ≤ 10 then gF f k j else if f = 12 then (if j < 12 then ((12 * k + j : Nat) : Int) else -1) else 0
theorem tyf_out {f j N : Nat} (h : (tyT.getD f []).length = N) (hj : N ≤ j) : tyf f j = 0 := by
  unfold tyf
  rw [List.getD_eq_getElem?_getD, List.getElem?_eq_none (by omega)]
  rfl
theorem sF_obj {f k j : Nat} (h : f ≤ 10) : sF f k j = gF f k j := by unfold sF; rw [if_pos h]
theorem sF_arr {f k j : Nat} (h : 10 < f ∧ f ≠ 12) : sF f k j = 0 := by unfold sF; rw [if_neg (by omega), if_neg h.2]
theorem out_eq {f k j N : Nat} (hf : f ≤ 10) (h : (tyT.getD f []).length = N) (hj : N ≤ j) (h5 : 5 ≤ N ∨ (f ≠ 2 ∧ f ≠ 0)) : dfl f j = sF f k j := by
  have e := tyf_out h hj
  rw [sF_obj hf]
  unfold dfl gF
  rw [e, if_pos (by omega), if_neg (by omega), if_neg (by omega), if_neg (by omega), if_neg (by omega)]
theorem inj_gF {f k : Nat} {g : Nat → Int} {σ : Mm} (h : ∀ j, g j = sF f k j) : up2 σ f k g = up2 σ f k (sF f k) := by
  have e : g = sF f k := funext h
  rw [e]
theorem x_putG {C : Cx} {own : String} {cc : ByteArray} {nL d pc n nc ns : Nat} {ls : List (Nat × PV)} {st : List PV} {σ : Mm} (h : Ok C own cc nL d) {idx f j code k t g : Nat} {x : Int} (hI : Ini C) (hF : Fl own idx f j code true) (hg : code % 100 = g) {ci0 N0 : Nat} {T0 : u_T} {ty0 : Nat → FieldType} (hC0 : Cl f ci0 own T0 N0 ty0) (h5 : 500 ≤ code) (hx : x = (t : Int)) (hk : Lv n f k) (hd : decode cc pc = .ok (.putfield idx, 3)) (kk : X C 0 (pc + 3) ls st n (up3 σ f k j x) nc ns) : X C 0 pc ls (vR g t :: vR f k :: st) n σ nc ns := by
  subst hg
  exact x_putF h hI hF hC0 h5 hx hk hd kk
theorem sF_7 {f k j c : Nat} (hf : f ≤ 10) (hc : tyf f j = c) (h : 700 ≤ c) : sF f k j = ((k : Nat) : Int) := by
  rw [sF_obj hf]
  unfold gF fmem
  rw [hc, if_pos (by omega), if_pos h]
theorem sF_6 {f k j c : Nat} (hf : f ≤ 10) (hc : tyf f j = c) (h : 600 ≤ c ∧ c < 700) : sF f k j = ((1 : Nat) : Int) := by
  rw [sF_obj hf]
  unfold gF fmem
  rw [hc, if_pos (by omega), if_neg (by omega), if_pos h.1]
theorem sF_5 {f k j c : Nat} (hf : f ≤ 10) (hc : tyf f j = c) (h : 500 ≤ c ∧ c < 600) : sF f k j = ((0 : Nat) : Int) := by
  rw [sF_obj hf]
  unfold gF fmem
  rw [hc, if_pos (by omega), if_neg (by omega), if_neg (by omega)]
theorem sF_0 {f k j c : Nat} (hf : f ≤ 10) (hc : tyf f j = c) (h : c < 500) (h2 : ¬ (f = 2 ∧ (j = 1 ∨ j = 3 ∨ j = 4)) ∧ ¬ (f = 0 ∧ j = 4)) : sF f k j = 0 := by
  rw [sF_obj hf]
  unfold gF
  rw [hc, if_neg (by omega), if_neg (by omega), if_neg (by omega), if_neg (by omega)]
theorem sF_21 {k : Nat} (hc : tyf 2 1 = 16) : sF 2 k 1 = -1 := by
  rw [sF_obj (by decide)]
  unfold gF
  rw [hc, if_neg (by omega), if_pos (by omega)]
theorem sF_23 {k j : Nat} (hj : j = 3 ∨ j = 4) (hc : tyf 2 j = 0) : sF 2 k j = -9 := by
  rw [sF_obj (by decide)]
  unfold gF
  rw [hc, if_neg (by omega), if_neg (by omega), if_pos (by omega)]
theorem sF_04 {k : Nat} (hc : tyf 0 4 = 14) : sF 0 k 4 = 1 := by
  rw [sF_obj (by decide)]
  unfold gF
  rw [hc, if_neg (by omega), if_neg (by omega), if_neg (by omega), if_pos (by omega)]
theorem dfl_c {f j c : Nat} (hc : tyf f j = c) (h : c < 3) : dfl f j = 0 := by
  unfold dfl
  rw [hc, if_pos h]
theorem ty_0_0 : tyf 0 0 = 501 := by decide +kernel
theorem ty_0_1 : tyf 0 1 = 502 := by decide +kernel
theorem ty_0_2 : tyf 0 2 = 507 := by decide +kernel
theorem ty_0_3 : tyf 0 3 = 14 := by decide +kernel
theorem ty_0_4 : tyf 0 4 = 14 := by decide +kernel
theorem tl_0 : (tyT.getD 0 []).length = 5 := by decide +kernel
theorem ty_1_0 : tyf 1 0 = 511 := by decide +kernel
theorem ty_1_1 : tyf 1 1 = 0 := by decide +kernel
theorem tl_1 : (tyT.getD 1 []).length = 2 := by decide +kernel
theorem ty_2_0 : tyf 2 0 = 503 := by decide +kernel
theorem ty_2_1 : tyf 2 1 = 16 := by decide +kernel
theorem ty_2_2 : tyf 2 2 = 0 := by decide +kernel
theorem ty_2_3 : tyf 2 3 = 0 := by decide +kernel
theorem ty_2_4 : tyf 2 4 = 0 := by decide +kernel
theorem tl_2 : (tyT.getD 2 []).length = 5 := by decide +kernel
theorem ty_3_0 : tyf 3 0 = 501 := by decide +kernel
theorem ty_3_1 : tyf 3 1 = 0 := by decide +kernel
theorem ty_3_2 : tyf 3 2 = 0 := by decide +kernel
theorem ty_3_3 : tyf 3 3 = 0 := by decide +kernel
theorem ty_3_4 : tyf 3 4 = 1 := by decide +kernel
theorem tl_3 : (tyT.getD 3 []).length = 5 := by decide +kernel
theorem ty_4_0 : tyf 4 0 = 712 := by decide +kernel
theorem ty_4_1 : tyf 4 1 = 0 := by decide +kernel
theorem tl_4 : (tyT.getD 4 []).length = 2 := by decide +kernel
theorem ty_5_0 : tyf 5 0 = 706 := by decide +kernel
theorem ty_5_1 : tyf 5 1 = 716 := by decide +kernel
theorem ty_5_2 : tyf 5 2 = 717 := by decide +kernel
theorem ty_5_3 : tyf 5 3 = 1 := by decide +kernel
theorem ty_5_4 : tyf 5 4 = 1 := by decide +kernel
theorem ty_5_5 : tyf 5 5 = 2 := by decide +kernel
theorem ty_5_6 : tyf 5 6 = 2 := by decide +kernel
theorem ty_5_7 : tyf 5 7 = 1 := by decide +kernel
theorem ty_5_8 : tyf 5 8 = 0 := by decide +kernel
theorem tl_5 : (tyT.getD 5 []).length = 9 := by decide +kernel
theorem ty_6_0 : tyf 6 0 = 713 := by decide +kernel
theorem ty_6_1 : tyf 6 1 = 714 := by decide +kernel
theorem ty_6_2 : tyf 6 2 = 715 := by decide +kernel
theorem ty_6_3 : tyf 6 3 = 0 := by decide +kernel
theorem tl_6 : (tyT.getD 6 []).length = 4 := by decide +kernel
theorem ty_7_0 : tyf 7 0 = 508 := by decide +kernel
theorem ty_7_1 : tyf 7 1 = 608 := by decide +kernel
theorem ty_7_2 : tyf 7 2 = 509 := by decide +kernel
theorem ty_7_3 : tyf 7 3 = 1 := by decide +kernel
theorem ty_7_4 : tyf 7 4 = 609 := by decide +kernel
theorem ty_7_5 : tyf 7 5 = 14 := by decide +kernel
theorem ty_7_6 : tyf 7 6 = 519 := by decide +kernel
theorem ty_7_7 : tyf 7 7 = 0 := by decide +kernel
theorem ty_7_8 : tyf 7 8 = 0 := by decide +kernel
theorem ty_7_9 : tyf 7 9 = 520 := by decide +kernel
theorem ty_7_10 : tyf 7 10 = 0 := by decide +kernel
theorem ty_7_11 : tyf 7 11 = 2 := by decide +kernel
theorem tl_7 : (tyT.getD 7 []).length = 12 := by decide +kernel
theorem ty_8_0 : tyf 8 0 = 718 := by decide +kernel
theorem ty_8_1 : tyf 8 1 = 0 := by decide +kernel
theorem tl_8 : (tyT.getD 8 []).length = 2 := by decide +kernel
theorem ty_9_0 : tyf 9 0 = 1 := by decide +kernel
theorem ty_9_1 : tyf 9 1 = 1 := by decide +kernel
theorem tl_9 : (tyT.getD 9 []).length = 2 := by decide +kernel
theorem ty_10_0 : tyf 10 0 = 530 := by decide +kernel
theorem ty_10_1 : tyf 10 1 = 0 := by decide +kernel
theorem ty_10_2 : tyf 10 2 = 0 := by decide +kernel
theorem ty_10_3 : tyf 10 3 = 533 := by decide +kernel
theorem ty_10_4 : tyf 10 4 = 534 := by decide +kernel
theorem ty_10_5 : tyf 10 5 = 535 := by decide +kernel
theorem ty_10_6 : tyf 10 6 = 0 := by decide +kernel
theorem ty_10_7 : tyf 10 7 = 0 := by decide +kernel
theorem ty_10_8 : tyf 10 8 = 0 := by decide +kernel
theorem ty_10_9 : tyf 10 9 = 539 := by decide +kernel
theorem ty_10_10 : tyf 10 10 = 540 := by decide +kernel
theorem ty_10_11 : tyf 10 11 = 541 := by decide +kernel
theorem ty_10_12 : tyf 10 12 = 542 := by decide +kernel
theorem ty_10_13 : tyf 10 13 = 543 := by decide +kernel
theorem ty_10_14 : tyf 10 14 = 544 := by decide +kernel
theorem ty_10_15 : tyf 10 15 = 545 := by decide +kernel
theorem ty_10_16 : tyf 10 16 = 0 := by decide +kernel
theorem ty_10_17 : tyf 10 17 = 547 := by decide +kernel
theorem ty_10_18 : tyf 10 18 = 548 := by decide +kernel
theorem ty_10_19 : tyf 10 19 = 0 := by decide +kernel
theorem ty_10_20 : tyf 10 20 = 550 := by decide +kernel
theorem ty_10_21 : tyf 10 21 = 551 := by decide +kernel
theorem ty_10_22 : tyf 10 22 = 0 := by decide +kernel
theorem ty_10_23 : tyf 10 23 = 553 := by decide +kernel
theorem ty_10_24 : tyf 10 24 = 554 := by decide +kernel
theorem ty_10_25 : tyf 10 25 = 555 := by decide +kernel
theorem ty_10_26 : tyf 10 26 = 0 := by decide +kernel
theorem ty_10_27 : tyf 10 27 = 557 := by decide +kernel
theorem ty_10_28 : tyf 10 28 = 558 := by decide +kernel
theorem ty_10_29 : tyf 10 29 = 559 := by decide +kernel
theorem ty_10_30 : tyf 10 30 = 0 := by decide +kernel
theorem ty_10_31 : tyf 10 31 = 0 := by decide +kernel
theorem ty_10_32 : tyf 10 32 = 0 := by decide +kernel
theorem ty_10_33 : tyf 10 33 = 563 := by decide +kernel
theorem ty_10_34 : tyf 10 34 = 564 := by decide +kernel
theorem ty_10_35 : tyf 10 35 = 565 := by decide +kernel
theorem ty_10_36 : tyf 10 36 = 566 := by decide +kernel
theorem ty_10_37 : tyf 10 37 = 567 := by decide +kernel
theorem ty_10_38 : tyf 10 38 = 568 := by decide +kernel
theorem ty_10_39 : tyf 10 39 = 569 := by decide +kernel
theorem ty_10_40 : tyf 10 40 = 570 := by decide +kernel
theorem ty_10_41 : tyf 10 41 = 571 := by decide +kernel
theorem ty_10_42 : tyf 10 42 = 572 := by decide +kernel
theorem ty_10_43 : tyf 10 43 = 573 := by decide +kernel
theorem ty_10_44 : tyf 10 44 = 0 := by decide +kernel
theorem ty_10_45 : tyf 10 45 = 575 := by decide +kernel
theorem ty_10_46 : tyf 10 46 = 576 := by decide +kernel
theorem ty_10_47 : tyf 10 47 = 577 := by decide +kernel
theorem ty_10_48 : tyf 10 48 = 0 := by decide +kernel
theorem ty_10_49 : tyf 10 49 = 579 := by decide +kernel
theorem ty_10_50 : tyf 10 50 = 580 := by decide +kernel
theorem ty_10_51 : tyf 10 51 = 581 := by decide +kernel
theorem ty_10_52 : tyf 10 52 = 582 := by decide +kernel
theorem ty_10_53 : tyf 10 53 = 0 := by decide +kernel
theorem ty_10_54 : tyf 10 54 = 0 := by decide +kernel
theorem ty_10_55 : tyf 10 55 = 0 := by decide +kernel
theorem ty_10_56 : tyf 10 56 = 586 := by decide +kernel
theorem ty_10_57 : tyf 10 57 = 587 := by decide +kernel
theorem ty_10_58 : tyf 10 58 = 588 := by decide +kernel
theorem ty_10_59 : tyf 10 59 = 589 := by decide +kernel
theorem ty_10_60 : tyf 10 60 = 590 := by decide +kernel
theorem ty_10_61 : tyf 10 61 = 591 := by decide +kernel
theorem ty_10_62 : tyf 10 62 = 592 := by decide +kernel
theorem ty_10_63 : tyf 10 63 = 1 := by decide +kernel
theorem ty_10_64 : tyf 10 64 = 1 := by decide +kernel
theorem ty_10_65 : tyf 10 65 = 1 := by decide +kernel
theorem tl_10 : (tyT.getD 10 []).length = 66 := by decide +kernel
theorem i_X7 {d n k : Nat} {σ : Mm} (hk : Lv n 9 k) : Ct (d + 1) mX7_init 0 [vR 9 k] n (up2 σ 9 k (dfl 9)) none (n + 0) (up2 σ 9 k (sF 9 k)) 0 0 := by
  refine ct_of (by decide) (Nat.le_of_ble_eq_true rfl) (fun C h hr hI => ?_)
  have h : Ok C RX7 cX7_init 1 _ := h
  have hI := hI rfl
  obtain ⟨hc, hs⟩ := rt_room hr
  refine x_aload_n h dX7_init_0 rfl ?_
  refine x_objinit h (by omega) lkX7_1 dX7_init_1 (Nat.le_of_ble_eq_true rfl) ?_
  refine x_aload_n h dX7_init_4 rfl ?_
  refine x_lconst0 h dX7_init_5 ?_
  refine x_put h fl_7_7 (lv_le hk (by omega)) dX7_init_6 rfl (fun z => absurd z (by decide)) ?_
  rw [up3_2]
  refine x_aload_n h dX7_init_9 rfl ?_
  refine x_lconst0 h dX7_init_10 ?_
  refine x_put h fl_7_13 (lv_le hk (by omega)) dX7_init_11 rfl (fun z => absurd z (by decide)) ?_
  rw [up3_2]
  refine x_mem (inj_gF (f := 9) (k := k) (fun j => ?_)) ?_
  · by_cases hj : j < 2
    · rcases (by omega : j = 0 ∨ j = 1) with rfl | rfl
      · rw [sF_0 (by decide) ty_9_0 (by decide) (by decide)]
        unfold up1
        rw [if_neg (by decide), if_pos rfl]
      · rw [sF_0 (by decide) ty_9_1 (by decide) (by decide)]
        unfold up1
        rw [if_pos rfl]
    · rw [← out_eq (f := 9) (k := k) (N := 2) (by decide) tl_9 (by omega) (by omega)]
      unfold up1
      rw [if_neg (by omega), if_neg (by omega)]
  exact x_return h hr dX7_init_14 ⟨by decide, by decide⟩
theorem i_X6 {d n k : Nat} {σ : Mm} (hk : Lv n 3 0) : Ct (d + 1) mX6_init 0 [vR 3 0, vR 1 0] n (up2 σ 3 0 (dfl 3)) none (n + 0) (up2 σ 3 0 (sF 3 0)) 0 0 := by
  refine ct_of (by decide) (Nat.le_of_ble_eq_true rfl) (fun C h hr hI => ?_)
  have h : Ok C RX6 cX6_init 2 _ := h
  have hI := hI rfl
  obtain ⟨hc, hs⟩ := rt_room hr
  refine x_aload_n h dX6_init_0 rfl ?_
  refine x_objinit h (by omega) lkX6_3 dX6_init_1 (Nat.le_of_ble_eq_true rfl) ?_
  refine x_aload_n h dX6_init_4 rfl ?_
  refine x_aload_n h dX6_init_5 rfl ?_
  refine x_putG (g := 1) (code := 501) (x := ((0 : Nat) : Int)) (t := 0) h hI fl_6_9 rfl cl_6 (Nat.le_of_ble_eq_true rfl) rfl (lv_le hk (by omega)) dX6_init_6 ?_
  rw [up3_2]
  refine x_aload_n h dX6_init_9 rfl ?_
  refine x_iconst h dX6_init_10 ?_
  refine x_put h fl_6_15 (lv_le hk (by omega)) dX6_init_11 rfl (fun z => absurd z (by decide)) ?_
  rw [up3_2]
  refine x_aload_n h dX6_init_14 rfl ?_
  refine x_iconst h dX6_init_15 ?_
  refine x_put h fl_6_19 (lv_le hk (by omega)) dX6_init_16 rfl (fun z => absurd z (by decide)) ?_
  rw [up3_2]
  refine x_aload_n h dX6_init_19 rfl ?_
  refine x_iconst h dX6_init_20 ?_
  refine x_put h fl_6_22 (lv_le hk (by omega)) dX6_init_21 rfl (fun z => absurd z (by decide)) ?_
  rw [up3_2]
  refine x_aload_n h dX6_init_24 rfl ?_
  refine x_lconst0 h dX6_init_25 ?_
  refine x_put h fl_6_25 (lv_le hk (by omega)) dX6_init_26 rfl (fun z => absurd z (by decide)) ?_
  rw [up3_2]
  refine x_mem (inj_gF (f := 3) (k := 0) (fun j => ?_)) ?_
  · by_cases hj : j < 5
    · rcases (by omega : j = 0 ∨ j = 1 ∨ j = 2 ∨ j = 3 ∨ j = 4) with rfl | rfl | rfl | rfl | rfl
      · rw [sF_5 (by decide) ty_3_0 (by decide)]
        unfold up1
        rw [if_neg (by decide), if_neg (by decide), if_neg (by decide), if_neg (by decide), if_pos rfl]
      · rw [sF_0 (by decide) ty_3_1 (by decide) (by decide)]
        unfold up1
        rw [if_neg (by decide), if_neg (by decide), if_neg (by decide), if_pos rfl]
      · rw [sF_0 (by decide) ty_3_2 (by decide) (by decide)]
        unfold up1
        rw [if_neg (by decide), if_neg (by decide), if_pos rfl]
      · rw [sF_0 (by decide) ty_3_3 (by decide) (by decide)]
        unfold up1
        rw [if_neg (by decide), if_pos rfl]
      · rw [sF_0 (by decide) ty_3_4 (by decide) (by decide)]
        unfold up1
        rw [if_pos rfl]
    · rw [← out_eq (f := 3) (k := 0) (N := 5) (by decide) tl_3 (by omega) (by omega)]
      unfold up1
      rw [if_neg (by omega), if_neg (by omega), if_neg (by omega), if_neg (by omega), if_neg (by omega)]
  exact x_return h hr dX6_init_29 ⟨by decide, by decide⟩
theorem i_X3 {d n k : Nat} {σ : Mm} (hk : Lv n 1 0) (a0 : ALL[n]? = some (11, 0)) (hσ : ∀ f' k', (f' = 11) → σ f' k' = sF f' k') : Ct (d + 1) mX3_init 0 [vR 1 0] n (up2 σ 1 0 (dfl 1)) none (n + 1) (up2 σ 1 0 (sF 1 0)) 1 900 := by
  refine ct_of (by decide) (Nat.le_of_ble_eq_true rfl) (fun C h hr hI => ?_)
  have h : Ok C RX3 cX3_init 1 _ := h
  have hI := hI rfl
  obtain ⟨hc, hs⟩ := rt_room hr
  refine x_aload_n h dX3_init_0 rfl ?_
  refine x_objinit h (by omega) lkX3_3 dX3_init_1 (Nat.le_of_ble_eq_true rfl) ?_
  refine x_aload_n h dX3_init_4 rfl ?_
  refine x_sipush h dX3_init_5 (by decide) ?_
  refine x_newB (f := 11) (k := 0) h kdf_11 (a0) (fun j => by first | (rw [up2_o (by omega), hσ 11 _ (by omega)]; exact sF_arr (by omega)) | (rw [hσ 11 _ (by omega)]; exact sF_arr (by omega))) dX3_init_8 rfl (by decide) ⟨by rw [hc]; decide, by rw [hs]; decide⟩ ?_
  refine x_putG (g := 11) (code := 511) (x := ((0 : Nat) : Int)) (t := 0) h hI fl_3_9 rfl cl_3 (Nat.le_of_ble_eq_true rfl) rfl (lv_le hk (by omega)) dX3_init_10 ?_
  rw [up3_2]
  refine x_aload_n h dX3_init_13 rfl ?_
  refine x_iconst h dX3_init_14 ?_
  refine x_put h fl_3_15 (lv_le hk (by omega)) dX3_init_15 rfl (fun z => absurd z (by decide)) ?_
  rw [up3_2]
  refine x_mem (inj_gF (f := 1) (k := 0) (fun j => ?_)) ?_
  · by_cases hj : j < 2
    · rcases (by omega : j = 0 ∨ j = 1) with rfl | rfl
      · rw [sF_5 (by decide) ty_1_0 (by decide)]
        unfold up1
        rw [if_neg (by decide), if_pos rfl]
      · rw [sF_0 (by decide) ty_1_1 (by decide) (by decide)]
        unfold up1
        rw [if_pos rfl]
    · rw [← out_eq (f := 1) (k := 0) (N := 2) (by decide) tl_1 (by omega) (by omega)]
      unfold up1
      rw [if_neg (by omega), if_neg (by omega)]
  exact x_return h hr dX3_init_18 ⟨by decide, by decide⟩
theorem i_X1 {d n k : Nat} {σ : Mm} (hk : Lv n 8 k) (a0 : ALL[n]? = some (18, k)) (hσ : ∀ f' k', (f' = 18) → σ f' k' = sF f' k') : Ct (d + 1) mX1_init 0 [vR 8 k] n (up2 σ 8 k (dfl 8)) none (n + 1) (up2 σ 8 k (sF 8 k)) 1 400 := by
  refine ct_of (by decide) (Nat.le_of_ble_eq_true rfl) (fun C h hr hI => ?_)
  have h : Ok C RX1 cX1_init 1 _ := h
  have hI := hI rfl
  obtain ⟨hc, hs⟩ := rt_room hr
  refine x_aload_n h dX1_init_0 rfl ?_
  refine x_objinit h (by omega) lkX1_3 dX1_init_1 (Nat.le_of_ble_eq_true rfl) ?_
  refine x_aload_n h dX1_init_4 rfl ?_
  refine x_sipush h dX1_init_5 (by decide) ?_
  refine x_newL (f := 18) (k := k) h kdf_18 (a0) (fun j => by first | (rw [up2_o (by omega), hσ 18 _ (by omega)]; exact sF_arr (by omega)) | (rw [hσ 18 _ (by omega)]; exact sF_arr (by omega))) dX1_init_8 rfl (by decide) ⟨by rw [hc]; decide, by rw [hs]; decide⟩ ?_
  refine x_putG (g := 18) (code := 718) (x := ((k : Nat) : Int)) (t := k) h hI fl_1_11 rfl cl_1 (Nat.le_of_ble_eq_true rfl) rfl (lv_le hk (by omega)) dX1_init_10 ?_
  rw [up3_2]
  refine x_aload_n h dX1_init_13 rfl ?_
  refine x_iconst h dX1_init_14 ?_
  refine x_put h fl_1_15 (lv_le hk (by omega)) dX1_init_15 rfl (fun z => absurd z (by decide)) ?_
  rw [up3_2]
  refine x_mem (inj_gF (f := 8) (k := k) (fun j => ?_)) ?_
  · by_cases hj : j < 2
    · rcases (by omega : j = 0 ∨ j = 1) with rfl | rfl
      · rw [sF_7 (by decide) ty_8_0 (by decide)]
        unfold up1
        rw [if_neg (by decide), if_pos rfl]
      · rw [sF_0 (by decide) ty_8_1 (by decide) (by decide)]
        unfold up1
        rw [if_pos rfl]
    · rw [← out_eq (f := 8) (k := k) (N := 2) (by decide) tl_8 (by omega) (by omega)]
      unfold up1
      rw [if_neg (by omega), if_neg (by omega)]
  exact x_return h hr dX1_init_18 ⟨by decide, by decide⟩
theorem i_X0 {d n k : Nat} {σ : Mm} (hk : Lv n 6 k) (a0 : ALL[n]? = some (13, k)) (a1 : ALL[n + 1]? = some (14, k)) (a2 : ALL[n + 2]? = some (15, k)) (hσ : ∀ f' k', (f' = 13 ∨ f' = 14 ∨ f' = 15) → σ f' k' = sF f' k') : Ct (d + 1) mX0_init 0 [vR 6 k] n (up2 σ 6 k (dfl 6)) none (n + 3) (up2 σ 6 k (sF 6 k)) 3 144 := by
  refine ct_of (by decide) (Nat.le_of_ble_eq_true rfl) (fun C h hr hI => ?_)
  have h : Ok C RX0 cX0_init 1 _ := h
  have hI := hI rfl
  obtain ⟨hc, hs⟩ := rt_room hr
  refine x_aload_n h dX0_init_0 rfl ?_
  refine x_objinit h (by omega) lkX0_3 dX0_init_1 (Nat.le_of_ble_eq_true rfl) ?_
  refine x_aload_n h dX0_init_4 rfl ?_
  refine x_bipush h dX0_init_5 (by decide) ?_
  refine x_newI (f := 13) (k := k) h kdf_13 (a0) (fun j => by first | (rw [up2_o (by omega), hσ 13 _ (by omega)]; exact sF_arr (by omega)) | (rw [hσ 13 _ (by omega)]; exact sF_arr (by omega))) dX0_init_7 rfl (by decide) ⟨by rw [hc]; decide, by rw [hs]; decide⟩ ?_
  refine x_putG (g := 13) (code := 713) (x := ((k : Nat) : Int)) (t := k) h hI fl_0_9 rfl cl_0 (Nat.le_of_ble_eq_true rfl) rfl (lv_le hk (by omega)) dX0_init_9 ?_
  rw [up3_2]
  refine x_aload_n h dX0_init_12 rfl ?_
  refine x_bipush h dX0_init_13 (by decide) ?_
  refine x_newL (f := 14) (k := k) h kdf_14 (a1) (fun j => by first | (rw [up2_o (by omega), hσ 14 _ (by omega)]; exact sF_arr (by omega)) | (rw [hσ 14 _ (by omega)]; exact sF_arr (by omega))) dX0_init_15 rfl (by decide) ⟨by rw [hc]; decide, by rw [hs]; decide⟩ ?_
  refine x_putG (g := 14) (code := 714) (x := ((k : Nat) : Int)) (t := k) h hI fl_0_15 rfl cl_0 (Nat.le_of_ble_eq_true rfl) rfl (lv_le hk (by omega)) dX0_init_17 ?_
  rw [up3_2]
  refine x_aload_n h dX0_init_20 rfl ?_
  refine x_bipush h dX0_init_21 (by decide) ?_
  refine x_newI (f := 15) (k := k) h kdf_15 (a2) (fun j => by first | (rw [up2_o (by omega), hσ 15 _ (by omega)]; exact sF_arr (by omega)) | (rw [hσ 15 _ (by omega)]; exact sF_arr (by omega))) dX0_init_23 rfl (by decide) ⟨by rw [hc]; decide, by rw [hs]; decide⟩ ?_
  refine x_putG (g := 15) (code := 715) (x := ((k : Nat) : Int)) (t := k) h hI fl_0_19 rfl cl_0 (Nat.le_of_ble_eq_true rfl) rfl (lv_le hk (by omega)) dX0_init_25 ?_
  rw [up3_2]
  refine x_aload_n h dX0_init_28 rfl ?_
  refine x_iconst h dX0_init_29 ?_
  refine x_put h fl_0_22 (lv_le hk (by omega)) dX0_init_30 rfl (fun z => absurd z (by decide)) ?_
  rw [up3_2]
  refine x_mem (inj_gF (f := 6) (k := k) (fun j => ?_)) ?_
  · by_cases hj : j < 4
    · rcases (by omega : j = 0 ∨ j = 1 ∨ j = 2 ∨ j = 3) with rfl | rfl | rfl | rfl
      · rw [sF_7 (by decide) ty_6_0 (by decide)]
        unfold up1
        rw [if_neg (by decide), if_neg (by decide), if_neg (by decide), if_pos rfl]
      · rw [sF_7 (by decide) ty_6_1 (by decide)]
        unfold up1
        rw [if_neg (by decide), if_neg (by decide), if_pos rfl]
      · rw [sF_7 (by decide) ty_6_2 (by decide)]
        unfold up1
        rw [if_neg (by decide), if_pos rfl]
      · rw [sF_0 (by decide) ty_6_3 (by decide) (by decide)]
        unfold up1
        rw [if_pos rfl]
    · rw [← out_eq (f := 6) (k := k) (N := 4) (by decide) tl_6 (by omega) (by omega)]
      unfold up1
      rw [if_neg (by omega), if_neg (by omega), if_neg (by omega), if_neg (by omega)]
  exact x_return h hr dX0_init_33 ⟨by decide, by decide⟩
theorem i_X2 {d n k : Nat} {σ : Mm} (hk : Lv n 5 k) (a0 : ALL[n]? = some (6, k)) (a1 : ALL[n + 1]? = some (13, k)) (a2 : ALL[n + 2]? = some (14, k)) (a3 : ALL[n + 3]? = some (15, k)) (a4 : ALL[n + 4]? = some (16, k)) (a5 : ALL[n + 5]? = some (17, k)) (hσ : ∀ f' k', (f' = 6 ∨ (13 ≤ f' ∧ f' ≤ 17)) → σ f' k' = sF f' k') : Ct (d + 2) mX2_init 0 [vR 5 k] n (up2 σ 5 k (dfl 5)) none (n + 6) (up2 σ 5 k (sF 5 k)) 6 373 := by
  refine ct_of (by decide) (Nat.le_of_ble_eq_true rfl) (fun C h hr hI => ?_)
  have h : Ok C RX2 cX2_init 1 _ := h
  have hI := hI rfl
  obtain ⟨hc, hs⟩ := rt_room hr
  refine x_aload_n h dX2_init_0 rfl ?_
  refine x_objinit h (by omega) lkX2_3 dX2_init_1 (Nat.le_of_ble_eq_true rfl) ?_
  refine x_aload_n h dX2_init_4 rfl ?_
  refine x_new (f := 6) (k := k) h cl_0 ckX2_9 in0 iz0 (a0) dX2_init_5 ⟨by rw [hc]; decide, by rw [hs]; decide⟩ ?_
  refine x_dup h dX2_init_8 rfl ?_
  refine x_callI h kIX0_init lkX2_11 (i_X0 (d := d) (n := n + 1) (k := k) (lv_new a0) a1 a2 a3 (fun f' k' hp => by rw [up2_o (by omega)]; exact hσ f' k' (by omega))) rfl dX2_init_9 rfl (Nat.le_of_ble_eq_true rfl) (by omega) ⟨by rw [hc]; decide, by rw [hs]; decide⟩ ?_
  rw [up2_id (f := 6) (k := k) (g := sF 6 k) (by rw [up2_o (by omega)]; exact hσ _ _ (by omega))]
  refine x_putG (g := 6) (code := 706) (x := ((k : Nat) : Int)) (t := k) h hI fl_2_12 rfl cl_2 (Nat.le_of_ble_eq_true rfl) rfl (lv_le hk (by omega)) dX2_init_12 ?_
  rw [up3_2]
  refine x_aload_n h dX2_init_15 rfl ?_
  refine x_sipush h dX2_init_16 (by decide) ?_
  refine x_newL (f := 16) (k := k) h kdf_16 (a4) (fun j => by first | (rw [up2_o (by omega), hσ 16 _ (by omega)]; exact sF_arr (by omega)) | (rw [hσ 16 _ (by omega)]; exact sF_arr (by omega))) dX2_init_19 rfl (by decide) ⟨by rw [hc]; decide, by rw [hs]; decide⟩ ?_
  refine x_putG (g := 16) (code := 716) (x := ((k : Nat) : Int)) (t := k) h hI fl_2_18 rfl cl_2 (Nat.le_of_ble_eq_true rfl) rfl (lv_le hk (by omega)) dX2_init_21 ?_
  rw [up3_2]
  refine x_aload_n h dX2_init_24 rfl ?_
  refine x_bipush h dX2_init_25 (by decide) ?_
  refine x_newI (f := 17) (k := k) h kdf_17 (a5) (fun j => by first | (rw [up2_o (by omega), hσ 17 _ (by omega)]; exact sF_arr (by omega)) | (rw [hσ 17 _ (by omega)]; exact sF_arr (by omega))) dX2_init_27 rfl (by decide) ⟨by rw [hc]; decide, by rw [hs]; decide⟩ ?_
  refine x_putG (g := 17) (code := 717) (x := ((k : Nat) : Int)) (t := k) h hI fl_2_22 rfl cl_2 (Nat.le_of_ble_eq_true rfl) rfl (lv_le hk (by omega)) dX2_init_29 ?_
  rw [up3_2]
  refine x_aload_n h dX2_init_32 rfl ?_
  refine x_lconst0 h dX2_init_33 ?_
  refine x_put h fl_2_26 (lv_le hk (by omega)) dX2_init_34 rfl (fun z => absurd z (by decide)) ?_
  rw [up3_2]
  refine x_aload_n h dX2_init_37 rfl ?_
  refine x_lconst0 h dX2_init_38 ?_
  refine x_put h fl_2_30 (lv_le hk (by omega)) dX2_init_39 rfl (fun z => absurd z (by decide)) ?_
  rw [up3_2]
  refine x_aload_n h dX2_init_42 rfl ?_
  refine x_iconst h dX2_init_43 ?_
  refine x_put h fl_2_33 (lv_le hk (by omega)) dX2_init_44 rfl (fun _ => Or.inl rfl) ?_
  rw [up3_2]
  refine x_aload_n h dX2_init_47 rfl ?_
  refine x_iconst h dX2_init_48 ?_
  refine x_put h fl_2_37 (lv_le hk (by omega)) dX2_init_49 rfl (fun _ => Or.inl rfl) ?_
  rw [up3_2]
  refine x_aload_n h dX2_init_52 rfl ?_
  refine x_lconst0 h dX2_init_53 ?_
  refine x_put h fl_2_40 (lv_le hk (by omega)) dX2_init_54 rfl (fun z => absurd z (by decide)) ?_
  rw [up3_2]
  refine x_aload_n h dX2_init_57 rfl ?_
  refine x_iconst h dX2_init_58 ?_
  refine x_put h fl_2_43 (lv_le hk (by omega)) dX2_init_59 rfl (fun z => absurd z (by decide)) ?_
  rw [up3_2]
  refine x_mem (inj_gF (f := 5) (k := k) (fun j => ?_)) ?_
  · by_cases hj : j < 9
    · rcases (by omega : j = 0 ∨ j = 1 ∨ j = 2 ∨ j = 3 ∨ j = 4 ∨ j = 5 ∨ j = 6 ∨ j = 7 ∨ j = 8) with rfl | rfl | rfl | rfl | rfl | rfl | rfl | rfl | rfl
      · rw [sF_7 (by decide) ty_5_0 (by decide)]
        unfold up1
        rw [if_neg (by decide), if_neg (by decide), if_neg (by decide), if_neg (by decide), if_neg (by decide), if_neg (by decide), if_neg (by decide), if_neg (by decide), if_pos rfl]
      · rw [sF_7 (by decide) ty_5_1 (by decide)]
        unfold up1
        rw [if_neg (by decide), if_neg (by decide), if_neg (by decide), if_neg (by decide), if_neg (by decide), if_neg (by decide), if_neg (by decide), if_pos rfl]
      · rw [sF_7 (by decide) ty_5_2 (by decide)]
        unfold up1
        rw [if_neg (by decide), if_neg (by decide), if_neg (by decide), if_neg (by decide), if_neg (by decide), if_neg (by decide), if_pos rfl]
      · rw [sF_0 (by decide) ty_5_3 (by decide) (by decide)]
        unfold up1
        rw [if_neg (by decide), if_neg (by decide), if_neg (by decide), if_neg (by decide), if_neg (by decide), if_pos rfl]
      · rw [sF_0 (by decide) ty_5_4 (by decide) (by decide)]
        unfold up1
        rw [if_neg (by decide), if_neg (by decide), if_neg (by decide), if_neg (by decide), if_pos rfl]
      · rw [sF_0 (by decide) ty_5_5 (by decide) (by decide)]
        unfold up1
        rw [if_neg (by decide), if_neg (by decide), if_neg (by decide), if_pos rfl]
      · rw [sF_0 (by decide) ty_5_6 (by decide) (by decide)]
        unfold up1
        rw [if_neg (by decide), if_neg (by decide), if_pos rfl]
      · rw [sF_0 (by decide) ty_5_7 (by decide) (by decide)]
        unfold up1
        rw [if_neg (by decide), if_pos rfl]
      · rw [sF_0 (by decide) ty_5_8 (by decide) (by decide)]
        unfold up1
        rw [if_pos rfl]
    · rw [← out_eq (f := 5) (k := k) (N := 9) (by decide) tl_5 (by omega) (by omega)]
      unfold up1
      rw [if_neg (by omega), if_neg (by omega), if_neg (by omega), if_neg (by omega), if_neg (by omega), if_neg (by omega), if_neg (by omega), if_neg (by omega), if_neg (by omega)]
  exact x_return h hr dX2_init_62 ⟨by decide, by decide⟩
theorem i_X5 {d n k : Nat} {σ : Mm} (hk : Lv n 2 0) (a0 : ALL[n]? = some (3, 0)) (hσ : ∀ f' k', (f' = 3) → σ f' k' = sF f' k') : Ct (d + 2) mX5_init 0 [vR 2 0, vR 1 0] n (up2 σ 2 0 (dfl 2)) none (n + 1) (up2 σ 2 0 (sF 2 0)) 1 5 := by
  refine ct_of (by decide) (Nat.le_of_ble_eq_true rfl) (fun C h hr hI => ?_)
  have h : Ok C RX5 cX5_init 2 _ := h
  have hI := hI rfl
  obtain ⟨hc, hs⟩ := rt_room hr
  refine x_aload_n h dX5_init_0 rfl ?_
  refine x_objinit h (by omega) lkX5_3 dX5_init_1 (Nat.le_of_ble_eq_true rfl) ?_
  refine x_aload_n h dX5_init_4 rfl ?_
  refine x_new (f := 3) (k := 0) h cl_6 ckX5_9 in6 iz6 (a0) dX5_init_5 ⟨by rw [hc]; decide, by rw [hs]; decide⟩ ?_
  refine x_dup h dX5_init_8 rfl ?_
  refine x_aload_n h dX5_init_9 rfl ?_
  refine x_callI h kIX6_init lkX5_11 (i_X6 (d := d) (n := n + 1) (k := k) (lv_new a0)) rfl dX5_init_10 rfl (Nat.le_of_ble_eq_true rfl) (by omega) ⟨by rw [hc]; decide, by rw [hs]; decide⟩ ?_
  rw [up2_id (f := 3) (k := 0) (g := sF 3 0) (by rw [up2_o (by omega)]; exact hσ _ _ (by omega))]
  refine x_putG (g := 3) (code := 503) (x := ((0 : Nat) : Int)) (t := 0) h hI fl_5_14 rfl cl_5 (Nat.le_of_ble_eq_true rfl) rfl (lv_le hk (by omega)) dX5_init_13 ?_
  rw [up3_2]
  refine x_aload_n h dX5_init_16 rfl ?_
  refine x_null h dX5_init_17 ?_
  refine x_put (x := -1) h fl_5_20 (lv_le hk (by omega)) dX5_init_18 rfl (fun z => absurd z (by decide)) ?_
  rw [up3_2]
  refine x_aload_n h dX5_init_21 rfl ?_
  refine x_iconst h dX5_init_22 ?_
  refine x_put h fl_5_24 (lv_le hk (by omega)) dX5_init_23 rfl (fun z => absurd z (by decide)) ?_
  rw [up3_2]
  refine x_aload_n h dX5_init_26 rfl ?_
  refine x_bipush h dX5_init_27 (by decide) ?_
  refine x_put h fl_5_28 (lv_le hk (by omega)) dX5_init_29 rfl (fun z => absurd z (by decide)) ?_
  rw [up3_2]
  refine x_aload_n h dX5_init_32 rfl ?_
  refine x_bipush h dX5_init_33 (by decide) ?_
  refine x_put h fl_5_31 (lv_le hk (by omega)) dX5_init_35 rfl (fun z => absurd z (by decide)) ?_
  rw [up3_2]
  refine x_mem (inj_gF (f := 2) (k := 0) (fun j => ?_)) ?_
  · by_cases hj : j < 5
    · rcases (by omega : j = 0 ∨ j = 1 ∨ j = 2 ∨ j = 3 ∨ j = 4) with rfl | rfl | rfl | rfl | rfl
      · rw [sF_5 (by decide) ty_2_0 (by decide)]
        unfold up1
        rw [if_neg (by decide), if_neg (by decide), if_neg (by decide), if_neg (by decide), if_pos rfl]
      · rw [sF_21 ty_2_1]
        unfold up1
        rw [if_neg (by decide), if_neg (by decide), if_neg (by decide), if_pos rfl]
      · rw [sF_0 (by decide) ty_2_2 (by decide) (by decide)]
        unfold up1
        rw [if_neg (by decide), if_neg (by decide), if_pos rfl]
      · rw [sF_23 (by decide) ty_2_3]
        unfold up1
        rw [if_neg (by decide), if_pos rfl]
      · rw [sF_23 (by decide) ty_2_4]
        unfold up1
        rw [if_pos rfl]
    · rw [← out_eq (f := 2) (k := 0) (N := 5) (by decide) tl_2 (by omega) (by omega)]
      unfold up1
      rw [if_neg (by omega), if_neg (by omega), if_neg (by omega), if_neg (by omega), if_neg (by omega)]
  exact x_return h hr dX5_init_38 ⟨by decide, by decide⟩
theorem i_X8 {d n k : Nat} {σ : Mm} (hk : Lv n 7 0) (a0 : ALL[n]? = some (8, 0)) (a1 : ALL[n + 1]? = some (18, 0)) (a2 : ALL[n + 2]? = some (8, 1)) (a3 : ALL[n + 3]? = some (18, 1)) (a4 : ALL[n + 4]? = some (9, 0)) (a5 : ALL[n + 5]? = some (9, 1)) (a6 : ALL[n + 6]? = some (19, 0)) (a7 : ALL[n + 7]? = some (20, 0)) (hσ : ∀ f' k', ((8 ≤ f' ∧ f' ≤ 9) ∨ (18 ≤ f' ∧ f' ≤ 20)) → σ f' k' = sF f' k') : Ct (d + 2) mX8_init 0 [vR 7 0, vR 4 0] n (up2 σ 7 0 (dfl 7)) none (n + 8) (up2 σ 7 0 (sF 7 0)) 8 1108 := by
  refine ct_of (by decide) (Nat.le_of_ble_eq_true rfl) (fun C h hr hI => ?_)
  have h : Ok C RX8 cX8_init 2 _ := h
  have hI := hI rfl
  obtain ⟨hc, hs⟩ := rt_room hr
  refine x_aload_n h dX8_init_0 rfl ?_
  refine x_objinit h (by omega) lkX8_3 dX8_init_1 (Nat.le_of_ble_eq_true rfl) ?_
  refine x_aload_n h dX8_init_4 rfl ?_
  refine x_new (f := 8) (k := 0) h cl_1 ckX8_9 in1 iz1 (a0) dX8_init_5 ⟨by rw [hc]; decide, by rw [hs]; decide⟩ ?_
  refine x_dup h dX8_init_8 rfl ?_
  refine x_callI h kIX1_init lkX8_11 (i_X1 (d := d) (n := n + 1) (k := 0) (lv_new a0) a1 (fun f' k' hp => by rw [up2_o (by omega)]; exact hσ f' k' (by omega))) rfl dX8_init_9 rfl (Nat.le_of_ble_eq_true rfl) (by omega) ⟨by rw [hc]; decide, by rw [hs]; decide⟩ ?_
  rw [up2_id (f := 8) (k := 0) (g := sF 8 0) (by rw [up2_o (by omega)]; exact hσ _ _ (by omega))]
  refine x_putG (g := 8) (code := 508) (x := ((0 : Nat) : Int)) (t := 0) h hI fl_8_12 rfl cl_8 (Nat.le_of_ble_eq_true rfl) rfl (lv_le hk (by omega)) dX8_init_12 ?_
  rw [up3_2]
  refine x_aload_n h dX8_init_15 rfl ?_
  refine x_new (f := 8) (k := 1) h cl_1 ckX8_9 in1 iz1 (a2) dX8_init_16 ⟨by rw [hc]; decide, by rw [hs]; decide⟩ ?_
  refine x_dup h dX8_init_19 rfl ?_
  refine x_callI h kIX1_init lkX8_11 (i_X1 (d := d) (n := n + 3) (k := 1) (lv_new a2) a3 (fun f' k' hp => by rw [up2_o (by omega)]; exact hσ f' k' (by omega))) rfl dX8_init_20 rfl (Nat.le_of_ble_eq_true rfl) (by omega) ⟨by rw [hc]; decide, by rw [hs]; decide⟩ ?_
  rw [up2_id (f := 8) (k := 1) (g := sF 8 1) (by rw [up2_o (by omega)]; exact hσ _ _ (by omega))]
  refine x_putG (g := 8) (code := 608) (x := ((1 : Nat) : Int)) (t := 1) h hI fl_8_18 rfl cl_8 (Nat.le_of_ble_eq_true rfl) rfl (lv_le hk (by omega)) dX8_init_23 ?_
  rw [up3_2]
  refine x_aload_n h dX8_init_26 rfl ?_
  refine x_new (f := 9) (k := 0) h cl_7 ckX8_21 in7 iz7 (a4) dX8_init_27 ⟨by rw [hc]; decide, by rw [hs]; decide⟩ ?_
  refine x_dup h dX8_init_30 rfl ?_
  refine x_callI h kIX7_init lkX8_23 (i_X7 (d := d) (n := n + 5) (k := 0) (lv_new a4)) rfl dX8_init_31 rfl (Nat.le_of_ble_eq_true rfl) (by omega) ⟨by rw [hc]; decide, by rw [hs]; decide⟩ ?_
  rw [up2_id (f := 9) (k := 0) (g := sF 9 0) (by rw [up2_o (by omega)]; exact hσ _ _ (by omega))]
  refine x_putG (g := 9) (code := 509) (x := ((0 : Nat) : Int)) (t := 0) h hI fl_8_24 rfl cl_8 (Nat.le_of_ble_eq_true rfl) rfl (lv_le hk (by omega)) dX8_init_34 ?_
  rw [up3_2]
  refine x_aload_n h dX8_init_37 rfl ?_
  refine x_lconst0 h dX8_init_38 ?_
  refine x_put h fl_8_28 (lv_le hk (by omega)) dX8_init_39 rfl (fun z => absurd z (by decide)) ?_
  rw [up3_2]
  refine x_aload_n h dX8_init_42 rfl ?_
  refine x_new (f := 9) (k := 1) h cl_7 ckX8_21 in7 iz7 (a5) dX8_init_43 ⟨by rw [hc]; decide, by rw [hs]; decide⟩ ?_
  refine x_dup h dX8_init_46 rfl ?_
  refine x_callI h kIX7_init lkX8_23 (i_X7 (d := d) (n := n + 6) (k := 1) (lv_new a5)) rfl dX8_init_47 rfl (Nat.le_of_ble_eq_true rfl) (by omega) ⟨by rw [hc]; decide, by rw [hs]; decide⟩ ?_
  rw [up2_id (f := 9) (k := 1) (g := sF 9 1) (by rw [up2_o (by omega)]; exact hσ _ _ (by omega))]
  refine x_putG (g := 9) (code := 609) (x := ((1 : Nat) : Int)) (t := 1) h hI fl_8_32 rfl cl_8 (Nat.le_of_ble_eq_true rfl) rfl (lv_le hk (by omega)) dX8_init_50 ?_
  rw [up3_2]
  refine x_aload_n h dX8_init_53 rfl ?_
  refine x_aload_n h dX8_init_54 rfl ?_
  refine x_put (x := 0) h fl_8_35 (lv_le hk (by omega)) dX8_init_55 rfl (fun z => absurd z (by decide)) ?_
  rw [up3_2]
  refine x_aload_n h dX8_init_58 rfl ?_
  refine x_sipush h dX8_init_59 (by decide) ?_
  refine x_newL (f := 19) (k := 0) h kdf_19 (a6) (fun j => by first | (rw [up2_o (by omega), hσ 19 _ (by omega)]; exact sF_arr (by omega)) | (rw [hσ 19 _ (by omega)]; exact sF_arr (by omega))) dX8_init_62 rfl (by decide) ⟨by rw [hc]; decide, by rw [hs]; decide⟩ ?_
  refine x_putG (g := 19) (code := 519) (x := ((0 : Nat) : Int)) (t := 0) h hI fl_8_39 rfl cl_8 (Nat.le_of_ble_eq_true rfl) rfl (lv_le hk (by omega)) dX8_init_64 ?_
  rw [up3_2]
  refine x_aload_n h dX8_init_67 rfl ?_
  refine x_iconst h dX8_init_68 ?_
  refine x_put h fl_8_43 (lv_le hk (by omega)) dX8_init_69 rfl (fun z => absurd z (by decide)) ?_
  rw [up3_2]
  refine x_aload_n h dX8_init_72 rfl ?_
  refine x_iconst h dX8_init_73 ?_
  refine x_put h fl_8_47 (lv_le hk (by omega)) dX8_init_74 rfl (fun z => absurd z (by decide)) ?_
  rw [up3_2]
  refine x_aload_n h dX8_init_77 rfl ?_
  refine x_bipush h dX8_init_78 (by decide) ?_
  refine x_newI (f := 20) (k := 0) h kdf_20 (a7) (fun j => by first | (rw [up2_o (by omega), hσ 20 _ (by omega)]; exact sF_arr (by omega)) | (rw [hσ 20 _ (by omega)]; exact sF_arr (by omega))) dX8_init_80 rfl (by decide) ⟨by rw [hc]; decide, by rw [hs]; decide⟩ ?_
  refine x_putG (g := 20) (code := 520) (x := ((0 : Nat) : Int)) (t := 0) h hI fl_8_50 rfl cl_8 (Nat.le_of_ble_eq_true rfl) rfl (lv_le hk (by omega)) dX8_init_82 ?_
  rw [up3_2]
  refine x_aload_n h dX8_init_85 rfl ?_
  refine x_iconst h dX8_init_86 ?_
  refine x_put h fl_8_54 (lv_le hk (by omega)) dX8_init_87 rfl (fun z => absurd z (by decide)) ?_
  rw [up3_2]
  refine x_aload_n h dX8_init_90 rfl ?_
  refine x_iconst h dX8_init_91 ?_
  refine x_put h fl_8_57 (lv_le hk (by omega)) dX8_init_92 rfl (fun _ => Or.inl rfl) ?_
  rw [up3_2]
  refine x_mem (inj_gF (f := 7) (k := 0) (fun j => ?_)) ?_
  · by_cases hj : j < 12
    · rcases (by omega : j = 0 ∨ j = 1 ∨ j = 2 ∨ j = 3 ∨ j = 4 ∨ j = 5 ∨ j = 6 ∨ j = 7 ∨ j = 8 ∨ j = 9 ∨ j = 10 ∨ j = 11) with rfl | rfl | rfl | rfl | rfl | rfl | rfl | rfl | rfl | rfl | rfl | rfl
      · rw [sF_5 (by decide) ty_7_0 (by decide)]
        unfold up1
        rw [if_neg (by decide), if_neg (by decide), if_neg (by decide), if_neg (by decide), if_neg (by decide), if_neg (by decide), if_neg (by decide), if_neg (by decide), if_neg (by decide), if_neg (by decide), if_neg (by decide), if_pos rfl]
      · rw [sF_6 (by decide) ty_7_1 (by decide)]
        unfold up1
        rw [if_neg (by decide), if_neg (by decide), if_neg (by decide), if_neg (by decide), if_neg (by decide), if_neg (by decide), if_neg (by decide), if_neg (by decide), if_neg (by decide), if_neg (by decide), if_pos rfl]
      · rw [sF_5 (by decide) ty_7_2 (by decide)]
        unfold up1
        rw [if_neg (by decide), if_neg (by decide), if_neg (by decide), if_neg (by decide), if_neg (by decide), if_neg (by decide), if_neg (by decide), if_neg (by decide), if_neg (by decide), if_pos rfl]
      · rw [sF_0 (by decide) ty_7_3 (by decide) (by decide)]
        unfold up1
        rw [if_neg (by decide), if_neg (by decide), if_neg (by decide), if_neg (by decide), if_neg (by decide), if_neg (by decide), if_neg (by decide), if_neg (by decide), if_pos rfl]
      · rw [sF_6 (by decide) ty_7_4 (by decide)]
        unfold up1
        rw [if_neg (by decide), if_neg (by decide), if_neg (by decide), if_neg (by decide), if_neg (by decide), if_neg (by decide), if_neg (by decide), if_pos rfl]
      · rw [sF_0 (by decide) ty_7_5 (by decide) (by decide)]
        unfold up1
        rw [if_neg (by decide), if_neg (by decide), if_neg (by decide), if_neg (by decide), if_neg (by decide), if_neg (by decide), if_pos rfl]
      · rw [sF_5 (by decide) ty_7_6 (by decide)]
        unfold up1
        rw [if_neg (by decide), if_neg (by decide), if_neg (by decide), if_neg (by decide), if_neg (by decide), if_pos rfl]
      · rw [sF_0 (by decide) ty_7_7 (by decide) (by decide)]
        unfold up1
        rw [if_neg (by decide), if_neg (by decide), if_neg (by decide), if_neg (by decide), if_pos rfl]
      · rw [sF_0 (by decide) ty_7_8 (by decide) (by decide)]
        unfold up1
        rw [if_neg (by decide), if_neg (by decide), if_neg (by decide), if_pos rfl]
      · rw [sF_5 (by decide) ty_7_9 (by decide)]
        unfold up1
        rw [if_neg (by decide), if_neg (by decide), if_pos rfl]
      · rw [sF_0 (by decide) ty_7_10 (by decide) (by decide)]
        unfold up1
        rw [if_neg (by decide), if_pos rfl]
      · rw [sF_0 (by decide) ty_7_11 (by decide) (by decide)]
        unfold up1
        rw [if_pos rfl]
    · rw [← out_eq (f := 7) (k := 0) (N := 12) (by decide) tl_7 (by omega) (by omega)]
      unfold up1
      rw [if_neg (by omega), if_neg (by omega), if_neg (by omega), if_neg (by omega), if_neg (by omega), if_neg (by omega), if_neg (by omega), if_neg (by omega), if_neg (by omega), if_neg (by omega), if_neg (by omega), if_neg (by omega)]
  exact x_return h hr dX8_init_95 ⟨by decide, by decide⟩
