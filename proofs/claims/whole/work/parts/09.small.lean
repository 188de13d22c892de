/-! cells that are there; the small methods of the class -/
theorem lv_all {f k : Nat} (h : k < cnt f) : Lv NALL f k := by
  refine ⟨h, ?_⟩
  have h1 := (List.getElem?_eq_some_iff.mp (all_num h)).1
  rw [all_len] at h1
  exact h1
theorem lvz_0 : Lv NALL 0 0 := lv_all (by decide)
theorem lvz_1 : Lv NALL 1 0 := lv_all (by decide)
theorem lvz_2 : Lv NALL 2 0 := lv_all (by decide)
theorem lvz_3 : Lv NALL 3 0 := lv_all (by decide)
theorem lvz_7 : Lv NALL 7 0 := lv_all (by decide)
theorem lvz_10 : Lv NALL 10 0 := lv_all (by decide)
theorem lvz_11 : Lv NALL 11 0 := lv_all (by decide)
theorem lvz_19 : Lv NALL 19 0 := lv_all (by decide)
theorem lvz_20 : Lv NALL 20 0 := lv_all (by decide)
theorem lvz_30 : Lv NALL 30 0 := lv_all (by decide)
theorem lvz_33 : Lv NALL 33 0 := lv_all (by decide)
theorem lvz_34 : Lv NALL 34 0 := lv_all (by decide)
theorem lvz_35 : Lv NALL 35 0 := lv_all (by decide)
theorem lvz_39 : Lv NALL 39 0 := lv_all (by decide)
theorem lvz_40 : Lv NALL 40 0 := lv_all (by decide)
theorem lvz_41 : Lv NALL 41 0 := lv_all (by decide)
theorem lvz_42 : Lv NALL 42 0 := lv_all (by decide)
theorem lvz_43 : Lv NALL 43 0 := lv_all (by decide)
theorem lvz_44 : Lv NALL 44 0 := lv_all (by decide)
theorem lvz_45 : Lv NALL 45 0 := lv_all (by decide)
theorem lvz_47 : Lv NALL 47 0 := lv_all (by decide)
theorem lvz_48 : Lv NALL 48 0 := lv_all (by decide)
theorem lvz_50 : Lv NALL 50 0 := lv_all (by decide)
theorem lvz_51 : Lv NALL 51 0 := lv_all (by decide)
theorem lvz_53 : Lv NALL 53 0 := lv_all (by decide)
theorem lvz_54 : Lv NALL 54 0 := lv_all (by decide)
theorem lvz_55 : Lv NALL 55 0 := lv_all (by decide)
theorem lvz_57 : Lv NALL 57 0 := lv_all (by decide)
theorem lvz_58 : Lv NALL 58 0 := lv_all (by decide)
theorem lvz_59 : Lv NALL 59 0 := lv_all (by decide)
theorem lvz_63 : Lv NALL 63 0 := lv_all (by decide)
theorem lvz_64 : Lv NALL 64 0 := lv_all (by decide)
theorem lvz_65 : Lv NALL 65 0 := lv_all (by decide)
theorem lvz_66 : Lv NALL 66 0 := lv_all (by decide)
theorem lvz_67 : Lv NALL 67 0 := lv_all (by decide)
theorem lvz_68 : Lv NALL 68 0 := lv_all (by decide)
theorem lvz_69 : Lv NALL 69 0 := lv_all (by decide)
theorem lvz_70 : Lv NALL 70 0 := lv_all (by decide)
theorem lvz_71 : Lv NALL 71 0 := lv_all (by decide)
theorem lvz_72 : Lv NALL 72 0 := lv_all (by decide)
theorem lvz_73 : Lv NALL 73 0 := lv_all (by decide)
theorem lvz_75 : Lv NALL 75 0 := lv_all (by decide)
theorem lvz_76 : Lv NALL 76 0 := lv_all (by decide)
theorem lvz_77 : Lv NALL 77 0 := lv_all (by decide)
theorem lvz_79 : Lv NALL 79 0 := lv_all (by decide)
theorem lvz_80 : Lv NALL 80 0 := lv_all (by decide)
theorem lvz_81 : Lv NALL 81 0 := lv_all (by decide)
theorem lvz_82 : Lv NALL 82 0 := lv_all (by decide)
theorem lvz_86 : Lv NALL 86 0 := lv_all (by decide)
theorem lvz_87 : Lv NALL 87 0 := lv_all (by decide)
theorem lvz_88 : Lv NALL 88 0 := lv_all (by decide)
theorem lvz_89 : Lv NALL 89 0 := lv_all (by decide)
theorem lvz_90 : Lv NALL 90 0 := lv_all (by decide)
theorem lvz_91 : Lv NALL 91 0 := lv_all (by decide)
theorem lvz_92 : Lv NALL 92 0 := lv_all (by decide)
theorem lvm_4 {k : Nat} (h : k < 2) : Lv NALL 4 k := lv_all h
theorem lvm_5 {k : Nat} (h : k < 24) : Lv NALL 5 k := lv_all h
theorem lvm_6 {k : Nat} (h : k < 24) : Lv NALL 6 k := lv_all h
theorem lvm_8 {k : Nat} (h : k < 2) : Lv NALL 8 k := lv_all h
theorem lvm_9 {k : Nat} (h : k < 2) : Lv NALL 9 k := lv_all h
theorem lvm_12 {k : Nat} (h : k < 2) : Lv NALL 12 k := lv_all h
theorem lvm_13 {k : Nat} (h : k < 24) : Lv NALL 13 k := lv_all h
theorem lvm_14 {k : Nat} (h : k < 24) : Lv NALL 14 k := lv_all h
theorem lvm_15 {k : Nat} (h : k < 24) : Lv NALL 15 k := lv_all h
theorem lvm_16 {k : Nat} (h : k < 24) : Lv NALL 16 k := lv_all h
theorem lvm_17 {k : Nat} (h : k < 24) : Lv NALL 17 k := lv_all h
theorem lvm_18 {k : Nat} (h : k < 2) : Lv NALL 18 k := lv_all h
theorem pvf_501 (k : Nat) (x : Int) : pv 1 501 k x = vR 1 0 := rfl
theorem pvf_502 (k : Nat) (x : Int) : pv 1 502 k x = vR 2 0 := rfl
theorem pvf_503 (k : Nat) (x : Int) : pv 1 503 k x = vR 3 0 := rfl
theorem pvf_507 (k : Nat) (x : Int) : pv 1 507 k x = vR 7 0 := rfl
theorem pvf_508 (k : Nat) (x : Int) : pv 1 508 k x = vR 8 0 := rfl
theorem pvf_509 (k : Nat) (x : Int) : pv 1 509 k x = vR 9 0 := rfl
theorem pvf_511 (k : Nat) (x : Int) : pv 1 511 k x = vR 11 0 := rfl
theorem pvf_519 (k : Nat) (x : Int) : pv 1 519 k x = vR 19 0 := rfl
theorem pvf_520 (k : Nat) (x : Int) : pv 1 520 k x = vR 20 0 := rfl
theorem pvf_530 (k : Nat) (x : Int) : pv 1 530 k x = vR 30 0 := rfl
theorem pvf_533 (k : Nat) (x : Int) : pv 1 533 k x = vR 33 0 := rfl
theorem pvf_534 (k : Nat) (x : Int) : pv 1 534 k x = vR 34 0 := rfl
theorem pvf_535 (k : Nat) (x : Int) : pv 1 535 k x = vR 35 0 := rfl
theorem pvf_539 (k : Nat) (x : Int) : pv 1 539 k x = vR 39 0 := rfl
theorem pvf_540 (k : Nat) (x : Int) : pv 1 540 k x = vR 40 0 := rfl
theorem pvf_541 (k : Nat) (x : Int) : pv 1 541 k x = vR 41 0 := rfl
theorem pvf_542 (k : Nat) (x : Int) : pv 1 542 k x = vR 42 0 := rfl
theorem pvf_543 (k : Nat) (x : Int) : pv 1 543 k x = vR 43 0 := rfl
theorem pvf_544 (k : Nat) (x : Int) : pv 1 544 k x = vR 44 0 := rfl
theorem pvf_545 (k : Nat) (x : Int) : pv 1 545 k x = vR 45 0 := rfl
theorem pvf_547 (k : Nat) (x : Int) : pv 1 547 k x = vR 47 0 := rfl
theorem pvf_548 (k : Nat) (x : Int) : pv 1 548 k x = vR 48 0 := rfl
theorem pvf_550 (k : Nat) (x : Int) : pv 1 550 k x = vR 50 0 := rfl
theorem pvf_551 (k : Nat) (x : Int) : pv 1 551 k x = vR 51 0 := rfl
theorem pvf_553 (k : Nat) (x : Int) : pv 1 553 k x = vR 53 0 := rfl
theorem pvf_554 (k : Nat) (x : Int) : pv 1 554 k x = vR 54 0 := rfl
theorem pvf_555 (k : Nat) (x : Int) : pv 1 555 k x = vR 55 0 := rfl
theorem pvf_557 (k : Nat) (x : Int) : pv 1 557 k x = vR 57 0 := rfl
theorem pvf_558 (k : Nat) (x : Int) : pv 1 558 k x = vR 58 0 := rfl
theorem pvf_559 (k : Nat) (x : Int) : pv 1 559 k x = vR 59 0 := rfl
theorem pvf_563 (k : Nat) (x : Int) : pv 1 563 k x = vR 63 0 := rfl
theorem pvf_564 (k : Nat) (x : Int) : pv 1 564 k x = vR 64 0 := rfl
theorem pvf_565 (k : Nat) (x : Int) : pv 1 565 k x = vR 65 0 := rfl
theorem pvf_566 (k : Nat) (x : Int) : pv 1 566 k x = vR 66 0 := rfl
theorem pvf_567 (k : Nat) (x : Int) : pv 1 567 k x = vR 67 0 := rfl
theorem pvf_568 (k : Nat) (x : Int) : pv 1 568 k x = vR 68 0 := rfl
theorem pvf_569 (k : Nat) (x : Int) : pv 1 569 k x = vR 69 0 := rfl
theorem pvf_570 (k : Nat) (x : Int) : pv 1 570 k x = vR 70 0 := rfl
theorem pvf_571 (k : Nat) (x : Int) : pv 1 571 k x = vR 71 0 := rfl
theorem pvf_572 (k : Nat) (x : Int) : pv 1 572 k x = vR 72 0 := rfl
theorem pvf_573 (k : Nat) (x : Int) : pv 1 573 k x = vR 73 0 := rfl
theorem pvf_575 (k : Nat) (x : Int) : pv 1 575 k x = vR 75 0 := rfl
theorem pvf_576 (k : Nat) (x : Int) : pv 1 576 k x = vR 76 0 := rfl
theorem pvf_577 (k : Nat) (x : Int) : pv 1 577 k x = vR 77 0 := rfl
theorem pvf_579 (k : Nat) (x : Int) : pv 1 579 k x = vR 79 0 := rfl
theorem pvf_580 (k : Nat) (x : Int) : pv 1 580 k x = vR 80 0 := rfl
theorem pvf_581 (k : Nat) (x : Int) : pv 1 581 k x = vR 81 0 := rfl
theorem pvf_582 (k : Nat) (x : Int) : pv 1 582 k x = vR 82 0 := rfl
theorem pvf_586 (k : Nat) (x : Int) : pv 1 586 k x = vR 86 0 := rfl
theorem pvf_587 (k : Nat) (x : Int) : pv 1 587 k x = vR 87 0 := rfl
theorem pvf_588 (k : Nat) (x : Int) : pv 1 588 k x = vR 88 0 := rfl
theorem pvf_589 (k : Nat) (x : Int) : pv 1 589 k x = vR 89 0 := rfl
theorem pvf_590 (k : Nat) (x : Int) : pv 1 590 k x = vR 90 0 := rfl
theorem pvf_591 (k : Nat) (x : Int) : pv 1 591 k x = vR 91 0 := rfl
theorem pvf_592 (k : Nat) (x : Int) : pv 1 592 k x = vR 92 0 := rfl
theorem pvf_608 (k : Nat) (x : Int) : pv 1 608 k x = vR 8 1 := rfl
theorem pvf_609 (k : Nat) (x : Int) : pv 1 609 k x = vR 9 1 := rfl
theorem pvf_706 (k : Nat) (x : Int) : pv 1 706 k x = vR 6 k := rfl
theorem pvf_712 (k : Nat) (x : Int) : pv 1 712 k x = vR 12 k := rfl
theorem pvf_713 (k : Nat) (x : Int) : pv 1 713 k x = vR 13 k := rfl
theorem pvf_714 (k : Nat) (x : Int) : pv 1 714 k x = vR 14 k := rfl
theorem pvf_715 (k : Nat) (x : Int) : pv 1 715 k x = vR 15 k := rfl
theorem pvf_716 (k : Nat) (x : Int) : pv 1 716 k x = vR 16 k := rfl
theorem pvf_717 (k : Nat) (x : Int) : pv 1 717 k x = vR 17 k := rfl
theorem pvf_718 (k : Nat) (x : Int) : pv 1 718 k x = vR 18 k := rfl
theorem kdf_11 : kd 11 = (2, 900) := rfl
theorem kdf_12 : kd 12 = (5, 12) := rfl
theorem kdf_13 : kd 13 = (1, 48) := rfl
theorem kdf_14 : kd 14 = (4, 48) := rfl
theorem kdf_15 : kd 15 = (1, 48) := rfl
theorem kdf_16 : kd 16 = (4, 200) := rfl
theorem kdf_17 : kd 17 = (1, 25) := rfl
theorem kdf_18 : kd 18 = (4, 400) := rfl
theorem kdf_19 : kd 19 = (4, 288) := rfl
theorem kdf_20 : kd 20 = (1, 12) := rfl
theorem kdf_30 : kd 30 = (2, 900) := rfl
theorem kdf_33 : kd 33 = (1, 901) := rfl
theorem kdf_34 : kd 34 = (1, 901) := rfl
theorem kdf_35 : kd 35 = (4, 901) := rfl
theorem kdf_39 : kd 39 = (4, 12) := rfl
theorem kdf_40 : kd 40 = (1, 12) := rfl
theorem kdf_41 : kd 41 = (3, 12) := rfl
theorem kdf_42 : kd 42 = (3, 12) := rfl
theorem kdf_43 : kd 43 = (4, 12) := rfl
theorem kdf_44 : kd 44 = (1, 13) := rfl
theorem kdf_45 : kd 45 = (1, 13) := rfl
theorem kdf_47 : kd 47 = (1, 900) := rfl
theorem kdf_48 : kd 48 = (4, 900) := rfl
theorem kdf_50 : kd 50 = (1, 120) := rfl
theorem kdf_51 : kd 51 = (4, 120) := rfl
theorem kdf_53 : kd 53 = (1, 901) := rfl
theorem kdf_54 : kd 54 = (1, 901) := rfl
theorem kdf_55 : kd 55 = (3, 901) := rfl
theorem kdf_57 : kd 57 = (1, 64) := rfl
theorem kdf_58 : kd 58 = (1, 64) := rfl
theorem kdf_59 : kd 59 = (1, 64) := rfl
theorem kdf_63 : kd 63 = (4, 12) := rfl
theorem kdf_64 : kd 64 = (3, 12) := rfl
theorem kdf_65 : kd 65 = (3, 12) := rfl
theorem kdf_66 : kd 66 = (4, 12) := rfl
theorem kdf_67 : kd 67 = (4, 12) := rfl
theorem kdf_68 : kd 68 = (1, 13) := rfl
theorem kdf_69 : kd 69 = (1, 900) := rfl
theorem kdf_70 : kd 70 = (4, 900) := rfl
theorem kdf_71 : kd 71 = (1, 12) := rfl
theorem kdf_72 : kd 72 = (1, 300) := rfl
theorem kdf_73 : kd 73 = (4, 2400) := rfl
theorem kdf_75 : kd 75 = (1, 100) := rfl
theorem kdf_76 : kd 76 = (1, 100) := rfl
theorem kdf_77 : kd 77 = (1, 100) := rfl
theorem kdf_79 : kd 79 = (1, 100) := rfl
theorem kdf_80 : kd 80 = (1, 100) := rfl
theorem kdf_81 : kd 81 = (1, 100) := rfl
theorem kdf_82 : kd 82 = (4, 100) := rfl
theorem kdf_86 : kd 86 = (1, 12) := rfl
theorem kdf_87 : kd 87 = (1, 12) := rfl
theorem kdf_88 : kd 88 = (1, 12) := rfl
theorem kdf_89 : kd 89 = (1, 12) := rfl
theorem kdf_90 : kd 90 = (1, 12) := rfl
theorem kdf_91 : kd 91 = (1, 12) := rfl
theorem kdf_92 : kd 92 = (4, 480) := rfl
theorem up3_s (σ : Mm) (f k j : Nat) (x : Int) : up3 σ f k j x f k j = x := by simp [up3]
theorem up3_f (σ : Mm) {f k j f' k' j' : Nat} (x : Int) (h : f' ≠ f) : up3 σ f k j x f' k' j' = σ f' k' j' := by simp [up3, h]
theorem up3_k (σ : Mm) {f k j f' k' j' : Nat} (x : Int) (h : k' ≠ k) : up3 σ f k j x f' k' j' = σ f' k' j' := by simp [up3, h]
theorem up3_j (σ : Mm) {f k j f' k' j' : Nat} (x : Int) (h : j' ≠ j) : up3 σ f k j x f' k' j' = σ f' k' j' := by simp [up3, h]
/-- at(int[], int) within the row -/
theorem c_at {d : Nat} {σ : Mm} {f m len k : Nat} (hf : kd f = (1, len)) (hm : Lv NALL f m) (hk : k < len) : Ct d mX9_at 1 [vR f m, vI k] NALL σ (some (vI (σ f m k))) NALL σ 0 0 := by
  have hlen : (kd f).2 < 2147483648 := kd_small
  rw [hf] at hlen
  have hlen : len < 2147483648 := hlen
  refine ct_of (by decide) (Nat.le_of_ble_eq_true rfl) (fun C h hr _ => ?_)
  have h : Ok C RX9 cX9_at 2 _ := h
  refine x_iload_n h dX9_at_0 rfl ?_
  refine x_if_lt_F (tgt := 16) h (by omega) dX9_at_1 (by decide) (by omega) ?_
  refine x_iload_n h dX9_at_4 rfl ?_
  refine x_aload_n h dX9_at_5 rfl ?_
  refine x_alen h hf (by decide) hm dX9_at_6 ?_
  refine x_ic_ge_F (tgt := 16) h (by omega) dX9_at_7 (by decide) (by omega) ?_
  refine x_aload_n h dX9_at_10 rfl ?_
  refine x_iload_n h dX9_at_11 rfl ?_
  refine x_iald h hf hm dX9_at_12 rfl (by omega) ?_
  refine x_goto (tgt := 17) h dX9_at_13 (by decide) ?_
  exact x_ireturn h hr dX9_at_17 (Or.inl rfl) ⟨Nat.le_refl _, Nat.le_refl _⟩
theorem c_atL {d : Nat} {σ : Mm} {f m len k : Nat} (hf : kd f = (4, len)) (hm : Lv NALL f m) (hk : k < len) : Ct d mX9_at_ 1 [vR f m, vI k] NALL σ (some (vL (σ f m k))) NALL σ 0 0 := by
  have hlen : (kd f).2 < 2147483648 := kd_small
  rw [hf] at hlen
  have hlen : len < 2147483648 := hlen
  refine ct_of (by decide) (Nat.le_of_ble_eq_true rfl) (fun C h hr _ => ?_)
  have h : Ok C RX9 cX9_at_ 2 _ := h
  refine x_iload_n h dX9_at__0 rfl ?_
  refine x_if_lt_F (tgt := 16) h (by omega) dX9_at__1 (by decide) (by omega) ?_
  refine x_iload_n h dX9_at__4 rfl ?_
  refine x_aload_n h dX9_at__5 rfl ?_
  refine x_alen h hf (by decide) hm dX9_at__6 ?_
  refine x_ic_ge_F (tgt := 16) h (by omega) dX9_at__7 (by decide) (by omega) ?_
  refine x_aload_n h dX9_at__10 rfl ?_
  refine x_iload_n h dX9_at__11 rfl ?_
  refine x_lald h hf hm dX9_at__12 rfl (by omega) ?_
  refine x_goto (tgt := 17) h dX9_at__13 (by decide) ?_
  exact x_lreturn h hr dX9_at__17 ⟨Nat.le_refl _, Nat.le_refl _⟩
theorem c_put {d : Nat} {σ : Mm} {f m len k : Nat} {x : Int} (hf : kd f = (1, len)) (hm : Lv NALL f m) (hk : k < len) : Ct d mX9_put 1 [vR f m, vI k, vI x] NALL σ none NALL (up3 σ f m k x) 0 0 := by
  have hlen : (kd f).2 < 2147483648 := kd_small
  rw [hf] at hlen
  have hlen : len < 2147483648 := hlen
  refine ct_of (by decide) (Nat.le_of_ble_eq_true rfl) (fun C h hr _ => ?_)
  have h : Ok C RX9 cX9_put 3 _ := h
  refine x_iload_n h dX9_put_0 rfl ?_
  refine x_if_lt_F (tgt := 14) h (by omega) dX9_put_1 (by decide) (by omega) ?_
  refine x_iload_n h dX9_put_4 rfl ?_
  refine x_aload_n h dX9_put_5 rfl ?_
  refine x_alen h hf (by decide) hm dX9_put_6 ?_
  refine x_ic_ge_F (tgt := 14) h (by omega) dX9_put_7 (by decide) (by omega) ?_
  refine x_aload_n h dX9_put_10 rfl ?_
  refine x_iload_n h dX9_put_11 rfl ?_
  refine x_iload_n h dX9_put_12 rfl ?_
  refine x_iast h hf hm dX9_put_13 rfl (by omega) ?_
  exact x_return h hr dX9_put_14 ⟨Nat.le_refl _, Nat.le_refl _⟩
theorem c_putL {d : Nat} {σ : Mm} {f m len k : Nat} {x : Int} (hf : kd f = (4, len)) (hm : Lv NALL f m) (hk : k < len) : Ct d mX9_put_ 1 [vR f m, vI k, vL x] NALL σ none NALL (up3 σ f m k x) 0 0 := by
  have hlen : (kd f).2 < 2147483648 := kd_small
  rw [hf] at hlen
  have hlen : len < 2147483648 := hlen
  refine ct_of (by decide) (Nat.le_of_ble_eq_true rfl) (fun C h hr _ => ?_)
  have h : Ok C RX9 cX9_put_ 4 _ := h
  refine x_iload_n h dX9_put__0 rfl ?_
  refine x_if_lt_F (tgt := 14) h (by omega) dX9_put__1 (by decide) (by omega) ?_
  refine x_iload_n h dX9_put__4 rfl ?_
  refine x_aload_n h dX9_put__5 rfl ?_
  refine x_alen h hf (by decide) hm dX9_put__6 ?_
  refine x_ic_ge_F (tgt := 14) h (by omega) dX9_put__7 (by decide) (by omega) ?_
  refine x_aload_n h dX9_put__10 rfl ?_
  refine x_iload_n h dX9_put__11 rfl ?_
  refine x_lload_n h dX9_put__12 rfl ?_
  refine x_last h hf hm dX9_put__13 rfl (by omega) ?_
  exact x_return h hr dX9_put__14 ⟨Nat.le_refl _, Nat.le_refl _⟩
theorem pvr {ph code k t : Nat} {x : Int} (h : x = (t : Int)) (h3 : 3 ≤ code ∧ code < 500) : pv ph code k x = vR (code - 10) t := by
  unfold pv
  rw [if_neg (by omega), if_neg (by omega), if_neg (by omega), if_pos h3.2, if_neg (by omega), h]
  rfl
theorem pvn {ph code k : Nat} {x : Int} (h : x < 0) (h3 : 3 ≤ code ∧ code < 500) : pv ph code k x = vN := by
  unfold pv
  rw [if_neg (by omega), if_neg (by omega), if_neg (by omega), if_pos h3.2, if_pos h]
theorem c_skipToHere {d : Nat} {σ : Mm} {m k n : Nat} (hm : m < 24) (hk : k < 48) (hn : σ 6 m 3 = n) (hn2 : n < 1000) : Ct (d + 1) mX0_skipToHere 1 [vR 6 m, vI k] NALL σ none NALL (up3 σ 14 m k ((n : Int) - k - 1)) 0 0 := by
  refine ct_of (by decide) (Nat.le_of_ble_eq_true rfl) (fun C h hr _ => ?_)
  have h : Ok C RX0 cX0_skipToHere 2 _ := h
  refine x_aload_n h dX0_skipToHere_0 rfl ?_
  refine x_get h fl_0_15 (lvm_6 (by omega)) dX0_skipToHere_1 (pvf_714 _ _) ?_
  refine x_iload_n h dX0_skipToHere_4 rfl ?_
  refine x_aload_n h dX0_skipToHere_5 rfl ?_
  refine x_get (q := vI (n)) h fl_0_22 (lvm_6 (by omega)) dX0_skipToHere_6 (congrArg vI (by first | exact hn | simp [up3, hn])) ?_
  refine x_iload_n h dX0_skipToHere_9 rfl ?_
  refine x_isub h dX0_skipToHere_10 ?_
  refine x_iconst h dX0_skipToHere_11 ?_
  refine x_isub h dX0_skipToHere_12 ?_
  refine x_i2l h (by omega) dX0_skipToHere_13 ?_
  refine x_cN0 h kSX9_put_ lkNX0_30 dX0_skipToHere_14 (c_putL (d := d) kdf_14 (lvm_14 hm) hk) rfl rfl (Nat.le_of_ble_eq_true rfl) (by omega) ?_
  exact x_return h hr dX0_skipToHere_17 ⟨Nat.le_refl _, Nat.le_refl _⟩
theorem c_fclear {d : Nat} {σ : Mm} {m : Nat} (hm : m < 24) : Ct d mX0_clear 1 [vR 6 m] NALL σ none NALL (up3 σ 6 m 3 0) 0 0 := by
  refine ct_of (by decide) (Nat.le_of_ble_eq_true rfl) (fun C h hr _ => ?_)
  have h : Ok C RX0 cX0_clear 1 _ := h
  refine x_aload_n h dX0_clear_0 rfl ?_
  refine x_iconst h dX0_clear_1 ?_
  refine x_put h fl_0_22 (lvm_6 (by omega)) dX0_clear_2 rfl (fun z => absurd z (by decide)) ?_
  exact x_return h hr dX0_clear_5 ⟨Nat.le_refl _, Nat.le_refl _⟩
/-- a step is added -/
def addS (σ : Mm) (m n : Nat) (a b c : Int) : Mm := up3 (up3 (up3 (up3 σ 13 m n a) 14 m n b) 15 m n c) 6 m 3 (n + 1)
theorem c_fadd {d : Nat} {σ : Mm} {m n : Nat} {a b c : Int} (hm : m < 24) (hn : σ 6 m 3 = n) (hk : n < 48) : Ct (d + 1) mX0_add 1 [vR 6 m, vI a, vL b, vI c] NALL σ none NALL (addS σ m n a b c) 0 0 := by
  refine ct_of (by decide) (Nat.le_of_ble_eq_true rfl) (fun C h hr _ => ?_)
  have h : Ok C RX0 cX0_add 5 _ := h
  refine x_aload_n h dX0_add_0 rfl ?_
  refine x_get (q := vI (n)) h fl_0_22 (lvm_6 (by omega)) dX0_add_1 (congrArg vI (by first | exact hn | simp [up3, hn])) ?_
  refine x_if_lt_F (tgt := 63) h (by omega) dX0_add_4 (by decide) (by omega) ?_
  refine x_aload_n h dX0_add_7 rfl ?_
  refine x_get (q := vI (n)) h fl_0_22 (lvm_6 (by omega)) dX0_add_8 (congrArg vI (by first | exact hn | simp [up3, hn])) ?_
  refine x_bipush h dX0_add_11 (by decide) ?_
  refine x_ic_ge_F (tgt := 63) h (by omega) dX0_add_13 (by decide) (by omega) ?_
  refine x_aload_n h dX0_add_16 rfl ?_
  refine x_get h fl_0_9 (lvm_6 (by omega)) dX0_add_17 (pvf_713 _ _) ?_
  refine x_aload_n h dX0_add_20 rfl ?_
  refine x_get (q := vI (n)) h fl_0_22 (lvm_6 (by omega)) dX0_add_21 (congrArg vI (by first | exact hn | simp [up3, hn])) ?_
  refine x_iload_n h dX0_add_24 rfl ?_
  refine x_cN0 h kSX9_put lkNX0_26 dX0_add_25 (c_put (d := d) kdf_13 (lvm_13 hm) hk) rfl rfl (Nat.le_of_ble_eq_true rfl) (by omega) ?_
  refine x_aload_n h dX0_add_28 rfl ?_
  refine x_get h fl_0_15 (lvm_6 (by omega)) dX0_add_29 (pvf_714 _ _) ?_
  refine x_aload_n h dX0_add_32 rfl ?_
  refine x_get (q := vI (n)) h fl_0_22 (lvm_6 (by omega)) dX0_add_33 (congrArg vI (by first | exact hn | simp [up3, hn])) ?_
  refine x_lload_n h dX0_add_36 rfl ?_
  refine x_cN0 h kSX9_put_ lkNX0_30 dX0_add_37 (c_putL (d := d) kdf_14 (lvm_14 hm) hk) rfl rfl (Nat.le_of_ble_eq_true rfl) (by omega) ?_
  refine x_aload_n h dX0_add_40 rfl ?_
  refine x_get h fl_0_19 (lvm_6 (by omega)) dX0_add_41 (pvf_715 _ _) ?_
  refine x_aload_n h dX0_add_44 rfl ?_
  refine x_get (q := vI (n)) h fl_0_22 (lvm_6 (by omega)) dX0_add_45 (congrArg vI (by first | exact hn | simp [up3, hn])) ?_
  refine x_iload h dX0_add_48 rfl ?_
  refine x_cN0 h kSX9_put lkNX0_26 dX0_add_50 (c_put (d := d) kdf_15 (lvm_15 hm) hk) rfl rfl (Nat.le_of_ble_eq_true rfl) (by omega) ?_
  refine x_aload_n h dX0_add_53 rfl ?_
  refine x_dup h dX0_add_54 rfl ?_
  refine x_get (q := vI (n)) h fl_0_22 (lvm_6 (by omega)) dX0_add_55 (congrArg vI (by first | exact hn | simp [up3, hn])) ?_
  refine x_iconst h dX0_add_58 ?_
  refine x_iadd h dX0_add_59 ?_
  refine x_put h fl_0_22 (lvm_6 (by omega)) dX0_add_60 rfl (fun z => absurd z (by decide)) ?_
  exact x_return h hr dX0_add_63 ⟨Nat.le_refl _, Nat.le_refl _⟩
theorem c_stepAt {d : Nat} {σ : Mm} {m k : Nat} (hm : m < 24) (hk : k < 48) : Ct (d + 1) mX0_stepAt 1 [vR 6 m, vI k] NALL σ (some (vI (σ 13 m k))) NALL σ 0 0 := by
  refine ct_of (by decide) (Nat.le_of_ble_eq_true rfl) (fun C h hr _ => ?_)
  have h : Ok C RX0 cX0_stepAt 2 _ := h
  refine x_aload_n h dX0_stepAt_0 rfl ?_
  refine x_get h fl_0_9 (lvm_6 (by omega)) dX0_stepAt_1 (pvf_713 _ _) ?_
  refine x_iload_n h dX0_stepAt_4 rfl ?_
  refine x_cN1 h kSX9_at lkNX0_33 dX0_stepAt_5 (c_at (d := d) kdf_13 (lvm_13 hm) hk) rfl rfl (Nat.le_of_ble_eq_true rfl) (by omega) ?_
  exact x_ireturn h hr dX0_stepAt_8 (Or.inl rfl) ⟨Nat.le_refl _, Nat.le_refl _⟩
theorem c_withAt {d : Nat} {σ : Mm} {m k : Nat} (hm : m < 24) (hk : k < 48) : Ct (d + 1) mX0_withAt 1 [vR 6 m, vI k] NALL σ (some (vL (σ 14 m k))) NALL σ 0 0 := by
  refine ct_of (by decide) (Nat.le_of_ble_eq_true rfl) (fun C h hr _ => ?_)
  have h : Ok C RX0 cX0_withAt 2 _ := h
  refine x_aload_n h dX0_withAt_0 rfl ?_
  refine x_get h fl_0_15 (lvm_6 (by omega)) dX0_withAt_1 (pvf_714 _ _) ?_
  refine x_iload_n h dX0_withAt_4 rfl ?_
  refine x_cN1 h kSX9_at_ lkNX0_37 dX0_withAt_5 (c_atL (d := d) kdf_14 (lvm_14 hm) hk) rfl rfl (Nat.le_of_ble_eq_true rfl) (by omega) ?_
  exact x_lreturn h hr dX0_withAt_8 ⟨Nat.le_refl _, Nat.le_refl _⟩
theorem c_placeAt {d : Nat} {σ : Mm} {m k : Nat} (hm : m < 24) (hk : k < 48) : Ct (d + 1) mX0_placeAt 1 [vR 6 m, vI k] NALL σ (some (vI (σ 15 m k))) NALL σ 0 0 := by
  refine ct_of (by decide) (Nat.le_of_ble_eq_true rfl) (fun C h hr _ => ?_)
  have h : Ok C RX0 cX0_placeAt 2 _ := h
  refine x_aload_n h dX0_placeAt_0 rfl ?_
  refine x_get h fl_0_19 (lvm_6 (by omega)) dX0_placeAt_1 (pvf_715 _ _) ?_
  refine x_iload_n h dX0_placeAt_4 rfl ?_
  refine x_cN1 h kSX9_at lkNX0_33 dX0_placeAt_5 (c_at (d := d) kdf_15 (lvm_15 hm) hk) rfl rfl (Nat.le_of_ble_eq_true rfl) (by omega) ?_
  exact x_ireturn h hr dX0_placeAt_8 (Or.inl rfl) ⟨Nat.le_refl _, Nat.le_refl _⟩
theorem c_resolve {d : Nat} {σ : Mm} {m k : Nat} {x : Int} (hm : m < 24) (hk : k < 48) (hx : -2147483648 ≤ x ∧ x < 2147483648) : Ct (d + 1) mX0_resolve 1 [vR 6 m, vI k, vI x] NALL σ none NALL (up3 σ 14 m k x) 0 0 := by
  refine ct_of (by decide) (Nat.le_of_ble_eq_true rfl) (fun C h hr _ => ?_)
  have h : Ok C RX0 cX0_resolve 3 _ := h
  refine x_aload_n h dX0_resolve_0 rfl ?_
  refine x_get h fl_0_15 (lvm_6 (by omega)) dX0_resolve_1 (pvf_714 _ _) ?_
  refine x_iload_n h dX0_resolve_4 rfl ?_
  refine x_iload_n h dX0_resolve_5 rfl ?_
  refine x_i2l h (by omega) dX0_resolve_6 ?_
  refine x_cN0 h kSX9_put_ lkNX0_30 dX0_resolve_7 (c_putL (d := d) kdf_14 (lvm_14 hm) hk) rfl rfl (Nat.le_of_ble_eq_true rfl) (by omega) ?_
  exact x_return h hr dX0_resolve_10 ⟨Nat.le_refl _, Nat.le_refl _⟩
theorem c_skipAt {d : Nat} {σ : Mm} {m k : Nat} (hm : m < 24) (hk : k < 48) (hv : 0 ≤ σ 14 m k ∧ σ 14 m k ≤ 48) : Ct (d + 1) mX0_skipAt 1 [vR 6 m, vI k] NALL σ (some (vI (σ 14 m k))) NALL σ 0 0 := by
  refine ct_of (by decide) (Nat.le_of_ble_eq_true rfl) (fun C h hr _ => ?_)
  have h : Ok C RX0 cX0_skipAt 2 _ := h
  have e : max 0 (min 48 (σ 14 m k)) = σ 14 m k := by omega
  refine x_lconst0 h dX0_skipAt_0 ?_
  refine x_ldc2 (x := 48) h dX0_skipAt_1 klX0_40 (by decide) ?_
  refine x_aload_n h dX0_skipAt_4 rfl ?_
  refine x_get h fl_0_15 (lvm_6 (by omega)) dX0_skipAt_5 (pvf_714 _ _) ?_
  refine x_iload_n h dX0_skipAt_8 rfl ?_
  refine x_cN1 h kSX9_at_ lkNX0_37 dX0_skipAt_9 (c_atL (d := d) kdf_14 (lvm_14 hm) hk) rfl rfl (Nat.le_of_ble_eq_true rfl) (by omega) ?_
  refine x_mathminL h (by omega) lkX0_42 (by omega) dX0_skipAt_12 (Nat.le_of_ble_eq_true rfl) ⟨Nat.zero_le _, Nat.zero_le _⟩ ?_
  refine x_mathmaxL h (by omega) lkX0_48 (by omega) dX0_skipAt_15 (Nat.le_of_ble_eq_true rfl) ⟨Nat.zero_le _, Nat.zero_le _⟩ ?_
  refine x_l2i h dX0_skipAt_18 ?_
  rw [e]
  exact x_ireturn h hr dX0_skipAt_19 (Or.inl rfl) ⟨Nat.le_refl _, Nat.le_refl _⟩
theorem c_isNameAt {d : Nat} {σ : Mm} {m k : Nat} (hm : m < 24) (hk : k < 48) (hv : 0 ≤ σ 13 m k ∧ σ 13 m k ≤ 1000) : Ct (d + 1) mX0_isNameAt 1 [vR 6 m, vI k] NALL σ (some (vI (if σ 13 m k = 3 ∨ σ 13 m k = 2 then 1 else 0))) NALL σ 0 0 := by
  refine ct_of (by decide) (Nat.le_of_ble_eq_true rfl) (fun C h hr _ => ?_)
  have h : Ok C RX0 cX0_isNameAt 3 _ := h
  refine x_aload_n h dX0_isNameAt_0 rfl ?_
  refine x_get h fl_0_9 (lvm_6 (by omega)) dX0_isNameAt_1 (pvf_713 _ _) ?_
  refine x_iload_n h dX0_isNameAt_4 rfl ?_
  refine x_cN1 h kSX9_at lkNX0_33 dX0_isNameAt_5 (c_at (d := d) kdf_13 (lvm_13 hm) hk) rfl rfl (Nat.le_of_ble_eq_true rfl) (by omega) ?_
  refine x_istore_n h dX0_isNameAt_8 (by decide) ?_
  refine x_iload_n h dX0_isNameAt_9 rfl ?_
  refine x_iconst h dX0_isNameAt_10 ?_
  refine x_ic_eq (tgt := 19) h (by omega) dX0_isNameAt_11 (by decide) (fun hc => ?_) (fun hc => ?_)
  · rw [if_pos (Or.inl hc)] at hr
    refine x_iconst h dX0_isNameAt_19 ?_
    refine x_goto (tgt := 24) h dX0_isNameAt_20 (by decide) ?_
    exact x_ireturn h hr dX0_isNameAt_24 (Or.inr ⟨rfl, by omega⟩) ⟨Nat.le_refl _, Nat.le_refl _⟩
  · refine x_iload_n h dX0_isNameAt_14 rfl ?_
    refine x_iconst h dX0_isNameAt_15 ?_
    refine x_ic_ne (tgt := 23) h (by omega) dX0_isNameAt_16 (by decide) (fun hc => ?_) (fun hc => ?_)
    · rw [if_neg (by omega)] at hr
      refine x_iconst h dX0_isNameAt_23 ?_
      exact x_ireturn h hr dX0_isNameAt_24 (Or.inr ⟨rfl, by omega⟩) ⟨Nat.le_refl _, Nat.le_refl _⟩
    · rw [if_pos (by omega)] at hr
      refine x_iconst h dX0_isNameAt_19 ?_
      refine x_goto (tgt := 24) h dX0_isNameAt_20 (by decide) ?_
      exact x_ireturn h hr dX0_isNameAt_24 (Or.inr ⟨rfl, by omega⟩) ⟨Nat.le_refl _, Nat.le_refl _⟩
/-- a SUM names a TABLE -/
def namesF (σ : Mm) (m n : Nat) (x : Int) : Prop := ∃ k, k < n ∧ σ 13 m k = 3 ∧ σ 14 m k = x
theorem c_names {d : Nat} {σ : Mm} {m n : Nat} {x r : Int} (hm : m < 24) (hn : σ 6 m 3 = n) (hn2 : n ≤ 48) (hx : -2147483648 ≤ x ∧ x < 2147483648) (hv : ∀ k, k < n → (0 ≤ σ 13 m k ∧ σ 13 m k ≤ 1000) ∧ (-9223372036854775808 ≤ σ 14 m k ∧ σ 14 m k < 9223372036854775808)) (hr1 : namesF σ m n x → r = 1) (hr0 : ¬ namesF σ m n x → r = 0) : Ct (d + 1) mX0_names 1 [vR 6 m, vI x] NALL σ (some (vI r)) NALL σ 0 0 := by
  refine ct_of (by decide) (Nat.le_of_ble_eq_true rfl) (fun C h hr _ => ?_)
  have h : Ok C RX0 cX0_names 3 _ := h
  have loop : ∀ (c k : Nat) (ls : List (Nat × PV)), k + c = n → (∀ j, j < k → ¬ (σ 13 m j = 3 ∧ σ 14 m j = x)) → lsub [(0, vR 6 m), (1, vI x), (2, vI k)] ls → X C 1 2 ls [] NALL σ 0 0 := by
    intro c
    induction c with
    | zero =>
      intro k ls hk hno hls
      refine x_loc hls ?_
      rw [hr0 (fun ⟨j, h1, h2, h3⟩ => hno j (by omega) ⟨h2, h3⟩)] at hr
      refine x_iload_n h dX0_names_2 rfl ?_
      refine x_aload_n h dX0_names_3 rfl ?_
      refine x_get (q := vI (n)) h fl_0_22 (lvm_6 (by omega)) dX0_names_4 (congrArg vI (by first | exact hn | simp [up3, hn])) ?_
      refine x_ic_ge_T (tgt := 44) h (by omega) dX0_names_7 (by decide) (by omega) ?_
      refine x_iconst h dX0_names_44 ?_
      exact x_ireturn h hr dX0_names_45 (Or.inr ⟨rfl, by omega⟩) ⟨Nat.le_refl _, Nat.le_refl _⟩
    | succ c ih =>
      intro k ls hk hno hls
      refine x_loc hls ?_
      have hvk := hv k (by omega)
      refine x_iload_n h dX0_names_2 rfl ?_
      refine x_aload_n h dX0_names_3 rfl ?_
      refine x_get (q := vI (n)) h fl_0_22 (lvm_6 (by omega)) dX0_names_4 (congrArg vI (by first | exact hn | simp [up3, hn])) ?_
      refine x_ic_ge_F (tgt := 44) h (by omega) dX0_names_7 (by decide) (by omega) ?_
      refine x_aload_n h dX0_names_10 rfl ?_
      refine x_get h fl_0_9 (lvm_6 (by omega)) dX0_names_11 (pvf_713 _ _) ?_
      refine x_iload_n h dX0_names_14 rfl ?_
      refine x_cN1 h kSX9_at lkNX0_33 dX0_names_15 (c_at (d := d) (k := k) kdf_13 (lvm_13 hm) (by omega)) rfl rfl (Nat.le_of_ble_eq_true rfl) (by omega) ?_
      refine x_iconst h dX0_names_18 ?_
      refine x_ic_ne (tgt := 38) h (by omega) dX0_names_19 (by decide) (fun hc => ?_) (fun hc => ?_)
      · refine x_iinc h dX0_names_38 rfl (by decide) ?_
        refine x_goto (tgt := 2) h dX0_names_41 (by decide) ?_
        exact ih (k + 1) _ (by omega) (fun j hj => by rcases Nat.lt_succ_iff_lt_or_eq.mp hj with q | q; exact hno j q; subst q; exact fun z => hc z.1) ⟨rfl, rfl, rfl, trivial⟩
      · refine x_aload_n h dX0_names_22 rfl ?_
        refine x_get h fl_0_15 (lvm_6 (by omega)) dX0_names_23 (pvf_714 _ _) ?_
        refine x_iload_n h dX0_names_26 rfl ?_
        refine x_cN1 h kSX9_at_ lkNX0_37 dX0_names_27 (c_atL (d := d) (k := k) kdf_14 (lvm_14 hm) (by omega)) rfl rfl (Nat.le_of_ble_eq_true rfl) (by omega) ?_
        refine x_iload_n h dX0_names_30 rfl ?_
        refine x_i2l h (by omega) dX0_names_31 ?_
        refine x_lc_ne (tgt := 38) h (by omega) dX0_names_32 dX0_names_33 (by decide) (fun hc => ?_) (fun hc => ?_)
        · refine x_iinc h dX0_names_38 rfl (by decide) ?_
          refine x_goto (tgt := 2) h dX0_names_41 (by decide) ?_
          exact ih (k + 1) _ (by omega) (fun j hj => by rcases Nat.lt_succ_iff_lt_or_eq.mp hj with q | q; exact hno j q; subst q; exact fun z => hc z.2) ⟨rfl, rfl, rfl, trivial⟩
        · rw [hr1 ⟨k, by omega, by omega, by omega⟩] at hr
          refine x_iconst h dX0_names_36 ?_
          exact x_ireturn h hr dX0_names_37 (Or.inr ⟨rfl, by omega⟩) ⟨Nat.le_refl _, Nat.le_refl _⟩
  refine x_iconst h dX0_names_0 ?_
  refine x_istore_n h dX0_names_1 (by decide) ?_
  exact loop n 0 _ (by omega) (fun j hj => absurd hj (Nat.not_lt_zero _)) ⟨rfl, rfl, rfl, trivial⟩
