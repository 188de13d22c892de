/-! ask of the reference -/
section MK
variable {S : Sd} {n d k p : Nat} {σ σ' : Mm} {a x r : Int}
theorem m_askA {o : Int} (hk : k < 12) (h0 : σ 71 0 k = 0) (hb : Ct (d + 1) mX10_begin 1 [vR 10 0, vI k, vI (-9), vI a] NALL σ (some (vI r)) NALL σ' 0 0) : Ct (d + 2) mX10_ask 1 [vR 10 0, vI k, vL x, vI a, vI o] NALL σ (some (vI r)) NALL σ' 0 0 := by
  refine ct_of (by decide) (Nat.le_of_ble_eq_true rfl) (fun C h hr _ => ?_)
  have h : Ok C RX10 cX10_ask 8 _ := h
  refine x_aload_n h dX10_ask_0 rfl ?_
  refine x_get h fl_10_100 lvz_10 dX10_ask_1 (pvf_571 _ _) ?_
  refine x_iload_n h dX10_ask_4 rfl ?_
  refine x_iald h kdf_71 lvz_71 dX10_ask_5 rfl (by omega) ?_
  rw [h0]
  refine x_if_ne_F (tgt := 19) h (by omega) dX10_ask_6 (by decide) (by omega) ?_
  refine x_aload_n h dX10_ask_9 rfl ?_
  refine x_iload_n h dX10_ask_10 rfl ?_
  refine x_bipush h dX10_ask_11 (by decide) ?_
  refine x_iload h dX10_ask_13 rfl ?_
  refine x_cV1 h kVX10_begin lkX10_324 ⟨_, _, _, rfl, rfl⟩ dX10_ask_15 (hb) lvz_10 rfl rfl (Nat.le_of_ble_eq_true rfl) (by omega) ?_
  exact x_ireturn h hr dX10_ask_18 (Or.inl rfl) ⟨Nat.le_refl _, Nat.le_refl _⟩
theorem m_ask6 {o : Int} (hk : k < 12) (h0 : σ 71 0 k = 3) : Ct (d + 2) mX10_ask 1 [vR 10 0, vI k, vL x, vI a, vI o] NALL σ (some (vI 6)) NALL σ 0 0 := by
  refine ct_of (by decide) (Nat.le_of_ble_eq_true rfl) (fun C h hr _ => ?_)
  have h : Ok C RX10 cX10_ask 8 _ := h
  refine x_aload_n h dX10_ask_0 rfl ?_
  refine x_get h fl_10_100 lvz_10 dX10_ask_1 (pvf_571 _ _) ?_
  refine x_iload_n h dX10_ask_4 rfl ?_
  refine x_iald h kdf_71 lvz_71 dX10_ask_5 rfl (by omega) ?_
  rw [h0]
  refine x_if_ne_T (tgt := 19) h (by omega) dX10_ask_6 (by decide) (by omega) ?_
  refine x_aload_n h dX10_ask_19 rfl ?_
  refine x_get h fl_10_100 lvz_10 dX10_ask_20 (pvf_571 _ _) ?_
  refine x_iload_n h dX10_ask_23 rfl ?_
  refine x_iald h kdf_71 lvz_71 dX10_ask_24 rfl (by omega) ?_
  rw [h0]
  refine x_iconst h dX10_ask_25 ?_
  refine x_ic_ne_F (tgt := 32) h (by omega) dX10_ask_26 (by decide) (by omega) ?_
  refine x_bipush h dX10_ask_29 (by decide) ?_
  exact x_ireturn h hr dX10_ask_31 (Or.inl rfl) ⟨Nat.le_refl _, Nat.le_refl _⟩
theorem m_askO {s : Int} (hk : k < 12) (hs : s = 1 ∨ s = 2) (h0 : σ 71 0 k = s) : Ct (d + 2) mX10_ask 1 [vR 10 0, vI k, vL x, vI a, vI 1] NALL σ (some (vI 0)) NALL σ 0 0 := by
  refine ct_of (by decide) (Nat.le_of_ble_eq_true rfl) (fun C h hr _ => ?_)
  have h : Ok C RX10 cX10_ask 8 _ := h
  refine x_aload_n h dX10_ask_0 rfl ?_
  refine x_get h fl_10_100 lvz_10 dX10_ask_1 (pvf_571 _ _) ?_
  refine x_iload_n h dX10_ask_4 rfl ?_
  refine x_iald h kdf_71 lvz_71 dX10_ask_5 rfl (by omega) ?_
  rw [h0]
  refine x_if_ne_T (tgt := 19) h (by omega) dX10_ask_6 (by decide) (by omega) ?_
  refine x_aload_n h dX10_ask_19 rfl ?_
  refine x_get h fl_10_100 lvz_10 dX10_ask_20 (pvf_571 _ _) ?_
  refine x_iload_n h dX10_ask_23 rfl ?_
  refine x_iald h kdf_71 lvz_71 dX10_ask_24 rfl (by omega) ?_
  rw [h0]
  refine x_iconst h dX10_ask_25 ?_
  refine x_ic_ne_T (tgt := 32) h (by omega) dX10_ask_26 (by decide) (by omega) ?_
  refine x_iload h dX10_ask_32 rfl ?_
  refine x_if_eq_F (tgt := 39) h (by omega) dX10_ask_34 (by decide) (by omega) ?_
  refine x_iconst h dX10_ask_37 ?_
  exact x_ireturn h hr dX10_ask_38 (Or.inl rfl) ⟨Nat.le_refl _, Nat.le_refl _⟩
theorem m_askB {s z : Int} (hk : k < 12) (hs : s = 1 ∨ s = 2) (h0 : σ 71 0 k = s) (hz : σ 67 0 k = z) (hz2 : 0 ≤ z ∧ z ≤ 200) (hx : i64 x) (hb : x < 0 ∨ z ≤ x) : Ct (d + 2) mX10_ask 1 [vR 10 0, vI k, vL x, vI a, vI 0] NALL σ (some (vI 2)) NALL σ 0 0 := by
  obtain ⟨hx1, hx2⟩ := hx
  refine ct_of (by decide) (Nat.le_of_ble_eq_true rfl) (fun C h hr _ => ?_)
  have h : Ok C RX10 cX10_ask 8 _ := h
  refine x_aload_n h dX10_ask_0 rfl ?_
  refine x_get h fl_10_100 lvz_10 dX10_ask_1 (pvf_571 _ _) ?_
  refine x_iload_n h dX10_ask_4 rfl ?_
  refine x_iald h kdf_71 lvz_71 dX10_ask_5 rfl (by omega) ?_
  rw [h0]
  refine x_if_ne_T (tgt := 19) h (by omega) dX10_ask_6 (by decide) (by omega) ?_
  refine x_aload_n h dX10_ask_19 rfl ?_
  refine x_get h fl_10_100 lvz_10 dX10_ask_20 (pvf_571 _ _) ?_
  refine x_iload_n h dX10_ask_23 rfl ?_
  refine x_iald h kdf_71 lvz_71 dX10_ask_24 rfl (by omega) ?_
  rw [h0]
  by_cases hneg : x < 0
  · refine x_iconst h dX10_ask_25 ?_
    refine x_ic_ne_T (tgt := 32) h (by omega) dX10_ask_26 (by decide) (by omega) ?_
    refine x_iload h dX10_ask_32 rfl ?_
    refine x_if_eq_T (tgt := 39) h (by omega) dX10_ask_34 (by decide) (by omega) ?_
    refine x_lload_n h dX10_ask_39 rfl ?_
    refine x_lconst0 h dX10_ask_40 ?_
    refine x_lc_lt (tgt := 56) h (by omega) dX10_ask_41 dX10_ask_42 (by decide) (fun _ => ?_) (fun q => absurd (by omega) q)
    refine x_iconst h dX10_ask_56 ?_
    exact x_ireturn h hr dX10_ask_57 (Or.inl rfl) ⟨Nat.le_refl _, Nat.le_refl _⟩
  · refine x_iconst h dX10_ask_25 ?_
    refine x_ic_ne_T (tgt := 32) h (by omega) dX10_ask_26 (by decide) (by omega) ?_
    refine x_iload h dX10_ask_32 rfl ?_
    refine x_if_eq_T (tgt := 39) h (by omega) dX10_ask_34 (by decide) (by omega) ?_
    refine x_lload_n h dX10_ask_39 rfl ?_
    refine x_lconst0 h dX10_ask_40 ?_
    refine x_lc_lt (tgt := 56) h (by omega) dX10_ask_41 dX10_ask_42 (by decide) (fun q => absurd q (by omega)) (fun _ => ?_)
    refine x_lload_n h dX10_ask_45 rfl ?_
    refine x_aload_n h dX10_ask_46 rfl ?_
    refine x_get h fl_10_88 lvz_10 dX10_ask_47 (pvf_567 _ _) ?_
    refine x_iload_n h dX10_ask_50 rfl ?_
    refine x_lald h kdf_67 lvz_67 dX10_ask_51 rfl (by omega) ?_
    rw [hz]
    refine x_lc_lt (tgt := 58) h (by omega) dX10_ask_52 dX10_ask_53 (by decide) (fun q => absurd q (by omega)) (fun _ => ?_)
    refine x_iconst h dX10_ask_56 ?_
    exact x_ireturn h hr dX10_ask_57 (Or.inl rfl) ⟨Nat.le_refl _, Nat.le_refl _⟩
/-- up to the answer -/
theorem ask_pre {C : Cx} {s z ans : Int} (h : Ok C RX10 cX10_ask 8 (d + 2)) (hk : k < 12) (hs : s = 1 ∨ s = 2) (h0 : σ 71 0 k = s) (hz : σ 67 0 k = z) (hz2 : 0 ≤ z ∧ z ≤ 200) (hp : (p : Int) < z) (hans : σ 73 0 (200 * k + p) = ans) (hx : X C 1 91 [(0, vR 10 0), (1, vI k), (4, vI a), (6, vI p), (7, vI ((25 * k + p / 8 : Nat) : Int))] [] NALL (up3 σ 10 0 63 ans) 0 0) : X C 1 0 [(0, vR 10 0), (1, vI k), (2, vL (p : Int)), (4, vI a), (5, vI 0)] [] NALL σ 0 0 := by
  have e7 : (25 : Int) * (k : Int) + (p : Int) / 8 = ((25 * k + p / 8 : Nat) : Int) := by omega
  refine x_aload_n h dX10_ask_0 rfl ?_
  refine x_get h fl_10_100 lvz_10 dX10_ask_1 (pvf_571 _ _) ?_
  refine x_iload_n h dX10_ask_4 rfl ?_
  refine x_iald h kdf_71 lvz_71 dX10_ask_5 rfl (by omega) ?_
  rw [h0]
  refine x_if_ne_T (tgt := 19) h (by omega) dX10_ask_6 (by decide) (by omega) ?_
  refine x_aload_n h dX10_ask_19 rfl ?_
  refine x_get h fl_10_100 lvz_10 dX10_ask_20 (pvf_571 _ _) ?_
  refine x_iload_n h dX10_ask_23 rfl ?_
  refine x_iald h kdf_71 lvz_71 dX10_ask_24 rfl (by omega) ?_
  rw [h0]
  refine x_iconst h dX10_ask_25 ?_
  refine x_ic_ne_T (tgt := 32) h (by omega) dX10_ask_26 (by decide) (by omega) ?_
  refine x_iload h dX10_ask_32 rfl ?_
  refine x_if_eq_T (tgt := 39) h (by omega) dX10_ask_34 (by decide) (by omega) ?_
  refine x_lload_n h dX10_ask_39 rfl ?_
  refine x_lconst0 h dX10_ask_40 ?_
  refine x_lc_lt (tgt := 56) h (by omega) dX10_ask_41 dX10_ask_42 (by decide) (fun q => absurd q (by omega)) (fun _ => ?_)
  refine x_lload_n h dX10_ask_45 rfl ?_
  refine x_aload_n h dX10_ask_46 rfl ?_
  refine x_get h fl_10_88 lvz_10 dX10_ask_47 (pvf_567 _ _) ?_
  refine x_iload_n h dX10_ask_50 rfl ?_
  refine x_lald h kdf_67 lvz_67 dX10_ask_51 rfl (by omega) ?_
  rw [hz]
  refine x_lc_lt (tgt := 58) h (by omega) dX10_ask_52 dX10_ask_53 (by decide) (fun _ => ?_) (fun q => absurd (by omega) q)
  refine x_lload_n h dX10_ask_58 rfl ?_
  refine x_l2i h dX10_ask_59 ?_
  refine x_istore h dX10_ask_60 (by decide) ?_
  refine x_bipush h dX10_ask_62 (by decide) ?_
  refine x_iload_n h dX10_ask_64 rfl ?_
  refine x_imul h dX10_ask_65 ?_
  refine x_iload h dX10_ask_66 rfl ?_
  refine x_bipush h dX10_ask_68 (by decide) ?_
  refine x_idivP h (by omega) dX10_ask_70 ?_
  refine x_iadd h dX10_ask_71 ?_
  rw [e7]
  refine x_istore h dX10_ask_72 (by decide) ?_
  refine x_aload_n h dX10_ask_74 rfl ?_
  refine x_aload_n h dX10_ask_75 rfl ?_
  refine x_get h fl_10_106 lvz_10 dX10_ask_76 (pvf_573 _ _) ?_
  refine x_sipush h dX10_ask_79 (by decide) ?_
  refine x_iload_n h dX10_ask_82 rfl ?_
  refine x_imul h dX10_ask_83 ?_
  refine x_iload h dX10_ask_84 rfl ?_
  refine x_iadd h dX10_ask_86 ?_
  refine x_lald (m := 200 * k + p) h kdf_73 lvz_73 dX10_ask_87 (by omega) (by omega) ?_
  rw [hans]
  refine x_put h fl_10_328 lvz_10 dX10_ask_88 rfl (fun z => absurd z (by decide)) ?_
  exact x_loc (ls' := [(0, vR 10 0), (1, vI k), (4, vI a), (6, vI p), (7, vI ((25 * k + p / 8 : Nat) : Int))]) ⟨rfl, rfl, rfl, rfl, rfl, trivial⟩ hx
/-- a read of what is under way -/
def hfS (σ : Mm) (b k p : Nat) (a ans : Int) : Mm := up3 (nhS (up3 σ 10 0 63 ans) b k p a ans) 10 0 63 ans
theorem m_askH {z ans : Int} {b : Nat} (hk : k < 12) (h0 : σ 71 0 k = 1) (hz : σ 67 0 k = z) (hz2 : 0 ≤ z ∧ z ≤ 200) (hp : (p : Int) < z) (hans : σ 73 0 (200 * k + p) = ans) (hb : σ 10 0 48 = b) (hb2 : b < 2147483600) : Ct (d + 2) mX10_ask 1 [vR 10 0, vI k, vL (p : Int), vI a, vI 0] NALL σ (some (vI 0)) NALL (hfS σ b k p a ans) 0 0 := by
  have g71 : up3 σ 10 0 63 ans 71 0 k = 1 := by rw [up3_n _ (by omega)]; exact h0
  have g63 : up3 σ 10 0 63 ans 10 0 63 = ans := up3_s _ _ _ _ _
  have hh := m_half (d := d) (σ := up3 σ 10 0 63 ans) (x0 := k) (x1 := p) (x2 := a) (x3 := ans) (b := b) (by rw [up3_n _ (by omega)]; exact hb) hb2
  refine ct_of (by decide) (Nat.le_of_ble_eq_true rfl) (fun C h hr _ => ?_)
  have h : Ok C RX10 cX10_ask 8 _ := h
  refine ask_pre (s := 1) h hk (Or.inl rfl) h0 hz hz2 hp hans ?_
  refine x_aload_n h dX10_ask_91 rfl ?_
  refine x_get h fl_10_100 lvz_10 dX10_ask_92 (pvf_571 _ _) ?_
  refine x_iload_n h dX10_ask_95 rfl ?_
  refine x_iald h kdf_71 lvz_71 dX10_ask_96 rfl (by omega) ?_
  rw [g71]
  refine x_iconst h dX10_ask_97 ?_
  refine x_ic_ne_F (tgt := 120) h (by omega) dX10_ask_98 (by decide) (by omega) ?_
  refine x_aload_n h dX10_ask_101 rfl ?_
  refine x_aload_n h dX10_ask_102 rfl ?_
  refine x_iload_n h dX10_ask_103 rfl ?_
  refine x_iload h dX10_ask_104 rfl ?_
  refine x_iload h dX10_ask_106 rfl ?_
  refine x_aload_n h dX10_ask_108 rfl ?_
  refine x_get (q := vL (ans)) h fl_10_328 lvz_10 dX10_ask_109 (congrArg vL (by first | exact g63 | simp [up3, g63])) ?_
  refine x_cV1 h kVX10_half lkX10_332 ⟨_, _, _, rfl, rfl⟩ dX10_ask_112 (hh) lvz_10 rfl rfl (Nat.le_of_ble_eq_true rfl) (by omega) ?_
  refine x_put h fl_10_328 lvz_10 dX10_ask_115 rfl (fun z => absurd z (by decide)) ?_
  refine x_iconst h dX10_ask_118 ?_
  exact x_ireturn h hr dX10_ask_119 (Or.inl rfl) ⟨Nat.le_refl _, Nat.le_refl _⟩
theorem m_askW {z ans : Int} (hk : k < 12) (h0 : σ 71 0 k = 2) (hz : σ 67 0 k = z) (hz2 : 0 ≤ z ∧ z ≤ 200) (hp : (p : Int) < z) (hans : σ 73 0 (200 * k + p) = ans) (hw : σ 64 0 k = 1) : Ct (d + 2) mX10_ask 1 [vR 10 0, vI k, vL (p : Int), vI a, vI 0] NALL σ (some (vI 0)) NALL (up3 σ 10 0 63 ans) 0 0 := by
  have g71 : up3 σ 10 0 63 ans 71 0 k = 2 := by rw [up3_n _ (by omega)]; exact h0
  have g64 : up3 σ 10 0 63 ans 64 0 k = 1 := by rw [up3_n _ (by omega)]; exact hw
  refine ct_of (by decide) (Nat.le_of_ble_eq_true rfl) (fun C h hr _ => ?_)
  have h : Ok C RX10 cX10_ask 8 _ := h
  refine ask_pre (s := 2) h hk (Or.inr rfl) h0 hz hz2 hp hans ?_
  refine x_aload_n h dX10_ask_91 rfl ?_
  refine x_get h fl_10_100 lvz_10 dX10_ask_92 (pvf_571 _ _) ?_
  refine x_iload_n h dX10_ask_95 rfl ?_
  refine x_iald h kdf_71 lvz_71 dX10_ask_96 rfl (by omega) ?_
  rw [g71]
  refine x_iconst h dX10_ask_97 ?_
  refine x_ic_ne_T (tgt := 120) h (by omega) dX10_ask_98 (by decide) (by omega) ?_
  refine x_aload_n h dX10_ask_120 rfl ?_
  refine x_get h fl_10_79 lvz_10 dX10_ask_121 (pvf_564 _ _) ?_
  refine x_iload_n h dX10_ask_124 rfl ?_
  refine x_zald h kdf_64 lvz_64 dX10_ask_125 rfl (by omega) ?_
  rw [g64]
  refine x_if_ne_T (tgt := 140) h (by omega) dX10_ask_126 (by decide) (by omega) ?_
  refine x_iconst h dX10_ask_140 ?_
  exact x_ireturn h hr dX10_ask_141 (Or.inl rfl) ⟨Nat.le_refl _, Nat.le_refl _⟩
theorem ask_row {C : Cx} {z ans q : Int} (h : Ok C RX10 cX10_ask 8 (d + 2)) (hk : k < 12) (h0 : σ 71 0 k = 2) (hz : σ 67 0 k = z) (hz2 : 0 ≤ z ∧ z ≤ 200) (hp : (p : Int) < z) (hans : σ 73 0 (200 * k + p) = ans) (hw : σ 64 0 k = 0) (hq : σ 72 0 (25 * k + p / 8) = q) (hx : X C 1 136 [(0, vR 10 0), (1, vI k), (4, vI a), (6, vI p), (7, vI ((25 * k + p / 8 : Nat) : Int))] [vI q] NALL (up3 σ 10 0 63 ans) 0 0) : X C 1 0 [(0, vR 10 0), (1, vI k), (2, vL (p : Int)), (4, vI a), (5, vI 0)] [] NALL σ 0 0 := by
  have g71 : up3 σ 10 0 63 ans 71 0 k = 2 := by rw [up3_n _ (by omega)]; exact h0
  have g64 : up3 σ 10 0 63 ans 64 0 k = 0 := by rw [up3_n _ (by omega)]; exact hw
  have g72 : up3 σ 10 0 63 ans 72 0 (25 * k + p / 8) = q := by rw [up3_n _ (by omega)]; exact hq
  refine ask_pre (s := 2) h hk (Or.inr rfl) h0 hz hz2 hp hans ?_
  refine x_aload_n h dX10_ask_91 rfl ?_
  refine x_get h fl_10_100 lvz_10 dX10_ask_92 (pvf_571 _ _) ?_
  refine x_iload_n h dX10_ask_95 rfl ?_
  refine x_iald h kdf_71 lvz_71 dX10_ask_96 rfl (by omega) ?_
  rw [g71]
  refine x_iconst h dX10_ask_97 ?_
  refine x_ic_ne_T (tgt := 120) h (by omega) dX10_ask_98 (by decide) (by omega) ?_
  refine x_aload_n h dX10_ask_120 rfl ?_
  refine x_get h fl_10_79 lvz_10 dX10_ask_121 (pvf_564 _ _) ?_
  refine x_iload_n h dX10_ask_124 rfl ?_
  refine x_zald h kdf_64 lvz_64 dX10_ask_125 rfl (by omega) ?_
  rw [g64]
  refine x_if_ne_F (tgt := 140) h (by omega) dX10_ask_126 (by decide) (by omega) ?_
  refine x_aload_n h dX10_ask_129 rfl ?_
  refine x_get h fl_10_103 lvz_10 dX10_ask_130 (pvf_572 _ _) ?_
  refine x_iload h dX10_ask_133 rfl ?_
  refine x_iald (m := 25 * k + p / 8) h kdf_72 lvz_72 dX10_ask_135 (by omega) (by omega) ?_
  rw [g72]
  exact hx
theorem m_askR2 {z ans : Int} (hk : k < 12) (h0 : σ 71 0 k = 2) (hz : σ 67 0 k = z) (hz2 : 0 ≤ z ∧ z ≤ 200) (hp : (p : Int) < z) (hans : σ 73 0 (200 * k + p) = ans) (hw : σ 64 0 k = 0) (hq : σ 72 0 (25 * k + p / 8) = 2) : Ct (d + 2) mX10_ask 1 [vR 10 0, vI k, vL (p : Int), vI a, vI 0] NALL σ (some (vI 0)) NALL (up3 σ 10 0 63 ans) 0 0 := by
  refine ct_of (by decide) (Nat.le_of_ble_eq_true rfl) (fun C h hr _ => ?_)
  have h : Ok C RX10 cX10_ask 8 _ := h
  refine ask_row h hk h0 hz hz2 hp hans hw hq ?_
  refine x_iconst h dX10_ask_136 ?_
  refine x_ic_ne_F (tgt := 142) h (by omega) dX10_ask_137 (by decide) (by omega) ?_
  refine x_iconst h dX10_ask_140 ?_
  exact x_ireturn h hr dX10_ask_141 (Or.inl rfl) ⟨Nat.le_refl _, Nat.le_refl _⟩
theorem m_askR0 {z ans : Int} (hk : k < 12) (h0 : σ 71 0 k = 2) (hz : σ 67 0 k = z) (hz2 : 0 ≤ z ∧ z ≤ 200) (hp : (p : Int) < z) (hans : σ 73 0 (200 * k + p) = ans) (hw : σ 64 0 k = 0) (hq : σ 72 0 (25 * k + p / 8) = 0) (hb : Ct (d + 1) mX10_begin 1 [vR 10 0, vI k, vI ((p / 8 : Nat) : Int), vI a] NALL (up3 σ 10 0 63 ans) (some (vI r)) NALL σ' 0 0) : Ct (d + 2) mX10_ask 1 [vR 10 0, vI k, vL (p : Int), vI a, vI 0] NALL σ (some (vI r)) NALL σ' 0 0 := by
  have e8 : (p : Int) / 8 = ((p / 8 : Nat) : Int) := by omega
  have g72 : up3 σ 10 0 63 ans 72 0 (25 * k + p / 8) = 0 := by rw [up3_n _ (by omega)]; exact hq
  refine ct_of (by decide) (Nat.le_of_ble_eq_true rfl) (fun C h hr _ => ?_)
  have h : Ok C RX10 cX10_ask 8 _ := h
  refine ask_row h hk h0 hz hz2 hp hans hw hq ?_
  refine x_iconst h dX10_ask_136 ?_
  refine x_ic_ne_T (tgt := 142) h (by omega) dX10_ask_137 (by decide) (by omega) ?_
  refine x_aload_n h dX10_ask_142 rfl ?_
  refine x_get h fl_10_103 lvz_10 dX10_ask_143 (pvf_572 _ _) ?_
  refine x_iload h dX10_ask_146 rfl ?_
  refine x_iald (m := 25 * k + p / 8) h kdf_72 lvz_72 dX10_ask_148 (by omega) (by omega) ?_
  rw [g72]
  refine x_if_ne_F (tgt := 165) h (by omega) dX10_ask_149 (by decide) (by omega) ?_
  refine x_aload_n h dX10_ask_152 rfl ?_
  refine x_iload_n h dX10_ask_153 rfl ?_
  refine x_iload h dX10_ask_154 rfl ?_
  refine x_bipush h dX10_ask_156 (by decide) ?_
  refine x_idivP h (by omega) dX10_ask_158 ?_
  rw [e8]
  refine x_iload h dX10_ask_159 rfl ?_
  refine x_cV1 h kVX10_begin lkX10_324 ⟨_, _, _, rfl, rfl⟩ dX10_ask_161 (hb) lvz_10 rfl rfl (Nat.le_of_ble_eq_true rfl) (by omega) ?_
  exact x_ireturn h hr dX10_ask_164 (Or.inl rfl) ⟨Nat.le_refl _, Nat.le_refl _⟩
theorem m_askR3 {z ans : Int} (hk : k < 12) (h0 : σ 71 0 k = 2) (hz : σ 67 0 k = z) (hz2 : 0 ≤ z ∧ z ≤ 200) (hp : (p : Int) < z) (hans : σ 73 0 (200 * k + p) = ans) (hw : σ 64 0 k = 0) (hq : σ 72 0 (25 * k + p / 8) = 3) : Ct (d + 2) mX10_ask 1 [vR 10 0, vI k, vL (p : Int), vI a, vI 0] NALL σ (some (vI 6)) NALL (up3 σ 10 0 63 ans) 0 0 := by
  have g72 : up3 σ 10 0 63 ans 72 0 (25 * k + p / 8) = 3 := by rw [up3_n _ (by omega)]; exact hq
  refine ct_of (by decide) (Nat.le_of_ble_eq_true rfl) (fun C h hr _ => ?_)
  have h : Ok C RX10 cX10_ask 8 _ := h
  refine ask_row h hk h0 hz hz2 hp hans hw hq ?_
  refine x_iconst h dX10_ask_136 ?_
  refine x_ic_ne_T (tgt := 142) h (by omega) dX10_ask_137 (by decide) (by omega) ?_
  refine x_aload_n h dX10_ask_142 rfl ?_
  refine x_get h fl_10_103 lvz_10 dX10_ask_143 (pvf_572 _ _) ?_
  refine x_iload h dX10_ask_146 rfl ?_
  refine x_iald (m := 25 * k + p / 8) h kdf_72 lvz_72 dX10_ask_148 (by omega) (by omega) ?_
  rw [g72]
  refine x_if_ne_T (tgt := 165) h (by omega) dX10_ask_149 (by decide) (by omega) ?_
  refine x_aload_n h dX10_ask_165 rfl ?_
  refine x_get h fl_10_103 lvz_10 dX10_ask_166 (pvf_572 _ _) ?_
  refine x_iload h dX10_ask_169 rfl ?_
  refine x_iald (m := 25 * k + p / 8) h kdf_72 lvz_72 dX10_ask_171 (by omega) (by omega) ?_
  rw [g72]
  refine x_iconst h dX10_ask_172 ?_
  refine x_ic_ne_F (tgt := 179) h (by omega) dX10_ask_173 (by decide) (by omega) ?_
  refine x_bipush h dX10_ask_176 (by decide) ?_
  exact x_ireturn h hr dX10_ask_178 (Or.inl rfl) ⟨Nat.le_refl _, Nat.le_refl _⟩
theorem m_askR1 {z ans : Int} {b : Nat} (hk : k < 12) (h0 : σ 71 0 k = 2) (hz : σ 67 0 k = z) (hz2 : 0 ≤ z ∧ z ≤ 200) (hp : (p : Int) < z) (hans : σ 73 0 (200 * k + p) = ans) (hw : σ 64 0 k = 0) (hq : σ 72 0 (25 * k + p / 8) = 1) (hb : σ 10 0 48 = b) (hb2 : b < 2147483600) : Ct (d + 2) mX10_ask 1 [vR 10 0, vI k, vL (p : Int), vI a, vI 0] NALL σ (some (vI 0)) NALL (hfS σ b k p a ans) 0 0 := by
  have g72 : up3 σ 10 0 63 ans 72 0 (25 * k + p / 8) = 1 := by rw [up3_n _ (by omega)]; exact hq
  have g63 : up3 σ 10 0 63 ans 10 0 63 = ans := up3_s _ _ _ _ _
  have hh := m_half (d := d) (σ := up3 σ 10 0 63 ans) (x0 := k) (x1 := p) (x2 := a) (x3 := ans) (b := b) (by rw [up3_n _ (by omega)]; exact hb) hb2
  refine ct_of (by decide) (Nat.le_of_ble_eq_true rfl) (fun C h hr _ => ?_)
  have h : Ok C RX10 cX10_ask 8 _ := h
  refine ask_row h hk h0 hz hz2 hp hans hw hq ?_
  refine x_iconst h dX10_ask_136 ?_
  refine x_ic_ne_T (tgt := 142) h (by omega) dX10_ask_137 (by decide) (by omega) ?_
  refine x_aload_n h dX10_ask_142 rfl ?_
  refine x_get h fl_10_103 lvz_10 dX10_ask_143 (pvf_572 _ _) ?_
  refine x_iload h dX10_ask_146 rfl ?_
  refine x_iald (m := 25 * k + p / 8) h kdf_72 lvz_72 dX10_ask_148 (by omega) (by omega) ?_
  rw [g72]
  refine x_if_ne_T (tgt := 165) h (by omega) dX10_ask_149 (by decide) (by omega) ?_
  refine x_aload_n h dX10_ask_165 rfl ?_
  refine x_get h fl_10_103 lvz_10 dX10_ask_166 (pvf_572 _ _) ?_
  refine x_iload h dX10_ask_169 rfl ?_
  refine x_iald (m := 25 * k + p / 8) h kdf_72 lvz_72 dX10_ask_171 (by omega) (by omega) ?_
  rw [g72]
  refine x_iconst h dX10_ask_172 ?_
  refine x_ic_ne_T (tgt := 179) h (by omega) dX10_ask_173 (by decide) (by omega) ?_
  refine x_aload_n h dX10_ask_179 rfl ?_
  refine x_aload_n h dX10_ask_180 rfl ?_
  refine x_iload_n h dX10_ask_181 rfl ?_
  refine x_iload h dX10_ask_182 rfl ?_
  refine x_iload h dX10_ask_184 rfl ?_
  refine x_aload_n h dX10_ask_186 rfl ?_
  refine x_get (q := vL (ans)) h fl_10_328 lvz_10 dX10_ask_187 (congrArg vL (by first | exact g63 | simp [up3, g63])) ?_
  refine x_cV1 h kVX10_half lkX10_332 ⟨_, _, _, rfl, rfl⟩ dX10_ask_190 (hh) lvz_10 rfl rfl (Nat.le_of_ble_eq_true rfl) (by omega) ?_
  refine x_put h fl_10_328 lvz_10 dX10_ask_193 rfl (fun z => absurd z (by decide)) ?_
  refine x_iconst h dX10_ask_196 ?_
  exact x_ireturn h hr dX10_ask_197 (Or.inl rfl) ⟨Nat.le_refl _, Nat.le_refl _⟩
end MK
/-! the step that asks -/
section SE
variable {S : Sd} {n d v t A : Nat} {row pl e b r : Int} {σ : Mm} {st : List Int} {k : Nat}
/-- the memory that asks -/
def qS (σ : Mm) (v A len : Nat) : Mm := up3 (up3 σ 90 0 v ((A + 1 : Nat) : Int)) 91 0 v (len : Int)
theorem qS_F (hF : FrameAt σ v t row pl e (A : Int) (b :: st)) : FrameAt (qS σ v A st.length) v t row pl e ((A + 1 : Nat) : Int) st := FrA_take (FrA_act hF)
theorem qS_L : Loc v (qS σ v A st.length) σ := Loc_up (Loc_up (Loc_refl v σ) _ (by omega)) _ (by omega)
theorem stE_pre {C : Cx} (h : Ok C RX10 cX10_step 8 (d + 3)) (hk : k < 12) (h69 : σ 69 0 A = 4) (h70 : σ 70 0 A = (k : Int)) (hF : FrameAt σ v t row pl e (A : Int) (b :: st)) (hA : A < 900) (hv : v < 12) (hl : st.length < 40) (ht : t < 12) {τ : Mm} (hq : Ct (d + 2) mX10_ask 1 [vR 10 0, vI k, vL b, vI t, vI 0] NALL (qS σ v A st.length) (some (vI r)) NALL τ 0 0) (hx : X C 1 192 [(0, vR 10 0), (1, vI v), (2, vI A), (3, vI 4), (4, vL b)] [vI r] NALL τ 0 0) : X C 1 0 [(0, vR 10 0), (1, vI v)] [] NALL σ 0 0 := by
  have F1 := FrA_act (a' := ((A + 1 : Nat) : Int)) hF
  have g70 : qS σ v A st.length 70 0 A = k := by rw [qS_L _ _ _ (by omega)]; exact h70
  have g86 : qS σ v A st.length 86 0 v = t := (qS_F hF).1.1
  refine sp_pre h hv hF.2.2.2.1 hA h69 ?_
  refine st_take (d := d + 2) h hv (by omega) F1.2.2.2.2.1 F1.2.2.2.2.2 hl ?_
  show X C 1 115 _ _ _ (qS σ v A st.length) 0 0
  refine x_iload_n h dX10_step_115 rfl ?_
  refine x_bipush h dX10_step_116 (by decide) ?_
  refine x_ic_ne_T (tgt := 152) h (by omega) dX10_step_118 (by decide) (by omega) ?_
  refine x_iload_n h dX10_step_152 rfl ?_
  refine x_iconst h dX10_step_153 ?_
  refine x_ic_ne_T (tgt := 167) h (by omega) dX10_step_154 (by decide) (by omega) ?_
  refine x_iload_n h dX10_step_167 rfl ?_
  refine x_iconst h dX10_step_168 ?_
  refine x_ic_ne_F (tgt := 234) h (by omega) dX10_step_169 (by decide) (by omega) ?_
  refine x_aload_n h dX10_step_172 rfl ?_
  refine x_aload_n h dX10_step_173 rfl ?_
  refine x_get h fl_10_97 lvz_10 dX10_step_174 (pvf_570 _ _) ?_
  refine x_iload_n h dX10_step_177 rfl ?_
  refine x_lald h kdf_70 lvz_70 dX10_step_178 rfl (by omega) ?_
  rw [g70]
  refine x_l2i h dX10_step_179 ?_
  refine x_lload h dX10_step_180 rfl ?_
  refine x_aload_n h dX10_step_182 rfl ?_
  refine x_get h fl_10_130 lvz_10 dX10_step_183 (pvf_586 _ _) ?_
  refine x_iload_n h dX10_step_186 rfl ?_
  refine x_iald h kdf_86 lvz_86 dX10_step_187 rfl (by omega) ?_
  rw [g86]
  refine x_iconst h dX10_step_188 ?_
  refine x_cV1 h kVX10_ask lkX10_345 ⟨_, _, _, rfl, rfl⟩ dX10_step_189 (hq) lvz_10 rfl rfl (Nat.le_of_ble_eq_true rfl) (by omega) ?_
  exact x_loc (ls' := [(0, vR 10 0), (1, vI v), (2, vI A), (3, vI 4), (4, vL b)]) ⟨rfl, rfl, rfl, rfl, rfl, trivial⟩ hx
/-- it fails -/
theorem m_stepEf (hk : k < 12) (h69 : σ 69 0 A = 4) (h70 : σ 70 0 A = (k : Int)) (hF : FrameAt σ v t row pl e (A : Int) (b :: st)) (hA : A < 900) (hv : v < 12) (hl : st.length < 40) (ht : t < 12) (hr1 : 1 ≤ r ∧ r ≤ 8) {τ : Mm} (hq : Ct (d + 2) mX10_ask 1 [vR 10 0, vI k, vL b, vI t, vI 0] NALL (qS σ v A st.length) (some (vI r)) NALL τ 0 0) : Ct (d + 3) mX10_step 1 [vR 10 0, vI v] NALL σ (some (vI r)) NALL τ 0 0 := by
  refine ct_of (by decide) (Nat.le_of_ble_eq_true rfl) (fun C h hr _ => ?_)
  have h : Ok C RX10 cX10_step 8 _ := h
  refine stE_pre h hk h69 h70 hF hA hv hl ht hq ?_
  refine x_istore h dX10_step_192 (by decide) ?_
  refine x_iload h dX10_step_194 rfl ?_
  refine x_iconst h dX10_step_196 ?_
  refine x_ic_ne_T (tgt := 217) h (by omega) dX10_step_197 (by decide) (by omega) ?_
  refine x_iload h dX10_step_217 rfl ?_
  refine x_if_ne_T (tgt := 231) h (by omega) dX10_step_219 (by decide) (by omega) ?_
  refine x_iload h dX10_step_231 rfl ?_
  exact x_ireturn h hr dX10_step_233 (Or.inl rfl) ⟨Nat.le_refl _, Nat.le_refl _⟩
/-- it has its answer -/
theorem m_stepEv {ans : Int} (hk : k < 12) (h69 : σ 69 0 A = 4) (h70 : σ 70 0 A = (k : Int)) (hF : FrameAt σ v t row pl e (A : Int) (b :: st)) (hA : A < 900) (hv : v < 12) (hl : st.length < 40) (ht : t < 12) {τ : Mm} (hq : Ct (d + 2) mX10_ask 1 [vR 10 0, vI k, vL b, vI t, vI 0] NALL (qS σ v A st.length) (some (vI 0)) NALL τ 0 0) (h91 : τ 91 0 v = (st.length : Int)) (h63 : τ 10 0 63 = ans) : Ct (d + 3) mX10_step 1 [vR 10 0, vI v] NALL σ (some (vI 0)) NALL (puT τ v st.length ans) 0 0 := by
  refine ct_of (by decide) (Nat.le_of_ble_eq_true rfl) (fun C h hr _ => ?_)
  have h : Ok C RX10 cX10_step 8 _ := h
  refine stE_pre h hk h69 h70 hF hA hv hl ht hq ?_
  refine x_istore h dX10_step_192 (by decide) ?_
  refine x_iload h dX10_step_194 rfl ?_
  refine x_iconst h dX10_step_196 ?_
  refine x_ic_ne_T (tgt := 217) h (by omega) dX10_step_197 (by decide) (by omega) ?_
  refine x_iload h dX10_step_217 rfl ?_
  refine x_if_ne_F (tgt := 231) h (by omega) dX10_step_219 (by decide) (by omega) ?_
  refine x_aload_n h dX10_step_222 rfl ?_
  refine x_iload_n h dX10_step_223 rfl ?_
  refine x_aload_n h dX10_step_224 rfl ?_
  refine x_get (q := vL (ans)) h fl_10_328 lvz_10 dX10_step_225 (congrArg vL (by first | exact h63 | simp [up3, h63])) ?_
  refine x_cV0 h kVX10_putTop lkX10_339 ⟨_, _, _, rfl, rfl⟩ dX10_step_228 (m_putTop (d := d + 2) hv h91 hl) lvz_10 rfl rfl (Nat.le_of_ble_eq_true rfl) (by omega) ?_
  refine x_iload h dX10_step_231 rfl ?_
  exact x_ireturn h hr dX10_step_233 (Or.inl rfl) ⟨Nat.le_refl _, Nat.le_refl _⟩
/-- a building began -/
def bkS (τ : Mm) (v A len : Nat) (b : Int) : Mm := up3 (puT τ v len b) 90 0 v (A : Int)
theorem m_stepEb (hk : k < 12) (h69 : σ 69 0 A = 4) (h70 : σ 70 0 A = (k : Int)) (hF : FrameAt σ v t row pl e (A : Int) (b :: st)) (hA : A < 900) (hv : v < 12) (hl : st.length < 40) (ht : t < 12) {τ : Mm} (hq : Ct (d + 2) mX10_ask 1 [vR 10 0, vI k, vL b, vI t, vI 0] NALL (qS σ v A st.length) (some (vI (-1))) NALL τ 0 0) (h91 : τ 91 0 v = (st.length : Int)) : Ct (d + 3) mX10_step 1 [vR 10 0, vI v] NALL σ (some (vI (-1))) NALL (bkS τ v A st.length b) 0 0 := by
  refine ct_of (by decide) (Nat.le_of_ble_eq_true rfl) (fun C h hr _ => ?_)
  have h : Ok C RX10 cX10_step 8 _ := h
  refine stE_pre h hk h69 h70 hF hA hv hl ht hq ?_
  refine x_istore h dX10_step_192 (by decide) ?_
  refine x_iload h dX10_step_194 rfl ?_
  refine x_iconst h dX10_step_196 ?_
  refine x_ic_ne_F (tgt := 217) h (by omega) dX10_step_197 (by decide) (by omega) ?_
  refine x_aload_n h dX10_step_200 rfl ?_
  refine x_iload_n h dX10_step_201 rfl ?_
  refine x_lload h dX10_step_202 rfl ?_
  refine x_cV0 h kVX10_putTop lkX10_339 ⟨_, _, _, rfl, rfl⟩ dX10_step_204 (m_putTop (d := d + 2) hv h91 hl) lvz_10 rfl rfl (Nat.le_of_ble_eq_true rfl) (by omega) ?_
  refine x_aload_n h dX10_step_207 rfl ?_
  refine x_get h fl_10_142 lvz_10 dX10_step_208 (pvf_590 _ _) ?_
  refine x_iload_n h dX10_step_211 rfl ?_
  refine x_iload_n h dX10_step_212 rfl ?_
  refine x_iast h kdf_90 lvz_90 dX10_step_213 rfl (by omega) ?_
  refine x_goto (tgt := 231) h dX10_step_214 (by decide) ?_
  refine x_iload h dX10_step_231 rfl ?_
  exact x_ireturn h hr dX10_step_233 (Or.inl rfl) ⟨Nat.le_refl _, Nat.le_refl _⟩
end SE
