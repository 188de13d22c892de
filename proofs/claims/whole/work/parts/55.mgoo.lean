/-! goOne of the reference -/
def adS (σ : Mm) (T : Int) : Mm := up3 (up3 σ 10 0 64 (T / 4294967296)) 10 0 65 (T % 4294967296)
theorem adS_o {σ : Mm} {T : Int} {f k j : Nat} (h : ¬ (f = 10 ∧ (j = 64 ∨ j = 65))) : adS σ T f k j = σ f k j := by
  unfold adS
  rw [up3_n _ (by omega), up3_n _ (by omega)]
theorem adS_64 {σ : Mm} {T : Int} : adS σ T 10 0 64 = T / 4294967296 := by unfold adS; rw [up3_n _ (by omega), up3_s]
theorem adS_65 {σ : Mm} {T : Int} : adS σ T 10 0 65 = T % 4294967296 := by unfold adS; rw [up3_s]
theorem m_add {d : Nat} {σ : Mm} {T v : Int} (hv : i64 v) : Ct d mX10_add 1 [vR 10 0, vL v] NALL (adS σ T) none NALL (adS σ (T + v)) 0 0 := by
  have hm32 : ∀ x : Int, andL x (4294967295 : Int) = x % 4294967296 := andL_32
  have hs32 : ∀ x : Int, shrL x (32 : Int) = w64 x / 4294967296 := shrL_32
  have ev : w64 v = v := w64_id hv
  have e1 : w64 (T % 4294967296 + v % 4294967296) = T % 4294967296 + v % 4294967296 := w64_id (by omega)
  refine ct_of (by decide) (Nat.le_of_ble_eq_true rfl) (fun C h hr _ => ?_)
  have h : Ok C RX10 cX10_add 3 _ := h
  refine x_aload_n h dX10_add_0 rfl ?_
  refine x_dup h dX10_add_1 rfl ?_
  refine x_get (q := vL (T % 4294967296)) h fl_10_349 lvz_10 dX10_add_2 (congrArg vL (by first | exact adS_65 | simp [up3, adS_65])) ?_
  refine x_lload_n h dX10_add_5 rfl ?_
  refine x_ldc2 (x := 4294967295) h dX10_add_6 klX10_352 (by decide) ?_
  refine x_land h dX10_add_9 ?_
  rw [hm32]
  refine x_ladd h dX10_add_10 ?_
  refine x_put h fl_10_349 lvz_10 dX10_add_11 rfl (fun z => absurd z (by decide)) ?_
  have g64 : up3 (adS σ T) 10 0 65 (T % 4294967296 + v % 4294967296) 10 0 64 = T / 4294967296 := by rw [up3_n _ (by omega)]; exact adS_64
  have g65 : up3 (adS σ T) 10 0 65 (T % 4294967296 + v % 4294967296) 10 0 65 = T % 4294967296 + v % 4294967296 := up3_s _ _ _ _ _
  refine x_aload_n h dX10_add_14 rfl ?_
  refine x_dup h dX10_add_15 rfl ?_
  refine x_get (q := vL (T / 4294967296)) h fl_10_354 lvz_10 dX10_add_16 (congrArg vL (by first | exact g64 | simp [up3, g64])) ?_
  refine x_lload_n h dX10_add_19 rfl ?_
  refine x_bipush h dX10_add_20 (by decide) ?_
  refine x_lshr h dX10_add_22 ?_
  rw [hs32, ev]
  refine x_aload_n h dX10_add_23 rfl ?_
  refine x_get (q := vL (T % 4294967296 + v % 4294967296)) h fl_10_349 lvz_10 dX10_add_24 (congrArg vL (by first | exact g65 | simp [up3, g65])) ?_
  refine x_bipush h dX10_add_27 (by decide) ?_
  refine x_lshr h dX10_add_29 ?_
  rw [hs32, e1]
  refine x_ladd h dX10_add_30 ?_
  refine x_ladd h dX10_add_31 ?_
  refine x_put h fl_10_354 lvz_10 dX10_add_32 rfl (fun z => absurd z (by decide)) ?_
  have g65b : up3 (up3 (adS σ T) 10 0 65 (T % 4294967296 + v % 4294967296)) 10 0 64 (T / 4294967296 + (v / 4294967296 + (T % 4294967296 + v % 4294967296) / 4294967296)) 10 0 65 = T % 4294967296 + v % 4294967296 := by rw [up3_n _ (by omega)]; exact g65
  refine x_aload_n h dX10_add_35 rfl ?_
  refine x_aload_n h dX10_add_36 rfl ?_
  refine x_get (q := vL (T % 4294967296 + v % 4294967296)) h fl_10_349 lvz_10 dX10_add_37 (congrArg vL (by first | exact g65b | simp [up3, g65b])) ?_
  refine x_ldc2 (x := 4294967295) h dX10_add_40 klX10_352 (by decide) ?_
  refine x_land h dX10_add_43 ?_
  rw [hm32]
  refine x_put h fl_10_349 lvz_10 dX10_add_44 rfl (fun z => absurd z (by decide)) ?_
  refine x_mem ?_ (?_ : X C 1 47 _ [] NALL (adS σ (T + v)) 0 0)
  · have a1 : T / 4294967296 + (v / 4294967296 + (T % 4294967296 + v % 4294967296) / 4294967296) = (T + v) / 4294967296 := by omega
    have a2 : (T % 4294967296 + v % 4294967296) % 4294967296 = (T + v) % 4294967296 := by omega
    rw [a1, a2]
    unfold adS
    funext f k j
    unfold up3
    by_cases c1 : f = 10 ∧ k = 0 ∧ j = 65
    · rw [if_pos c1, if_pos c1]
    · rw [if_neg c1, if_neg c1]
      by_cases c2 : f = 10 ∧ k = 0 ∧ j = 64
      · rw [if_pos c2, if_neg c1, if_pos c2]
      · rw [if_neg c2, if_neg c1, if_neg c1, if_neg c2]
        exact (if_neg c2).symm
  exact x_return h hr dX10_add_47 ⟨Nat.le_refl _, Nat.le_refl _⟩
theorem m_rowsOf {d k : Nat} {σ : Mm} {z : Int} (hk : k < 12) (hz : σ 67 0 k = z) (hz2 : 0 ≤ z ∧ z ≤ 200) : Ct d mX10_rowsOf 1 [vR 10 0, vI k] NALL σ (some (vI ((z + 7) / 8))) NALL σ 0 0 := by
  refine ct_of (by decide) (Nat.le_of_ble_eq_true rfl) (fun C h hr _ => ?_)
  have h : Ok C RX10 cX10_rowsOf 2 _ := h
  refine x_aload_n h dX10_rowsOf_0 rfl ?_
  refine x_get h fl_10_88 lvz_10 dX10_rowsOf_1 (pvf_567 _ _) ?_
  refine x_iload_n h dX10_rowsOf_4 rfl ?_
  refine x_lald h kdf_67 lvz_67 dX10_rowsOf_5 rfl (by omega) ?_
  rw [hz]
  refine x_l2i h dX10_rowsOf_6 ?_
  refine x_bipush h dX10_rowsOf_7 (by decide) ?_
  refine x_iadd h dX10_rowsOf_9 ?_
  refine x_bipush h dX10_rowsOf_10 (by decide) ?_
  refine x_idivP h (by omega) dX10_rowsOf_12 ?_
  exact x_ireturn h hr dX10_rowsOf_13 (Or.inl rfl) ⟨Nat.le_refl _, Nat.le_refl _⟩
section GO
variable {n d v t A : Nat} {row pl e r : Int} {σ σ' : Mm} {st : List Int}
theorem go_pre {C : Cx} (h : Ok C RX10 cX10_goOne 4 d) (hF : FrameAt σ v t row pl e r st) (hu : σ 10 0 55 = ((v + 1 : Nat) : Int)) (hv : v < 12) (hx : X C 1 26 [(0, vR 10 0), (1, vI v), (2, vI t)] [vI e, vI pl] NALL σ 0 0) : X C 1 0 [(0, vR 10 0)] [] NALL σ 0 0 := by
  have e1 : ((v + 1 : Nat) : Int) - 1 = (v : Int) := by omega
  refine x_aload_n h dX10_goOne_0 rfl ?_
  refine x_get (q := vI ((v + 1 : Nat))) h fl_10_315 lvz_10 dX10_goOne_1 (congrArg vI (by first | exact hu | simp [up3, hu])) ?_
  refine x_iconst h dX10_goOne_4 ?_
  refine x_isub h dX10_goOne_5 ?_
  rw [e1]
  refine x_istore_n h dX10_goOne_6 (by decide) ?_
  refine x_aload_n h dX10_goOne_7 rfl ?_
  refine x_get h fl_10_130 lvz_10 dX10_goOne_8 (pvf_586 _ _) ?_
  refine x_iload_n h dX10_goOne_11 rfl ?_
  refine x_iald h kdf_86 lvz_86 dX10_goOne_12 rfl (by omega) ?_
  rw [hF.1.1]
  refine x_istore_n h dX10_goOne_13 (by decide) ?_
  refine x_aload_n h dX10_goOne_14 rfl ?_
  refine x_get h fl_10_136 lvz_10 dX10_goOne_15 (pvf_588 _ _) ?_
  refine x_iload_n h dX10_goOne_18 rfl ?_
  refine x_iald h kdf_88 lvz_88 dX10_goOne_19 rfl (by omega) ?_
  rw [hF.2.1]
  refine x_aload_n h dX10_goOne_20 rfl ?_
  refine x_get h fl_10_139 lvz_10 dX10_goOne_21 (pvf_589 _ _) ?_
  refine x_iload_n h dX10_goOne_24 rfl ?_
  refine x_iald h kdf_89 lvz_89 dX10_goOne_25 rfl (by omega) ?_
  rw [hF.2.2.1]
  exact x_loc (ls' := [(0, vR 10 0), (1, vI v), (2, vI t)]) ⟨rfl, rfl, rfl, trivial⟩ hx
/-- a step -/
theorem g_step {E : Nat} (hF : FrameAt σ v t row pl e (A : Int) st) (hu : σ 10 0 55 = ((v + 1 : Nat) : Int)) (hv : v < 12) (ht : t < 12) (hpe : 0 ≤ pl ∧ pl < e ∧ e ≤ 1000) (hE : σ 68 0 (t + 1) = (E : Int)) (hAE : A < E) (hE9 : E ≤ 900) (hs : Ct (d + 1) mX10_step 1 [vR 10 0, vI v] NALL σ (some (vI r)) NALL σ' 0 0) : Ct (d + 2) mX10_goOne 1 [vR 10 0] NALL σ (some (vI r)) NALL σ' 0 0 := by
  have g90 := hF.2.2.2.1
  refine ct_of (by decide) (Nat.le_of_ble_eq_true rfl) (fun C h hr _ => ?_)
  have h : Ok C RX10 cX10_goOne 4 _ := h
  refine go_pre h hF hu hv ?_
  refine x_ic_ge_F (tgt := 98) h (by omega) dX10_goOne_26 (by decide) (by omega) ?_
  refine x_aload_n h dX10_goOne_29 rfl ?_
  refine x_get h fl_10_142 lvz_10 dX10_goOne_30 (pvf_590 _ _) ?_
  refine x_iload_n h dX10_goOne_33 rfl ?_
  refine x_iald h kdf_90 lvz_90 dX10_goOne_34 rfl (by omega) ?_
  rw [g90]
  refine x_aload_n h dX10_goOne_35 rfl ?_
  refine x_get h fl_10_91 lvz_10 dX10_goOne_36 (pvf_568 _ _) ?_
  refine x_iload_n h dX10_goOne_39 rfl ?_
  refine x_iconst h dX10_goOne_40 ?_
  refine x_iadd h dX10_goOne_41 ?_
  refine x_iald (m := t + 1) h kdf_68 lvz_68 dX10_goOne_42 (by omega) (by omega) ?_
  rw [hE]
  refine x_ic_ge_F (tgt := 52) h (by omega) dX10_goOne_43 (by decide) (by omega) ?_
  refine x_aload_n h dX10_goOne_46 rfl ?_
  refine x_iload_n h dX10_goOne_47 rfl ?_
  refine x_cV1 h kVX10_step lkX10_357 ⟨_, _, _, rfl, rfl⟩ dX10_goOne_48 (hs) lvz_10 rfl rfl (Nat.le_of_ble_eq_true rfl) (by omega) ?_
  exact x_ireturn h hr dX10_goOne_51 (Or.inl rfl) ⟨Nat.le_refl _, Nat.le_refl _⟩
/-- a number is stored -/
def sgS (σ : Mm) (v t p : Nat) (x c : Int) : Mm := up3 (up3 (up3 (up3 σ 91 0 v 0) 73 0 (200 * t + p) x) 88 0 v ((p + 1 : Nat) : Int)) 90 0 v c
theorem g_store {p : Nat} {x c : Int} (hF : FrameAt σ v t row (p : Int) e (A : Int) [x]) (hu : σ 10 0 55 = ((v + 1 : Nat) : Int)) (hv : v < 12) (ht : t < 12) (hpe : (p : Int) < e ∧ e ≤ 200) (hE : σ 68 0 (t + 1) = (A : Int)) (hA : A ≤ 900) (hc : σ 68 0 t = c) : Ct (d + 2) mX10_goOne 1 [vR 10 0] NALL σ (some (vI 0)) NALL (sgS σ v t p x c) 0 0 := by
  have g90 := hF.2.2.2.1
  have g88 := hF.2.1
  have ht1 := m_takeTop (d := d) (st := []) hv hF.2.2.2.2.1 hF.2.2.2.2.2 (by decide)
  have e1 : (p : Int) + 1 = ((p + 1 : Nat) : Int) := by omega
  obtain ⟨T1, t1⟩ : ∃ q, q = up3 σ 91 0 v (([] : List Int).length : Int) := ⟨_, rfl⟩
  obtain ⟨T2, t2⟩ : ∃ q, q = up3 T1 73 0 (200 * t + p) x := ⟨_, rfl⟩
  obtain ⟨T3, t3⟩ : ∃ q, q = up3 T2 88 0 v ((p + 1 : Nat) : Int) := ⟨_, rfl⟩
  have f88 : T2 88 0 v = p := by rw [t2, up3_f _ _ (by omega), t1, up3_f _ _ (by omega)]; exact g88
  have f68 : T3 68 0 t = c := by rw [t3, up3_f _ _ (by omega), t2, up3_f _ _ (by omega), t1, up3_f _ _ (by omega)]; exact hc
  refine ct_of (by decide) (Nat.le_of_ble_eq_true rfl) (fun C h hr _ => ?_)
  have h : Ok C RX10 cX10_goOne 4 _ := h
  have hr : Rt C 1 (some .int) (some (vI 0)) NALL (up3 T3 90 0 v c) 0 0 := by rw [t3, t2, t1]; exact hr
  refine go_pre h hF hu hv ?_
  refine x_ic_ge_F (tgt := 98) h (by omega) dX10_goOne_26 (by decide) (by omega) ?_
  refine x_aload_n h dX10_goOne_29 rfl ?_
  refine x_get h fl_10_142 lvz_10 dX10_goOne_30 (pvf_590 _ _) ?_
  refine x_iload_n h dX10_goOne_33 rfl ?_
  refine x_iald h kdf_90 lvz_90 dX10_goOne_34 rfl (by omega) ?_
  rw [g90]
  refine x_aload_n h dX10_goOne_35 rfl ?_
  refine x_get h fl_10_91 lvz_10 dX10_goOne_36 (pvf_568 _ _) ?_
  refine x_iload_n h dX10_goOne_39 rfl ?_
  refine x_iconst h dX10_goOne_40 ?_
  refine x_iadd h dX10_goOne_41 ?_
  refine x_iald (m := t + 1) h kdf_68 lvz_68 dX10_goOne_42 (by omega) (by omega) ?_
  rw [hE]
  refine x_ic_ge_T (tgt := 52) h (by omega) dX10_goOne_43 (by decide) (by omega) ?_
  refine x_aload_n h dX10_goOne_52 rfl ?_
  refine x_get h fl_10_106 lvz_10 dX10_goOne_53 (pvf_573 _ _) ?_
  refine x_sipush h dX10_goOne_56 (by decide) ?_
  refine x_iload_n h dX10_goOne_59 rfl ?_
  refine x_imul h dX10_goOne_60 ?_
  refine x_aload_n h dX10_goOne_61 rfl ?_
  refine x_get h fl_10_136 lvz_10 dX10_goOne_62 (pvf_588 _ _) ?_
  refine x_iload_n h dX10_goOne_65 rfl ?_
  refine x_iald h kdf_88 lvz_88 dX10_goOne_66 rfl (by omega) ?_
  rw [g88]
  refine x_iadd h dX10_goOne_67 ?_
  refine x_aload_n h dX10_goOne_68 rfl ?_
  refine x_iload_n h dX10_goOne_69 rfl ?_
  refine x_cV1 h kVX10_takeTop lkX10_342 ⟨_, _, _, rfl, rfl⟩ dX10_goOne_70 (ht1) lvz_10 rfl rfl (Nat.le_of_ble_eq_true rfl) (by omega) ?_
  rw [← t1]
  refine x_last (m := 200 * t + p) h kdf_73 lvz_73 dX10_goOne_73 (by omega) (by omega) ?_
  rw [← t2]
  refine x_aload_n h dX10_goOne_74 rfl ?_
  refine x_get h fl_10_136 lvz_10 dX10_goOne_75 (pvf_588 _ _) ?_
  refine x_iload_n h dX10_goOne_78 rfl ?_
  refine x_dup2 h dX10_goOne_79 rfl rfl ?_
  refine x_iald h kdf_88 lvz_88 dX10_goOne_80 rfl (by omega) ?_
  rw [f88]
  refine x_iconst h dX10_goOne_81 ?_
  refine x_iadd h dX10_goOne_82 ?_
  rw [e1]
  refine x_iast h kdf_88 lvz_88 dX10_goOne_83 rfl (by omega) ?_
  rw [← t3]
  refine x_aload_n h dX10_goOne_84 rfl ?_
  refine x_get h fl_10_142 lvz_10 dX10_goOne_85 (pvf_590 _ _) ?_
  refine x_iload_n h dX10_goOne_88 rfl ?_
  refine x_aload_n h dX10_goOne_89 rfl ?_
  refine x_get h fl_10_91 lvz_10 dX10_goOne_90 (pvf_568 _ _) ?_
  refine x_iload_n h dX10_goOne_93 rfl ?_
  refine x_iald h kdf_68 lvz_68 dX10_goOne_94 rfl (by omega) ?_
  rw [f68]
  refine x_iast h kdf_90 lvz_90 dX10_goOne_95 rfl (by omega) ?_
  refine x_iconst h dX10_goOne_96 ?_
  exact x_ireturn h hr dX10_goOne_97 (Or.inl rfl) ⟨Nat.le_refl _, Nat.le_refl _⟩
/-- a ROW stands -/
theorem g_rowpop {i : Nat} (hF : FrameAt σ v t (i : Int) pl e r st) (hu : σ 10 0 55 = ((v + 1 : Nat) : Int)) (hv : v < 12) (ht : t < 12) (hi : i < 25) (hpe : e ≤ pl ∧ 0 ≤ e ∧ pl ≤ 1000) : Ct (d + 2) mX10_goOne 1 [vR 10 0] NALL σ (some (vI 0)) NALL (up3 (up3 σ 72 0 (25 * t + i) 2) 10 0 55 v) 0 0 := by
  have g87 := hF.1.2
  have e1 : ((v + 1 : Nat) : Int) - 1 = (v : Int) := by omega
  have f55 : up3 σ 72 0 (25 * t + i) 2 10 0 55 = ((v + 1 : Nat) : Int) := by rw [up3_n _ (by omega)]; exact hu
  refine ct_of (by decide) (Nat.le_of_ble_eq_true rfl) (fun C h hr _ => ?_)
  have h : Ok C RX10 cX10_goOne 4 _ := h
  refine go_pre h hF hu hv ?_
  refine x_ic_ge_T (tgt := 98) h (by omega) dX10_goOne_26 (by decide) (by omega) ?_
  refine x_aload_n h dX10_goOne_98 rfl ?_
  refine x_get h fl_10_133 lvz_10 dX10_goOne_99 (pvf_587 _ _) ?_
  refine x_iload_n h dX10_goOne_102 rfl ?_
  refine x_iald h kdf_87 lvz_87 dX10_goOne_103 rfl (by omega) ?_
  rw [g87]
  refine x_bipush h dX10_goOne_104 (by decide) ?_
  refine x_ic_eq_F (tgt := 138) h (by omega) dX10_goOne_106 (by decide) (by omega) ?_
  refine x_aload_n h dX10_goOne_109 rfl ?_
  refine x_get h fl_10_103 lvz_10 dX10_goOne_110 (pvf_572 _ _) ?_
  refine x_bipush h dX10_goOne_113 (by decide) ?_
  refine x_iload_n h dX10_goOne_115 rfl ?_
  refine x_imul h dX10_goOne_116 ?_
  refine x_aload_n h dX10_goOne_117 rfl ?_
  refine x_get h fl_10_133 lvz_10 dX10_goOne_118 (pvf_587 _ _) ?_
  refine x_iload_n h dX10_goOne_121 rfl ?_
  refine x_iald h kdf_87 lvz_87 dX10_goOne_122 rfl (by omega) ?_
  rw [g87]
  refine x_iadd h dX10_goOne_123 ?_
  refine x_iconst h dX10_goOne_124 ?_
  refine x_iast (m := 25 * t + i) h kdf_72 lvz_72 dX10_goOne_125 (by omega) (by omega) ?_
  refine x_aload_n h dX10_goOne_126 rfl ?_
  refine x_dup h dX10_goOne_127 rfl ?_
  refine x_get (q := vI ((v + 1 : Nat))) h fl_10_315 lvz_10 dX10_goOne_128 (congrArg vI (by first | exact f55 | simp [up3, f55])) ?_
  refine x_iconst h dX10_goOne_131 ?_
  refine x_isub h dX10_goOne_132 ?_
  rw [e1]
  refine x_put h fl_10_315 lvz_10 dX10_goOne_133 rfl (fun z => absurd z (by decide)) ?_
  refine x_iconst h dX10_goOne_136 ?_
  exact x_ireturn h hr dX10_goOne_137 (Or.inl rfl) ⟨Nat.le_refl _, Nat.le_refl _⟩
theorem go_pop {C : Cx} {ls : List (Nat × PV)} (h : Ok C RX10 cX10_goOne 4 d) (hu : σ 10 0 55 = ((v + 1 : Nat) : Int)) (hv : v < 12) (ht : t < 12) (hr : Rt C 1 (some .int) (some (vI 0)) NALL (up3 (up3 σ 71 0 t 2) 10 0 55 v) 0 0) (hls : lsub [(0, vR 10 0), (2, vI t)] ls) : X C 1 279 ls [] NALL σ 0 0 := by
  have e1 : ((v + 1 : Nat) : Int) - 1 = (v : Int) := by omega
  have f55 : up3 σ 71 0 t 2 10 0 55 = ((v + 1 : Nat) : Int) := by rw [up3_n _ (by omega)]; exact hu
  refine x_loc hls ?_
  refine x_aload_n h dX10_goOne_279 rfl ?_
  refine x_get h fl_10_100 lvz_10 dX10_goOne_280 (pvf_571 _ _) ?_
  refine x_iload_n h dX10_goOne_283 rfl ?_
  refine x_iconst h dX10_goOne_284 ?_
  refine x_iast h kdf_71 lvz_71 dX10_goOne_285 rfl (by omega) ?_
  refine x_aload_n h dX10_goOne_286 rfl ?_
  refine x_dup h dX10_goOne_287 rfl ?_
  refine x_get (q := vI ((v + 1 : Nat))) h fl_10_315 lvz_10 dX10_goOne_288 (congrArg vI (by first | exact f55 | simp [up3, f55])) ?_
  refine x_iconst h dX10_goOne_291 ?_
  refine x_isub h dX10_goOne_292 ?_
  rw [e1]
  refine x_put h fl_10_315 lvz_10 dX10_goOne_293 rfl (fun z => absurd z (by decide)) ?_
  refine x_iconst h dX10_goOne_296 ?_
  exact x_ireturn h hr dX10_goOne_297 (Or.inl rfl) ⟨Nat.le_refl _, Nat.le_refl _⟩
theorem go_tab {C : Cx} {b : Int} (h : Ok C RX10 cX10_goOne 4 d) (hF : FrameAt σ v t (-9) pl e r st) (hu : σ 10 0 55 = ((v + 1 : Nat) : Int)) (hv : v < 12) (ht : t < 12) (hpe : e ≤ pl ∧ 0 ≤ e ∧ pl ≤ 1000) (hb : σ 65 0 t = b) (hx : X C 1 144 [(0, vR 10 0), (1, vI v), (2, vI t)] [vI b] NALL σ 0 0) : X C 1 0 [(0, vR 10 0)] [] NALL σ 0 0 := by
  have g87 := hF.1.2
  refine go_pre h hF hu hv ?_
  refine x_ic_ge_T (tgt := 98) h (by omega) dX10_goOne_26 (by decide) (by omega) ?_
  refine x_aload_n h dX10_goOne_98 rfl ?_
  refine x_get h fl_10_133 lvz_10 dX10_goOne_99 (pvf_587 _ _) ?_
  refine x_iload_n h dX10_goOne_102 rfl ?_
  refine x_iald h kdf_87 lvz_87 dX10_goOne_103 rfl (by omega) ?_
  rw [g87]
  refine x_bipush h dX10_goOne_104 (by decide) ?_
  refine x_ic_eq_T (tgt := 138) h (by omega) dX10_goOne_106 (by decide) (by omega) ?_
  refine x_aload_n h dX10_goOne_138 rfl ?_
  refine x_get h fl_10_82 lvz_10 dX10_goOne_139 (pvf_565 _ _) ?_
  refine x_iload_n h dX10_goOne_142 rfl ?_
  refine x_zald h kdf_65 lvz_65 dX10_goOne_143 rfl (by omega) ?_
  rw [hb]
  exact hx
/-- a TABLE without a promise stands -/
theorem g_tabpop (hF : FrameAt σ v t (-9) pl e r st) (hu : σ 10 0 55 = ((v + 1 : Nat) : Int)) (hv : v < 12) (ht : t < 12) (hpe : e ≤ pl ∧ 0 ≤ e ∧ pl ≤ 1000) (hb : σ 65 0 t = 0) : Ct (d + 2) mX10_goOne 1 [vR 10 0] NALL σ (some (vI 0)) NALL (up3 (up3 σ 71 0 t 2) 10 0 55 v) 0 0 := by
  refine ct_of (by decide) (Nat.le_of_ble_eq_true rfl) (fun C h hr _ => ?_)
  have h : Ok C RX10 cX10_goOne 4 _ := h
  refine go_tab h hF hu hv ht hpe hb ?_
  refine x_if_eq_T (tgt := 279) h (by omega) dX10_goOne_144 (by decide) (by omega) ?_
  exact go_pop h hu hv ht hr ⟨rfl, rfl, trivial⟩
/-- the ROWS are looked through -/
theorem go_scan {C : Cx} {z : Int} (h : Ok C RX10 cX10_goOne 4 (d + 2)) (ht : t < 12) (hz : σ 67 0 t = z) (hz2 : 0 ≤ z ∧ z ≤ 200) (hw : σ 64 0 t = 0) (m : Nat) (hm : (m : Int) ≤ (z + 7) / 8) (hn0 : ∀ j, j < m → ∃ q : Nat, q ≤ 3 ∧ q ≠ 0 ∧ σ 72 0 (25 * t + j) = q) (hx : X C 1 149 [(0, vR 10 0), (1, vI v), (2, vI t), (3, vI m)] [] NALL σ 0 0) : ∀ (c j : Nat), j + c = m → X C 1 149 [(0, vR 10 0), (1, vI v), (2, vI t), (3, vI j)] [] NALL σ 0 0 := by
  have hro := m_rowsOf (d := d) ht hz hz2
  intro c
  induction c with
  | zero => intro j hj; obtain rfl : j = m := by omega
            exact hx
  | succ c ih =>
    intro j hj
    obtain ⟨q, q1, q2, q3⟩ := hn0 j (by omega)
    have e1 : (j : Int) + 1 = ((j + 1 : Nat) : Int) := by omega
    have goal := ih (j + 1) (by omega)
    rw [← e1] at goal
    refine x_iload_n h dX10_goOne_149 rfl ?_
    refine x_aload_n h dX10_goOne_150 rfl ?_
    refine x_iload_n h dX10_goOne_151 rfl ?_
    refine x_cV1 h kVX10_rowsOf lkX10_312 ⟨_, _, _, rfl, rfl⟩ dX10_goOne_152 (hro) lvz_10 rfl rfl (Nat.le_of_ble_eq_true rfl) (by omega) ?_
    refine x_ic_ge_F (tgt := 196) h (by omega) dX10_goOne_155 (by decide) (by omega) ?_
    refine x_aload_n h dX10_goOne_158 rfl ?_
    refine x_get h fl_10_79 lvz_10 dX10_goOne_159 (pvf_564 _ _) ?_
    refine x_iload_n h dX10_goOne_162 rfl ?_
    refine x_zald h kdf_64 lvz_64 dX10_goOne_163 rfl (by omega) ?_
    rw [hw]
    refine x_if_ne_F (tgt := 196) h (by omega) dX10_goOne_164 (by decide) (by omega) ?_
    refine x_aload_n h dX10_goOne_167 rfl ?_
    refine x_get h fl_10_103 lvz_10 dX10_goOne_168 (pvf_572 _ _) ?_
    refine x_bipush h dX10_goOne_171 (by decide) ?_
    refine x_iload_n h dX10_goOne_173 rfl ?_
    refine x_imul h dX10_goOne_174 ?_
    refine x_iload_n h dX10_goOne_175 rfl ?_
    refine x_iadd h dX10_goOne_176 ?_
    refine x_iald (m := 25 * t + j) h kdf_72 lvz_72 dX10_goOne_177 (by omega) (by omega) ?_
    rw [q3]
    refine x_if_ne_T (tgt := 190) h (by omega) dX10_goOne_178 (by decide) (by omega) ?_
    refine x_iinc h dX10_goOne_190 rfl (by decide) ?_
    refine x_goto (tgt := 149) h dX10_goOne_193 (by decide) ?_
    exact x_loc (ls' := [(0, vR 10 0), (1, vI v), (2, vI t), (3, vI ((j : Int) + 1))]) ⟨rfl, rfl, rfl, rfl, trivial⟩ goal
/-- the next ROW of a promise begins -/
theorem g_rowbeg {z : Int} {m : Nat} (hF : FrameAt σ v t (-9) pl e r st) (hu : σ 10 0 55 = ((v + 1 : Nat) : Int)) (hv : v < 12) (ht : t < 12) (hpe : e ≤ pl ∧ 0 ≤ e ∧ pl ≤ 1000) (hb : σ 65 0 t = 1) (hz : σ 67 0 t = z) (hz2 : 0 ≤ z ∧ z ≤ 200) (hw : σ 64 0 t = 0) (hm : (m : Int) < (z + 7) / 8) (hn0 : ∀ j, j < m → ∃ q : Nat, q ≤ 3 ∧ q ≠ 0 ∧ σ 72 0 (25 * t + j) = q) (h0 : σ 72 0 (25 * t + m) = 0) {w : Int} (hbg : Ct (d + 1) mX10_begin 1 [vR 10 0, vI t, vI m, vI (-9)] NALL σ (some (vI w)) NALL σ' 0 0) : Ct (d + 2) mX10_goOne 1 [vR 10 0] NALL σ (some (vI w)) NALL σ' 0 0 := by
  have hro := m_rowsOf (d := d) ht hz hz2
  refine ct_of (by decide) (Nat.le_of_ble_eq_true rfl) (fun C h hr _ => ?_)
  have h : Ok C RX10 cX10_goOne 4 _ := h
  refine go_tab h hF hu hv ht hpe hb ?_
  have goal : X C 1 149 [(0, vR 10 0), (1, vI v), (2, vI t), (3, vI m)] [] NALL σ 0 0 := by
    refine x_iload_n h dX10_goOne_149 rfl ?_
    refine x_aload_n h dX10_goOne_150 rfl ?_
    refine x_iload_n h dX10_goOne_151 rfl ?_
    refine x_cV1 h kVX10_rowsOf lkX10_312 ⟨_, _, _, rfl, rfl⟩ dX10_goOne_152 (hro) lvz_10 rfl rfl (Nat.le_of_ble_eq_true rfl) (by omega) ?_
    refine x_ic_ge_F (tgt := 196) h (by omega) dX10_goOne_155 (by decide) (by omega) ?_
    refine x_aload_n h dX10_goOne_158 rfl ?_
    refine x_get h fl_10_79 lvz_10 dX10_goOne_159 (pvf_564 _ _) ?_
    refine x_iload_n h dX10_goOne_162 rfl ?_
    refine x_zald h kdf_64 lvz_64 dX10_goOne_163 rfl (by omega) ?_
    rw [hw]
    refine x_if_ne_F (tgt := 196) h (by omega) dX10_goOne_164 (by decide) (by omega) ?_
    refine x_aload_n h dX10_goOne_167 rfl ?_
    refine x_get h fl_10_103 lvz_10 dX10_goOne_168 (pvf_572 _ _) ?_
    refine x_bipush h dX10_goOne_171 (by decide) ?_
    refine x_iload_n h dX10_goOne_173 rfl ?_
    refine x_imul h dX10_goOne_174 ?_
    refine x_iload_n h dX10_goOne_175 rfl ?_
    refine x_iadd h dX10_goOne_176 ?_
    refine x_iald (m := 25 * t + m) h kdf_72 lvz_72 dX10_goOne_177 (by omega) (by omega) ?_
    rw [h0]
    refine x_if_ne_F (tgt := 190) h (by omega) dX10_goOne_178 (by decide) (by omega) ?_
    refine x_aload_n h dX10_goOne_181 rfl ?_
    refine x_iload_n h dX10_goOne_182 rfl ?_
    refine x_iload_n h dX10_goOne_183 rfl ?_
    refine x_bipush h dX10_goOne_184 (by decide) ?_
    refine x_cV1 h kVX10_begin lkX10_324 ⟨_, _, _, rfl, rfl⟩ dX10_goOne_186 (hbg) lvz_10 rfl rfl (Nat.le_of_ble_eq_true rfl) (by omega) ?_
    exact x_ireturn h hr dX10_goOne_189 (Or.inl rfl) ⟨Nat.le_refl _, Nat.le_refl _⟩
  have goal := go_scan h ht hz hz2 hw m (by omega) hn0 goal m 0 (by omega)
  refine x_if_eq_F (tgt := 279) h (by omega) dX10_goOne_144 (by decide) (by omega) ?_
  refine x_iconst h dX10_goOne_147 ?_
  refine x_istore_n h dX10_goOne_148 (by decide) ?_
  exact x_loc (ls' := [(0, vR 10 0), (1, vI v), (2, vI t), (3, vI ((0 : Nat) : Int))]) ⟨rfl, rfl, rfl, rfl, trivial⟩ goal
def sumM (σ : Mm) (t : Nat) : Nat → Int
  | 0 => 0
  | k + 1 => sumM σ t k + σ 73 0 (200 * t + k)
theorem sumM_r {σ : Mm} {t : Nat} (he : ∀ p, p < 200 → i64 (σ 73 0 (200 * t + p))) : ∀ k : Nat, k ≤ 200 → -(9223372036854775808 * k) ≤ sumM σ t k ∧ sumM σ t k ≤ 9223372036854775808 * k := by
  intro k
  induction k with
  | zero => intro _; exact ⟨by simp [sumM], by simp [sumM]⟩
  | succ k ih =>
    intro hk
    have h1 := ih (by omega)
    obtain ⟨h2, h3⟩ := he k (by omega)
    show -(9223372036854775808 * ((k + 1 : Nat) : Int)) ≤ sumM σ t k + σ 73 0 (200 * t + k) ∧ sumM σ t k + σ 73 0 (200 * t + k) ≤ 9223372036854775808 * ((k + 1 : Nat) : Int)
    omega
/-- the promise is held against the SUM -/
theorem go_sum {C : Cx} {pr : Int} {z : Nat} (h : Ok C RX10 cX10_goOne 4 (d + 2)) (hu : σ 10 0 55 = ((v + 1 : Nat) : Int)) (hv : v < 12) (ht : t < 12) (hz : σ 67 0 t = (z : Int)) (hz2 : z ≤ 200) (he : ∀ p, p < 200 → i64 (σ 73 0 (200 * t + p))) (hp : σ 66 0 t = pr) (hpr : i64 pr) (h1 : sumM σ t z = pr → Rt C 1 (some .int) (some (vI 0)) NALL (up3 (up3 (adS σ pr) 71 0 t 2) 10 0 55 v) 0 0) (h5 : sumM σ t z ≠ pr → Rt C 1 (some .int) (some (vI 5)) NALL (adS σ (sumM σ t z)) 0 0) {ls : List (Nat × PV)} (hls : lsub [(0, vR 10 0), (1, vI v), (2, vI t)] ls) : X C 1 196 ls [] NALL σ 0 0 := by
  have hm32 : ∀ x : Int, andL x (4294967295 : Int) = x % 4294967296 := andL_32
  have hs32 : ∀ x : Int, shrL x (32 : Int) = w64 x / 4294967296 := shrL_32
  have ev : w64 pr = pr := w64_id hpr
  have hb := sumM_r he z hz2
  obtain ⟨hpr1, hpr2⟩ := hpr
  have tail : X C 1 242 [(0, vR 10 0), (1, vI v), (2, vI t)] [] NALL (adS σ (sumM σ t z)) 0 0 := by
    have q66 : adS σ (sumM σ t z) 66 0 t = pr := by rw [adS_o (by omega)]; exact hp
    generalize sumM σ t z = T at hb h1 h5 q66
    have z9 : (9223372036854775808 : Int) * z ≤ 1844674407370955161600 := by omega
    refine x_aload_n h dX10_goOne_242 rfl ?_
    refine x_get (q := vL (T / 4294967296)) h fl_10_354 lvz_10 dX10_goOne_243 (congrArg vL (by first | exact adS_64 | simp [up3, adS_64])) ?_
    refine x_aload_n h dX10_goOne_246 rfl ?_
    refine x_get h fl_10_85 lvz_10 dX10_goOne_247 (pvf_566 _ _) ?_
    refine x_iload_n h dX10_goOne_250 rfl ?_
    refine x_lald h kdf_66 lvz_66 dX10_goOne_251 rfl (by omega) ?_
    rw [q66]
    refine x_bipush h dX10_goOne_252 (by decide) ?_
    refine x_lshr h dX10_goOne_254 ?_
    rw [hs32, ev]
    by_cases c1 : T / 4294967296 = pr / 4294967296
    · refine x_lc_ne (tgt := 277) h (by omega) dX10_goOne_255 dX10_goOne_256 (by decide) (fun q => absurd q (by omega)) (fun _ => ?_)
      refine x_aload_n h dX10_goOne_259 rfl ?_
      refine x_get (q := vL (T % 4294967296)) h fl_10_349 lvz_10 dX10_goOne_260 (congrArg vL (by first | exact adS_65 | simp [up3, adS_65])) ?_
      refine x_aload_n h dX10_goOne_263 rfl ?_
      refine x_get h fl_10_85 lvz_10 dX10_goOne_264 (pvf_566 _ _) ?_
      refine x_iload_n h dX10_goOne_267 rfl ?_
      refine x_lald h kdf_66 lvz_66 dX10_goOne_268 rfl (by omega) ?_
      rw [q66]
      refine x_ldc2 (x := 4294967295) h dX10_goOne_269 klX10_352 (by decide) ?_
      refine x_land h dX10_goOne_272 ?_
      rw [hm32]
      by_cases c2 : T % 4294967296 = pr % 4294967296
      · have e : T = pr := by omega
        subst e
        refine x_lc_eq (tgt := 279) h (by omega) dX10_goOne_273 dX10_goOne_274 (by decide) (fun _ => ?_) (fun q => absurd (by omega) q)
        exact go_pop h (by rw [adS_o (by omega)]; exact hu) hv ht (h1 rfl) ⟨rfl, rfl, trivial⟩
      · have hr := h5 (fun q => c2 (by rw [q]))
        refine x_lc_eq (tgt := 279) h (by omega) dX10_goOne_273 dX10_goOne_274 (by decide) (fun q => absurd q (by omega)) (fun _ => ?_)
        refine x_iconst h dX10_goOne_277 ?_
        exact x_ireturn h hr dX10_goOne_278 (Or.inl rfl) ⟨Nat.le_refl _, Nat.le_refl _⟩
    · have hr := h5 (fun q => c1 (by rw [q]))
      refine x_lc_ne (tgt := 277) h (by omega) dX10_goOne_255 dX10_goOne_256 (by decide) (fun _ => ?_) (fun q => absurd (by omega) q)
      refine x_iconst h dX10_goOne_277 ?_
      exact x_ireturn h hr dX10_goOne_278 (Or.inl rfl) ⟨Nat.le_refl _, Nat.le_refl _⟩
  have loop : ∀ (c j : Nat), j + c = z → X C 1 208 [(0, vR 10 0), (1, vI v), (2, vI t), (3, vI j)] [] NALL (adS σ (sumM σ t j)) 0 0 := by
    intro c
    induction c with
    | zero =>
      intro j hj
      obtain rfl : j = z := by omega
      have q67 : adS σ (sumM σ t j) 67 0 t = (j : Int) := by rw [adS_o (by omega)]; exact hz
      refine x_iload_n h dX10_goOne_208 rfl ?_
      refine x_i2l h (by omega) dX10_goOne_209 ?_
      refine x_aload_n h dX10_goOne_210 rfl ?_
      refine x_get h fl_10_88 lvz_10 dX10_goOne_211 (pvf_567 _ _) ?_
      refine x_iload_n h dX10_goOne_214 rfl ?_
      refine x_lald h kdf_67 lvz_67 dX10_goOne_215 rfl (by omega) ?_
      rw [q67]
      refine x_lc_ge (tgt := 242) h (by omega) dX10_goOne_216 dX10_goOne_217 (by decide) (fun _ => ?_) (fun q => absurd (by omega) q)
      exact x_loc (ls' := [(0, vR 10 0), (1, vI v), (2, vI t)]) ⟨rfl, rfl, rfl, trivial⟩ tail
    | succ c ih =>
      intro j hj
      have e1 : (j : Int) + 1 = ((j + 1 : Nat) : Int) := by omega
      have goal := ih (j + 1) (by omega)
      rw [← e1] at goal
      have q67 : adS σ (sumM σ t j) 67 0 t = (z : Int) := by rw [adS_o (by omega)]; exact hz
      have q73 : adS σ (sumM σ t j) 73 0 (200 * t + j) = σ 73 0 (200 * t + j) := adS_o (by omega)
      have ha := m_add (d := d) (σ := σ) (T := sumM σ t j) (he j (by omega))
      refine x_iload_n h dX10_goOne_208 rfl ?_
      refine x_i2l h (by omega) dX10_goOne_209 ?_
      refine x_aload_n h dX10_goOne_210 rfl ?_
      refine x_get h fl_10_88 lvz_10 dX10_goOne_211 (pvf_567 _ _) ?_
      refine x_iload_n h dX10_goOne_214 rfl ?_
      refine x_lald h kdf_67 lvz_67 dX10_goOne_215 rfl (by omega) ?_
      rw [q67]
      refine x_lc_ge (tgt := 242) h (by omega) dX10_goOne_216 dX10_goOne_217 (by decide) (fun q => absurd q (by omega)) (fun _ => ?_)
      refine x_aload_n h dX10_goOne_220 rfl ?_
      refine x_aload_n h dX10_goOne_221 rfl ?_
      refine x_get h fl_10_106 lvz_10 dX10_goOne_222 (pvf_573 _ _) ?_
      refine x_sipush h dX10_goOne_225 (by decide) ?_
      refine x_iload_n h dX10_goOne_228 rfl ?_
      refine x_imul h dX10_goOne_229 ?_
      refine x_iload_n h dX10_goOne_230 rfl ?_
      refine x_iadd h dX10_goOne_231 ?_
      refine x_lald (m := 200 * t + j) h kdf_73 lvz_73 dX10_goOne_232 (by omega) (by omega) ?_
      rw [q73]
      refine x_cV0 h kVX10_add lkX10_360 ⟨_, _, _, rfl, rfl⟩ dX10_goOne_233 (ha) lvz_10 rfl rfl (Nat.le_of_ble_eq_true rfl) (by omega) ?_
      refine x_iinc h dX10_goOne_236 rfl (by decide) ?_
      refine x_goto (tgt := 208) h dX10_goOne_239 (by decide) ?_
      exact x_loc (ls' := [(0, vR 10 0), (1, vI v), (2, vI t), (3, vI ((j : Int) + 1))]) ⟨rfl, rfl, rfl, rfl, trivial⟩ goal
  refine x_loc hls ?_
  have goal := loop z 0 (by omega)
  refine x_aload_n h dX10_goOne_196 rfl ?_
  refine x_lconst0 h dX10_goOne_197 ?_
  refine x_put h fl_10_354 lvz_10 dX10_goOne_198 rfl (fun z => absurd z (by decide)) ?_
  refine x_aload_n h dX10_goOne_201 rfl ?_
  refine x_lconst0 h dX10_goOne_202 ?_
  refine x_put h fl_10_349 lvz_10 dX10_goOne_203 rfl (fun z => absurd z (by decide)) ?_
  refine x_iconst h dX10_goOne_206 ?_
  refine x_istore_n h dX10_goOne_207 (by decide) ?_
  exact x_loc (ls' := [(0, vR 10 0), (1, vI v), (2, vI t), (3, vI ((0 : Nat) : Int))]) ⟨rfl, rfl, rfl, rfl, trivial⟩ goal
/-- a TABLE with a promise -/
theorem g_sum {pr b : Int} {z : Nat} (hF : FrameAt σ v t (-9) pl e r st) (hu : σ 10 0 55 = ((v + 1 : Nat) : Int)) (hv : v < 12) (ht : t < 12) (hpe : e ≤ pl ∧ 0 ≤ e ∧ pl ≤ 1000) (hb : σ 65 0 t = 1) (hz : σ 67 0 t = (z : Int)) (hz2 : z ≤ 200) (hw : σ 64 0 t = b) (hb2 : b = 1 ∨ (b = 0 ∧ ∀ j : Nat, (j : Int) < ((z : Int) + 7) / 8 → ∃ q : Nat, q ≤ 3 ∧ q ≠ 0 ∧ σ 72 0 (25 * t + j) = q)) (he : ∀ p, p < 200 → i64 (σ 73 0 (200 * t + p))) (hp : σ 66 0 t = pr) (hpr : i64 pr) : (sumM σ t z = pr → Ct (d + 2) mX10_goOne 1 [vR 10 0] NALL σ (some (vI 0)) NALL (up3 (up3 (adS σ pr) 71 0 t 2) 10 0 55 v) 0 0) ∧ (sumM σ t z ≠ pr → Ct (d + 2) mX10_goOne 1 [vR 10 0] NALL σ (some (vI 5)) NALL (adS σ (sumM σ t z)) 0 0) := by
  have hro := m_rowsOf (d := d) ht hz (by omega)
  have pre : ∀ C : Cx, Ok C RX10 cX10_goOne 4 (d + 2) → (∀ ls, lsub [(0, vR 10 0), (1, vI v), (2, vI t)] ls → X C 1 196 ls [] NALL σ 0 0) → X C 1 0 [(0, vR 10 0)] [] NALL σ 0 0 := fun C h hx => by
    refine go_tab h hF hu hv ht hpe hb ?_
    rcases hb2 with b1 | ⟨b0, hn0⟩
    · have goal : X C 1 149 [(0, vR 10 0), (1, vI v), (2, vI t), (3, vI ((0 : Nat) : Int))] [] NALL σ 0 0 := by
        by_cases hz0 : z = 0
        · refine x_iload_n h dX10_goOne_149 rfl ?_
          refine x_aload_n h dX10_goOne_150 rfl ?_
          refine x_iload_n h dX10_goOne_151 rfl ?_
          refine x_cV1 h kVX10_rowsOf lkX10_312 ⟨_, _, _, rfl, rfl⟩ dX10_goOne_152 (hro) lvz_10 rfl rfl (Nat.le_of_ble_eq_true rfl) (by omega) ?_
          refine x_ic_ge_T (tgt := 196) h (by omega) dX10_goOne_155 (by decide) (by omega) ?_
          exact hx _ ⟨rfl, rfl, rfl, trivial⟩
        · refine x_iload_n h dX10_goOne_149 rfl ?_
          refine x_aload_n h dX10_goOne_150 rfl ?_
          refine x_iload_n h dX10_goOne_151 rfl ?_
          refine x_cV1 h kVX10_rowsOf lkX10_312 ⟨_, _, _, rfl, rfl⟩ dX10_goOne_152 (hro) lvz_10 rfl rfl (Nat.le_of_ble_eq_true rfl) (by omega) ?_
          refine x_ic_ge_F (tgt := 196) h (by omega) dX10_goOne_155 (by decide) (by omega) ?_
          refine x_aload_n h dX10_goOne_158 rfl ?_
          refine x_get h fl_10_79 lvz_10 dX10_goOne_159 (pvf_564 _ _) ?_
          refine x_iload_n h dX10_goOne_162 rfl ?_
          refine x_zald h kdf_64 lvz_64 dX10_goOne_163 rfl (by omega) ?_
          rw [hw, b1]
          refine x_if_ne_T (tgt := 196) h (by omega) dX10_goOne_164 (by decide) (by omega) ?_
          exact hx _ ⟨rfl, rfl, rfl, trivial⟩
      refine x_if_eq_F (tgt := 279) h (by omega) dX10_goOne_144 (by decide) (by omega) ?_
      refine x_iconst h dX10_goOne_147 ?_
      refine x_istore_n h dX10_goOne_148 (by decide) ?_
      exact x_loc (ls' := [(0, vR 10 0), (1, vI v), (2, vI t), (3, vI ((0 : Nat) : Int))]) ⟨rfl, rfl, rfl, rfl, trivial⟩ goal
    · obtain ⟨m, hm⟩ : ∃ m : Nat, (m : Int) = ((z : Int) + 7) / 8 := ⟨(((z : Int) + 7) / 8).toNat, by omega⟩
      have goal : X C 1 149 [(0, vR 10 0), (1, vI v), (2, vI t), (3, vI m)] [] NALL σ 0 0 := by
        refine x_iload_n h dX10_goOne_149 rfl ?_
        refine x_aload_n h dX10_goOne_150 rfl ?_
        refine x_iload_n h dX10_goOne_151 rfl ?_
        refine x_cV1 h kVX10_rowsOf lkX10_312 ⟨_, _, _, rfl, rfl⟩ dX10_goOne_152 (hro) lvz_10 rfl rfl (Nat.le_of_ble_eq_true rfl) (by omega) ?_
        refine x_ic_ge_T (tgt := 196) h (by omega) dX10_goOne_155 (by decide) (by omega) ?_
        exact hx _ ⟨rfl, rfl, rfl, trivial⟩
      have goal := go_scan h ht hz (by omega) (by rw [hw]; exact b0) m (by omega) (fun j hj => hn0 j (by omega)) goal m 0 (by omega)
      refine x_if_eq_F (tgt := 279) h (by omega) dX10_goOne_144 (by decide) (by omega) ?_
      refine x_iconst h dX10_goOne_147 ?_
      refine x_istore_n h dX10_goOne_148 (by decide) ?_
      exact x_loc (ls' := [(0, vR 10 0), (1, vI v), (2, vI t), (3, vI ((0 : Nat) : Int))]) ⟨rfl, rfl, rfl, rfl, trivial⟩ goal
  refine ⟨fun hs => ?_, fun hs => ?_⟩
  · refine ct_of (by decide) (Nat.le_of_ble_eq_true rfl) (fun C h hr _ => ?_)
    have h : Ok C RX10 cX10_goOne 4 _ := h
    exact pre C h (fun ls hls => go_sum h hu hv ht hz hz2 he hp hpr (fun _ => hr) (fun q => absurd hs q) hls)
  · refine ct_of (by decide) (Nat.le_of_ble_eq_true rfl) (fun C h hr _ => ?_)
    have h : Ok C RX10 cX10_goOne 4 _ := h
    exact pre C h (fun ls hls => go_sum h hu hv ht hz hz2 he hp hpr (fun q => absurd q hs) (fun _ => hr) hls)
end GO
