/-! get of the reference against E -/
section IA
variable {n d k p : Nat} {S : Sd} {σ : Mm} {x z s : Int}
theorem m_ia0 {o : Int} (hk : k < 12) (h71 : σ 71 0 k = s) (hs : 0 ≤ s ∧ s ≤ 3 ∧ s ≠ 2) : Ct (d + 1) mX10_isAnswered 1 [vR 10 0, vI k, vL x, vI o] NALL σ (some (vI 0)) NALL σ 0 0 := by
  refine ct_of (by decide) (Nat.le_of_ble_eq_true rfl) (fun C h hr _ => ?_)
  have h : Ok C RX10 cX10_isAnswered 6 _ := h
  refine x_aload_n h dX10_isAnswered_0 rfl ?_
  refine x_get h fl_10_100 lvz_10 dX10_isAnswered_1 (pvf_571 _ _) ?_
  refine x_iload_n h dX10_isAnswered_4 rfl ?_
  refine x_iald h kdf_71 lvz_71 dX10_isAnswered_5 rfl (by omega) ?_
  rw [h71]
  refine x_iconst h dX10_isAnswered_6 ?_
  refine x_ic_ne_T (tgt := 63) h (by omega) dX10_isAnswered_7 (by decide) (by omega) ?_
  refine x_iconst h dX10_isAnswered_63 ?_
  refine x_istore h dX10_isAnswered_64 (by decide) ?_
  refine x_iload h dX10_isAnswered_66 rfl ?_
  refine x_if_eq_T (tgt := 93) h (by omega) dX10_isAnswered_68 (by decide) (by omega) ?_
  refine x_iload h dX10_isAnswered_93 rfl ?_
  exact x_ireturn h hr dX10_isAnswered_95 (Or.inr ⟨rfl, by omega⟩) ⟨Nat.le_refl _, Nat.le_refl _⟩
theorem m_iaO (hk : k < 12) (h71 : σ 71 0 k = 2) : Ct (d + 1) mX10_isAnswered 1 [vR 10 0, vI k, vL x, vI 1] NALL σ (some (vI 1)) NALL σ 0 0 := by
  refine ct_of (by decide) (Nat.le_of_ble_eq_true rfl) (fun C h hr _ => ?_)
  have h : Ok C RX10 cX10_isAnswered 6 _ := h
  refine x_aload_n h dX10_isAnswered_0 rfl ?_
  refine x_get h fl_10_100 lvz_10 dX10_isAnswered_1 (pvf_571 _ _) ?_
  refine x_iload_n h dX10_isAnswered_4 rfl ?_
  refine x_iald h kdf_71 lvz_71 dX10_isAnswered_5 rfl (by omega) ?_
  rw [h71]
  refine x_iconst h dX10_isAnswered_6 ?_
  refine x_ic_ne_F (tgt := 63) h (by omega) dX10_isAnswered_7 (by decide) (by omega) ?_
  refine x_iload h dX10_isAnswered_10 rfl ?_
  refine x_if_ne_T (tgt := 59) h (by omega) dX10_isAnswered_12 (by decide) (by omega) ?_
  refine x_iconst h dX10_isAnswered_59 ?_
  refine x_goto (tgt := 64) h dX10_isAnswered_60 (by decide) ?_
  refine x_istore h dX10_isAnswered_64 (by decide) ?_
  refine x_iload h dX10_isAnswered_66 rfl ?_
  refine x_if_eq_F (tgt := 93) h (by omega) dX10_isAnswered_68 (by decide) (by omega) ?_
  refine x_iload h dX10_isAnswered_71 rfl ?_
  refine x_if_ne_T (tgt := 93) h (by omega) dX10_isAnswered_73 (by decide) (by omega) ?_
  refine x_iload h dX10_isAnswered_93 rfl ?_
  exact x_ireturn h hr dX10_isAnswered_95 (Or.inr ⟨rfl, by omega⟩) ⟨Nat.le_refl _, Nat.le_refl _⟩
theorem m_iaOut (hk : k < 12) (h71 : σ 71 0 k = 2) (hz : σ 67 0 k = z) (hz2 : 0 ≤ z ∧ z ≤ 200) (hx : i64 x) (hb : x < 0 ∨ z ≤ x) : Ct (d + 1) mX10_isAnswered 1 [vR 10 0, vI k, vL x, vI 0] NALL σ (some (vI 0)) NALL σ 0 0 := by
  have hin := m_in (d := d) (σ := σ) (v := x) (a := 0) (b := z - 1) hx i64z ⟨by omega, by omega⟩
  rw [if_neg (by omega)] at hin
  refine ct_of (by decide) (Nat.le_of_ble_eq_true rfl) (fun C h hr _ => ?_)
  have h : Ok C RX10 cX10_isAnswered 6 _ := h
  refine x_aload_n h dX10_isAnswered_0 rfl ?_
  refine x_get h fl_10_100 lvz_10 dX10_isAnswered_1 (pvf_571 _ _) ?_
  refine x_iload_n h dX10_isAnswered_4 rfl ?_
  refine x_iald h kdf_71 lvz_71 dX10_isAnswered_5 rfl (by omega) ?_
  rw [h71]
  refine x_iconst h dX10_isAnswered_6 ?_
  refine x_ic_ne_F (tgt := 63) h (by omega) dX10_isAnswered_7 (by decide) (by omega) ?_
  refine x_iload h dX10_isAnswered_10 rfl ?_
  refine x_if_ne_F (tgt := 59) h (by omega) dX10_isAnswered_12 (by decide) (by omega) ?_
  refine x_lload_n h dX10_isAnswered_15 rfl ?_
  refine x_lconst0 h dX10_isAnswered_16 ?_
  refine x_aload_n h dX10_isAnswered_17 rfl ?_
  refine x_get h fl_10_88 lvz_10 dX10_isAnswered_18 (pvf_567 _ _) ?_
  refine x_iload_n h dX10_isAnswered_21 rfl ?_
  refine x_lald h kdf_67 lvz_67 dX10_isAnswered_22 rfl (by omega) ?_
  rw [hz]
  refine x_lconst1 h dX10_isAnswered_23 ?_
  refine x_lsub h dX10_isAnswered_24 ?_
  refine x_cS1 h kSX10_in lkX10_305 dX10_isAnswered_25 (hin) rfl rfl (Nat.le_of_ble_eq_true rfl) (by omega) ?_
  refine x_if_eq_T (tgt := 63) h (by omega) dX10_isAnswered_28 (by decide) (by omega) ?_
  refine x_iconst h dX10_isAnswered_63 ?_
  refine x_istore h dX10_isAnswered_64 (by decide) ?_
  refine x_iload h dX10_isAnswered_66 rfl ?_
  refine x_if_eq_T (tgt := 93) h (by omega) dX10_isAnswered_68 (by decide) (by omega) ?_
  refine x_iload h dX10_isAnswered_93 rfl ?_
  exact x_ireturn h hr dX10_isAnswered_95 (Or.inr ⟨rfl, by omega⟩) ⟨Nat.le_refl _, Nat.le_refl _⟩
theorem ia_in {C : Cx} {w : Int} (h : Ok C RX10 cX10_isAnswered 6 (d + 1)) (hk : k < 12) (h71 : σ 71 0 k = 2) (hz : σ 67 0 k = z) (hz2 : 0 ≤ z ∧ z ≤ 200) (hp : (p : Int) < z) (hw : σ 64 0 k = w) (hx : X C 1 37 [(0, vR 10 0), (1, vI k), (2, vL (p : Int)), (4, vI 0)] [vI w] NALL σ 0 0) : X C 1 0 [(0, vR 10 0), (1, vI k), (2, vL (p : Int)), (4, vI 0)] [] NALL σ 0 0 := by
  have hin := m_in (d := d) (σ := σ) (v := (p : Int)) (a := 0) (b := z - 1) ⟨by omega, by omega⟩ i64z ⟨by omega, by omega⟩
  rw [if_pos (by omega)] at hin
  refine x_aload_n h dX10_isAnswered_0 rfl ?_
  refine x_get h fl_10_100 lvz_10 dX10_isAnswered_1 (pvf_571 _ _) ?_
  refine x_iload_n h dX10_isAnswered_4 rfl ?_
  refine x_iald h kdf_71 lvz_71 dX10_isAnswered_5 rfl (by omega) ?_
  rw [h71]
  refine x_iconst h dX10_isAnswered_6 ?_
  refine x_ic_ne_F (tgt := 63) h (by omega) dX10_isAnswered_7 (by decide) (by omega) ?_
  refine x_iload h dX10_isAnswered_10 rfl ?_
  refine x_if_ne_F (tgt := 59) h (by omega) dX10_isAnswered_12 (by decide) (by omega) ?_
  refine x_lload_n h dX10_isAnswered_15 rfl ?_
  refine x_lconst0 h dX10_isAnswered_16 ?_
  refine x_aload_n h dX10_isAnswered_17 rfl ?_
  refine x_get h fl_10_88 lvz_10 dX10_isAnswered_18 (pvf_567 _ _) ?_
  refine x_iload_n h dX10_isAnswered_21 rfl ?_
  refine x_lald h kdf_67 lvz_67 dX10_isAnswered_22 rfl (by omega) ?_
  rw [hz]
  refine x_lconst1 h dX10_isAnswered_23 ?_
  refine x_lsub h dX10_isAnswered_24 ?_
  refine x_cS1 h kSX10_in lkX10_305 dX10_isAnswered_25 (hin) rfl rfl (Nat.le_of_ble_eq_true rfl) (by omega) ?_
  refine x_if_eq_F (tgt := 63) h (by omega) dX10_isAnswered_28 (by decide) (by omega) ?_
  refine x_aload_n h dX10_isAnswered_31 rfl ?_
  refine x_get h fl_10_79 lvz_10 dX10_isAnswered_32 (pvf_564 _ _) ?_
  refine x_iload_n h dX10_isAnswered_35 rfl ?_
  refine x_zald h kdf_64 lvz_64 dX10_isAnswered_36 rfl (by omega) ?_
  rw [hw]
  exact hx
theorem ia_yes {C : Cx} {ans : Int} (h : Ok C RX10 cX10_isAnswered 6 (d + 1)) (hk : k < 12) (hp : p < 200) (hans : σ 73 0 (200 * k + p) = ans) (hr : Rt C 1 (some .boolean) (some (vI 1)) NALL (up3 σ 10 0 63 ans) 0 0) : X C 1 59 [(0, vR 10 0), (1, vI k), (2, vL (p : Int)), (4, vI 0)] [] NALL σ 0 0 := by
  refine x_iconst h dX10_isAnswered_59 ?_
  refine x_goto (tgt := 64) h dX10_isAnswered_60 (by decide) ?_
  refine x_istore h dX10_isAnswered_64 (by decide) ?_
  refine x_iload h dX10_isAnswered_66 rfl ?_
  refine x_if_eq_F (tgt := 93) h (by omega) dX10_isAnswered_68 (by decide) (by omega) ?_
  refine x_iload h dX10_isAnswered_71 rfl ?_
  refine x_if_ne_F (tgt := 93) h (by omega) dX10_isAnswered_73 (by decide) (by omega) ?_
  refine x_aload_n h dX10_isAnswered_76 rfl ?_
  refine x_aload_n h dX10_isAnswered_77 rfl ?_
  refine x_get h fl_10_106 lvz_10 dX10_isAnswered_78 (pvf_573 _ _) ?_
  refine x_sipush h dX10_isAnswered_81 (by decide) ?_
  refine x_iload_n h dX10_isAnswered_84 rfl ?_
  refine x_imul h dX10_isAnswered_85 ?_
  refine x_lload_n h dX10_isAnswered_86 rfl ?_
  refine x_l2i h dX10_isAnswered_87 ?_
  refine x_iadd h dX10_isAnswered_88 ?_
  refine x_lald (m := 200 * k + p) h kdf_73 lvz_73 dX10_isAnswered_89 (by omega) (by omega) ?_
  rw [hans]
  refine x_put h fl_10_328 lvz_10 dX10_isAnswered_90 rfl (fun z => absurd z (by decide)) ?_
  refine x_iload h dX10_isAnswered_93 rfl ?_
  exact x_ireturn h hr dX10_isAnswered_95 (Or.inr ⟨rfl, by omega⟩) ⟨Nat.le_refl _, Nat.le_refl _⟩
theorem m_iaW {ans : Int} (hk : k < 12) (h71 : σ 71 0 k = 2) (hz : σ 67 0 k = z) (hz2 : 0 ≤ z ∧ z ≤ 200) (hp : (p : Int) < z) (hw : σ 64 0 k = 1) (hans : σ 73 0 (200 * k + p) = ans) : Ct (d + 1) mX10_isAnswered 1 [vR 10 0, vI k, vL (p : Int), vI 0] NALL σ (some (vI 1)) NALL (up3 σ 10 0 63 ans) 0 0 := by
  refine ct_of (by decide) (Nat.le_of_ble_eq_true rfl) (fun C h hr _ => ?_)
  have h : Ok C RX10 cX10_isAnswered 6 _ := h
  refine ia_in h hk h71 hz hz2 hp hw ?_
  refine x_if_ne_T (tgt := 59) h (by omega) dX10_isAnswered_37 (by decide) (by omega) ?_
  exact ia_yes h hk (by omega) hans hr
theorem m_iaR2 {ans : Int} (hk : k < 12) (h71 : σ 71 0 k = 2) (hz : σ 67 0 k = z) (hz2 : 0 ≤ z ∧ z ≤ 200) (hp : (p : Int) < z) (hw : σ 64 0 k = 0) (hq : σ 72 0 (25 * k + p / 8) = 2) (hans : σ 73 0 (200 * k + p) = ans) : Ct (d + 1) mX10_isAnswered 1 [vR 10 0, vI k, vL (p : Int), vI 0] NALL σ (some (vI 1)) NALL (up3 σ 10 0 63 ans) 0 0 := by
  refine ct_of (by decide) (Nat.le_of_ble_eq_true rfl) (fun C h hr _ => ?_)
  have h : Ok C RX10 cX10_isAnswered 6 _ := h
  refine ia_in h hk h71 hz hz2 hp hw ?_
  refine x_if_ne_F (tgt := 59) h (by omega) dX10_isAnswered_37 (by decide) (by omega) ?_
  refine x_aload_n h dX10_isAnswered_40 rfl ?_
  refine x_get h fl_10_103 lvz_10 dX10_isAnswered_41 (pvf_572 _ _) ?_
  refine x_bipush h dX10_isAnswered_44 (by decide) ?_
  refine x_iload_n h dX10_isAnswered_46 rfl ?_
  refine x_imul h dX10_isAnswered_47 ?_
  refine x_lload_n h dX10_isAnswered_48 rfl ?_
  refine x_l2i h dX10_isAnswered_49 ?_
  refine x_bipush h dX10_isAnswered_50 (by decide) ?_
  refine x_idivP h (by omega) dX10_isAnswered_52 ?_
  refine x_iadd h dX10_isAnswered_53 ?_
  refine x_iald (m := 25 * k + p / 8) h kdf_72 lvz_72 dX10_isAnswered_54 (by omega) (by omega) ?_
  rw [hq]
  refine x_iconst h dX10_isAnswered_55 ?_
  refine x_ic_ne_F (tgt := 63) h (by omega) dX10_isAnswered_56 (by decide) (by omega) ?_
  exact ia_yes h hk (by omega) hans hr
theorem m_iaR {q : Int} (hk : k < 12) (h71 : σ 71 0 k = 2) (hz : σ 67 0 k = z) (hz2 : 0 ≤ z ∧ z ≤ 200) (hp : (p : Int) < z) (hw : σ 64 0 k = 0) (hq : σ 72 0 (25 * k + p / 8) = q) (hq2 : 0 ≤ q ∧ q ≤ 3 ∧ q ≠ 2) : Ct (d + 1) mX10_isAnswered 1 [vR 10 0, vI k, vL (p : Int), vI 0] NALL σ (some (vI 0)) NALL σ 0 0 := by
  refine ct_of (by decide) (Nat.le_of_ble_eq_true rfl) (fun C h hr _ => ?_)
  have h : Ok C RX10 cX10_isAnswered 6 _ := h
  refine ia_in h hk h71 hz hz2 hp hw ?_
  refine x_if_ne_F (tgt := 59) h (by omega) dX10_isAnswered_37 (by decide) (by omega) ?_
  refine x_aload_n h dX10_isAnswered_40 rfl ?_
  refine x_get h fl_10_103 lvz_10 dX10_isAnswered_41 (pvf_572 _ _) ?_
  refine x_bipush h dX10_isAnswered_44 (by decide) ?_
  refine x_iload_n h dX10_isAnswered_46 rfl ?_
  refine x_imul h dX10_isAnswered_47 ?_
  refine x_lload_n h dX10_isAnswered_48 rfl ?_
  refine x_l2i h dX10_isAnswered_49 ?_
  refine x_bipush h dX10_isAnswered_50 (by decide) ?_
  refine x_idivP h (by omega) dX10_isAnswered_52 ?_
  refine x_iadd h dX10_isAnswered_53 ?_
  refine x_iald (m := 25 * k + p / 8) h kdf_72 lvz_72 dX10_isAnswered_54 (by omega) (by omega) ?_
  rw [hq]
  refine x_iconst h dX10_isAnswered_55 ?_
  refine x_ic_ne_T (tgt := 63) h (by omega) dX10_isAnswered_56 (by decide) (by omega) ?_
  refine x_iconst h dX10_isAnswered_63 ?_
  refine x_istore h dX10_isAnswered_64 (by decide) ?_
  refine x_iload h dX10_isAnswered_66 rfl ?_
  refine x_if_eq_T (tgt := 93) h (by omega) dX10_isAnswered_68 (by decide) (by omega) ?_
  refine x_iload h dX10_isAnswered_93 rfl ?_
  exact x_ireturn h hr dX10_isAnswered_95 (Or.inr ⟨rfl, by omega⟩) ⟨Nat.le_refl _, Nat.le_refl _⟩
end IA
/-- what get leaves -/
def TopO (n : Nat) (S : Sd) (o : Int) (res : ER) (σ σ' : Mm) (b : Int) : Prop := FrH σ' σ ∧ match res with
  | .inl (w, m, D') => b = 0 ∧ HR n S D' σ' ∧ σ' 10 0 53 = ((if m = 0 then 1 else m : Nat) : Int) ∧ σ' 10 0 54 = w
  | .inr (x, D') => b = 1 ∧ HR n S D' σ' ∧ (o = 0 → σ' 10 0 63 = x) ∧ σ' 10 0 53 = σ 10 0 53
theorem TopO_pre {n : Nat} {S : Sd} {o : Int} {res : ER} {σ σ1 σ' : Mm} {b : Int} (h : TopO n S o res σ1 σ' b) (hf : FrH σ1 σ) (h53 : σ1 10 0 53 = σ 10 0 53) : TopO n S o res σ σ' b := by
  obtain ⟨h1, h2⟩ := h
  refine ⟨FrH_tr h1 hf, ?_⟩
  cases res with
  | inl q => exact h2
  | inr q => exact ⟨h2.1, h2.2.1, h2.2.2.1, h2.2.2.2.trans h53⟩
abbrev gL (k : Nat) (x o : Int) : List (Nat × PV) := [(0, vR 10 0), (1, vI k), (2, vL x), (4, vI o)]
/-- the loop of get comes from pc to res -/
def TopX (n : Nat) (S : Sd) (pc k : Nat) (x o : Int) (σ : Mm) (res : ER) : Prop := ∃ σ' b, TopO n S o res σ σ' b ∧ ∀ C : Cx, Ok C RX10 cX10_get 6 5 → Rt C 1 (some .boolean) (some (vI b)) NALL σ' 0 0 → ∀ ls, lsub (gL k x o) ls → X C 1 pc ls [] NALL σ 0 0
section TG
variable {n k : Nat} {S : Sd} {D σ : Mm} {x o : Int}
theorem TopX_pre {pc pc' : Nat} {res : ER} {σ1 : Mm} (h : TopX n S pc' k x o σ1 res) (hf : FrH σ1 σ) (h53 : σ1 10 0 53 = σ 10 0 53) (hx : ∀ C : Cx, Ok C RX10 cX10_get 6 5 → (∀ ls, lsub (gL k x o) ls → X C 1 pc' ls [] NALL σ1 0 0) → ∀ ls, lsub (gL k x o) ls → X C 1 pc ls [] NALL σ 0 0) : TopX n S pc k x o σ res := by
  obtain ⟨σ', b, h1, h2⟩ := h
  exact ⟨σ', b, TopO_pre h1 hf h53, fun C h hr => hx C h (h2 C h hr)⟩
/-- a step of the machine -/
theorem get_one {C : Cx} {u u' : Nat} {is : Int} {σ1 : Mm} (h : Ok C RX10 cX10_get 6 5) (h1 : is = 0 ∨ is = -1) (h2 : σ 10 0 55 = ((u + 1 : Nat) : Int)) (hu : u < 100) (h3 : σ1 10 0 55 = ((u' + 1 : Nat) : Int)) (hu' : u' < 100) (h4 : Ct 4 mX10_goOne 1 [vR 10 0] NALL σ (some (vI is)) NALL σ1 0 0) (hx : ∀ ls, lsub (gL k x o) ls → X C 1 10 ls [] NALL σ1 0 0) : ∀ ls, lsub (gL k x o) ls → X C 1 10 ls [] NALL σ 0 0 := by
  intro ls hls
  refine x_loc hls ?_
  rcases h1 with rfl | rfl
  · refine x_aload_n h dX10_get_10 rfl ?_
    refine x_get (q := vI ((u + 1 : Nat))) h fl_10_315 lvz_10 dX10_get_11 (congrArg vI (by first | exact h2 | simp [up3, h2])) ?_
    refine x_if_le_F (tgt := 24) h (by omega) dX10_get_14 (by decide) (by omega) ?_
    refine x_aload_n h dX10_get_17 rfl ?_
    refine x_cV1 h kVX10_goOne lkX10_364 ⟨_, _, _, rfl, rfl⟩ dX10_get_18 (h4) lvz_10 rfl rfl (Nat.le_of_ble_eq_true rfl) (by omega) ?_
    refine x_goto (tgt := 34) h dX10_get_21 (by decide) ?_
    refine x_istore h dX10_get_34 (by decide) ?_
    refine x_iload h dX10_get_36 rfl ?_
    refine x_if_le_T (tgt := 49) h (by omega) dX10_get_38 (by decide) (by omega) ?_
    refine x_iload h dX10_get_49 rfl ?_
    refine x_if_ne_F (tgt := 74) h (by omega) dX10_get_51 (by decide) (by omega) ?_
    refine x_aload_n h dX10_get_54 rfl ?_
    refine x_get (q := vI ((u' + 1 : Nat))) h fl_10_315 lvz_10 dX10_get_55 (congrArg vI (by first | exact h3 | simp [up3, h3])) ?_
    refine x_if_ne_T (tgt := 74) h (by omega) dX10_get_58 (by decide) (by omega) ?_
    refine x_goto (tgt := 10) h dX10_get_74 (by decide) ?_
    exact hx _ ⟨rfl, rfl, rfl, rfl, trivial⟩
  · refine x_aload_n h dX10_get_10 rfl ?_
    refine x_get (q := vI ((u + 1 : Nat))) h fl_10_315 lvz_10 dX10_get_11 (congrArg vI (by first | exact h2 | simp [up3, h2])) ?_
    refine x_if_le_F (tgt := 24) h (by omega) dX10_get_14 (by decide) (by omega) ?_
    refine x_aload_n h dX10_get_17 rfl ?_
    refine x_cV1 h kVX10_goOne lkX10_364 ⟨_, _, _, rfl, rfl⟩ dX10_get_18 (h4) lvz_10 rfl rfl (Nat.le_of_ble_eq_true rfl) (by omega) ?_
    refine x_goto (tgt := 34) h dX10_get_21 (by decide) ?_
    refine x_istore h dX10_get_34 (by decide) ?_
    refine x_iload h dX10_get_36 rfl ?_
    refine x_if_le_T (tgt := 49) h (by omega) dX10_get_38 (by decide) (by omega) ?_
    refine x_iload h dX10_get_49 rfl ?_
    refine x_if_ne_T (tgt := 74) h (by omega) dX10_get_51 (by decide) (by omega) ?_
    refine x_goto (tgt := 10) h dX10_get_74 (by decide) ?_
    exact hx _ ⟨rfl, rfl, rfl, rfl, trivial⟩
/-- the last frame is done -/
theorem get_done {C : Cx} {u : Nat} {σ1 : Mm} (h : Ok C RX10 cX10_get 6 5) (h2 : σ 10 0 55 = ((u + 1 : Nat) : Int)) (hu : u < 100) (h4 : Ct 4 mX10_goOne 1 [vR 10 0] NALL σ (some (vI 0)) NALL σ1 0 0) (hx : ∀ ls, lsub (gL k x o) ls → X C 1 54 ls [] NALL σ1 0 0) : ∀ ls, lsub (gL k x o) ls → X C 1 10 ls [] NALL σ 0 0 := by
  intro ls hls
  refine x_loc hls ?_
  refine x_aload_n h dX10_get_10 rfl ?_
  refine x_get (q := vI ((u + 1 : Nat))) h fl_10_315 lvz_10 dX10_get_11 (congrArg vI (by first | exact h2 | simp [up3, h2])) ?_
  refine x_if_le_F (tgt := 24) h (by omega) dX10_get_14 (by decide) (by omega) ?_
  refine x_aload_n h dX10_get_17 rfl ?_
  refine x_cV1 h kVX10_goOne lkX10_364 ⟨_, _, _, rfl, rfl⟩ dX10_get_18 (h4) lvz_10 rfl rfl (Nat.le_of_ble_eq_true rfl) (by omega) ?_
  refine x_goto (tgt := 34) h dX10_get_21 (by decide) ?_
  refine x_istore h dX10_get_34 (by decide) ?_
  refine x_iload h dX10_get_36 rfl ?_
  refine x_if_le_T (tgt := 49) h (by omega) dX10_get_38 (by decide) (by omega) ?_
  refine x_iload h dX10_get_49 rfl ?_
  refine x_if_ne_F (tgt := 74) h (by omega) dX10_get_51 (by decide) (by omega) ?_
  exact hx _ ⟨rfl, rfl, rfl, rfl, trivial⟩
/-- under a frame fails -/
theorem get_fail {C : Cx} {u : Nat} {w : Int} {σ1 σ2 : Mm} (h : Ok C RX10 cX10_get 6 5) (h2 : σ 10 0 55 = ((u + 1 : Nat) : Int)) (hu : u < 100) (hw : 1 ≤ w ∧ w ≤ 8) (h4 : Ct 4 mX10_goOne 1 [vR 10 0] NALL σ (some (vI w)) NALL σ1 0 0) (hf : Ct 4 mX10_failAll 1 [vR 10 0, vI w] NALL σ1 none NALL σ2 0 0) (hr : Rt C 1 (some .boolean) (some (vI 0)) NALL σ2 0 0) : ∀ ls, lsub (gL k x o) ls → X C 1 10 ls [] NALL σ 0 0 := by
  intro ls hls
  refine x_loc hls ?_
  refine x_aload_n h dX10_get_10 rfl ?_
  refine x_get (q := vI ((u + 1 : Nat))) h fl_10_315 lvz_10 dX10_get_11 (congrArg vI (by first | exact h2 | simp [up3, h2])) ?_
  refine x_if_le_F (tgt := 24) h (by omega) dX10_get_14 (by decide) (by omega) ?_
  refine x_aload_n h dX10_get_17 rfl ?_
  refine x_cV1 h kVX10_goOne lkX10_364 ⟨_, _, _, rfl, rfl⟩ dX10_get_18 (h4) lvz_10 rfl rfl (Nat.le_of_ble_eq_true rfl) (by omega) ?_
  refine x_goto (tgt := 34) h dX10_get_21 (by decide) ?_
  refine x_istore h dX10_get_34 (by decide) ?_
  refine x_iload h dX10_get_36 rfl ?_
  refine x_if_le_F (tgt := 49) h (by omega) dX10_get_38 (by decide) (by omega) ?_
  refine x_aload_n h dX10_get_41 rfl ?_
  refine x_iload h dX10_get_42 rfl ?_
  refine x_cV0 h kVX10_failAll lkX10_367 ⟨_, _, _, rfl, rfl⟩ dX10_get_44 (hf) lvz_10 rfl rfl (Nat.le_of_ble_eq_true rfl) (by omega) ?_
  refine x_iconst h dX10_get_47 ?_
  exact x_ireturn h hr dX10_get_48 (Or.inr ⟨rfl, by omega⟩) ⟨Nat.le_refl _, Nat.le_refl _⟩
/-- it asks, and begins -/
theorem get_beg {C : Cx} {σ1 : Mm} (h : Ok C RX10 cX10_get 6 5) (h2 : σ 10 0 55 = 0) (h4 : Ct 4 mX10_ask 1 [vR 10 0, vI k, vL x, vI (-9), vI o] NALL σ (some (vI (-1))) NALL σ1 0 0) (hx : ∀ ls, lsub (gL k x o) ls → X C 1 10 ls [] NALL σ1 0 0) : ∀ ls, lsub (gL k x o) ls → X C 1 10 ls [] NALL σ 0 0 := by
  intro ls hls
  refine x_loc hls ?_
  refine x_aload_n h dX10_get_10 rfl ?_
  refine x_get (q := vI (0)) h fl_10_315 lvz_10 dX10_get_11 (congrArg vI (by first | exact h2 | simp [up3, h2])) ?_
  refine x_if_le_T (tgt := 24) h (by omega) dX10_get_14 (by decide) (by omega) ?_
  refine x_aload_n h dX10_get_24 rfl ?_
  refine x_iload_n h dX10_get_25 rfl ?_
  refine x_lload_n h dX10_get_26 rfl ?_
  refine x_bipush h dX10_get_27 (by decide) ?_
  refine x_iload h dX10_get_29 rfl ?_
  refine x_cV1 h kVX10_ask lkX10_345 ⟨_, _, _, rfl, rfl⟩ dX10_get_31 (h4) lvz_10 rfl rfl (Nat.le_of_ble_eq_true rfl) (by omega) ?_
  refine x_istore h dX10_get_34 (by decide) ?_
  refine x_iload h dX10_get_36 rfl ?_
  refine x_if_le_T (tgt := 49) h (by omega) dX10_get_38 (by decide) (by omega) ?_
  refine x_iload h dX10_get_49 rfl ?_
  refine x_if_ne_T (tgt := 74) h (by omega) dX10_get_51 (by decide) (by omega) ?_
  refine x_goto (tgt := 10) h dX10_get_74 (by decide) ?_
  exact hx _ ⟨rfl, rfl, rfl, rfl, trivial⟩
theorem get_ask0 {C : Cx} {σ1 : Mm} (h : Ok C RX10 cX10_get 6 5) (h2 : σ 10 0 55 = 0) (h4 : Ct 4 mX10_ask 1 [vR 10 0, vI k, vL x, vI (-9), vI o] NALL σ (some (vI 0)) NALL σ1 0 0) (hx : ∀ ls, lsub (gL k x o) ls → X C 1 54 ls [] NALL σ1 0 0) : ∀ ls, lsub (gL k x o) ls → X C 1 10 ls [] NALL σ 0 0 := by
  intro ls hls
  refine x_loc hls ?_
  refine x_aload_n h dX10_get_10 rfl ?_
  refine x_get (q := vI (0)) h fl_10_315 lvz_10 dX10_get_11 (congrArg vI (by first | exact h2 | simp [up3, h2])) ?_
  refine x_if_le_T (tgt := 24) h (by omega) dX10_get_14 (by decide) (by omega) ?_
  refine x_aload_n h dX10_get_24 rfl ?_
  refine x_iload_n h dX10_get_25 rfl ?_
  refine x_lload_n h dX10_get_26 rfl ?_
  refine x_bipush h dX10_get_27 (by decide) ?_
  refine x_iload h dX10_get_29 rfl ?_
  refine x_cV1 h kVX10_ask lkX10_345 ⟨_, _, _, rfl, rfl⟩ dX10_get_31 (h4) lvz_10 rfl rfl (Nat.le_of_ble_eq_true rfl) (by omega) ?_
  refine x_istore h dX10_get_34 (by decide) ?_
  refine x_iload h dX10_get_36 rfl ?_
  refine x_if_le_T (tgt := 49) h (by omega) dX10_get_38 (by decide) (by omega) ?_
  refine x_iload h dX10_get_49 rfl ?_
  refine x_if_ne_F (tgt := 74) h (by omega) dX10_get_51 (by decide) (by omega) ?_
  exact hx _ ⟨rfl, rfl, rfl, rfl, trivial⟩
theorem get_askF {C : Cx} {w : Int} {σ1 σ2 : Mm} (h : Ok C RX10 cX10_get 6 5) (h2 : σ 10 0 55 = 0) (hw : 1 ≤ w ∧ w ≤ 8) (h4 : Ct 4 mX10_ask 1 [vR 10 0, vI k, vL x, vI (-9), vI o] NALL σ (some (vI w)) NALL σ1 0 0) (hf : Ct 4 mX10_failAll 1 [vR 10 0, vI w] NALL σ1 none NALL σ2 0 0) (hr : Rt C 1 (some .boolean) (some (vI 0)) NALL σ2 0 0) : ∀ ls, lsub (gL k x o) ls → X C 1 10 ls [] NALL σ 0 0 := by
  intro ls hls
  refine x_loc hls ?_
  refine x_aload_n h dX10_get_10 rfl ?_
  refine x_get (q := vI (0)) h fl_10_315 lvz_10 dX10_get_11 (congrArg vI (by first | exact h2 | simp [up3, h2])) ?_
  refine x_if_le_T (tgt := 24) h (by omega) dX10_get_14 (by decide) (by omega) ?_
  refine x_aload_n h dX10_get_24 rfl ?_
  refine x_iload_n h dX10_get_25 rfl ?_
  refine x_lload_n h dX10_get_26 rfl ?_
  refine x_bipush h dX10_get_27 (by decide) ?_
  refine x_iload h dX10_get_29 rfl ?_
  refine x_cV1 h kVX10_ask lkX10_345 ⟨_, _, _, rfl, rfl⟩ dX10_get_31 (h4) lvz_10 rfl rfl (Nat.le_of_ble_eq_true rfl) (by omega) ?_
  refine x_istore h dX10_get_34 (by decide) ?_
  refine x_iload h dX10_get_36 rfl ?_
  refine x_if_le_F (tgt := 49) h (by omega) dX10_get_38 (by decide) (by omega) ?_
  refine x_aload_n h dX10_get_41 rfl ?_
  refine x_iload h dX10_get_42 rfl ?_
  refine x_cV0 h kVX10_failAll lkX10_367 ⟨_, _, _, rfl, rfl⟩ dX10_get_44 (hf) lvz_10 rfl rfl (Nat.le_of_ble_eq_true rfl) (by omega) ?_
  refine x_iconst h dX10_get_47 ?_
  exact x_ireturn h hr dX10_get_48 (Or.inr ⟨rfl, by omega⟩) ⟨Nat.le_refl _, Nat.le_refl _⟩
theorem get_ans {C : Cx} {σ1 : Mm} (h : Ok C RX10 cX10_get 6 5) (h2 : σ 10 0 55 = 0) (h4 : Ct 4 mX10_isAnswered 1 [vR 10 0, vI k, vL x, vI o] NALL σ (some (vI 1)) NALL σ1 0 0) (hr : Rt C 1 (some .boolean) (some (vI 1)) NALL σ1 0 0) : ∀ ls, lsub (gL k x o) ls → X C 1 54 ls [] NALL σ 0 0 := by
  intro ls hls
  refine x_loc hls ?_
  refine x_aload_n h dX10_get_54 rfl ?_
  refine x_get (q := vI (0)) h fl_10_315 lvz_10 dX10_get_55 (congrArg vI (by first | exact h2 | simp [up3, h2])) ?_
  refine x_if_ne_F (tgt := 74) h (by omega) dX10_get_58 (by decide) (by omega) ?_
  refine x_aload_n h dX10_get_61 rfl ?_
  refine x_iload_n h dX10_get_62 rfl ?_
  refine x_lload_n h dX10_get_63 rfl ?_
  refine x_iload h dX10_get_64 rfl ?_
  refine x_cV1 h kVX10_isAnswered lkX10_371 ⟨_, _, _, rfl, rfl⟩ dX10_get_66 (h4) lvz_10 rfl rfl (Nat.le_of_ble_eq_true rfl) (by omega) ?_
  refine x_if_eq_F (tgt := 74) h (by omega) dX10_get_69 (by decide) (by omega) ?_
  refine x_iconst h dX10_get_72 ?_
  exact x_ireturn h hr dX10_get_73 (Or.inr ⟨rfl, by omega⟩) ⟨Nat.le_refl _, Nat.le_refl _⟩
theorem get_not {C : Cx} (h : Ok C RX10 cX10_get 6 5) (h2 : σ 10 0 55 = 0) (h4 : Ct 4 mX10_isAnswered 1 [vR 10 0, vI k, vL x, vI o] NALL σ (some (vI 0)) NALL σ 0 0) (hx : ∀ ls, lsub (gL k x o) ls → X C 1 10 ls [] NALL σ 0 0) : ∀ ls, lsub (gL k x o) ls → X C 1 54 ls [] NALL σ 0 0 := by
  intro ls hls
  refine x_loc hls ?_
  refine x_aload_n h dX10_get_54 rfl ?_
  refine x_get (q := vI (0)) h fl_10_315 lvz_10 dX10_get_55 (congrArg vI (by first | exact h2 | simp [up3, h2])) ?_
  refine x_if_ne_F (tgt := 74) h (by omega) dX10_get_58 (by decide) (by omega) ?_
  refine x_aload_n h dX10_get_61 rfl ?_
  refine x_iload_n h dX10_get_62 rfl ?_
  refine x_lload_n h dX10_get_63 rfl ?_
  refine x_iload h dX10_get_64 rfl ?_
  refine x_cV1 h kVX10_isAnswered lkX10_371 ⟨_, _, _, rfl, rfl⟩ dX10_get_66 (h4) lvz_10 rfl rfl (Nat.le_of_ble_eq_true rfl) (by omega) ?_
  refine x_if_eq_T (tgt := 74) h (by omega) dX10_get_69 (by decide) (by omega) ?_
  refine x_goto (tgt := 10) h dX10_get_74 (by decide) ?_
  exact hx _ ⟨rfl, rfl, rfl, rfl, trivial⟩
theorem get_GL {C : Cx} (h : Ok C RX10 cX10_get 6 5) : ∀ (m : Nat) (σ σ' : Mm), GLn m σ σ' → (∀ ls, lsub (gL k x o) ls → X C 1 10 ls [] NALL σ' 0 0) → ∀ ls, lsub (gL k x o) ls → X C 1 10 ls [] NALL σ 0 0 := by
  intro m
  induction m with
  | zero => intro σ σ' hg hx; rw [show σ' = σ from hg] at hx; exact hx
  | succ m ih =>
    intro σ σ' hg hx
    obtain ⟨σ1, is, h1, ⟨u, h2, h2b⟩, ⟨u', h3, h3b⟩, h4, h5⟩ := hg
    exact get_one h h1 h2 h2b h3 h3b h4 (ih _ _ h5 hx)
end TG
