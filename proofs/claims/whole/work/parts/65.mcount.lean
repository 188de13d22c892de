/-! count of the reference; both sides together -/
def csR (rc : Nat → Int) : Nat → Int
  | 0 => 0
  | m + 1 => csR rc m + (if rc (m / 8) = 2 then 1 else 0)
theorem rdy_full {e e' : Int} {rc : Nat → Int} : ∀ r : Nat, 8 * (r : Int) ≤ e → 8 * (r : Int) ≤ e' → rdySum e rc r = rdySum e' rc r := by
  intro r
  induction r with
  | zero => intro _ _; rfl
  | succ r ih =>
    intro h h'
    unfold rdySum
    rw [ih (by omega) (by omega)]
    split
    · omega
    · rfl
theorem cs_rdy (rc : Nat → Int) : ∀ m : Nat, csR rc m = rdySum (m : Int) rc ((m + 7) / 8) := by
  intro m
  induction m with
  | zero => rfl
  | succ m ih =>
    have hm : m = 8 * (m / 8) + m % 8 := by omega
    generalize ha : m / 8 = a at hm
    unfold csR
    rw [ih, ha]
    by_cases h0 : m % 8 = 0
    · have e1 : (m + 7) / 8 = a := by omega
      have e2 : (m + 1 + 7) / 8 = a + 1 := by omega
      rw [e1, e2]
      show rdySum (m : Int) rc a + _ = rdySum ((m + 1 : Nat) : Int) rc a + _
      rw [rdy_full (e := (m : Int)) (e' := ((m + 1 : Nat) : Int)) a (by omega) (by omega)]
      split
      · omega
      · rfl
    · have e1 : (m + 7) / 8 = a + 1 := by omega
      have e2 : (m + 1 + 7) / 8 = a + 1 := by omega
      rw [e1, e2]
      show rdySum (m : Int) rc a + (if rc a = 2 then min (m : Int) (8 * (a : Int) + 8) - 8 * (a : Int) else 0) + _ = rdySum ((m + 1 : Nat) : Int) rc a + (if rc a = 2 then min ((m + 1 : Nat) : Int) (8 * (a : Int) + 8) - 8 * (a : Int) else 0)
      rw [rdy_full (e := (m : Int)) (e' := ((m + 1 : Nat) : Int)) a (by omega) (by omega)]
      split <;> omega
section MC
variable {n L q : Nat} {B : Nat → Int} {S : Sd} {D σ : Mm} {why : Int}
theorem m9_count {w : Int} (hS : SOk S n) (hD : DW S D) (hI : RI n L B S D q why σ) (hw : i32 w) : Ct 6 mX10_count 1 [vR 10 0, vI w] NALL σ (some (vI (vCount n L S D w))) NALL σ 0 0 := by
  have h12 := hS.1
  obtain ⟨⟨hL, -⟩, -, ⟨h32, hst⟩, hH, -⟩ := hI
  unfold i32 at hw
  have st2 : ∀ (x y : Int), (x = 1 ∧ y = 2 ∨ x = 2 ∧ y = 3) → ∀ C : Cx, Ok C RX10 cX10_count 5 6 → Rt C 1 (some .int) (some (vI (cntC (fun k => D 5 k 8) y n))) NALL σ 0 0 → ∀ (c k : Nat), k + c = n → ∀ ls, lsub [(0, vR 10 0), (1, vI x), (2, vI (cntC (fun k => D 5 k 8) y k)), (3, vI k)] ls → X C 1 43 ls [] NALL σ 0 0 := fun x y hxy C h hr c => by
    induction c with
    | zero =>
      intro k hk ls hls
      obtain rfl : k = n := by omega
      refine x_loc hls ?_
      refine x_iload_n h dX10_count_43 rfl ?_
      refine x_aload_n h dX10_count_44 rfl ?_
      refine x_get (q := vI (k)) h fl_10_289 lvz_10 dX10_count_45 (congrArg vI (by first | exact h32 | simp [up3, h32])) ?_
      refine x_ic_ge_T (tgt := 84) h (by omega) dX10_count_48 (by decide) (by omega) ?_
      refine x_iload_n h dX10_count_84 rfl ?_
      exact x_ireturn h hr dX10_count_85 (Or.inl rfl) ⟨Nat.le_refl _, Nat.le_refl _⟩
    | succ c ih =>
      intro k hk ls hls
      have hk' : k < n := by omega
      have g71 := (hH.1 k hk').1
      have d5 := (hD.1 k (by omega)).1
      have e1 : (k : Int) + 1 = ((k + 1 : Nat) : Int) := by omega
      have goal := fun ls hls => ih (k + 1) (by omega) ls hls
      rw [← e1] at goal
      have ec : cntC (fun k => D 5 k 8) y (k + 1) = cntC (fun k => D 5 k 8) y k + (if D 5 k 8 = y then 1 else 0) := rfl
      rw [ec] at goal
      refine x_loc hls ?_
      refine x_iload_n h dX10_count_43 rfl ?_
      refine x_aload_n h dX10_count_44 rfl ?_
      refine x_get (q := vI (n)) h fl_10_289 lvz_10 dX10_count_45 (congrArg vI (by first | exact h32 | simp [up3, h32])) ?_
      refine x_ic_ge_F (tgt := 84) h (by omega) dX10_count_48 (by decide) (by omega) ?_
      refine x_iload_n h dX10_count_51 rfl ?_
      refine x_aload_n h dX10_count_52 rfl ?_
      refine x_get h fl_10_100 lvz_10 dX10_count_53 (pvf_571 _ _) ?_
      refine x_iload_n h dX10_count_56 rfl ?_
      refine x_iald h kdf_71 lvz_71 dX10_count_57 rfl (by omega) ?_
      rw [g71]
      rcases hxy with ⟨rfl, rfl⟩ | ⟨rfl, rfl⟩
      · by_cases h2 : D 5 k 8 = 2
        · rw [if_pos h2] at goal
          refine x_iload_n h dX10_count_58 rfl ?_
          refine x_iconst h dX10_count_59 ?_
          refine x_ic_ne_F (tgt := 67) h (by omega) dX10_count_60 (by decide) (by omega) ?_
          refine x_iconst h dX10_count_63 ?_
          refine x_goto (tgt := 68) h dX10_count_64 (by decide) ?_
          refine x_ic_ne_F (tgt := 75) h (by omega) dX10_count_68 (by decide) (by omega) ?_
          refine x_iconst h dX10_count_71 ?_
          refine x_goto (tgt := 76) h dX10_count_72 (by decide) ?_
          refine x_iadd h dX10_count_76 ?_
          refine x_istore_n h dX10_count_77 (by decide) ?_
          refine x_iinc h dX10_count_78 rfl (by decide) ?_
          refine x_goto (tgt := 43) h dX10_count_81 (by decide) ?_
          exact goal _ ⟨rfl, rfl, rfl, rfl, trivial⟩
        · rw [if_neg h2] at goal
          refine x_iload_n h dX10_count_58 rfl ?_
          refine x_iconst h dX10_count_59 ?_
          refine x_ic_ne_F (tgt := 67) h (by omega) dX10_count_60 (by decide) (by omega) ?_
          refine x_iconst h dX10_count_63 ?_
          refine x_goto (tgt := 68) h dX10_count_64 (by decide) ?_
          refine x_ic_ne_T (tgt := 75) h (by omega) dX10_count_68 (by decide) (by omega) ?_
          refine x_iconst h dX10_count_75 ?_
          refine x_iadd h dX10_count_76 ?_
          refine x_istore_n h dX10_count_77 (by decide) ?_
          refine x_iinc h dX10_count_78 rfl (by decide) ?_
          refine x_goto (tgt := 43) h dX10_count_81 (by decide) ?_
          exact goal _ ⟨rfl, rfl, rfl, rfl, trivial⟩
      · by_cases h2 : D 5 k 8 = 3
        · rw [if_pos h2] at goal
          refine x_iload_n h dX10_count_58 rfl ?_
          refine x_iconst h dX10_count_59 ?_
          refine x_ic_ne_T (tgt := 67) h (by omega) dX10_count_60 (by decide) (by omega) ?_
          refine x_iconst h dX10_count_67 ?_
          refine x_ic_ne_F (tgt := 75) h (by omega) dX10_count_68 (by decide) (by omega) ?_
          refine x_iconst h dX10_count_71 ?_
          refine x_goto (tgt := 76) h dX10_count_72 (by decide) ?_
          refine x_iadd h dX10_count_76 ?_
          refine x_istore_n h dX10_count_77 (by decide) ?_
          refine x_iinc h dX10_count_78 rfl (by decide) ?_
          refine x_goto (tgt := 43) h dX10_count_81 (by decide) ?_
          exact goal _ ⟨rfl, rfl, rfl, rfl, trivial⟩
        · rw [if_neg h2] at goal
          refine x_iload_n h dX10_count_58 rfl ?_
          refine x_iconst h dX10_count_59 ?_
          refine x_ic_ne_T (tgt := 67) h (by omega) dX10_count_60 (by decide) (by omega) ?_
          refine x_iconst h dX10_count_67 ?_
          refine x_ic_ne_T (tgt := 75) h (by omega) dX10_count_68 (by decide) (by omega) ?_
          refine x_iconst h dX10_count_75 ?_
          refine x_iadd h dX10_count_76 ?_
          refine x_istore_n h dX10_count_77 (by decide) ?_
          refine x_iinc h dX10_count_78 rfl (by decide) ?_
          refine x_goto (tgt := 43) h dX10_count_81 (by decide) ?_
          exact goal _ ⟨rfl, rfl, rfl, rfl, trivial⟩
  have outer : ∀ C : Cx, Ok C RX10 cX10_count 5 6 → Rt C 1 (some .int) (some (vI (rdyA (fun k => rdyT (D 5 k 8) (sBy S k) (sSz S k) (D 17 k)) n))) NALL σ 0 0 → ∀ (c k : Nat), k + c = n → ∀ ls, lsub [(0, vR 10 0), (2, vI (rdyA (fun k => rdyT (D 5 k 8) (sBy S k) (sSz S k) (D 17 k)) k)), (3, vI k)] ls → X C 1 88 ls [] NALL σ 0 0 := fun C h hr c => by
    induction c with
    | zero =>
      intro k hk ls hls
      obtain rfl : k = n := by omega
      refine x_loc hls ?_
      refine x_iload_n h dX10_count_88 rfl ?_
      refine x_aload_n h dX10_count_89 rfl ?_
      refine x_get (q := vI (k)) h fl_10_289 lvz_10 dX10_count_90 (congrArg vI (by first | exact h32 | simp [up3, h32])) ?_
      refine x_ic_ge_T (tgt := 170) h (by omega) dX10_count_93 (by decide) (by omega) ?_
      refine x_iload_n h dX10_count_170 rfl ?_
      exact x_ireturn h hr dX10_count_171 (Or.inl rfl) ⟨Nat.le_refl _, Nat.le_refl _⟩
    | succ c ih =>
      intro k hk ls hls
      have hk' : k < n := by omega
      obtain ⟨g71, g⟩ := hH.1 k hk'
      have d5 := (hD.1 k (by omega)).1
      obtain ⟨⟨s1, s2, s3, s4, s5⟩, -⟩ := hst k hk'
      have hby := (hS.2 k hk').2.1
      have e1 : (k : Int) + 1 = ((k + 1 : Nat) : Int) := by omega
      have goal := fun ls hls => ih (k + 1) (by omega) ls hls
      rw [← e1] at goal
      have ec : rdyA (fun k => rdyT (D 5 k 8) (sBy S k) (sSz S k) (D 17 k)) (k + 1) = rdyA (fun k => rdyT (D 5 k 8) (sBy S k) (sSz S k) (D 17 k)) k + rdyT (D 5 k 8) (sBy S k) (sSz S k) (D 17 k) := rfl
      rw [ec] at goal
      generalize rdyA (fun k => rdyT (D 5 k 8) (sBy S k) (sSz S k) (D 17 k)) k = acc at goal hls
      refine x_loc hls ?_
      by_cases h2 : D 5 k 8 = 2
      · obtain ⟨hz, x2, x3⟩ := g (Or.inr h2)
        obtain ⟨z, hzz⟩ : ∃ z : Nat, sSz S k = z := ⟨(sSz S k).toNat, by omega⟩
        have fin : ∀ v : Int, rdyT (D 5 k 8) (sBy S k) (sSz S k) (D 17 k) = v → X C 1 99 [(0, vR 10 0), (2, vI (acc + v)), (3, vI k), (4, vI z)] [] NALL σ 0 0 := fun v hv => by
          rw [hv] at goal
          refine x_aload_n h dX10_count_99 rfl ?_
          refine x_get h fl_10_100 lvz_10 dX10_count_100 (pvf_571 _ _) ?_
          refine x_iload_n h dX10_count_103 rfl ?_
          refine x_iald h kdf_71 lvz_71 dX10_count_104 rfl (by omega) ?_
          rw [g71, h2]
          refine x_iconst h dX10_count_105 ?_
          refine x_ic_ne_F (tgt := 164) h (by omega) dX10_count_106 (by decide) (by omega) ?_
          refine x_iload h dX10_count_109 rfl ?_
          refine x_i2l h (by omega) dX10_count_111 ?_
          refine x_aload_n h dX10_count_112 rfl ?_
          refine x_get h fl_10_88 lvz_10 dX10_count_113 (pvf_567 _ _) ?_
          refine x_iload_n h dX10_count_116 rfl ?_
          refine x_lald h kdf_67 lvz_67 dX10_count_117 rfl (by omega) ?_
          rw [s5, hzz]
          refine x_lc_ge (tgt := 164) h (by omega) dX10_count_118 dX10_count_119 (by decide) (fun _ => ?_) (fun q => absurd (by omega) q)
          refine x_iinc h dX10_count_164 rfl (by decide) ?_
          refine x_goto (tgt := 88) h dX10_count_167 (by decide) ?_
          exact goal _ ⟨rfl, rfl, rfl, trivial⟩
        -- the ENTRIES, one by one
        have inner : ∀ (F : Nat → Int), (∀ j, j < z → F (j + 1) = F j + (if sBy S k = 0 ∨ D 17 k (j / 8) = 2 then 1 else 0)) → rdyT (D 5 k 8) (sBy S k) (sSz S k) (D 17 k) = F z → ∀ (cc j : Nat), j + cc = z → X C 1 99 [(0, vR 10 0), (2, vI (acc + F j)), (3, vI k), (4, vI j)] [] NALL σ 0 0 := fun F hF hz0 cc => by
          induction cc with
          | zero =>
            intro j hj
            obtain rfl : j = z := by omega
            exact fin _ hz0
          | succ cc ih2 =>
            intro j hj
            have e2 : (j : Int) + 1 = ((j + 1 : Nat) : Int) := by omega
            have goal2 := ih2 (j + 1) (by omega)
            rw [hF j (by omega), ← e2, ← Int.add_assoc] at goal2
            refine x_aload_n h dX10_count_99 rfl ?_
            refine x_get h fl_10_100 lvz_10 dX10_count_100 (pvf_571 _ _) ?_
            refine x_iload_n h dX10_count_103 rfl ?_
            refine x_iald h kdf_71 lvz_71 dX10_count_104 rfl (by omega) ?_
            rw [g71, h2]
            refine x_iconst h dX10_count_105 ?_
            refine x_ic_ne_F (tgt := 164) h (by omega) dX10_count_106 (by decide) (by omega) ?_
            refine x_iload h dX10_count_109 rfl ?_
            refine x_i2l h (by omega) dX10_count_111 ?_
            refine x_aload_n h dX10_count_112 rfl ?_
            refine x_get h fl_10_88 lvz_10 dX10_count_113 (pvf_567 _ _) ?_
            refine x_iload_n h dX10_count_116 rfl ?_
            refine x_lald h kdf_67 lvz_67 dX10_count_117 rfl (by omega) ?_
            rw [s5, hzz]
            refine x_lc_ge (tgt := 164) h (by omega) dX10_count_118 dX10_count_119 (by decide) (fun q => absurd q (by omega)) (fun _ => ?_)
            refine x_iload_n h dX10_count_122 rfl ?_
            refine x_aload_n h dX10_count_123 rfl ?_
            refine x_get h fl_10_79 lvz_10 dX10_count_124 (pvf_564 _ _) ?_
            refine x_iload_n h dX10_count_127 rfl ?_
            refine x_zald h kdf_64 lvz_64 dX10_count_128 rfl (by omega) ?_
            rw [s2]
            by_cases hb0 : sBy S k = 0
            · rw [if_pos (Or.inl hb0)] at goal2
              rw [hb0]
              refine x_if_ne_T (tgt := 151) h (by omega) dX10_count_129 (by decide) (by omega) ?_
              refine x_iconst h dX10_count_151 ?_
              refine x_goto (tgt := 156) h dX10_count_152 (by decide) ?_
              refine x_iadd h dX10_count_156 ?_
              refine x_istore_n h dX10_count_157 (by decide) ?_
              refine x_iinc h dX10_count_158 rfl (by decide) ?_
              refine x_goto (tgt := 99) h dX10_count_161 (by decide) ?_
              exact x_loc (ls' := [(0, vR 10 0), (2, vI (acc + F j + 1)), (3, vI k), (4, vI ((j : Int) + 1))]) ⟨rfl, rfl, rfl, rfl, trivial⟩ goal2
            · have hby1 : sBy S k = 1 := by omega
              rw [hby1]
              have e72 := x2 hb0 (j / 8) (by omega)
              have d17 := (hD.1 k (by omega)).2.1 (j / 8) (by omega)
              by_cases h17 : D 17 k (j / 8) = 2
              · rw [if_pos (Or.inr h17)] at goal2
                refine x_if_ne_F (tgt := 151) h (by omega) dX10_count_129 (by decide) (by omega) ?_
                refine x_aload_n h dX10_count_132 rfl ?_
                refine x_get h fl_10_103 lvz_10 dX10_count_133 (pvf_572 _ _) ?_
                refine x_bipush h dX10_count_136 (by decide) ?_
                refine x_iload_n h dX10_count_138 rfl ?_
                refine x_imul h dX10_count_139 ?_
                refine x_iload h dX10_count_140 rfl ?_
                refine x_bipush h dX10_count_142 (by decide) ?_
                refine x_idivP h (by omega) dX10_count_144 ?_
                refine x_iadd h dX10_count_145 ?_
                refine x_iald (m := 25 * k + j / 8) h kdf_72 lvz_72 dX10_count_146 (by omega) (by omega) ?_
                rw [e72, h17]
                refine x_iconst h dX10_count_147 ?_
                refine x_ic_ne_F (tgt := 155) h (by omega) dX10_count_148 (by decide) (by omega) ?_
                refine x_iconst h dX10_count_151 ?_
                refine x_goto (tgt := 156) h dX10_count_152 (by decide) ?_
                refine x_iadd h dX10_count_156 ?_
                refine x_istore_n h dX10_count_157 (by decide) ?_
                refine x_iinc h dX10_count_158 rfl (by decide) ?_
                refine x_goto (tgt := 99) h dX10_count_161 (by decide) ?_
                exact x_loc (ls' := [(0, vR 10 0), (2, vI (acc + F j + 1)), (3, vI k), (4, vI ((j : Int) + 1))]) ⟨rfl, rfl, rfl, rfl, trivial⟩ goal2
              · rw [if_neg (fun y => y.elim hb0 h17)] at goal2
                refine x_if_ne_F (tgt := 151) h (by omega) dX10_count_129 (by decide) (by omega) ?_
                refine x_aload_n h dX10_count_132 rfl ?_
                refine x_get h fl_10_103 lvz_10 dX10_count_133 (pvf_572 _ _) ?_
                refine x_bipush h dX10_count_136 (by decide) ?_
                refine x_iload_n h dX10_count_138 rfl ?_
                refine x_imul h dX10_count_139 ?_
                refine x_iload h dX10_count_140 rfl ?_
                refine x_bipush h dX10_count_142 (by decide) ?_
                refine x_idivP h (by omega) dX10_count_144 ?_
                refine x_iadd h dX10_count_145 ?_
                refine x_iald (m := 25 * k + j / 8) h kdf_72 lvz_72 dX10_count_146 (by omega) (by omega) ?_
                rw [e72]
                refine x_iconst h dX10_count_147 ?_
                refine x_ic_ne_T (tgt := 155) h (by omega) dX10_count_148 (by decide) (by omega) ?_
                refine x_iconst h dX10_count_155 ?_
                refine x_iadd h dX10_count_156 ?_
                refine x_istore_n h dX10_count_157 (by decide) ?_
                refine x_iinc h dX10_count_158 rfl (by decide) ?_
                refine x_goto (tgt := 99) h dX10_count_161 (by decide) ?_
                exact x_loc (ls' := [(0, vR 10 0), (2, vI (acc + F j + 0)), (3, vI k), (4, vI ((j : Int) + 1))]) ⟨rfl, rfl, rfl, rfl, trivial⟩ goal2
        have start : X C 1 99 [(0, vR 10 0), (2, vI acc), (3, vI k), (4, vI ((0 : Nat) : Int))] [] NALL σ 0 0 := by
          by_cases hb0 : sBy S k = 0
          · have g0 := inner (fun j => (j : Int)) (fun j hj => by rw [if_pos (Or.inl hb0)]; show ((j + 1 : Nat) : Int) = (j : Int) + 1; omega) (by unfold rdyT; rw [if_pos h2, if_pos hb0, ents_in hz, hzz]) z 0 (by omega)
            rw [show acc + (fun j : Nat => (j : Int)) 0 = acc from Int.add_zero acc] at g0
            exact g0
          · have g0 := inner (csR (D 17 k)) (fun j hj => by
              show csR (D 17 k) j + _ = _
              by_cases h17 : D 17 k (j / 8) = 2
              · rw [if_pos h17, if_pos (Or.inr h17)]
              · rw [if_neg h17, if_neg (fun y => y.elim hb0 h17)]) (by
              unfold rdyT
              rw [if_pos h2, if_neg hb0, ents_in hz, hzz, cs_rdy]
              congr 1) z 0 (by omega)
            rw [show acc + csR (D 17 k) 0 = acc from Int.add_zero acc] at g0
            exact g0
        refine x_iload_n h dX10_count_88 rfl ?_
        refine x_aload_n h dX10_count_89 rfl ?_
        refine x_get (q := vI (n)) h fl_10_289 lvz_10 dX10_count_90 (congrArg vI (by first | exact h32 | simp [up3, h32])) ?_
        refine x_ic_ge_F (tgt := 170) h (by omega) dX10_count_93 (by decide) (by omega) ?_
        refine x_iconst h dX10_count_96 ?_
        refine x_istore h dX10_count_97 (by decide) ?_
        exact x_loc (ls' := [(0, vR 10 0), (2, vI acc), (3, vI k), (4, vI ((0 : Nat) : Int))]) ⟨rfl, rfl, rfl, rfl, trivial⟩ start
      · have e0 : rdyT (D 5 k 8) (sBy S k) (sSz S k) (D 17 k) = 0 := by unfold rdyT; rw [if_neg h2]
        rw [e0, Int.add_zero] at goal
        refine x_iload_n h dX10_count_88 rfl ?_
        refine x_aload_n h dX10_count_89 rfl ?_
        refine x_get (q := vI (n)) h fl_10_289 lvz_10 dX10_count_90 (congrArg vI (by first | exact h32 | simp [up3, h32])) ?_
        refine x_ic_ge_F (tgt := 170) h (by omega) dX10_count_93 (by decide) (by omega) ?_
        refine x_iconst h dX10_count_96 ?_
        refine x_istore h dX10_count_97 (by decide) ?_
        refine x_aload_n h dX10_count_99 rfl ?_
        refine x_get h fl_10_100 lvz_10 dX10_count_100 (pvf_571 _ _) ?_
        refine x_iload_n h dX10_count_103 rfl ?_
        refine x_iald h kdf_71 lvz_71 dX10_count_104 rfl (by omega) ?_
        rw [g71]
        refine x_iconst h dX10_count_105 ?_
        refine x_ic_ne_T (tgt := 164) h (by omega) dX10_count_106 (by decide) (by omega) ?_
        refine x_iinc h dX10_count_164 rfl (by decide) ?_
        refine x_goto (tgt := 88) h dX10_count_167 (by decide) ?_
        exact goal _ ⟨rfl, rfl, rfl, trivial⟩
  rcases (by omega : w = 0 ∨ w = 1 ∨ w = 2 ∨ w = 3 ∨ w = 4 ∨ w < 0 ∨ 4 < w) with rfl | rfl | rfl | rfl | rfl | hq | hq
  · show Ct 6 mX10_count 1 [vR 10 0, vI 0] NALL σ (some (vI n)) NALL σ 0 0
    refine ct_of (by decide) (Nat.le_of_ble_eq_true rfl) (fun C h hr _ => ?_)
    have h : Ok C RX10 cX10_count 5 _ := h
    refine x_iconst h dX10_count_0 ?_
    refine x_istore_n h dX10_count_1 (by decide) ?_
    refine x_iload_n h dX10_count_2 rfl ?_
    refine x_tsIn (tgt := 36) (off := 33) h dX10_count_3 (by omega) (by omega) (by rfl) (by decide) ?_
    refine x_aload_n h dX10_count_36 rfl ?_
    refine x_get (q := vI (n)) h fl_10_289 lvz_10 dX10_count_37 (congrArg vI (by first | exact h32 | simp [up3, h32])) ?_
    exact x_ireturn h hr dX10_count_40 (Or.inl rfl) ⟨Nat.le_refl _, Nat.le_refl _⟩
  · show Ct 6 mX10_count 1 [vR 10 0, vI 1] NALL σ (some (vI (cntC (fun k => D 5 k 8) 2 n))) NALL σ 0 0
    refine ct_of (by decide) (Nat.le_of_ble_eq_true rfl) (fun C h hr _ => ?_)
    have h : Ok C RX10 cX10_count 5 _ := h
    refine x_iconst h dX10_count_0 ?_
    refine x_istore_n h dX10_count_1 (by decide) ?_
    refine x_iload_n h dX10_count_2 rfl ?_
    refine x_tsIn (tgt := 41) (off := 38) h dX10_count_3 (by omega) (by omega) (by rfl) (by decide) ?_
    refine x_iconst h dX10_count_41 ?_
    refine x_istore_n h dX10_count_42 (by decide) ?_
    exact st2 1 2 (Or.inl ⟨rfl, rfl⟩) C h hr n 0 (by omega) _ ⟨rfl, rfl, rfl, rfl, trivial⟩
  · show Ct 6 mX10_count 1 [vR 10 0, vI 2] NALL σ (some (vI (cntC (fun k => D 5 k 8) 3 n))) NALL σ 0 0
    refine ct_of (by decide) (Nat.le_of_ble_eq_true rfl) (fun C h hr _ => ?_)
    have h : Ok C RX10 cX10_count 5 _ := h
    refine x_iconst h dX10_count_0 ?_
    refine x_istore_n h dX10_count_1 (by decide) ?_
    refine x_iload_n h dX10_count_2 rfl ?_
    refine x_tsIn (tgt := 41) (off := 38) h dX10_count_3 (by omega) (by omega) (by rfl) (by decide) ?_
    refine x_iconst h dX10_count_41 ?_
    refine x_istore_n h dX10_count_42 (by decide) ?_
    exact st2 2 3 (Or.inr ⟨rfl, rfl⟩) C h hr n 0 (by omega) _ ⟨rfl, rfl, rfl, rfl, trivial⟩
  · show Ct 6 mX10_count 1 [vR 10 0, vI 3] NALL σ (some (vI (rdyA (fun k => rdyT (D 5 k 8) (sBy S k) (sSz S k) (D 17 k)) n))) NALL σ 0 0
    refine ct_of (by decide) (Nat.le_of_ble_eq_true rfl) (fun C h hr _ => ?_)
    have h : Ok C RX10 cX10_count 5 _ := h
    refine x_iconst h dX10_count_0 ?_
    refine x_istore_n h dX10_count_1 (by decide) ?_
    refine x_iload_n h dX10_count_2 rfl ?_
    refine x_tsIn (tgt := 86) (off := 83) h dX10_count_3 (by omega) (by omega) (by rfl) (by decide) ?_
    refine x_iconst h dX10_count_86 ?_
    refine x_istore_n h dX10_count_87 (by decide) ?_
    exact outer C h hr n 0 (by omega) _ ⟨rfl, rfl, rfl, trivial⟩
  · show Ct 6 mX10_count 1 [vR 10 0, vI 4] NALL σ (some (vI L)) NALL σ 0 0
    refine ct_of (by decide) (Nat.le_of_ble_eq_true rfl) (fun C h hr _ => ?_)
    have h : Ok C RX10 cX10_count 5 _ := h
    refine x_iconst h dX10_count_0 ?_
    refine x_istore_n h dX10_count_1 (by decide) ?_
    refine x_iload_n h dX10_count_2 rfl ?_
    refine x_tsIn (tgt := 172) (off := 169) h dX10_count_3 (by omega) (by omega) (by rfl) (by decide) ?_
    refine x_aload_n h dX10_count_172 rfl ?_
    refine x_get (q := vI (L)) h fl_10_153 lvz_10 dX10_count_173 (congrArg vI (by first | exact hL | simp [up3, hL])) ?_
    exact x_ireturn h hr dX10_count_176 (Or.inl rfl) ⟨Nat.le_refl _, Nat.le_refl _⟩
  · rw [show vCount n L S D w = -2 by unfold vCount; rw [if_neg (by omega), if_neg (by omega), if_neg (by omega), if_neg (by omega), if_neg (by omega)]]
    refine ct_of (by decide) (Nat.le_of_ble_eq_true rfl) (fun C h hr _ => ?_)
    have h : Ok C RX10 cX10_count 5 _ := h
    refine x_iconst h dX10_count_0 ?_
    refine x_istore_n h dX10_count_1 (by decide) ?_
    refine x_iload_n h dX10_count_2 rfl ?_
    refine x_tsOut (tgt := 177) h dX10_count_3 (by omega) (by omega) (by decide) ?_
    refine x_bipush h dX10_count_177 (by decide) ?_
    exact x_ireturn h hr dX10_count_179 (Or.inl rfl) ⟨Nat.le_refl _, Nat.le_refl _⟩
  · rw [show vCount n L S D w = -2 by unfold vCount; rw [if_neg (by omega), if_neg (by omega), if_neg (by omega), if_neg (by omega), if_neg (by omega)]]
    refine ct_of (by decide) (Nat.le_of_ble_eq_true rfl) (fun C h hr _ => ?_)
    have h : Ok C RX10 cX10_count 5 _ := h
    refine x_iconst h dX10_count_0 ?_
    refine x_istore_n h dX10_count_1 (by decide) ?_
    refine x_iload_n h dX10_count_2 rfl ?_
    refine x_tsOut (tgt := 177) h dX10_count_3 (by omega) (by omega) (by decide) ?_
    refine x_bipush h dX10_count_177 (by decide) ?_
    exact x_ireturn h hr dX10_count_179 (Or.inl rfl) ⟨Nat.le_refl _, Nat.le_refl _⟩
end MC
