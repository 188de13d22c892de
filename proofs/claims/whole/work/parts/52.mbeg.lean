/-! begin of the reference -/
def zrS (σ : Mm) (f lo len : Nat) : Mm := fun f' k' j' => if f' = f ∧ k' = 0 ∧ lo ≤ j' ∧ j' < lo + len then 0 else σ f' k' j'
theorem zrS_0 (σ : Mm) (f lo : Nat) : zrS σ f lo 0 = σ := by
  funext f' k' j'
  unfold zrS
  rw [if_neg (by omega)]
theorem zrS_s (σ : Mm) (f lo len : Nat) : up3 (zrS σ f lo len) f 0 (lo + len) 0 = zrS σ f lo (len + 1) := by
  funext f' k' j'
  unfold up3
  by_cases h : f' = f ∧ k' = 0 ∧ j' = lo + len
  · rw [if_pos h]
    unfold zrS
    rw [if_pos (by omega)]
  · rw [if_neg h]
    unfold zrS
    by_cases h2 : f' = f ∧ k' = 0 ∧ lo ≤ j' ∧ j' < lo + len
    · rw [if_pos h2, if_pos (by omega)]
    · rw [if_neg h2, if_neg (by omega)]
theorem zrS_f {σ : Mm} {f lo len f' k j : Nat} (h : f' ≠ f) : zrS σ f lo len f' k j = σ f' k j := by
  unfold zrS
  rw [if_neg (by omega)]
/-- the start of begin -/
def bgS (σ : Mm) (b u k : Nat) (r a : Int) : Mm := up3 (up3 (up3 (nbS σ b k r a) 86 0 u k) 87 0 u r) 10 0 55 ((u + 1 : Nat) : Int)
theorem bgS_o {σ : Mm} {b u k : Nat} {r a : Int} {f k' j : Nat} (h : ¬ (75 ≤ f ∧ f ≤ 77) ∧ ¬ (f = 10 ∧ (j = 44 ∨ j = 55)) ∧ ¬ ((f = 86 ∨ f = 87) ∧ j = u)) : bgS σ b u k r a f k' j = σ f k' j := by
  unfold bgS
  rw [up3_n _ (by omega), up3_n _ (by omega), up3_n _ (by omega), nbS_o (by omega)]
theorem bgS_86 {σ : Mm} {b u k : Nat} {r a : Int} : bgS σ b u k r a 86 0 u = k := by
  unfold bgS
  rw [up3_n _ (by omega), up3_n _ (by omega), up3_s]
theorem bgS_87 {σ : Mm} {b u k : Nat} {r a : Int} : bgS σ b u k r a 87 0 u = r := by
  unfold bgS
  rw [up3_n _ (by omega), up3_s]
theorem bgS_55 {σ : Mm} {b u k : Nat} {r a : Int} : bgS σ b u k r a 10 0 55 = ((u + 1 : Nat) : Int) := up3_s _ _ _ _ _
theorem bgS_L {D σ : Mm} {b u k : Nat} {r a : Int} (h : LgR D σ) (hb : D 8 0 1 = b) : LgR (bNote D 0 k r a 0) (bgS σ b u k r a) := LgR_fr (LgR_nb (x0 := k) (x1 := r) (x2 := a) h hb) (fun _ _ _ _ => rfl) (fun f j q => by
  unfold bgS
  rw [up3_n _ (by omega), up3_n _ (by omega), up3_n _ (by omega)])
theorem bg_pre {C : Cx} {d b u k : Nat} {r a : Int} {σ : Mm} (h : Ok C RX10 cX10_begin 6 (d + 1)) (hb : σ 10 0 44 = b) (hb2 : b < 2147483600) (hu : σ 10 0 55 = u) (hu2 : u < 12) (hx : X C 1 57 [(0, vR 10 0), (1, vI k), (2, vI r), (4, vI u)] [] NALL (bgS σ b u k r a) 0 0) : X C 1 0 [(0, vR 10 0), (1, vI k), (2, vI r), (3, vI a)] [] NALL σ 0 0 := by
  have hnb := m_noteBuild (d := d) (x0 := k) (x1 := r) (x2 := a) hb hb2
  have e1 : (u : Int) + 1 = ((u + 1 : Nat) : Int) := by omega
  have e2 : ((u + 1 : Nat) : Int) - 1 = (u : Int) := by omega
  have g55 : nbS σ b k r a 10 0 55 = u := by rw [nbS_o (by omega)]; exact hu
  have g55b : up3 (nbS σ b k r a) 86 0 u k 10 0 55 = u := by rw [up3_n _ (by omega)]; exact g55
  have g55c : up3 (up3 (nbS σ b k r a) 86 0 u k) 87 0 u r 10 0 55 = u := by rw [up3_n _ (by omega)]; exact g55b
  have g55d : bgS σ b u k r a 10 0 55 = ((u + 1 : Nat) : Int) := bgS_55
  refine x_aload_n h dX10_begin_0 rfl ?_
  refine x_get (q := vI (u)) h fl_10_315 lvz_10 dX10_begin_1 (congrArg vI (by first | exact hu | simp [up3, hu])) ?_
  refine x_bipush h dX10_begin_4 (by decide) ?_
  refine x_ic_ne_T (tgt := 12) h (by omega) dX10_begin_6 (by decide) (by omega) ?_
  refine x_aload_n h dX10_begin_12 rfl ?_
  refine x_iload_n h dX10_begin_13 rfl ?_
  refine x_iload_n h dX10_begin_14 rfl ?_
  refine x_iload_n h dX10_begin_15 rfl ?_
  refine x_cV0 h kVX10_noteBuild lkX10_318 ⟨_, _, _, rfl, rfl⟩ dX10_begin_16 (hnb) lvz_10 rfl rfl (Nat.le_of_ble_eq_true rfl) (by omega) ?_
  refine x_aload_n h dX10_begin_19 rfl ?_
  refine x_get h fl_10_130 lvz_10 dX10_begin_20 (pvf_586 _ _) ?_
  refine x_aload_n h dX10_begin_23 rfl ?_
  refine x_get (q := vI (u)) h fl_10_315 lvz_10 dX10_begin_24 (congrArg vI (by first | exact g55 | simp [up3, g55])) ?_
  refine x_iload_n h dX10_begin_27 rfl ?_
  refine x_iast h kdf_86 lvz_86 dX10_begin_28 rfl (by omega) ?_
  refine x_aload_n h dX10_begin_29 rfl ?_
  refine x_get h fl_10_133 lvz_10 dX10_begin_30 (pvf_587 _ _) ?_
  refine x_aload_n h dX10_begin_33 rfl ?_
  refine x_get (q := vI (u)) h fl_10_315 lvz_10 dX10_begin_34 (congrArg vI (by first | exact g55b | simp [up3, g55b])) ?_
  refine x_iload_n h dX10_begin_37 rfl ?_
  refine x_iast h kdf_87 lvz_87 dX10_begin_38 rfl (by omega) ?_
  refine x_aload_n h dX10_begin_39 rfl ?_
  refine x_dup h dX10_begin_40 rfl ?_
  refine x_get (q := vI (u)) h fl_10_315 lvz_10 dX10_begin_41 (congrArg vI (by first | exact g55c | simp [up3, g55c])) ?_
  refine x_iconst h dX10_begin_44 ?_
  refine x_iadd h dX10_begin_45 ?_
  rw [e1]
  refine x_put h fl_10_315 lvz_10 dX10_begin_46 rfl (fun z => absurd z (by decide)) ?_
  show X C 1 49 _ _ _ (bgS σ b u k r a) 0 0
  refine x_aload_n h dX10_begin_49 rfl ?_
  refine x_get (q := vI ((u + 1 : Nat))) h fl_10_315 lvz_10 dX10_begin_50 (congrArg vI (by first | exact g55d | simp [up3, g55d])) ?_
  refine x_iconst h dX10_begin_53 ?_
  refine x_isub h dX10_begin_54 ?_
  rw [e2]
  refine x_istore h dX10_begin_55 (by decide) ?_
  exact x_loc (ls' := [(0, vR 10 0), (1, vI k), (2, vI r), (4, vI u)]) ⟨rfl, rfl, rfl, rfl, trivial⟩ hx
theorem m_begin12 {d k : Nat} {r a : Int} {σ : Mm} (hu : σ 10 0 55 = 12) : Ct (d + 1) mX10_begin 1 [vR 10 0, vI k, vI r, vI a] NALL σ (some (vI 8)) NALL σ 0 0 := by
  refine ct_of (by decide) (Nat.le_of_ble_eq_true rfl) (fun C h hr _ => ?_)
  have h : Ok C RX10 cX10_begin 6 _ := h
  refine x_aload_n h dX10_begin_0 rfl ?_
  refine x_get (q := vI (12)) h fl_10_315 lvz_10 dX10_begin_1 (congrArg vI (by first | exact hu | simp [up3, hu])) ?_
  refine x_bipush h dX10_begin_4 (by decide) ?_
  refine x_ic_ne_F (tgt := 12) h (by omega) dX10_begin_6 (by decide) (by omega) ?_
  refine x_bipush h dX10_begin_9 (by decide) ?_
  exact x_ireturn h hr dX10_begin_11 (Or.inl rfl) ⟨Nat.le_refl _, Nat.le_refl _⟩
section MB
variable {n d u k : Nat} {S : Sd} {D σ : Mm} {a : Int}
/-- a TABLE's building begins -/
theorem m_beginT (hS : SOk S n) (hst : SRl S n σ) (hk : k < n) (hH : HR n S D σ) (hD : DW S D) (h0 : D 5 k 8 = 0) (hu : σ 10 0 55 = u) (hu2 : u < 12) (hsz : 0 ≤ sSz S k ∧ sSz S k ≤ 200) (hp : D 8 0 1 < 2147483600) : ∃ σ', FrG σ' σ ∧ LowR u σ' σ ∧ FrameAt σ' u k (-9) 0 (if sBy S k = 0 then sSz S k else 0) (σ 68 0 k) [] ∧ σ' 10 0 55 = ((u + 1 : Nat) : Int) ∧ HR n S (zeroA (bNote (up3 D 5 k 8 1) 0 k (-9) a 0) 16 k 200) σ' ∧ Ct (d + 1) mX10_begin 1 [vR 10 0, vI k, vI (-9), vI a] NALL σ (some (vI (-1))) NALL σ' 0 0 := by
  have hn := hS.1
  obtain ⟨⟨s1, s2, s3, s4, s5⟩, -⟩ := hst.2 k hk
  have hby := (hS.2 k hk).2.1
  obtain ⟨b, hb⟩ : ∃ b : Nat, D 8 0 1 = b := ⟨(D 8 0 1).toNat, by have := hD.2.1.1; omega⟩
  have hb44 : σ 10 0 44 = b := by rw [hH.2.1]; exact hb
  obtain ⟨T4, t4⟩ : ∃ x, x = bgS σ b u k (-9) a := ⟨_, rfl⟩
  obtain ⟨T5, t5⟩ : ∃ x, x = up3 T4 71 0 k 1 := ⟨_, rfl⟩
  obtain ⟨T6, t6⟩ : ∃ x, x = zrS T5 73 (200 * k) 200 := ⟨_, rfl⟩
  obtain ⟨T7, t7⟩ : ∃ x, x = zrS T6 72 (25 * k) 25 := ⟨_, rfl⟩
  obtain ⟨T8, t8⟩ : ∃ x, x = up3 T7 88 0 u 0 := ⟨_, rfl⟩
  obtain ⟨T9, t9⟩ : ∃ x, x = up3 T8 89 0 u (if sBy S k = 0 then sSz S k else 0) := ⟨_, rfl⟩
  obtain ⟨T10, t10⟩ : ∃ x, x = up3 T9 90 0 u (σ 68 0 k) := ⟨_, rfl⟩
  obtain ⟨T11, t11⟩ : ∃ x, x = up3 T10 91 0 u 0 := ⟨_, rfl⟩
  have o5 : ∀ f j, f ≤ 70 → ¬ (f = 10 ∧ (j = 44 ∨ j = 55)) → T5 f 0 j = σ f 0 j := fun f j q1 q2 => by rw [t5, up3_f _ _ (by omega), t4, bgS_o (by omega)]
  have o7 : ∀ f j, f ≠ 72 → f ≠ 73 → T7 f 0 j = T5 f 0 j := fun f j q1 q2 => by rw [t7, zrS_f q1, t6, zrS_f q2]
  have fg : FrG T11 σ := fun f k' j q => by
    rw [t11, up3_f _ _ (by omega), t10, up3_f _ _ (by omega), t9, up3_f _ _ (by omega), t8, up3_f _ _ (by omega), t7, zrS_f (by omega), t6, zrS_f (by omega), t5, up3_f _ _ (by omega), t4, bgS_o (by omega)]
  have o11 : ∀ f j, (f = 71 ∨ f = 72 ∨ f = 73 ∨ (75 ≤ f ∧ f ≤ 82) ∨ f = 86 ∨ f = 87 ∨ f = 10) → T11 f 0 j = T7 f 0 j := fun f j q => by rw [t11, up3_f _ _ (by omega), t10, up3_f _ _ (by omega), t9, up3_f _ _ (by omega), t8, up3_f _ _ (by omega)]
  refine ⟨T11, fg, ⟨fun i f q1 q2 q3 => ?_, fun j hj => ?_⟩, ⟨⟨?_, ?_⟩, ?_, ?_, ?_, ?_, trivial⟩, ?_, ⟨fun j hj => ⟨?_, fun z => ?_⟩, ?_⟩, ?_⟩
  · rw [t11, up3_j _ _ (by omega), t10, up3_j _ _ (by omega), t9, up3_j _ _ (by omega), t8, up3_j _ _ (by omega), t7, zrS_f (by omega), t6, zrS_f (by omega), t5, up3_f _ _ (by omega), t4, bgS_o (by omega)]
  · rw [t11, up3_f _ _ (by omega), t10, up3_f _ _ (by omega), t9, up3_f _ _ (by omega), t8, up3_f _ _ (by omega), t7, zrS_f (by omega), t6, zrS_f (by omega), t5, up3_f _ _ (by omega), t4, bgS_o (by omega)]
  · rw [o11 _ _ (by omega), o7 _ _ (by omega) (by omega), t5, up3_f _ _ (by omega), t4]; exact bgS_86
  · rw [o11 _ _ (by omega), o7 _ _ (by omega) (by omega), t5, up3_f _ _ (by omega), t4]; exact bgS_87
  · rw [t11, up3_f _ _ (by omega), t10, up3_f _ _ (by omega), t9, up3_f _ _ (by omega), t8, up3_s]
  · rw [t11, up3_f _ _ (by omega), t10, up3_f _ _ (by omega), t9, up3_s]
  · rw [t11, up3_f _ _ (by omega), t10, up3_s]
  · rw [t11, up3_s]; rfl
  · rw [o11 _ _ (by omega), o7 _ _ (by omega) (by omega), t5, up3_f _ _ (by omega), t4]; exact bgS_55
  · -- state
    have e5 : zeroA (bNote (up3 D 5 k 8 1) 0 k (-9) a 0) 16 k 200 5 j 8 = up3 D 5 k 8 1 5 j 8 := by
      unfold zeroA
      rw [if_neg (by omega)]
      exact noteS_f _ _ _ _ _ _ _ ⟨by decide, by decide⟩ _ _
    rw [e5, o11 _ _ (by omega), o7 _ _ (by omega) (by omega), t5]
    by_cases q : j = k
    · subst q; rw [up3_s, up3_s]
    · rw [up3_j _ _ q, up3_k _ _ q, t4, bgS_o (by omega)]
      exact (hH.1 j hj).1
  · have e5 : zeroA (bNote (up3 D 5 k 8 1) 0 k (-9) a 0) 16 k 200 5 j 8 = up3 D 5 k 8 1 5 j 8 := by
      unfold zeroA
      rw [if_neg (by omega)]
      exact noteS_f _ _ _ _ _ _ _ ⟨by decide, by decide⟩ _ _
    have e17 : ∀ r, zeroA (bNote (up3 D 5 k 8 1) 0 k (-9) a 0) 16 k 200 17 j r = D 17 j r := fun r => by
      unfold zeroA
      rw [if_neg (by omega), show bNote (up3 D 5 k 8 1) 0 k (-9) a 0 17 j r = up3 D 5 k 8 1 17 j r from noteS_f _ _ _ _ _ _ _ ⟨by decide, by decide⟩ _ _, up3_f _ _ (by decide)]
    have e16 : ∀ p, zeroA (bNote (up3 D 5 k 8 1) 0 k (-9) a 0) 16 k 200 16 j p = if j = k ∧ p < 200 then 0 else D 16 j p := fun p => by
      unfold zeroA
      by_cases q : j = k ∧ p < 200
      · rw [if_pos ⟨rfl, q⟩, if_pos q]
      · rw [if_neg (fun z => q z.2), if_neg q, show bNote (up3 D 5 k 8 1) 0 k (-9) a 0 16 j p = up3 D 5 k 8 1 16 j p from noteS_f _ _ _ _ _ _ _ ⟨by decide, by decide⟩ _ _, up3_f _ _ (by decide)]
    rw [e5] at z
    by_cases q : j = k
    · subst q
      refine ⟨hsz, fun _ r hr => ?_, fun p hp2 _ => ?_⟩
      · rw [o11 _ _ (by omega), e17, (hD.1 j (by omega)).2.2.2 (Or.inl h0) r hr, t7]
        unfold zrS
        rw [if_pos (by omega)]
      · rw [o11 _ _ (by omega), e16, if_pos ⟨rfl, hp2⟩, t7, zrS_f (by omega), t6]
        unfold zrS
        rw [if_pos (by omega)]
    · rw [up3_k _ _ q] at z
      obtain ⟨x1, x2, x3⟩ := (hH.1 j hj).2 z
      refine ⟨x1, fun y r hr => ?_, fun p hp2 y => ?_⟩
      · have e : T7 72 0 (25 * j + r) = T6 72 0 (25 * j + r) := by
          rw [t7]
          unfold zrS
          rw [if_neg (by omega)]
        rw [o11 _ _ (by omega), e17, e, t6, zrS_f (by omega), t5, up3_f _ _ (by omega), t4, bgS_o (by omega)]
        exact x2 y r hr
      · rw [e17] at y
        have e : T6 73 0 (200 * j + p) = T5 73 0 (200 * j + p) := by
          rw [t6]
          unfold zrS
          rw [if_neg (by omega)]
        rw [o11 _ _ (by omega), e16, if_neg (fun w => q w.1), t7, zrS_f (by omega), e, t5, up3_f _ _ (by omega), t4, bgS_o (by omega)]
        exact x3 p hp2 y
  · refine LgR_fr (bgS_L (σ := σ) (u := u) (k := k) (r := -9) (a := a) (D := up3 D 5 k 8 1) (b := b) (LgR_fr hH.2 (fun f k' j q => up3_f _ _ (by omega)) (fun _ _ _ => rfl)) (by rw [up3_f _ _ (by decide)]; exact hb)) (fun f k' j q => ?_) (fun f j q => ?_)
    · unfold zeroA
      rw [if_neg (by omega)]
    · rw [o11 _ _ (by omega), o7 _ _ (by omega) (by omega), t5, up3_f _ _ (by omega), t4]
  · refine ct_of (by decide) (Nat.le_of_ble_eq_true rfl) (fun C h hr _ => ?_)
    have h : Ok C RX10 cX10_begin 6 _ := h
    refine bg_pre h hb44 (by omega) hu hu2 ?_
    rw [← t4]
    have g67 : T5 67 0 k = sSz S k := by rw [o5 _ _ (by omega) (by omega)]; exact s5
    have q67 : ∀ τ : Mm, (∀ f j, f ≤ 70 → ¬ (f = 10 ∧ (j = 44 ∨ j = 55)) → τ f 0 j = σ f 0 j) → τ 67 0 k = sSz S k := fun τ q => by rw [q _ _ (by omega) (by omega)]; exact s5
    have r8 : ∀ f j, f ≤ 70 → ¬ (f = 10 ∧ (j = 44 ∨ j = 55)) → T8 f 0 j = σ f 0 j := fun f j q1 q2 => by rw [t8, up3_f _ _ (by omega), o7 _ _ (by omega) (by omega), o5 _ _ q1 q2]
    have g64 : T8 64 0 k = 1 - sBy S k := by rw [r8 _ _ (by omega) (by omega)]; exact s2
    have g678 : T8 67 0 k = sSz S k := q67 T8 r8
    have g68 : T9 68 0 k = σ 68 0 k := by rw [t9, up3_f _ _ (by omega), r8 _ _ (by omega) (by omega)]
    have tail : X C 1 171 [(0, vR 10 0), (1, vI k), (2, vI (-9)), (4, vI u)] [] NALL T7 0 0 := by
      have tail2 : X C 1 205 [(0, vR 10 0), (1, vI k), (2, vI (-9)), (4, vI u)] [vI (if sBy S k = 0 then sSz S k else 0), vI u, vR 89 0] NALL T8 0 0 := by
        refine x_iast h kdf_89 lvz_89 dX10_begin_205 rfl (by omega) ?_
        rw [← t9]
        refine x_goto (tgt := 274) h dX10_begin_206 (by decide) ?_
        refine x_aload_n h dX10_begin_274 rfl ?_
        refine x_get h fl_10_142 lvz_10 dX10_begin_275 (pvf_590 _ _) ?_
        refine x_iload h dX10_begin_278 rfl ?_
        refine x_aload_n h dX10_begin_280 rfl ?_
        refine x_get h fl_10_91 lvz_10 dX10_begin_281 (pvf_568 _ _) ?_
        refine x_iload_n h dX10_begin_284 rfl ?_
        refine x_iald h kdf_68 lvz_68 dX10_begin_285 rfl (by omega) ?_
        rw [g68]
        refine x_iast h kdf_90 lvz_90 dX10_begin_286 rfl (by omega) ?_
        rw [← t10]
        refine x_aload_n h dX10_begin_287 rfl ?_
        refine x_get h fl_10_145 lvz_10 dX10_begin_288 (pvf_591 _ _) ?_
        refine x_iload h dX10_begin_291 rfl ?_
        refine x_iconst h dX10_begin_293 ?_
        refine x_iast h kdf_91 lvz_91 dX10_begin_294 rfl (by omega) ?_
        rw [← t11]
        refine x_iconst h dX10_begin_295 ?_
        exact x_ireturn h hr dX10_begin_296 (Or.inl rfl) ⟨Nat.le_refl _, Nat.le_refl _⟩
      refine x_aload_n h dX10_begin_171 rfl ?_
      refine x_get h fl_10_136 lvz_10 dX10_begin_172 (pvf_588 _ _) ?_
      refine x_iload h dX10_begin_175 rfl ?_
      refine x_iconst h dX10_begin_177 ?_
      refine x_iast h kdf_88 lvz_88 dX10_begin_178 rfl (by omega) ?_
      rw [← t8]
      refine x_aload_n h dX10_begin_179 rfl ?_
      refine x_get h fl_10_139 lvz_10 dX10_begin_180 (pvf_589 _ _) ?_
      refine x_iload h dX10_begin_183 rfl ?_
      refine x_aload_n h dX10_begin_185 rfl ?_
      refine x_get h fl_10_79 lvz_10 dX10_begin_186 (pvf_564 _ _) ?_
      refine x_iload_n h dX10_begin_189 rfl ?_
      refine x_zald h kdf_64 lvz_64 dX10_begin_190 rfl (by omega) ?_
      rw [g64]
      by_cases hb0 : sBy S k = 0
      · rw [if_pos hb0] at tail2
        refine x_if_eq_F (tgt := 204) h (by omega) dX10_begin_191 (by decide) (by omega) ?_
        refine x_aload_n h dX10_begin_194 rfl ?_
        refine x_get h fl_10_88 lvz_10 dX10_begin_195 (pvf_567 _ _) ?_
        refine x_iload_n h dX10_begin_198 rfl ?_
        refine x_lald h kdf_67 lvz_67 dX10_begin_199 rfl (by omega) ?_
        rw [g678]
        refine x_l2i h dX10_begin_200 ?_
        refine x_goto (tgt := 205) h dX10_begin_201 (by decide) ?_
        exact tail2
      · rw [if_neg hb0] at tail2
        refine x_if_eq_T (tgt := 204) h (by omega) dX10_begin_191 (by decide) (by omega) ?_
        refine x_iconst h dX10_begin_204 ?_
        exact tail2
    have loop2 : ∀ (c j : Nat), j + c = 25 → X C 1 145 [(0, vR 10 0), (1, vI k), (2, vI (-9)), (4, vI u), (5, vI j)] [] NALL (zrS T6 72 (25 * k) j) 0 0 := by
      intro c
      induction c with
      | zero =>
        intro j hj
        obtain rfl : j = 25 := by omega
        rw [← t7]
        refine x_iload h dX10_begin_145 rfl ?_
        refine x_bipush h dX10_begin_147 (by decide) ?_
        refine x_ic_ge_T (tgt := 171) h (by omega) dX10_begin_149 (by decide) (by omega) ?_
        exact x_loc (ls' := [(0, vR 10 0), (1, vI k), (2, vI (-9)), (4, vI u)]) ⟨rfl, rfl, rfl, rfl, trivial⟩ tail
      | succ c ih =>
        intro j hj
        have e1 : (j : Int) + 1 = ((j + 1 : Nat) : Int) := by omega
        have goal := ih (j + 1) (by omega)
        rw [← e1, ← zrS_s] at goal
        refine x_iload h dX10_begin_145 rfl ?_
        refine x_bipush h dX10_begin_147 (by decide) ?_
        refine x_ic_ge_F (tgt := 171) h (by omega) dX10_begin_149 (by decide) (by omega) ?_
        refine x_aload_n h dX10_begin_152 rfl ?_
        refine x_get h fl_10_103 lvz_10 dX10_begin_153 (pvf_572 _ _) ?_
        refine x_bipush h dX10_begin_156 (by decide) ?_
        refine x_iload_n h dX10_begin_158 rfl ?_
        refine x_imul h dX10_begin_159 ?_
        refine x_iload h dX10_begin_160 rfl ?_
        refine x_iadd h dX10_begin_162 ?_
        refine x_iconst h dX10_begin_163 ?_
        refine x_iast (m := 25 * k + j) h kdf_72 lvz_72 dX10_begin_164 (by omega) (by omega) ?_
        refine x_iinc h dX10_begin_165 rfl (by decide) ?_
        refine x_goto (tgt := 145) h dX10_begin_168 (by decide) ?_
        exact x_loc (ls' := [(0, vR 10 0), (1, vI k), (2, vI (-9)), (4, vI u), (5, vI ((j : Int) + 1))]) ⟨rfl, rfl, rfl, rfl, rfl, trivial⟩ goal
    have loop1 : ∀ (c j : Nat), j + c = 200 → X C 1 114 [(0, vR 10 0), (1, vI k), (2, vI (-9)), (4, vI u), (5, vI j)] [] NALL (zrS T5 73 (200 * k) j) 0 0 := by
      intro c
      induction c with
      | zero =>
        intro j hj
        obtain rfl : j = 200 := by omega
        rw [← t6]
        have goal := loop2 25 0 (by omega)
        rw [zrS_0] at goal
        refine x_iload h dX10_begin_114 rfl ?_
        refine x_sipush h dX10_begin_116 (by decide) ?_
        refine x_ic_ge_T (tgt := 142) h (by omega) dX10_begin_119 (by decide) (by omega) ?_
        refine x_iconst h dX10_begin_142 ?_
        refine x_istore h dX10_begin_143 (by decide) ?_
        exact x_loc (ls' := [(0, vR 10 0), (1, vI k), (2, vI (-9)), (4, vI u), (5, vI ((0 : Nat) : Int))]) ⟨rfl, rfl, rfl, rfl, rfl, trivial⟩ goal
      | succ c ih =>
        intro j hj
        have e1 : (j : Int) + 1 = ((j + 1 : Nat) : Int) := by omega
        have goal := ih (j + 1) (by omega)
        rw [← e1, ← zrS_s] at goal
        refine x_iload h dX10_begin_114 rfl ?_
        refine x_sipush h dX10_begin_116 (by decide) ?_
        refine x_ic_ge_F (tgt := 142) h (by omega) dX10_begin_119 (by decide) (by omega) ?_
        refine x_aload_n h dX10_begin_122 rfl ?_
        refine x_get h fl_10_106 lvz_10 dX10_begin_123 (pvf_573 _ _) ?_
        refine x_sipush h dX10_begin_126 (by decide) ?_
        refine x_iload_n h dX10_begin_129 rfl ?_
        refine x_imul h dX10_begin_130 ?_
        refine x_iload h dX10_begin_131 rfl ?_
        refine x_iadd h dX10_begin_133 ?_
        refine x_lconst0 h dX10_begin_134 ?_
        refine x_last (m := 200 * k + j) h kdf_73 lvz_73 dX10_begin_135 (by omega) (by omega) ?_
        refine x_iinc h dX10_begin_136 rfl (by decide) ?_
        refine x_goto (tgt := 114) h dX10_begin_139 (by decide) ?_
        exact x_loc (ls' := [(0, vR 10 0), (1, vI k), (2, vI (-9)), (4, vI u), (5, vI ((j : Int) + 1))]) ⟨rfl, rfl, rfl, rfl, rfl, trivial⟩ goal
    have goal := loop1 200 0 (by omega)
    rw [zrS_0] at goal
    refine x_iload_n h dX10_begin_57 rfl ?_
    refine x_bipush h dX10_begin_58 (by decide) ?_
    refine x_ic_ne_F (tgt := 209) h (by omega) dX10_begin_60 (by decide) (by omega) ?_
    refine x_aload_n h dX10_begin_63 rfl ?_
    refine x_get h fl_10_100 lvz_10 dX10_begin_64 (pvf_571 _ _) ?_
    refine x_iload_n h dX10_begin_67 rfl ?_
    refine x_iconst h dX10_begin_68 ?_
    refine x_iast h kdf_71 lvz_71 dX10_begin_69 rfl (by omega) ?_
    rw [← t5]
    refine x_aload_n h dX10_begin_70 rfl ?_
    refine x_get h fl_10_88 lvz_10 dX10_begin_71 (pvf_567 _ _) ?_
    refine x_iload_n h dX10_begin_74 rfl ?_
    refine x_lald h kdf_67 lvz_67 dX10_begin_75 rfl (by omega) ?_
    rw [g67]
    refine x_lconst0 h dX10_begin_76 ?_
    refine x_lc_lt (tgt := 94) h (by omega) dX10_begin_77 dX10_begin_78 (by decide) (fun q => absurd q (by omega)) (fun _ => ?_)
    refine x_aload_n h dX10_begin_81 rfl ?_
    refine x_get h fl_10_88 lvz_10 dX10_begin_82 (pvf_567 _ _) ?_
    refine x_iload_n h dX10_begin_85 rfl ?_
    refine x_lald h kdf_67 lvz_67 dX10_begin_86 rfl (by omega) ?_
    rw [g67]
    refine x_ldc2 (x := 200) h dX10_begin_87 klX10_322 (by decide) ?_
    refine x_lc_le (tgt := 111) h (by omega) dX10_begin_90 dX10_begin_91 (by decide) (fun _ => ?_) (fun q => absurd (by omega) q)
    refine x_iconst h dX10_begin_111 ?_
    refine x_istore h dX10_begin_112 (by decide) ?_
    exact x_loc (ls' := [(0, vR 10 0), (1, vI k), (2, vI (-9)), (4, vI u), (5, vI ((0 : Nat) : Int))]) ⟨rfl, rfl, rfl, rfl, rfl, trivial⟩ goal
/-- a TABLE with a bad SIZE -/
theorem m_beginB (hS : SOk S n) (hst : SRl S n σ) (hk : k < n) (hH : HR n S D σ) (hD : DW S D) (hu : σ 10 0 55 = u) (hu2 : u < 12) (hsz : ¬ (0 ≤ sSz S k ∧ sSz S k ≤ 200)) (hp : D 8 0 1 < 2147483600) : ∃ σ', FrG σ' σ ∧ LowR u σ' σ ∧ (σ' 86 0 u = k ∧ σ' 87 0 u = -9) ∧ σ' 10 0 55 = ((u + 1 : Nat) : Int) ∧ HM n S u (u + 1) (up3 (bNote (up3 D 5 k 8 1) 0 k (-9) a 0) 5 k 8 3) σ' ∧ Ct (d + 1) mX10_begin 1 [vR 10 0, vI k, vI (-9), vI a] NALL σ (some (vI (if sSz S k < 0 then 3 else 4))) NALL σ' 0 0 := by
  have hn := hS.1
  obtain ⟨⟨s1, s2, s3, s4, s5⟩, -⟩ := hst.2 k hk
  obtain ⟨si1, si2⟩ := (hS.2 k hk).1
  obtain ⟨b, hb⟩ : ∃ b : Nat, D 8 0 1 = b := ⟨(D 8 0 1).toNat, by have := hD.2.1.1; omega⟩
  have hb44 : σ 10 0 44 = b := by rw [hH.2.1]; exact hb
  obtain ⟨T4, t4⟩ : ∃ x, x = bgS σ b u k (-9) a := ⟨_, rfl⟩
  obtain ⟨T5, t5⟩ : ∃ x, x = up3 T4 71 0 k 1 := ⟨_, rfl⟩
  have o5 : ∀ f k' j, f ≠ 71 → ¬ (75 ≤ f ∧ f ≤ 77) → ¬ (f = 10 ∧ (j = 44 ∨ j = 55)) → ¬ ((f = 86 ∨ f = 87) ∧ j = u) → T5 f k' j = σ f k' j := fun f k' j q1 q2 q3 q4 => by rw [t5, up3_f _ _ q1, t4, bgS_o (by omega)]
  have f86 : T5 86 0 u = k := by rw [t5, up3_f _ _ (by omega), t4]; exact bgS_86
  have f87 : T5 87 0 u = -9 := by rw [t5, up3_f _ _ (by omega), t4]; exact bgS_87
  have hfr : ∀ j r, FrI T5 u (u + 1) j r → j = k ∧ r = -9 := fun j r ⟨i, i1, i2, i3, i4⟩ => by
    obtain rfl : i = u := by omega
    rw [f86] at i3
    rw [f87] at i4
    omega
  have e5 : ∀ j, up3 (bNote (up3 D 5 k 8 1) 0 k (-9) a 0) 5 k 8 3 5 j 8 = if j = k then 3 else D 5 j 8 := fun j => by
    by_cases q : j = k
    · subst q; rw [up3_s, if_pos rfl]
    · rw [up3_k _ _ q, if_neg q, show bNote (up3 D 5 k 8 1) 0 k (-9) a 0 5 j 8 = up3 D 5 k 8 1 5 j 8 from noteS_f _ _ _ _ _ _ _ ⟨by decide, by decide⟩ _ _, up3_k _ _ q]
  have e1 : ∀ f j r, f = 16 ∨ f = 17 → up3 (bNote (up3 D 5 k 8 1) 0 k (-9) a 0) 5 k 8 3 f j r = D f j r := fun f j r q => by
    rw [up3_f _ _ (by omega), show bNote (up3 D 5 k 8 1) 0 k (-9) a 0 f j r = up3 D 5 k 8 1 f j r from noteS_f _ _ _ _ _ _ _ ⟨by omega, by omega⟩ _ _, up3_f _ _ (by omega)]
  refine ⟨T5, fun f k' j q => o5 _ _ _ (by omega) (by omega) (by omega) (by omega), ⟨fun i f q1 q2 q3 => o5 _ _ _ (by omega) (by omega) (by omega) (by omega), fun j hj => o5 _ _ _ (by omega) (by omega) (by omega) (by omega)⟩, ⟨f86, f87⟩, by rw [t5, up3_f _ _ (by omega), t4]; exact bgS_55, ⟨fun j hj => ⟨fun z => ?_, fun z => ?_, fun z => ?_⟩, ?_⟩, ?_⟩
  · rw [e5, if_pos (hfr _ _ z).1]
  · have q : j ≠ k := fun q => z ⟨u, Nat.le_refl _, by omega, by rw [f86, q], f87⟩
    rw [e5, if_neg q, t5, up3_j _ _ q, t4, bgS_o (by omega)]
    exact (hH.1 j hj).1
  · rw [e5] at z
    have q : j ≠ k := fun q => by rw [if_pos q] at z; omega
    rw [if_neg q] at z
    obtain ⟨x1, x2, x3⟩ := (hH.1 j hj).2 z
    refine ⟨x1, fun y r hr => ⟨fun w => absurd (hfr _ _ w).1 q, fun _ => ?_⟩, fun p hp2 y => ?_⟩
    · rw [e1 _ _ _ (Or.inr rfl), o5 _ _ _ (by omega) (by omega) (by omega) (by omega)]
      exact x2 y r hr
    · rw [e1 _ _ _ (Or.inr rfl)] at y
      rw [e1 _ _ _ (Or.inl rfl), o5 _ _ _ (by omega) (by omega) (by omega) (by omega)]
      exact x3 p hp2 y
  · refine LgR_fr (bgS_L (σ := σ) (u := u) (k := k) (r := -9) (a := a) (D := up3 D 5 k 8 1) (b := b) (LgR_fr hH.2 (fun f k' j q => up3_f _ _ (by omega)) (fun _ _ _ => rfl)) (by rw [up3_f _ _ (by decide)]; exact hb)) (fun f k' j q => up3_f _ _ (by omega)) (fun f j q => ?_)
    rw [t5, up3_f _ _ (by omega), t4]
  · refine ct_of (by decide) (Nat.le_of_ble_eq_true rfl) (fun C h hr _ => ?_)
    have h : Ok C RX10 cX10_begin 6 _ := h
    refine bg_pre h hb44 (by omega) hu hu2 ?_
    rw [← t4]
    have g67 : T5 67 0 k = sSz S k := by rw [o5 _ _ _ (by omega) (by omega) (by omega) (by omega)]; exact s5
    refine x_iload_n h dX10_begin_57 rfl ?_
    refine x_bipush h dX10_begin_58 (by decide) ?_
    refine x_ic_ne_F (tgt := 209) h (by omega) dX10_begin_60 (by decide) (by omega) ?_
    refine x_aload_n h dX10_begin_63 rfl ?_
    refine x_get h fl_10_100 lvz_10 dX10_begin_64 (pvf_571 _ _) ?_
    refine x_iload_n h dX10_begin_67 rfl ?_
    refine x_iconst h dX10_begin_68 ?_
    refine x_iast h kdf_71 lvz_71 dX10_begin_69 rfl (by omega) ?_
    rw [← t5]
    refine x_aload_n h dX10_begin_70 rfl ?_
    refine x_get h fl_10_88 lvz_10 dX10_begin_71 (pvf_567 _ _) ?_
    refine x_iload_n h dX10_begin_74 rfl ?_
    refine x_lald h kdf_67 lvz_67 dX10_begin_75 rfl (by omega) ?_
    rw [g67]
    by_cases hneg : sSz S k < 0
    · rw [if_pos hneg] at hr
      refine x_lconst0 h dX10_begin_76 ?_
      refine x_lc_lt (tgt := 94) h (by omega) dX10_begin_77 dX10_begin_78 (by decide) (fun _ => ?_) (fun q => absurd (by omega) q)
      refine x_aload_n h dX10_begin_94 rfl ?_
      refine x_get h fl_10_88 lvz_10 dX10_begin_95 (pvf_567 _ _) ?_
      refine x_iload_n h dX10_begin_98 rfl ?_
      refine x_lald h kdf_67 lvz_67 dX10_begin_99 rfl (by omega) ?_
      rw [g67]
      refine x_lconst0 h dX10_begin_100 ?_
      refine x_lc_ge (tgt := 109) h (by omega) dX10_begin_101 dX10_begin_102 (by decide) (fun q => absurd q (by omega)) (fun _ => ?_)
      refine x_iconst h dX10_begin_105 ?_
      refine x_goto (tgt := 110) h dX10_begin_106 (by decide) ?_
      exact x_ireturn h hr dX10_begin_110 (Or.inl rfl) ⟨Nat.le_refl _, Nat.le_refl _⟩
    · rw [if_neg hneg] at hr
      refine x_lconst0 h dX10_begin_76 ?_
      refine x_lc_lt (tgt := 94) h (by omega) dX10_begin_77 dX10_begin_78 (by decide) (fun q => absurd q (by omega)) (fun _ => ?_)
      refine x_aload_n h dX10_begin_81 rfl ?_
      refine x_get h fl_10_88 lvz_10 dX10_begin_82 (pvf_567 _ _) ?_
      refine x_iload_n h dX10_begin_85 rfl ?_
      refine x_lald h kdf_67 lvz_67 dX10_begin_86 rfl (by omega) ?_
      rw [g67]
      refine x_ldc2 (x := 200) h dX10_begin_87 klX10_322 (by decide) ?_
      refine x_lc_le (tgt := 111) h (by omega) dX10_begin_90 dX10_begin_91 (by decide) (fun q => absurd q (by omega)) (fun _ => ?_)
      refine x_aload_n h dX10_begin_94 rfl ?_
      refine x_get h fl_10_88 lvz_10 dX10_begin_95 (pvf_567 _ _) ?_
      refine x_iload_n h dX10_begin_98 rfl ?_
      refine x_lald h kdf_67 lvz_67 dX10_begin_99 rfl (by omega) ?_
      rw [g67]
      refine x_lconst0 h dX10_begin_100 ?_
      refine x_lc_ge (tgt := 109) h (by omega) dX10_begin_101 dX10_begin_102 (by decide) (fun _ => ?_) (fun q => absurd (by omega) q)
      refine x_iconst h dX10_begin_109 ?_
      exact x_ireturn h hr dX10_begin_110 (Or.inl rfl) ⟨Nat.le_refl _, Nat.le_refl _⟩
/-- a ROW's building begins -/
theorem m_beginR {r : Nat} (hS : SOk S n) (hst : SRl S n σ) (hk : k < n) (hr25 : r < 25) (hH : HR n S D σ) (hD : DW S D) (h5 : D 5 k 8 = 1 ∨ D 5 k 8 = 2) (h0 : D 17 k r = 0) (hb : sBy S k ≠ 0) (hu : σ 10 0 55 = u) (hu2 : u < 12) (hp : D 8 0 1 < 2147483600) : ∃ σ', FrG σ' σ ∧ LowR u σ' σ ∧ FrameAt σ' u k r ((8 * r : Nat) : Int) (if ((8 * r + 8 : Nat) : Int) < sSz S k then ((8 * r + 8 : Nat) : Int) else sSz S k) (σ 68 0 k) [] ∧ σ' 10 0 55 = ((u + 1 : Nat) : Int) ∧ HR n S (bNote (up3 D 17 k r 1) 0 k r a 0) σ' ∧ Ct (d + 1) mX10_begin 1 [vR 10 0, vI k, vI r, vI a] NALL σ (some (vI (-1))) NALL σ' 0 0 := by
  have hn := hS.1
  obtain ⟨⟨s1, s2, s3, s4, s5⟩, -⟩ := hst.2 k hk
  obtain ⟨hsz1, hsz2⟩ := ((hH.1 k hk).2 h5).1
  obtain ⟨b, hbb⟩ : ∃ b : Nat, D 8 0 1 = b := ⟨(D 8 0 1).toNat, by have := hD.2.1.1; omega⟩
  have hb44 : σ 10 0 44 = b := by rw [hH.2.1]; exact hbb
  obtain ⟨T4, t4⟩ : ∃ x, x = bgS σ b u k r a := ⟨_, rfl⟩
  obtain ⟨T5, t5⟩ : ∃ x, x = up3 T4 72 0 (25 * k + r) 1 := ⟨_, rfl⟩
  obtain ⟨T8, t8⟩ : ∃ x, x = up3 T5 88 0 u ((8 * r : Nat) : Int) := ⟨_, rfl⟩
  obtain ⟨T9, t9⟩ : ∃ x, x = up3 T8 89 0 u (if ((8 * r + 8 : Nat) : Int) < sSz S k then ((8 * r + 8 : Nat) : Int) else sSz S k) := ⟨_, rfl⟩
  obtain ⟨T10, t10⟩ : ∃ x, x = up3 T9 90 0 u (σ 68 0 k) := ⟨_, rfl⟩
  obtain ⟨T11, t11⟩ : ∃ x, x = up3 T10 91 0 u 0 := ⟨_, rfl⟩
  have o5 : ∀ f k' j, f ≠ 72 → ¬ (75 ≤ f ∧ f ≤ 77) → ¬ (f = 10 ∧ (j = 44 ∨ j = 55)) → ¬ ((f = 86 ∨ f = 87) ∧ j = u) → T5 f k' j = σ f k' j := fun f k' j q1 q2 q3 q4 => by rw [t5, up3_f _ _ q1, t4, bgS_o (by omega)]
  have o11 : ∀ f k' j, ¬ ((88 ≤ f ∧ f ≤ 91)) → T11 f k' j = T5 f k' j := fun f k' j q => by rw [t11, up3_f _ _ (by omega), t10, up3_f _ _ (by omega), t9, up3_f _ _ (by omega), t8, up3_f _ _ (by omega)]
  have e5 : ∀ j, bNote (up3 D 17 k r 1) 0 k r a 0 5 j 8 = D 5 j 8 := fun j => by
    rw [show bNote (up3 D 17 k r 1) 0 k r a 0 5 j 8 = up3 D 17 k r 1 5 j 8 from noteS_f _ _ _ _ _ _ _ ⟨by decide, by decide⟩ _ _, up3_f _ _ (by decide)]
  have e17 : ∀ j i, bNote (up3 D 17 k r 1) 0 k r a 0 17 j i = if j = k ∧ i = r then 1 else D 17 j i := fun j i => by
    rw [show bNote (up3 D 17 k r 1) 0 k r a 0 17 j i = up3 D 17 k r 1 17 j i from noteS_f _ _ _ _ _ _ _ ⟨by decide, by decide⟩ _ _]
    unfold up3
    by_cases q : j = k ∧ i = r
    · rw [if_pos ⟨rfl, q⟩, if_pos q]
    · rw [if_neg (fun z => q z.2), if_neg q]
  have e16 : ∀ j p, bNote (up3 D 17 k r 1) 0 k r a 0 16 j p = D 16 j p := fun j p => by
    rw [show bNote (up3 D 17 k r 1) 0 k r a 0 16 j p = up3 D 17 k r 1 16 j p from noteS_f _ _ _ _ _ _ _ ⟨by decide, by decide⟩ _ _, up3_f _ _ (by decide)]
  refine ⟨T11, fun f k' j q => ?_, ⟨fun i f q1 q2 q3 => ?_, fun j hj => ?_⟩, ⟨⟨?_, ?_⟩, ?_, ?_, ?_, ?_, trivial⟩, ?_, ⟨fun j hj => ⟨?_, fun z => ?_⟩, ?_⟩, ?_⟩
  · rw [o11 _ _ _ (by omega)]; exact o5 _ _ _ (by omega) (by omega) (by omega) (by omega)
  · rw [t11, up3_j _ _ (by omega), t10, up3_j _ _ (by omega), t9, up3_j _ _ (by omega), t8, up3_j _ _ (by omega)]; exact o5 _ _ _ (by omega) (by omega) (by omega) (by omega)
  · rw [o11 _ _ _ (by omega)]; exact o5 _ _ _ (by omega) (by omega) (by omega) (by omega)
  · rw [o11 _ _ _ (by omega), t5, up3_f _ _ (by omega), t4]; exact bgS_86
  · rw [o11 _ _ _ (by omega), t5, up3_f _ _ (by omega), t4]; exact bgS_87
  · rw [t11, up3_f _ _ (by omega), t10, up3_f _ _ (by omega), t9, up3_f _ _ (by omega), t8, up3_s]
  · rw [t11, up3_f _ _ (by omega), t10, up3_f _ _ (by omega), t9, up3_s]
  · rw [t11, up3_f _ _ (by omega), t10, up3_s]
  · rw [t11, up3_s]; rfl
  · rw [o11 _ _ _ (by omega), t5, up3_f _ _ (by omega), t4]; exact bgS_55
  · rw [e5, o11 _ _ _ (by omega), o5 _ _ _ (by omega) (by omega) (by omega) (by omega)]
    exact (hH.1 j hj).1
  · rw [e5] at z
    obtain ⟨x1, x2, x3⟩ := (hH.1 j hj).2 z
    refine ⟨x1, fun y i hi => ?_, fun p hp2 y => ?_⟩
    · rw [o11 _ _ _ (by omega), e17, t5]
      by_cases q : j = k ∧ i = r
      · obtain ⟨rfl, rfl⟩ := q
        rw [up3_s, if_pos ⟨rfl, rfl⟩]
      · rw [up3_j _ _ (by omega), if_neg q, t4, bgS_o (by omega)]
        exact x2 y i hi
    · rw [e17] at y
      rw [o11 _ _ _ (by omega), e16, o5 _ _ _ (by omega) (by omega) (by omega) (by omega)]
      refine x3 p hp2 (fun w => ?_)
      by_cases q : j = k ∧ p / 8 = r
      · obtain ⟨rfl, q⟩ := q
        rw [q, h0] at w
        cases w
      · rw [if_neg q] at y
        exact y w
  · refine LgR_fr (bgS_L (σ := σ) (u := u) (k := k) (r := r) (a := a) (D := up3 D 17 k r 1) (b := b) (LgR_fr hH.2 (fun f k' j q => up3_f _ _ (by omega)) (fun _ _ _ => rfl)) (by rw [up3_f _ _ (by decide)]; exact hbb)) (fun f k' j q => rfl) (fun f j q => ?_)
    rw [o11 _ _ _ (by omega), t5, up3_f _ _ (by omega), t4]
  · refine ct_of (by decide) (Nat.le_of_ble_eq_true rfl) (fun C h hr _ => ?_)
    have h : Ok C RX10 cX10_begin 6 _ := h
    refine bg_pre h hb44 (by omega) hu hu2 ?_
    rw [← t4]
    have g67 : T8 67 0 k = sSz S k := by rw [t8, up3_f _ _ (by omega), o5 _ _ _ (by omega) (by omega) (by omega) (by omega)]; exact s5
    have g68 : T9 68 0 k = σ 68 0 k := by rw [t9, up3_f _ _ (by omega), t8, up3_f _ _ (by omega), o5 _ _ _ (by omega) (by omega) (by omega) (by omega)]
    have e8 : (8 : Int) * (r : Int) = ((8 * r : Nat) : Int) := by omega
    have e88 : ((8 * r : Nat) : Int) + 8 = ((8 * r + 8 : Nat) : Int) := by omega
    have tail2 : X C 1 273 [(0, vR 10 0), (1, vI k), (2, vI r), (4, vI u)] [vI (if ((8 * r + 8 : Nat) : Int) < sSz S k then ((8 * r + 8 : Nat) : Int) else sSz S k), vI u, vR 89 0] NALL T8 0 0 := by
      refine x_iast h kdf_89 lvz_89 dX10_begin_273 rfl (by omega) ?_
      rw [← t9]
      refine x_aload_n h dX10_begin_274 rfl ?_
      refine x_get h fl_10_142 lvz_10 dX10_begin_275 (pvf_590 _ _) ?_
      refine x_iload h dX10_begin_278 rfl ?_
      refine x_aload_n h dX10_begin_280 rfl ?_
      refine x_get h fl_10_91 lvz_10 dX10_begin_281 (pvf_568 _ _) ?_
      refine x_iload_n h dX10_begin_284 rfl ?_
      refine x_iald h kdf_68 lvz_68 dX10_begin_285 rfl (by omega) ?_
      rw [g68]
      refine x_iast h kdf_90 lvz_90 dX10_begin_286 rfl (by omega) ?_
      rw [← t10]
      refine x_aload_n h dX10_begin_287 rfl ?_
      refine x_get h fl_10_145 lvz_10 dX10_begin_288 (pvf_591 _ _) ?_
      refine x_iload h dX10_begin_291 rfl ?_
      refine x_iconst h dX10_begin_293 ?_
      refine x_iast h kdf_91 lvz_91 dX10_begin_294 rfl (by omega) ?_
      rw [← t11]
      refine x_iconst h dX10_begin_295 ?_
      exact x_ireturn h hr dX10_begin_296 (Or.inl rfl) ⟨Nat.le_refl _, Nat.le_refl _⟩
    refine x_iload_n h dX10_begin_57 rfl ?_
    refine x_bipush h dX10_begin_58 (by decide) ?_
    refine x_ic_ne_T (tgt := 209) h (by omega) dX10_begin_60 (by decide) (by omega) ?_
    refine x_aload_n h dX10_begin_209 rfl ?_
    refine x_get h fl_10_103 lvz_10 dX10_begin_210 (pvf_572 _ _) ?_
    refine x_bipush h dX10_begin_213 (by decide) ?_
    refine x_iload_n h dX10_begin_215 rfl ?_
    refine x_imul h dX10_begin_216 ?_
    refine x_iload_n h dX10_begin_217 rfl ?_
    refine x_iadd h dX10_begin_218 ?_
    refine x_iconst h dX10_begin_219 ?_
    refine x_iast (m := 25 * k + r) h kdf_72 lvz_72 dX10_begin_220 (by omega) (by omega) ?_
    rw [← t5]
    refine x_aload_n h dX10_begin_221 rfl ?_
    refine x_get h fl_10_136 lvz_10 dX10_begin_222 (pvf_588 _ _) ?_
    refine x_iload h dX10_begin_225 rfl ?_
    refine x_bipush h dX10_begin_227 (by decide) ?_
    refine x_iload_n h dX10_begin_229 rfl ?_
    refine x_imul h dX10_begin_230 ?_
    rw [e8]
    refine x_iast h kdf_88 lvz_88 dX10_begin_231 rfl (by omega) ?_
    rw [← t8]
    refine x_aload_n h dX10_begin_232 rfl ?_
    refine x_get h fl_10_139 lvz_10 dX10_begin_233 (pvf_589 _ _) ?_
    refine x_iload h dX10_begin_236 rfl ?_
    refine x_bipush h dX10_begin_238 (by decide) ?_
    refine x_iload_n h dX10_begin_240 rfl ?_
    refine x_imul h dX10_begin_241 ?_
    rw [e8]
    refine x_bipush h dX10_begin_242 (by decide) ?_
    refine x_iadd h dX10_begin_244 ?_
    rw [e88]
    refine x_i2l h (by omega) dX10_begin_245 ?_
    refine x_aload_n h dX10_begin_246 rfl ?_
    refine x_get h fl_10_88 lvz_10 dX10_begin_247 (pvf_567 _ _) ?_
    refine x_iload_n h dX10_begin_250 rfl ?_
    refine x_lald h kdf_67 lvz_67 dX10_begin_251 rfl (by omega) ?_
    rw [g67]
    by_cases hlt : ((8 * r + 8 : Nat) : Int) < sSz S k
    · rw [if_pos hlt] at tail2
      refine x_lc_ge (tgt := 266) h (by omega) dX10_begin_252 dX10_begin_253 (by decide) (fun q => absurd q (by omega)) (fun _ => ?_)
      refine x_bipush h dX10_begin_256 (by decide) ?_
      refine x_iload_n h dX10_begin_258 rfl ?_
      refine x_imul h dX10_begin_259 ?_
      rw [e8]
      refine x_bipush h dX10_begin_260 (by decide) ?_
      refine x_iadd h dX10_begin_262 ?_
      rw [e88]
      refine x_goto (tgt := 273) h dX10_begin_263 (by decide) ?_
      exact tail2
    · rw [if_neg hlt] at tail2
      refine x_lc_ge (tgt := 266) h (by omega) dX10_begin_252 dX10_begin_253 (by decide) (fun _ => ?_) (fun q => absurd (by omega) q)
      refine x_aload_n h dX10_begin_266 rfl ?_
      refine x_get h fl_10_88 lvz_10 dX10_begin_267 (pvf_567 _ _) ?_
      refine x_iload_n h dX10_begin_270 rfl ?_
      refine x_lald h kdf_67 lvz_67 dX10_begin_271 rfl (by omega) ?_
      rw [g67]
      refine x_l2i h dX10_begin_272 ?_
      exact tail2
end MB
