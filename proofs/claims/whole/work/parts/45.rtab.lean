/-! readTable of the reference -/
/-- what the reader of a TABLE may change at all -/
def FrA (σ' σ : Mm) : Prop := ∀ f k j, ¬ ((f = 10 ∧ 6 ≤ j ∧ j ≤ 31) ∨ (39 ≤ f ∧ f ≤ 59)) → σ' f k j = σ f k j
theorem FrA_refl (σ : Mm) : FrA σ σ := fun _ _ _ _ => rfl
theorem FrA_tr {a b c : Mm} (h : FrA a b) (h' : FrA b c) : FrA a c := fun f k j hf => (h f k j hf).trans (h' f k j hf)
theorem FrA_K {σ' σ : Mm} (h : FrK σ' σ) : FrA σ' σ := fun f k j hf => h f k j (by omega)
theorem FrA_T {m : Nat} {σ' σ : Mm} (h : FrJ m σ' σ) : FrA σ' σ := fun f k j hf => h f k j (by omega)
theorem FrA_up {σ' σ : Mm} (h : FrA σ' σ) {f k j : Nat} (x : Int) (hf : (f = 10 ∧ 6 ≤ j ∧ j ≤ 31) ∨ (39 ≤ f ∧ f ≤ 59)) : FrA (up3 σ' f k j x) σ := by
  intro f' k' j' hn
  have e : up3 σ' f k j x f' k' j' = σ' f' k' j' := by
    unfold up3
    rw [if_neg (fun z => hn (by obtain ⟨rfl, rfl, rfl⟩ := z; exact hf))]
  rw [e]
  exact h f' k' j' hn
section RT
variable {B : Nat → Int} {L N m : Nat}
theorem FA_up {σ : Mm} {e f k j : Nat} {x : Int} (h : FA B L σ e) (hf : ¬ (f = 10 ∧ (j = 6 ∨ j = 7))) : FA B L (up3 σ f k j x) e := ⟨by rw [up3_n _ (by omega)]; exact h.1, by rw [up3_n _ (by omega)]; exact h.2.1, h.2.2⟩
/-- from a pc on, a FAULT at the TOKEN e stays -/
def RF (B : Nat → Int) (L : Nat) (pc e : Nat) (τ : Mm) : Prop := ∃ σ', FrA σ' τ ∧ FA B L σ' e ∧ ∀ C : Cx, Ok C RX10 cX10_readTable 2 6 → Rt C 1 none none NALL σ' 0 0 → X C 1 pc [(0, vR 10 0)] [] NALL τ 0 0
theorem rf426 {e : Nat} {τ : Mm} (hm : m < 12) (hT : TS B L N m τ) (hF : FA B L τ e) : RF B L 426 e τ := by
  obtain ⟨k1, k2, k3⟩ := hF
  obtain ⟨t1, t2, t3, t4, t5, t6, t7, t8, t9⟩ := tok_in hT k3
  have hm8 := hT.2.2.2.2.1
  refine ⟨up3 τ 10 0 8 ((m : Int) + 1), FrA_up (FrA_refl τ) _ (by omega), FA_up ⟨k1, k2, k3⟩ (by omega), fun C h hr => ?_⟩
  refine x_aload_n h dX10_readTable_426 rfl ?_
  refine x_bipush h dX10_readTable_427 (by decide) ?_
  refine x_cV1 h kVX10_take lkX10_241 ⟨_, _, _, rfl, rfl⟩ dX10_readTable_429 (m_takeF (d := 0) (s := 59) hT k2 ⟨t8, t9⟩ k1 k3 (by decide)) lvz_10 rfl rfl (Nat.le_of_ble_eq_true rfl) (by omega) ?_
  refine x_pop h dX10_readTable_432 rfl ?_
  refine x_aload_n h dX10_readTable_433 rfl ?_
  refine x_dup h dX10_readTable_434 rfl ?_
  refine x_get (q := vI (m)) h fl_10_212 lvz_10 dX10_readTable_435 (congrArg vI (by first | exact hm8 | simp [up3, hm8])) ?_
  refine x_iconst h dX10_readTable_438 ?_
  refine x_iadd h dX10_readTable_439 ?_
  refine x_put h fl_10_212 lvz_10 dX10_readTable_440 rfl (fun z => absurd z (by decide)) ?_
  exact x_return h hr dX10_readTable_443 ⟨Nat.le_refl _, Nat.le_refl _⟩
theorem rf234 {e : Nat} {τ : Mm} (hm : m < 12) (hT : TS B L N m τ) (hF : FA B L τ e) : RF B L 234 e τ := by
  have hF0 := hF
  obtain ⟨k1, k2, k3⟩ := hF
  obtain ⟨t1, t2, t3, t4, t5, t6, t7, t8, t9⟩ := tok_in hT k3
  have hm8 := hT.2.2.2.2.1
  have ee : ((m : Nat) : Int) + 1 = ((m + 1 : Nat) : Int) := by omega
  have main : ∀ b : Int, (b = 0 ∨ b = 1) → (tK B e = 7 ↔ b = 1) → RF B L 234 e τ := by
    intro b hb hb2
    have e8 : up3 (up3 (up3 τ 44 0 (m + 1) (τ 10 0 16)) 42 0 m b) 43 0 m 0 10 0 8 = m := by rw [up3_n _ (by omega), up3_n _ (by omega), up3_n _ (by omega)]; exact hm8
    have e7 : up3 (up3 (up3 τ 44 0 (m + 1) (τ 10 0 16)) 42 0 m b) 43 0 m 0 10 0 7 = tQ B e := by rw [up3_n _ (by omega), up3_n _ (by omega), up3_n _ (by omega)]; exact k2
    have e42 : up3 (up3 (up3 τ 44 0 (m + 1) (τ 10 0 16)) 42 0 m b) 43 0 m 0 42 0 m = b := by rw [up3_n _ (by omega), up3_s]
    have g8 : up3 τ 44 0 (m + 1) (τ 10 0 16) 10 0 8 = m := by rw [up3_n _ (by omega)]; exact hm8
    have g8b : up3 (up3 τ 44 0 (m + 1) (τ 10 0 16)) 42 0 m b 10 0 8 = m := by rw [up3_n _ (by omega)]; exact g8
    have g6 : up3 τ 44 0 (m + 1) (τ 10 0 16) 10 0 6 = e := by rw [up3_n _ (by omega)]; exact k1
    have g33 : up3 τ 44 0 (m + 1) (τ 10 0 16) 33 0 e = tK B e := by rw [up3_n _ (by omega)]; exact t3
    have f1 : FrJ m (up3 (up3 (up3 τ 44 0 (m + 1) (τ 10 0 16)) 42 0 m b) 43 0 m 0) τ := FrJ_up (FrJ_up (FrJ_up (FrJ_refl m τ) _ (by omega)) _ (by omega)) _ (by omega)
    obtain ⟨σ', q1, q2, q3⟩ := rf426 hm (TS_frK hT (FrJ_K f1)) (FA_up (FA_up (FA_up hF0 (by omega)) (by omega)) (by omega))
    refine ⟨σ', FrA_tr q1 (FrA_T f1), q2, fun C h hr => ?_⟩
    have q := q3 C h hr
    have fin : X C 1 287 [(0, vR 10 0)] [] NALL (up3 (up3 (up3 τ 44 0 (m + 1) (τ 10 0 16)) 42 0 m b) 43 0 m 0) 0 0 := by
      rcases hb with rfl | rfl
      · refine x_aload_n h dX10_readTable_287 rfl ?_
        refine x_get h fl_10_34 lvz_10 dX10_readTable_288 (pvf_542 _ _) ?_
        refine x_aload_n h dX10_readTable_291 rfl ?_
        refine x_get (q := vI (m)) h fl_10_212 lvz_10 dX10_readTable_292 (congrArg vI (by first | exact e8 | simp [up3, e8])) ?_
        refine x_zald h kdf_42 lvz_42 dX10_readTable_295 rfl (by omega) ?_
        rw [e42]
        refine x_if_eq_T (tgt := 426) h (by omega) dX10_readTable_296 (by decide) (by omega) ?_
        exact q
      · refine x_aload_n h dX10_readTable_287 rfl ?_
        refine x_get h fl_10_34 lvz_10 dX10_readTable_288 (pvf_542 _ _) ?_
        refine x_aload_n h dX10_readTable_291 rfl ?_
        refine x_get (q := vI (m)) h fl_10_212 lvz_10 dX10_readTable_292 (congrArg vI (by first | exact e8 | simp [up3, e8])) ?_
        refine x_zald h kdf_42 lvz_42 dX10_readTable_295 rfl (by omega) ?_
        rw [e42]
        refine x_if_eq_F (tgt := 426) h (by omega) dX10_readTable_296 (by decide) (by omega) ?_
        refine x_aload_n h dX10_readTable_299 rfl ?_
        refine x_get (q := vI (tQ B e)) h fl_10_196 lvz_10 dX10_readTable_300 (congrArg vI (by first | exact e7 | simp [up3, e7])) ?_
        refine x_bipush h dX10_readTable_303 (by decide) ?_
        refine x_ic_ne_T (tgt := 426) h (by omega) dX10_readTable_305 (by decide) (by omega) ?_
        exact q
    refine x_aload_n h dX10_readTable_234 rfl ?_
    refine x_get h fl_10_40 lvz_10 dX10_readTable_235 (pvf_544 _ _) ?_
    refine x_aload_n h dX10_readTable_238 rfl ?_
    refine x_get (q := vI (m)) h fl_10_212 lvz_10 dX10_readTable_239 (congrArg vI (by first | exact hm8 | simp [up3, hm8])) ?_
    refine x_iconst h dX10_readTable_242 ?_
    refine x_iadd h dX10_readTable_243 ?_
    rw [ee]
    refine x_aload_n h dX10_readTable_244 rfl ?_
    refine x_get h fl_10_206 lvz_10 dX10_readTable_245 rfl ?_
    refine x_iast h kdf_44 lvz_44 dX10_readTable_248 rfl (by omega) ?_
    refine x_aload_n h dX10_readTable_249 rfl ?_
    refine x_get h fl_10_34 lvz_10 dX10_readTable_250 (pvf_542 _ _) ?_
    refine x_aload_n h dX10_readTable_253 rfl ?_
    refine x_get (q := vI (m)) h fl_10_212 lvz_10 dX10_readTable_254 (congrArg vI (by first | exact g8 | simp [up3, g8])) ?_
    refine x_aload_n h dX10_readTable_257 rfl ?_
    refine x_get h fl_10_13 lvz_10 dX10_readTable_258 (pvf_533 _ _) ?_
    refine x_aload_n h dX10_readTable_261 rfl ?_
    refine x_get (q := vI (e)) h fl_10_199 lvz_10 dX10_readTable_262 (congrArg vI (by first | exact g6 | simp [up3, g6])) ?_
    refine x_iald h kdf_33 lvz_33 dX10_readTable_265 rfl (by omega) ?_
    rw [g33]
    rcases hb with rfl | rfl
    · refine x_bipush h dX10_readTable_266 (by decide) ?_
      refine x_ic_ne_T (tgt := 275) h (by omega) dX10_readTable_268 (by decide) (by omega) ?_
      refine x_iconst h dX10_readTable_275 ?_
      refine x_zast h kdf_42 lvz_42 (by omega) dX10_readTable_276 rfl (by omega) ?_
      refine x_aload_n h dX10_readTable_277 rfl ?_
      refine x_get h fl_10_37 lvz_10 dX10_readTable_278 (pvf_543 _ _) ?_
      refine x_aload_n h dX10_readTable_281 rfl ?_
      refine x_get (q := vI (m)) h fl_10_212 lvz_10 dX10_readTable_282 (congrArg vI (by first | exact g8b | simp [up3, g8b])) ?_
      refine x_lconst0 h dX10_readTable_285 ?_
      refine x_last h kdf_43 lvz_43 dX10_readTable_286 rfl (by omega) ?_
      exact fin
    · refine x_bipush h dX10_readTable_266 (by decide) ?_
      refine x_ic_ne_F (tgt := 275) h (by omega) dX10_readTable_268 (by decide) (by omega) ?_
      refine x_iconst h dX10_readTable_271 ?_
      refine x_goto (tgt := 276) h dX10_readTable_272 (by decide) ?_
      refine x_zast h kdf_42 lvz_42 (by omega) dX10_readTable_276 rfl (by omega) ?_
      refine x_aload_n h dX10_readTable_277 rfl ?_
      refine x_get h fl_10_37 lvz_10 dX10_readTable_278 (pvf_543 _ _) ?_
      refine x_aload_n h dX10_readTable_281 rfl ?_
      refine x_get (q := vI (m)) h fl_10_212 lvz_10 dX10_readTable_282 (congrArg vI (by first | exact g8b | simp [up3, g8b])) ?_
      refine x_lconst0 h dX10_readTable_285 ?_
      refine x_last h kdf_43 lvz_43 dX10_readTable_286 rfl (by omega) ?_
      exact fin
  by_cases h7 : tK B e = 7
  · exact main 1 (Or.inr rfl) ⟨fun _ => rfl, fun _ => h7⟩
  · exact main 0 (Or.inl rfl) ⟨fun z => absurd z h7, fun z => absurd z (by decide)⟩
theorem rf208 {e : Nat} {τ : Mm} (hm : m < 12) (hT : TS B L N m τ) (hF : FA B L τ e) : RF B L 208 e τ := by
  have hF0 := hF
  obtain ⟨k1, k2, k3⟩ := hF
  obtain ⟨t1, t2, t3, t4, t5, t6, t7, t8, t9⟩ := tok_in hT k3
  have hm8 := hT.2.2.2.2.1
  have f1 : FrJ m (up3 τ 44 0 m (τ 10 0 16)) τ := FrJ_up (FrJ_refl m τ) _ (by omega)
  have e7 : up3 τ 44 0 m (τ 10 0 16) 10 0 7 = tQ B e := by rw [up3_n _ (by omega)]; exact k2
  obtain ⟨σ', q1, q2, q3⟩ := rf234 hm (TS_frK hT (FrJ_K f1)) (FA_up hF0 (by omega))
  refine ⟨σ', FrA_tr q1 (FrA_T f1), q2, fun C h hr => ?_⟩
  refine x_aload_n h dX10_readTable_208 rfl ?_
  refine x_get h fl_10_40 lvz_10 dX10_readTable_209 (pvf_544 _ _) ?_
  refine x_aload_n h dX10_readTable_212 rfl ?_
  refine x_get (q := vI (m)) h fl_10_212 lvz_10 dX10_readTable_213 (congrArg vI (by first | exact hm8 | simp [up3, hm8])) ?_
  refine x_aload_n h dX10_readTable_216 rfl ?_
  refine x_get h fl_10_206 lvz_10 dX10_readTable_217 rfl ?_
  refine x_iast h kdf_44 lvz_44 dX10_readTable_220 rfl (by omega) ?_
  refine x_aload_n h dX10_readTable_221 rfl ?_
  refine x_get (q := vI (tQ B e)) h fl_10_196 lvz_10 dX10_readTable_222 (congrArg vI (by first | exact e7 | simp [up3, e7])) ?_
  refine x_bipush h dX10_readTable_225 (by decide) ?_
  refine x_ic_ne_T (tgt := 234) h (by omega) dX10_readTable_227 (by decide) (by omega) ?_
  exact q3 C h hr
theorem rf201 {e : Nat} {τ : Mm} (hm : m < 12) (hT : TS B L N m τ) (hF : FA B L τ e) : RF B L 201 e τ := by
  have hF0 := hF
  obtain ⟨k1, k2, k3⟩ := hF
  obtain ⟨t1, t2, t3, t4, t5, t6, t7, t8, t9⟩ := tok_in hT k3
  obtain ⟨σ', q1, q2, q3⟩ := rf208 hm hT hF0
  refine ⟨σ', q1, q2, fun C h hr => ?_⟩
  refine x_aload_n h dX10_readTable_201 rfl ?_
  refine x_bipush h dX10_readTable_202 (by decide) ?_
  refine x_cV1 h kVX10_take lkX10_241 ⟨_, _, _, rfl, rfl⟩ dX10_readTable_204 (m_takeF (d := 0) (s := 61) hT k2 ⟨t8, t9⟩ k1 k3 (by decide)) lvz_10 rfl rfl (Nat.le_of_ble_eq_true rfl) (by omega) ?_
  refine x_pop h dX10_readTable_207 rfl ?_
  exact q3 C h hr
theorem rf126 {e : Nat} {τ : Mm} (hm : m < 12) (hT : TS B L N m τ) (hF : FA B L τ e) : RF B L 126 e τ := by
  have hF0 := hF
  obtain ⟨k1, k2, k3⟩ := hF
  obtain ⟨t1, t2, t3, t4, t5, t6, t7, t8, t9⟩ := tok_in hT k3
  have hm8 := hT.2.2.2.2.1
  have main : ∀ b : Int, (b = 0 ∨ b = 1) → (tK B e = 5 ↔ b = 1) → RF B L 126 e τ := by
    intro b hb hb2
    have g8 : up3 τ 41 0 m b 10 0 8 = m := by rw [up3_n _ (by omega)]; exact hm8
    have g6 : up3 τ 41 0 m b 10 0 6 = e := by rw [up3_n _ (by omega)]; exact k1
    have g33 : up3 τ 41 0 m b 33 0 e = tK B e := by rw [up3_n _ (by omega)]; exact t3
    have g41 : up3 τ 41 0 m b 41 0 m = b := up3_s _ _ _ _ _
    have f1 : FrJ m (up3 τ 41 0 m b) τ := FrJ_up (FrJ_refl m τ) _ (by omega)
    have g7 : up3 τ 41 0 m b 10 0 7 = tQ B e := by rw [up3_n _ (by omega)]; exact k2
    obtain ⟨σ', q1, q2, q3⟩ := rf201 hm (TS_frK hT (FrJ_K f1)) (FA_up hF0 (by omega))
    refine ⟨σ', FrA_tr q1 (FrA_T f1), q2, fun C h hr => ?_⟩
    have q := q3 C h hr
    have fin : X C 1 153 [(0, vR 10 0)] [] NALL (up3 τ 41 0 m b) 0 0 := by
      rcases hb with rfl | rfl
      · refine x_aload_n h dX10_readTable_153 rfl ?_
        refine x_aload_n h dX10_readTable_154 rfl ?_
        refine x_get h fl_10_30 lvz_10 dX10_readTable_155 (pvf_541 _ _) ?_
        refine x_aload_n h dX10_readTable_158 rfl ?_
        refine x_get (q := vI (m)) h fl_10_212 lvz_10 dX10_readTable_159 (congrArg vI (by first | exact g8 | simp [up3, g8])) ?_
        refine x_zald h kdf_41 lvz_41 dX10_readTable_162 rfl (by omega) ?_
        rw [g41]
        refine x_if_ne_F (tgt := 180) h (by omega) dX10_readTable_163 (by decide) (by omega) ?_
        refine x_aload_n h dX10_readTable_166 rfl ?_
        refine x_get h fl_10_13 lvz_10 dX10_readTable_167 (pvf_533 _ _) ?_
        refine x_aload_n h dX10_readTable_170 rfl ?_
        refine x_get (q := vI (e)) h fl_10_199 lvz_10 dX10_readTable_171 (congrArg vI (by first | exact g6 | simp [up3, g6])) ?_
        refine x_iald h kdf_33 lvz_33 dX10_readTable_174 rfl (by omega) ?_
        rw [g33]
        by_cases h6 : tK B e = 6
        · refine x_bipush h dX10_readTable_175 (by decide) ?_
          refine x_ic_ne_F (tgt := 184) h (by omega) dX10_readTable_177 (by decide) (by omega) ?_
          refine x_iconst h dX10_readTable_180 ?_
          refine x_goto (tgt := 185) h dX10_readTable_181 (by decide) ?_
          refine x_cV1 h kVX10_must lkX10_202 ⟨_, _, _, rfl, rfl⟩ dX10_readTable_185 (m_mustF (d := 0) (b := 1) g7 ⟨t8, t9⟩ (Or.inr rfl)) lvz_10 rfl rfl (Nat.le_of_ble_eq_true rfl) (by omega) ?_
          refine x_if_eq_T (tgt := 201) h (by omega) dX10_readTable_188 (by decide) (by omega) ?_
          exact q
        · refine x_bipush h dX10_readTable_175 (by decide) ?_
          refine x_ic_ne_T (tgt := 184) h (by omega) dX10_readTable_177 (by decide) (by omega) ?_
          refine x_iconst h dX10_readTable_184 ?_
          refine x_cV1 h kVX10_must lkX10_202 ⟨_, _, _, rfl, rfl⟩ dX10_readTable_185 (m_mustF (d := 0) (b := 0) g7 ⟨t8, t9⟩ (Or.inl rfl)) lvz_10 rfl rfl (Nat.le_of_ble_eq_true rfl) (by omega) ?_
          refine x_if_eq_T (tgt := 201) h (by omega) dX10_readTable_188 (by decide) (by omega) ?_
          exact q
      · refine x_aload_n h dX10_readTable_153 rfl ?_
        refine x_aload_n h dX10_readTable_154 rfl ?_
        refine x_get h fl_10_30 lvz_10 dX10_readTable_155 (pvf_541 _ _) ?_
        refine x_aload_n h dX10_readTable_158 rfl ?_
        refine x_get (q := vI (m)) h fl_10_212 lvz_10 dX10_readTable_159 (congrArg vI (by first | exact g8 | simp [up3, g8])) ?_
        refine x_zald h kdf_41 lvz_41 dX10_readTable_162 rfl (by omega) ?_
        rw [g41]
        refine x_if_ne_T (tgt := 180) h (by omega) dX10_readTable_163 (by decide) (by omega) ?_
        refine x_iconst h dX10_readTable_180 ?_
        refine x_goto (tgt := 185) h dX10_readTable_181 (by decide) ?_
        refine x_cV1 h kVX10_must lkX10_202 ⟨_, _, _, rfl, rfl⟩ dX10_readTable_185 (m_mustF (d := 0) (b := 1) g7 ⟨t8, t9⟩ (Or.inr rfl)) lvz_10 rfl rfl (Nat.le_of_ble_eq_true rfl) (by omega) ?_
        refine x_if_eq_T (tgt := 201) h (by omega) dX10_readTable_188 (by decide) (by omega) ?_
        exact q
    refine x_aload_n h dX10_readTable_126 rfl ?_
    refine x_get h fl_10_30 lvz_10 dX10_readTable_127 (pvf_541 _ _) ?_
    refine x_aload_n h dX10_readTable_130 rfl ?_
    refine x_get (q := vI (m)) h fl_10_212 lvz_10 dX10_readTable_131 (congrArg vI (by first | exact hm8 | simp [up3, hm8])) ?_
    refine x_aload_n h dX10_readTable_134 rfl ?_
    refine x_get h fl_10_13 lvz_10 dX10_readTable_135 (pvf_533 _ _) ?_
    refine x_aload_n h dX10_readTable_138 rfl ?_
    refine x_get (q := vI (e)) h fl_10_199 lvz_10 dX10_readTable_139 (congrArg vI (by first | exact k1 | simp [up3, k1])) ?_
    refine x_iald h kdf_33 lvz_33 dX10_readTable_142 rfl (by omega) ?_
    rw [t3]
    rcases hb with rfl | rfl
    · refine x_iconst h dX10_readTable_143 ?_
      refine x_ic_ne_T (tgt := 151) h (by omega) dX10_readTable_144 (by decide) (by omega) ?_
      refine x_iconst h dX10_readTable_151 ?_
      refine x_zast h kdf_41 lvz_41 (by omega) dX10_readTable_152 rfl (by omega) ?_
      exact fin
    · refine x_iconst h dX10_readTable_143 ?_
      refine x_ic_ne_F (tgt := 151) h (by omega) dX10_readTable_144 (by decide) (by omega) ?_
      refine x_iconst h dX10_readTable_147 ?_
      refine x_goto (tgt := 152) h dX10_readTable_148 (by decide) ?_
      refine x_zast h kdf_41 lvz_41 (by omega) dX10_readTable_152 rfl (by omega) ?_
      exact fin
  by_cases h5 : tK B e = 5
  · exact main 1 (Or.inr rfl) ⟨fun _ => rfl, fun _ => h5⟩
  · exact main 0 (Or.inl rfl) ⟨fun z => absurd z h5, fun z => absurd z (by decide)⟩
theorem rf119 {e : Nat} {τ : Mm} (hm : m < 12) (hT : TS B L N m τ) (hF : FA B L τ e) : RF B L 119 e τ := by
  have hF0 := hF
  obtain ⟨k1, k2, k3⟩ := hF
  obtain ⟨t1, t2, t3, t4, t5, t6, t7, t8, t9⟩ := tok_in hT k3
  obtain ⟨σ', q1, q2, q3⟩ := rf126 hm hT hF0
  refine ⟨σ', q1, q2, fun C h hr => ?_⟩
  refine x_aload_n h dX10_readTable_119 rfl ?_
  refine x_bipush h dX10_readTable_120 (by decide) ?_
  refine x_cV1 h kVX10_take lkX10_241 ⟨_, _, _, rfl, rfl⟩ dX10_readTable_122 (m_takeF (d := 0) (s := 93) hT k2 ⟨t8, t9⟩ k1 k3 (by decide)) lvz_10 rfl rfl (Nat.le_of_ble_eq_true rfl) (by omega) ?_
  refine x_pop h dX10_readTable_125 rfl ?_
  exact q3 C h hr
theorem rf106 {e : Nat} {τ : Mm} (hm : m < 12) (hT : TS B L N m τ) (hF : FA B L τ e) : RF B L 106 e τ := by
  have hF0 := hF
  obtain ⟨k1, k2, k3⟩ := hF
  obtain ⟨t1, t2, t3, t4, t5, t6, t7, t8, t9⟩ := tok_in hT k3
  obtain ⟨σ', q1, q2, q3⟩ := rf119 hm hT hF0
  refine ⟨σ', q1, q2, fun C h hr => ?_⟩
  refine x_aload_n h dX10_readTable_106 rfl ?_
  refine x_get (q := vI (tQ B e)) h fl_10_196 lvz_10 dX10_readTable_107 (congrArg vI (by first | exact k2 | simp [up3, k2])) ?_
  refine x_bipush h dX10_readTable_110 (by decide) ?_
  refine x_ic_ne_T (tgt := 119) h (by omega) dX10_readTable_112 (by decide) (by omega) ?_
  exact q3 C h hr
theorem rf99 {e : Nat} {τ : Mm} (hm : m < 12) (hT : TS B L N m τ) (hF : FA B L τ e) : RF B L 99 e τ := by
  have hF0 := hF
  obtain ⟨k1, k2, k3⟩ := hF
  obtain ⟨t1, t2, t3, t4, t5, t6, t7, t8, t9⟩ := tok_in hT k3
  obtain ⟨σ', q1, q2, q3⟩ := rf106 hm hT hF0
  refine ⟨σ', q1, q2, fun C h hr => ?_⟩
  refine x_aload_n h dX10_readTable_99 rfl ?_
  refine x_bipush h dX10_readTable_100 (by decide) ?_
  refine x_cV1 h kVX10_take lkX10_241 ⟨_, _, _, rfl, rfl⟩ dX10_readTable_102 (m_takeF (d := 0) (s := 91) hT k2 ⟨t8, t9⟩ k1 k3 (by decide)) lvz_10 rfl rfl (Nat.le_of_ble_eq_true rfl) (by omega) ?_
  refine x_pop h dX10_readTable_105 rfl ?_
  exact q3 C h hr
/-- the end of a TABLE -/
theorem rt426F {i : Nat} {τ : Mm} (hm : m < 12) (hT : TS B L N m τ) (k6 : τ 10 0 6 = i) (k7 : τ 10 0 7 = -9) (hi : tq B i ≤ L) (hk : tK B i ≠ 59) : RF B L 426 i τ := by
  obtain ⟨t1, t2, t3, t4, t5, t6, t7, t8, t9⟩ := tok_in hT hi
  have hm8 := hT.2.2.2.2.1
  have g8 : up3 τ 10 0 7 (tQ B i) 10 0 8 = m := by rw [up3_n _ (by omega)]; exact hm8
  refine ⟨up3 (up3 τ 10 0 7 (tQ B i)) 10 0 8 ((m : Int) + 1), FrA_up (FrA_up (FrA_refl τ) _ (by omega)) _ (by omega), FA_up ⟨by rw [up3_n _ (by omega)]; exact k6, up3_s _ _ _ _ _, hi⟩ (by omega), fun C h hr => ?_⟩
  refine x_aload_n h dX10_readTable_426 rfl ?_
  refine x_bipush h dX10_readTable_427 (by decide) ?_
  refine x_cV1 h kVX10_take lkX10_241 ⟨_, _, _, rfl, rfl⟩ dX10_readTable_429 (m_take0 (d := 0) (s := 59) hT k7 k6 hi (by decide) hk) lvz_10 rfl rfl (Nat.le_of_ble_eq_true rfl) (by omega) ?_
  refine x_pop h dX10_readTable_432 rfl ?_
  refine x_aload_n h dX10_readTable_433 rfl ?_
  refine x_dup h dX10_readTable_434 rfl ?_
  refine x_get (q := vI (m)) h fl_10_212 lvz_10 dX10_readTable_435 (congrArg vI (by first | exact g8 | simp [up3, g8])) ?_
  refine x_iconst h dX10_readTable_438 ?_
  refine x_iadd h dX10_readTable_439 ?_
  refine x_put h fl_10_212 lvz_10 dX10_readTable_440 rfl (fun z => absurd z (by decide)) ?_
  exact x_return h hr dX10_readTable_443 ⟨Nat.le_refl _, Nat.le_refl _⟩
theorem rt426T {i : Nat} {τ : Mm} (hT : TS B L N m τ) (k6 : τ 10 0 6 = i) (k7 : τ 10 0 7 = -9) (hi : tq B i ≤ L) (hk : tK B i = 59) (C : Cx) (h : Ok C RX10 cX10_readTable 2 6) (hr : Rt C 1 none none NALL (up3 (up3 τ 10 0 6 ((i : Int) + 1)) 10 0 8 ((m : Int) + 1)) 0 0) : X C 1 426 [(0, vR 10 0)] [] NALL τ 0 0 := by
  have hm8 := hT.2.2.2.2.1
  have hm12 := hT.2.2.2.2.2
  have g8 : up3 τ 10 0 6 ((i : Int) + 1) 10 0 8 = m := by rw [up3_n _ (by omega)]; exact hm8
  refine x_aload_n h dX10_readTable_426 rfl ?_
  refine x_bipush h dX10_readTable_427 (by decide) ?_
  refine x_cV1 h kVX10_take lkX10_241 ⟨_, _, _, rfl, rfl⟩ dX10_readTable_429 (m_take1 (d := 0) (s := 59) hT k7 k6 hi hk) lvz_10 rfl rfl (Nat.le_of_ble_eq_true rfl) (by omega) ?_
  refine x_pop h dX10_readTable_432 rfl ?_
  refine x_aload_n h dX10_readTable_433 rfl ?_
  refine x_dup h dX10_readTable_434 rfl ?_
  refine x_get (q := vI (m)) h fl_10_212 lvz_10 dX10_readTable_435 (congrArg vI (by first | exact g8 | simp [up3, g8])) ?_
  refine x_iconst h dX10_readTable_438 ?_
  refine x_iadd h dX10_readTable_439 ?_
  refine x_put h fl_10_212 lvz_10 dX10_readTable_440 rfl (fun z => absurd z (by decide)) ?_
  exact x_return h hr dX10_readTable_443 ⟨Nat.le_refl _, Nat.le_refl _⟩
/-- what the end of a TABLE may change -/
def FrE (m : Nat) (σ' σ : Mm) : Prop := ∀ f k j, ¬ ((f = 10 ∧ (j = 6 ∨ j = 8)) ∨ (f = 44 ∧ j = m + 1) ∨ ((f = 42 ∨ f = 43) ∧ j = m)) → σ' f k j = σ f k j
theorem FrE_tr {a b c : Mm} (h : FrE m a b) (h' : FrE m b c) : FrE m a c := fun f k j hf => (h f k j hf).trans (h' f k j hf)
theorem FrE_up {σ' σ : Mm} (h : FrE m σ' σ) {f k j : Nat} (x : Int) (hf : (f = 10 ∧ (j = 6 ∨ j = 8)) ∨ (f = 44 ∧ j = m + 1) ∨ ((f = 42 ∨ f = 43) ∧ j = m)) : FrE m (up3 σ' f k j x) σ := by
  intro f' k' j' hn
  have e : up3 σ' f k j x f' k' j' = σ' f' k' j' := by
    unfold up3
    rw [if_neg (fun z => hn (by obtain ⟨rfl, rfl, rfl⟩ := z; exact hf))]
  rw [e]
  exact h f' k' j' hn
theorem FrE_A {σ' σ : Mm} (h : FrE m σ' σ) : FrA σ' σ := fun f k j hf => h f k j (by omega)
/-- the NUMBER behind 'sum' -/
theorem rt356 {i : Nat} {s : Int} {τ : Mm} (hm : m < 12) (hs : s = 0 ∨ s = 1) (hT : TS B L N m τ) (k6 : τ 10 0 6 = i) (k7 : τ 10 0 7 = -9) (hi : tq B i ≤ L) : if tK B i = 1 then (if tK B (i + 1) = 59 then tq B (i + 2) ≤ L ∧ ∃ σ', FrE m σ' τ ∧ (σ' 10 0 6 = ((i + 2 : Nat) : Int) ∧ σ' 10 0 8 = ((m + 1 : Nat) : Int) ∧ σ' 44 0 (m + 1) = τ 44 0 (m + 1) ∧ σ' 42 0 m = τ 42 0 m ∧ σ' 43 0 m = if s = 1 then -tV B i else tV B i) ∧ ∀ C : Cx, Ok C RX10 cX10_readTable 2 6 → Rt C 1 none none NALL σ' 0 0 → X C 1 356 [(0, vR 10 0), (1, vI s)] [] NALL τ 0 0
      else ∃ σ', FrA σ' τ ∧ FA B L σ' (i + 1) ∧ ∀ C : Cx, Ok C RX10 cX10_readTable 2 6 → Rt C 1 none none NALL σ' 0 0 → X C 1 356 [(0, vR 10 0), (1, vI s)] [] NALL τ 0 0)
    else ∃ σ', FrA σ' τ ∧ FA B L σ' i ∧ ∀ C : Cx, Ok C RX10 cX10_readTable 2 6 → Rt C 1 none none NALL σ' 0 0 → X C 1 356 [(0, vR 10 0), (1, vI s)] [] NALL τ 0 0 := by
  obtain ⟨t1, t2, t3, t4, t5, t6, t7, t8, t9⟩ := tok_in hT hi
  have hm8 := hT.2.2.2.2.1
  by_cases h1 : tK B i = 1
  · rw [if_pos h1]
    have hi1 : tq B (i + 1) ≤ L := adv_q hT.2.2.2.1 hi (by omega)
    have t5 := t5 (by omega)
    have ee : ((i : Nat) : Int) + 1 = ((i + 1 : Nat) : Int) := by omega
    have walk : ∀ C : Cx, Ok C RX10 cX10_readTable 2 6 → X C 1 426 [(0, vR 10 0)] [] NALL (up3 (up3 τ 43 0 m (if s = 1 then -tV B i else tV B i)) 10 0 6 ((i + 1 : Nat) : Int)) 0 0 → X C 1 356 [(0, vR 10 0), (1, vI s)] [] NALL τ 0 0 := fun C h hx => by
      have g6 : ∀ x : Int, up3 τ 43 0 m x 10 0 6 = i := fun x => by rw [up3_n _ (by omega)]; exact k6
      refine x_aload_n h dX10_readTable_356 rfl ?_
      refine x_aload_n h dX10_readTable_357 rfl ?_
      refine x_get h fl_10_13 lvz_10 dX10_readTable_358 (pvf_533 _ _) ?_
      refine x_aload_n h dX10_readTable_361 rfl ?_
      refine x_get (q := vI (i)) h fl_10_199 lvz_10 dX10_readTable_362 (congrArg vI (by first | exact k6 | simp [up3, k6])) ?_
      refine x_iald h kdf_33 lvz_33 dX10_readTable_365 rfl (by omega) ?_
      rw [t3]
      refine x_iconst h dX10_readTable_366 ?_
      refine x_ic_ne_F (tgt := 374) h (by omega) dX10_readTable_367 (by decide) (by omega) ?_
      refine x_iconst h dX10_readTable_370 ?_
      refine x_goto (tgt := 375) h dX10_readTable_371 (by decide) ?_
      refine x_cV1 h kVX10_must lkX10_202 ⟨_, _, _, rfl, rfl⟩ dX10_readTable_375 (m_must1 (d := 0) k7) lvz_10 rfl rfl (Nat.le_of_ble_eq_true rfl) (by omega) ?_
      refine x_if_eq_F (tgt := 426) h (by omega) dX10_readTable_378 (by decide) (by omega) ?_
      refine x_aload_n h dX10_readTable_381 rfl ?_
      refine x_get h fl_10_37 lvz_10 dX10_readTable_382 (pvf_543 _ _) ?_
      refine x_aload_n h dX10_readTable_385 rfl ?_
      refine x_get (q := vI (m)) h fl_10_212 lvz_10 dX10_readTable_386 (congrArg vI (by first | exact hm8 | simp [up3, hm8])) ?_
      rcases hs with rfl | rfl
      · refine x_iload_n h dX10_readTable_389 rfl ?_
        refine x_if_eq_T (tgt := 406) h (by omega) dX10_readTable_390 (by decide) (by omega) ?_
        refine x_aload_n h dX10_readTable_406 rfl ?_
        refine x_get h fl_10_20 lvz_10 dX10_readTable_407 (pvf_535 _ _) ?_
        refine x_aload_n h dX10_readTable_410 rfl ?_
        refine x_get (q := vI (i)) h fl_10_199 lvz_10 dX10_readTable_411 (congrArg vI (by first | exact k6 | simp [up3, k6])) ?_
        refine x_lald h kdf_35 lvz_35 dX10_readTable_414 rfl (by omega) ?_
        rw [t5]
        refine x_last h kdf_43 lvz_43 dX10_readTable_415 rfl (by omega) ?_
        refine x_aload_n h dX10_readTable_416 rfl ?_
        refine x_dup h dX10_readTable_417 rfl ?_
        refine x_get (q := vI (i)) h fl_10_199 lvz_10 dX10_readTable_418 (congrArg vI (by first | exact g6 _ | simp [up3, g6 _])) ?_
        refine x_iconst h dX10_readTable_421 ?_
        refine x_iadd h dX10_readTable_422 ?_
        rw [ee]
        refine x_put h fl_10_199 lvz_10 dX10_readTable_423 rfl (fun z => absurd z (by decide)) ?_
        exact x_loc (ls' := [(0, vR 10 0)]) ⟨rfl, trivial⟩ hx
      · refine x_iload_n h dX10_readTable_389 rfl ?_
        refine x_if_eq_F (tgt := 406) h (by omega) dX10_readTable_390 (by decide) (by omega) ?_
        refine x_aload_n h dX10_readTable_393 rfl ?_
        refine x_get h fl_10_20 lvz_10 dX10_readTable_394 (pvf_535 _ _) ?_
        refine x_aload_n h dX10_readTable_397 rfl ?_
        refine x_get (q := vI (i)) h fl_10_199 lvz_10 dX10_readTable_398 (congrArg vI (by first | exact k6 | simp [up3, k6])) ?_
        refine x_lald h kdf_35 lvz_35 dX10_readTable_401 rfl (by omega) ?_
        rw [t5]
        refine x_lneg h dX10_readTable_402 ?_
        refine x_goto (tgt := 415) h dX10_readTable_403 (by decide) ?_
        refine x_last h kdf_43 lvz_43 dX10_readTable_415 rfl (by omega) ?_
        refine x_aload_n h dX10_readTable_416 rfl ?_
        refine x_dup h dX10_readTable_417 rfl ?_
        refine x_get (q := vI (i)) h fl_10_199 lvz_10 dX10_readTable_418 (congrArg vI (by first | exact g6 _ | simp [up3, g6 _])) ?_
        refine x_iconst h dX10_readTable_421 ?_
        refine x_iadd h dX10_readTable_422 ?_
        rw [ee]
        refine x_put h fl_10_199 lvz_10 dX10_readTable_423 rfl (fun z => absurd z (by decide)) ?_
        exact x_loc (ls' := [(0, vR 10 0)]) ⟨rfl, trivial⟩ hx
    have f1 : FrE m (up3 (up3 τ 43 0 m (if s = 1 then -tV B i else tV B i)) 10 0 6 ((i + 1 : Nat) : Int)) τ := FrE_up (FrE_up (fun _ _ _ _ => rfl) _ (by omega)) _ (by omega)
    have f2 : FrJ m (up3 (up3 τ 43 0 m (if s = 1 then -tV B i else tV B i)) 10 0 6 ((i + 1 : Nat) : Int)) τ := FrJ_up (FrJ_up (FrJ_refl m τ) _ (by omega)) _ (by omega)
    have v6 : up3 (up3 τ 43 0 m (if s = 1 then -tV B i else tV B i)) 10 0 6 ((i + 1 : Nat) : Int) 10 0 6 = ((i + 1 : Nat) : Int) := up3_s _ _ _ _ _
    have v7 : up3 (up3 τ 43 0 m (if s = 1 then -tV B i else tV B i)) 10 0 6 ((i + 1 : Nat) : Int) 10 0 7 = -9 := by rw [up3_n _ (by omega), up3_n _ (by omega)]; exact k7
    have v43 : up3 (up3 τ 43 0 m (if s = 1 then -tV B i else tV B i)) 10 0 6 ((i + 1 : Nat) : Int) 43 0 m = if s = 1 then -tV B i else tV B i := by rw [up3_n _ (by omega), up3_s]
    have v44 : up3 (up3 τ 43 0 m (if s = 1 then -tV B i else tV B i)) 10 0 6 ((i + 1 : Nat) : Int) 44 0 (m + 1) = τ 44 0 (m + 1) := by rw [up3_n _ (by omega), up3_n _ (by omega)]
    have v42 : up3 (up3 τ 43 0 m (if s = 1 then -tV B i else tV B i)) 10 0 6 ((i + 1 : Nat) : Int) 42 0 m = τ 42 0 m := by rw [up3_n _ (by omega), up3_n _ (by omega)]
    generalize up3 (up3 τ 43 0 m (if s = 1 then -tV B i else tV B i)) 10 0 6 ((i + 1 : Nat) : Int) = τ1 at walk f1 f2 v6 v7 v43 v44 v42
    have hT1 : TS B L N m τ1 := TS_frK hT (FrJ_K f2)
    by_cases h59 : tK B (i + 1) = 59
    · rw [if_pos h59]
      refine ⟨adv_q hT.2.2.2.1 hi1 (by omega), up3 (up3 τ1 10 0 6 (((i + 1 : Nat) : Int) + 1)) 10 0 8 ((m : Int) + 1), FrE_up (FrE_up f1 _ (by omega)) _ (by omega), ⟨by rw [up3_n _ (by omega), up3_s]; omega, by rw [up3_s]; omega, by rw [up3_n _ (by omega), up3_n _ (by omega)]; exact v44, by rw [up3_n _ (by omega), up3_n _ (by omega)]; exact v42, by rw [up3_n _ (by omega), up3_n _ (by omega)]; exact v43⟩, fun C h hr => walk C h (rt426T hT1 v6 v7 hi1 h59 C h hr)⟩
    · rw [if_neg h59]
      obtain ⟨σ', q1, q2, q3⟩ := rt426F hm hT1 v6 v7 hi1 h59
      exact ⟨σ', FrA_tr q1 (FrE_A f1), q2, fun C h hr => walk C h (q3 C h hr)⟩
  · rw [if_neg h1]
    have f1 : FrJ m (up3 τ 10 0 7 (tQ B i)) τ := FrJ_up (FrJ_refl m τ) _ (by omega)
    obtain ⟨σ', q1, q2, q3⟩ := rf426 hm (TS_frK hT (FrJ_K f1)) (e := i) ⟨by rw [up3_n _ (by omega)]; exact k6, up3_s _ _ _ _ _, hi⟩
    refine ⟨σ', FrA_tr q1 (FrA_T f1), q2, fun C h hr => ?_⟩
    refine x_aload_n h dX10_readTable_356 rfl ?_
    refine x_aload_n h dX10_readTable_357 rfl ?_
    refine x_get h fl_10_13 lvz_10 dX10_readTable_358 (pvf_533 _ _) ?_
    refine x_aload_n h dX10_readTable_361 rfl ?_
    refine x_get (q := vI (i)) h fl_10_199 lvz_10 dX10_readTable_362 (congrArg vI (by first | exact k6 | simp [up3, k6])) ?_
    refine x_iald h kdf_33 lvz_33 dX10_readTable_365 rfl (by omega) ?_
    rw [t3]
    refine x_iconst h dX10_readTable_366 ?_
    refine x_ic_ne_T (tgt := 374) h (by omega) dX10_readTable_367 (by decide) (by omega) ?_
    refine x_iconst h dX10_readTable_374 ?_
    refine x_cV1 h kVX10_must lkX10_202 ⟨_, _, _, rfl, rfl⟩ dX10_readTable_375 (m_must0 (d := 0) k7 k6 t2 t4 ⟨t8, t9⟩) lvz_10 rfl rfl (Nat.le_of_ble_eq_true rfl) (by omega) ?_
    refine x_if_eq_T (tgt := 426) h (by omega) dX10_readTable_378 (by decide) (by omega) ?_
    exact x_loc (ls' := [(0, vR 10 0)]) ⟨rfl, trivial⟩ (q3 C h hr)
theorem rt234 {i n : Nat} {τ : Mm} (hm : m < 12) (hT : TS B L N m τ) (k6 : τ 10 0 6 = i) (k7 : τ 10 0 7 = -9) (hi : tq B i ≤ L) (k16 : τ 10 0 16 = n) : match endF (tK B) (tV B) i with
    | .inl e => RF B L 234 e τ
    | .inr (i6, ip, pr) => tq B i6 ≤ L ∧ i < i6 ∧ ∃ σ', FrE m σ' τ ∧ (σ' 10 0 6 = i6 ∧ σ' 10 0 8 = ((m + 1 : Nat) : Int) ∧ σ' 44 0 (m + 1) = n ∧ σ' 42 0 m = ip ∧ σ' 43 0 m = pr) ∧ ∀ C : Cx, Ok C RX10 cX10_readTable 2 6 → Rt C 1 none none NALL σ' 0 0 → X C 1 234 [(0, vR 10 0)] [] NALL τ 0 0 := by
  obtain ⟨t1, t2, t3, t4, t5, t6, t7, t8, t9⟩ := tok_in hT hi
  have hm8 := hT.2.2.2.2.1
  have hB := hT.2.2.2.1
  have ee : ((m : Nat) : Int) + 1 = ((m + 1 : Nat) : Int) := by omega
  have pre : ∀ b : Int, (b = 0 ∨ b = 1) → (tK B i = 7 ↔ b = 1) → ∀ C : Cx, Ok C RX10 cX10_readTable 2 6 → X C 1 287 [(0, vR 10 0)] [] NALL (up3 (up3 (up3 τ 44 0 (m + 1) (n : Int)) 42 0 m b) 43 0 m 0) 0 0 → X C 1 234 [(0, vR 10 0)] [] NALL τ 0 0 := fun b hb hb2 C h hx => by
    have g8 : up3 τ 44 0 (m + 1) (n : Int) 10 0 8 = m := by rw [up3_n _ (by omega)]; exact hm8
    have g8b : up3 (up3 τ 44 0 (m + 1) (n : Int)) 42 0 m b 10 0 8 = m := by rw [up3_n _ (by omega)]; exact g8
    have g6 : up3 τ 44 0 (m + 1) (n : Int) 10 0 6 = i := by rw [up3_n _ (by omega)]; exact k6
    have g33 : up3 τ 44 0 (m + 1) (n : Int) 33 0 i = tK B i := by rw [up3_n _ (by omega)]; exact t3
    refine x_aload_n h dX10_readTable_234 rfl ?_
    refine x_get h fl_10_40 lvz_10 dX10_readTable_235 (pvf_544 _ _) ?_
    refine x_aload_n h dX10_readTable_238 rfl ?_
    refine x_get (q := vI (m)) h fl_10_212 lvz_10 dX10_readTable_239 (congrArg vI (by first | exact hm8 | simp [up3, hm8])) ?_
    refine x_iconst h dX10_readTable_242 ?_
    refine x_iadd h dX10_readTable_243 ?_
    rw [ee]
    refine x_aload_n h dX10_readTable_244 rfl ?_
    refine x_get (q := vI (n)) h fl_10_206 lvz_10 dX10_readTable_245 (congrArg vI (by first | exact k16 | simp [up3, k16])) ?_
    refine x_iast h kdf_44 lvz_44 dX10_readTable_248 rfl (by omega) ?_
    refine x_aload_n h dX10_readTable_249 rfl ?_
    refine x_get h fl_10_34 lvz_10 dX10_readTable_250 (pvf_542 _ _) ?_
    refine x_aload_n h dX10_readTable_253 rfl ?_
    refine x_get (q := vI (m)) h fl_10_212 lvz_10 dX10_readTable_254 (congrArg vI (by first | exact g8 | simp [up3, g8])) ?_
    refine x_aload_n h dX10_readTable_257 rfl ?_
    refine x_get h fl_10_13 lvz_10 dX10_readTable_258 (pvf_533 _ _) ?_
    refine x_aload_n h dX10_readTable_261 rfl ?_
    refine x_get (q := vI (i)) h fl_10_199 lvz_10 dX10_readTable_262 (congrArg vI (by first | exact g6 | simp [up3, g6])) ?_
    refine x_iald h kdf_33 lvz_33 dX10_readTable_265 rfl (by omega) ?_
    rw [g33]
    rcases hb with rfl | rfl
    · refine x_bipush h dX10_readTable_266 (by decide) ?_
      refine x_ic_ne_T (tgt := 275) h (by omega) dX10_readTable_268 (by decide) (by omega) ?_
      refine x_iconst h dX10_readTable_275 ?_
      refine x_zast h kdf_42 lvz_42 (by omega) dX10_readTable_276 rfl (by omega) ?_
      refine x_aload_n h dX10_readTable_277 rfl ?_
      refine x_get h fl_10_37 lvz_10 dX10_readTable_278 (pvf_543 _ _) ?_
      refine x_aload_n h dX10_readTable_281 rfl ?_
      refine x_get (q := vI (m)) h fl_10_212 lvz_10 dX10_readTable_282 (congrArg vI (by first | exact g8b | simp [up3, g8b])) ?_
      refine x_lconst0 h dX10_readTable_285 ?_
      refine x_last h kdf_43 lvz_43 dX10_readTable_286 rfl (by omega) ?_
      exact hx
    · refine x_bipush h dX10_readTable_266 (by decide) ?_
      refine x_ic_ne_F (tgt := 275) h (by omega) dX10_readTable_268 (by decide) (by omega) ?_
      refine x_iconst h dX10_readTable_271 ?_
      refine x_goto (tgt := 276) h dX10_readTable_272 (by decide) ?_
      refine x_zast h kdf_42 lvz_42 (by omega) dX10_readTable_276 rfl (by omega) ?_
      refine x_aload_n h dX10_readTable_277 rfl ?_
      refine x_get h fl_10_37 lvz_10 dX10_readTable_278 (pvf_543 _ _) ?_
      refine x_aload_n h dX10_readTable_281 rfl ?_
      refine x_get (q := vI (m)) h fl_10_212 lvz_10 dX10_readTable_282 (congrArg vI (by first | exact g8b | simp [up3, g8b])) ?_
      refine x_lconst0 h dX10_readTable_285 ?_
      refine x_last h kdf_43 lvz_43 dX10_readTable_286 rfl (by omega) ?_
      exact hx
  have fr : ∀ b : Int, FrE m (up3 (up3 (up3 τ 44 0 (m + 1) (n : Int)) 42 0 m b) 43 0 m 0) τ := fun b => FrE_up (FrE_up (FrE_up (fun _ _ _ _ => rfl) _ (by omega)) _ (by omega)) _ (by omega)
  have frT : ∀ b : Int, FrJ m (up3 (up3 (up3 τ 44 0 (m + 1) (n : Int)) 42 0 m b) 43 0 m 0) τ := fun b => FrJ_up (FrJ_up (FrJ_up (FrJ_refl m τ) _ (by omega)) _ (by omega)) _ (by omega)
  unfold endF
  by_cases h7 : tK B i = 7
  · rw [if_pos h7]
    have pre := pre 1 (Or.inr rfl) ⟨fun _ => rfl, fun _ => h7⟩
    have fr := fr 1
    have frT := frT 1
    have v6 : up3 (up3 (up3 τ 44 0 (m + 1) (n : Int)) 42 0 m 1) 43 0 m 0 10 0 6 = i := by rw [up3_n _ (by omega), up3_n _ (by omega), up3_n _ (by omega)]; exact k6
    have v7 : up3 (up3 (up3 τ 44 0 (m + 1) (n : Int)) 42 0 m 1) 43 0 m 0 10 0 7 = -9 := by rw [up3_n _ (by omega), up3_n _ (by omega), up3_n _ (by omega)]; exact k7
    have v8 : up3 (up3 (up3 τ 44 0 (m + 1) (n : Int)) 42 0 m 1) 43 0 m 0 10 0 8 = m := by rw [up3_n _ (by omega), up3_n _ (by omega), up3_n _ (by omega)]; exact hm8
    have v42 : up3 (up3 (up3 τ 44 0 (m + 1) (n : Int)) 42 0 m 1) 43 0 m 0 42 0 m = 1 := by rw [up3_n _ (by omega), up3_s]
    have v44 : up3 (up3 (up3 τ 44 0 (m + 1) (n : Int)) 42 0 m 1) 43 0 m 0 44 0 (m + 1) = n := by rw [up3_n _ (by omega), up3_n _ (by omega), up3_s]
    generalize up3 (up3 (up3 τ 44 0 (m + 1) (n : Int)) 42 0 m 1) 43 0 m 0 = τ1 at pre fr frT v6 v7 v8 v42 v44
    have hT1 : TS B L N m τ1 := TS_frK hT (FrJ_K frT)
    have hi1 : tq B (i + 1) ≤ L := adv_q hB hi (by omega)
    obtain ⟨s1, s2, s3, s4, s5, s6, s7, s8, s9⟩ := tok_in hT1 hi1
    have ei : ((i : Nat) : Int) + 1 = ((i + 1 : Nat) : Int) := by omega
    have ei2 : ((i + 1 : Nat) : Int) + 1 = ((i + 2 : Nat) : Int) := by omega
    have w6 : up3 τ1 10 0 6 ((i + 1 : Nat) : Int) 10 0 6 = ((i + 1 : Nat) : Int) := up3_s _ _ _ _ _
    have w33 : up3 τ1 10 0 6 ((i + 1 : Nat) : Int) 33 0 (i + 1) = tK B (i + 1) := by rw [up3_n _ (by omega)]; exact s3
    by_cases h45 : tK B (i + 1) = 45
    · rw [if_pos h45]
      have hi2 : tq B (i + 2) ≤ L := adv_q hB hi1 (by omega)
      have g1 : FrE m (up3 (up3 τ1 10 0 6 ((i + 1 : Nat) : Int)) 10 0 6 ((i + 2 : Nat) : Int)) τ1 := FrE_up (FrE_up (fun _ _ _ _ => rfl) _ (by omega)) _ (by omega)
      have g2 : FrJ m (up3 (up3 τ1 10 0 6 ((i + 1 : Nat) : Int)) 10 0 6 ((i + 2 : Nat) : Int)) τ1 := FrJ_up (FrJ_up (FrJ_refl m τ1) _ (by omega)) _ (by omega)
      have g := rt356 (i := i + 2) (s := 1) hm (Or.inr rfl) (TS_frK hT1 (FrJ_K g2)) (up3_s _ _ _ _ _) (by rw [up3_n _ (by omega), up3_n _ (by omega)]; exact v7) hi2
      have walk : ∀ C : Cx, Ok C RX10 cX10_readTable 2 6 → X C 1 356 [(0, vR 10 0), (1, vI 1)] [] NALL (up3 (up3 τ1 10 0 6 ((i + 1 : Nat) : Int)) 10 0 6 ((i + 2 : Nat) : Int)) 0 0 → X C 1 234 [(0, vR 10 0)] [] NALL τ 0 0 := fun C h hx => by
        refine pre C h ?_
        refine x_aload_n h dX10_readTable_287 rfl ?_
        refine x_get h fl_10_34 lvz_10 dX10_readTable_288 (pvf_542 _ _) ?_
        refine x_aload_n h dX10_readTable_291 rfl ?_
        refine x_get (q := vI (m)) h fl_10_212 lvz_10 dX10_readTable_292 (congrArg vI (by first | exact v8 | simp [up3, v8])) ?_
        refine x_zald h kdf_42 lvz_42 dX10_readTable_295 rfl (by omega) ?_
        rw [v42]
        refine x_if_eq_F (tgt := 426) h (by omega) dX10_readTable_296 (by decide) (by omega) ?_
        refine x_aload_n h dX10_readTable_299 rfl ?_
        refine x_get (q := vI (-9)) h fl_10_196 lvz_10 dX10_readTable_300 (congrArg vI (by first | exact v7 | simp [up3, v7])) ?_
        refine x_bipush h dX10_readTable_303 (by decide) ?_
        refine x_ic_ne_F (tgt := 426) h (by omega) dX10_readTable_305 (by decide) (by omega) ?_
        refine x_aload_n h dX10_readTable_308 rfl ?_
        refine x_dup h dX10_readTable_309 rfl ?_
        refine x_get (q := vI (i)) h fl_10_199 lvz_10 dX10_readTable_310 (congrArg vI (by first | exact v6 | simp [up3, v6])) ?_
        refine x_iconst h dX10_readTable_313 ?_
        refine x_iadd h dX10_readTable_314 ?_
        rw [ei]
        refine x_put h fl_10_199 lvz_10 dX10_readTable_315 rfl (fun z => absurd z (by decide)) ?_
        refine x_aload_n h dX10_readTable_318 rfl ?_
        refine x_get h fl_10_13 lvz_10 dX10_readTable_319 (pvf_533 _ _) ?_
        refine x_aload_n h dX10_readTable_322 rfl ?_
        refine x_get (q := vI ((i + 1 : Nat))) h fl_10_199 lvz_10 dX10_readTable_323 (congrArg vI (by first | exact w6 | simp [up3, w6])) ?_
        refine x_iald h kdf_33 lvz_33 dX10_readTable_326 rfl (by omega) ?_
        rw [w33]
        refine x_bipush h dX10_readTable_327 (by decide) ?_
        refine x_ic_ne_F (tgt := 336) h (by omega) dX10_readTable_329 (by decide) (by omega) ?_
        refine x_iconst h dX10_readTable_332 ?_
        refine x_goto (tgt := 337) h dX10_readTable_333 (by decide) ?_
        refine x_istore_n h dX10_readTable_337 (by decide) ?_
        refine x_aload_n h dX10_readTable_338 rfl ?_
        refine x_dup h dX10_readTable_339 rfl ?_
        refine x_get (q := vI ((i + 1 : Nat))) h fl_10_199 lvz_10 dX10_readTable_340 (congrArg vI (by first | exact w6 | simp [up3, w6])) ?_
        refine x_iload_n h dX10_readTable_343 rfl ?_
        refine x_if_eq_F (tgt := 351) h (by omega) dX10_readTable_344 (by decide) (by omega) ?_
        refine x_iconst h dX10_readTable_347 ?_
        refine x_goto (tgt := 352) h dX10_readTable_348 (by decide) ?_
        refine x_iadd h dX10_readTable_352 ?_
        rw [ei2]
        refine x_put h fl_10_199 lvz_10 dX10_readTable_353 rfl (fun z => absurd z (by decide)) ?_
        exact x_loc (ls' := [(0, vR 10 0), (1, vI 1)]) ⟨rfl, rfl, trivial⟩ hx
      by_cases h1 : tK B (i + 2) = 1
      · rw [if_pos h1]
        rw [if_pos h1] at g
        by_cases h59 : tK B (i + 3) = 59
        · rw [if_pos h59]
          rw [if_pos h59] at g
          obtain ⟨q0, σ', q1, ⟨r1, r2, r3, r4, r5⟩, q3⟩ := g
          refine ⟨q0, by omega, σ', FrE_tr (FrE_tr q1 g1) fr, ⟨r1, r2, by rw [r3, up3_n _ (by omega), up3_n _ (by omega)]; exact v44, by rw [r4, up3_n _ (by omega), up3_n _ (by omega)]; exact v42, by rw [r5, if_pos rfl]⟩, fun C h hr => walk C h (q3 C h hr)⟩
        · rw [if_neg h59]
          rw [if_neg h59] at g
          obtain ⟨σ', q1, q2, q3⟩ := g
          exact ⟨σ', FrA_tr q1 (FrA_tr (FrE_A g1) (FrE_A fr)), q2, fun C h hr => walk C h (q3 C h hr)⟩
      · rw [if_neg h1]
        rw [if_neg h1] at g
        obtain ⟨σ', q1, q2, q3⟩ := g
        exact ⟨σ', FrA_tr q1 (FrA_tr (FrE_A g1) (FrE_A fr)), q2, fun C h hr => walk C h (q3 C h hr)⟩
    · rw [if_neg h45]
      have g1 : FrE m (up3 (up3 τ1 10 0 6 ((i + 1 : Nat) : Int)) 10 0 6 ((i + 1 : Nat) : Int)) τ1 := FrE_up (FrE_up (fun _ _ _ _ => rfl) _ (by omega)) _ (by omega)
      have g2 : FrJ m (up3 (up3 τ1 10 0 6 ((i + 1 : Nat) : Int)) 10 0 6 ((i + 1 : Nat) : Int)) τ1 := FrJ_up (FrJ_up (FrJ_refl m τ1) _ (by omega)) _ (by omega)
      have g := rt356 (i := i + 1) (s := 0) hm (Or.inl rfl) (TS_frK hT1 (FrJ_K g2)) (up3_s _ _ _ _ _) (by rw [up3_n _ (by omega), up3_n _ (by omega)]; exact v7) hi1
      have walk : ∀ C : Cx, Ok C RX10 cX10_readTable 2 6 → X C 1 356 [(0, vR 10 0), (1, vI 0)] [] NALL (up3 (up3 τ1 10 0 6 ((i + 1 : Nat) : Int)) 10 0 6 ((i + 1 : Nat) : Int)) 0 0 → X C 1 234 [(0, vR 10 0)] [] NALL τ 0 0 := fun C h hx => by
        refine pre C h ?_
        refine x_aload_n h dX10_readTable_287 rfl ?_
        refine x_get h fl_10_34 lvz_10 dX10_readTable_288 (pvf_542 _ _) ?_
        refine x_aload_n h dX10_readTable_291 rfl ?_
        refine x_get (q := vI (m)) h fl_10_212 lvz_10 dX10_readTable_292 (congrArg vI (by first | exact v8 | simp [up3, v8])) ?_
        refine x_zald h kdf_42 lvz_42 dX10_readTable_295 rfl (by omega) ?_
        rw [v42]
        refine x_if_eq_F (tgt := 426) h (by omega) dX10_readTable_296 (by decide) (by omega) ?_
        refine x_aload_n h dX10_readTable_299 rfl ?_
        refine x_get (q := vI (-9)) h fl_10_196 lvz_10 dX10_readTable_300 (congrArg vI (by first | exact v7 | simp [up3, v7])) ?_
        refine x_bipush h dX10_readTable_303 (by decide) ?_
        refine x_ic_ne_F (tgt := 426) h (by omega) dX10_readTable_305 (by decide) (by omega) ?_
        refine x_aload_n h dX10_readTable_308 rfl ?_
        refine x_dup h dX10_readTable_309 rfl ?_
        refine x_get (q := vI (i)) h fl_10_199 lvz_10 dX10_readTable_310 (congrArg vI (by first | exact v6 | simp [up3, v6])) ?_
        refine x_iconst h dX10_readTable_313 ?_
        refine x_iadd h dX10_readTable_314 ?_
        rw [ei]
        refine x_put h fl_10_199 lvz_10 dX10_readTable_315 rfl (fun z => absurd z (by decide)) ?_
        refine x_aload_n h dX10_readTable_318 rfl ?_
        refine x_get h fl_10_13 lvz_10 dX10_readTable_319 (pvf_533 _ _) ?_
        refine x_aload_n h dX10_readTable_322 rfl ?_
        refine x_get (q := vI ((i + 1 : Nat))) h fl_10_199 lvz_10 dX10_readTable_323 (congrArg vI (by first | exact w6 | simp [up3, w6])) ?_
        refine x_iald h kdf_33 lvz_33 dX10_readTable_326 rfl (by omega) ?_
        rw [w33]
        refine x_bipush h dX10_readTable_327 (by decide) ?_
        refine x_ic_ne_T (tgt := 336) h (by omega) dX10_readTable_329 (by decide) (by omega) ?_
        refine x_iconst h dX10_readTable_336 ?_
        refine x_istore_n h dX10_readTable_337 (by decide) ?_
        refine x_aload_n h dX10_readTable_338 rfl ?_
        refine x_dup h dX10_readTable_339 rfl ?_
        refine x_get (q := vI ((i + 1 : Nat))) h fl_10_199 lvz_10 dX10_readTable_340 (congrArg vI (by first | exact w6 | simp [up3, w6])) ?_
        refine x_iload_n h dX10_readTable_343 rfl ?_
        refine x_if_eq_T (tgt := 351) h (by omega) dX10_readTable_344 (by decide) (by omega) ?_
        refine x_iconst h dX10_readTable_351 ?_
        refine x_iadd h dX10_readTable_352 ?_
        rw [Int.add_zero]
        refine x_put h fl_10_199 lvz_10 dX10_readTable_353 rfl (fun z => absurd z (by decide)) ?_
        exact x_loc (ls' := [(0, vR 10 0), (1, vI 0)]) ⟨rfl, rfl, trivial⟩ hx
      by_cases h1 : tK B (i + 1) = 1
      · rw [if_pos h1]
        rw [if_pos h1] at g
        by_cases h59 : tK B (i + 2) = 59
        · rw [if_pos h59]
          rw [if_pos h59] at g
          obtain ⟨q0, σ', q1, ⟨r1, r2, r3, r4, r5⟩, q3⟩ := g
          refine ⟨q0, by omega, σ', FrE_tr (FrE_tr q1 g1) fr, ⟨r1, r2, by rw [r3, up3_n _ (by omega), up3_n _ (by omega)]; exact v44, by rw [r4, up3_n _ (by omega), up3_n _ (by omega)]; exact v42, by rw [r5, if_neg (by decide)]⟩, fun C h hr => walk C h (q3 C h hr)⟩
        · rw [if_neg h59]
          rw [if_neg h59] at g
          obtain ⟨σ', q1, q2, q3⟩ := g
          exact ⟨σ', FrA_tr q1 (FrA_tr (FrE_A g1) (FrE_A fr)), q2, fun C h hr => walk C h (q3 C h hr)⟩
      · rw [if_neg h1]
        rw [if_neg h1] at g
        obtain ⟨σ', q1, q2, q3⟩ := g
        exact ⟨σ', FrA_tr q1 (FrA_tr (FrE_A g1) (FrE_A fr)), q2, fun C h hr => walk C h (q3 C h hr)⟩
  · rw [if_neg h7]
    have pre := pre 0 (Or.inl rfl) ⟨fun z => absurd z h7, fun z => absurd z (by decide)⟩
    have fr := fr 0
    have frT := frT 0
    have v6 : up3 (up3 (up3 τ 44 0 (m + 1) (n : Int)) 42 0 m 0) 43 0 m 0 10 0 6 = i := by rw [up3_n _ (by omega), up3_n _ (by omega), up3_n _ (by omega)]; exact k6
    have v7 : up3 (up3 (up3 τ 44 0 (m + 1) (n : Int)) 42 0 m 0) 43 0 m 0 10 0 7 = -9 := by rw [up3_n _ (by omega), up3_n _ (by omega), up3_n _ (by omega)]; exact k7
    have v8 : up3 (up3 (up3 τ 44 0 (m + 1) (n : Int)) 42 0 m 0) 43 0 m 0 10 0 8 = m := by rw [up3_n _ (by omega), up3_n _ (by omega), up3_n _ (by omega)]; exact hm8
    have v42 : up3 (up3 (up3 τ 44 0 (m + 1) (n : Int)) 42 0 m 0) 43 0 m 0 42 0 m = 0 := by rw [up3_n _ (by omega), up3_s]
    have v43 : up3 (up3 (up3 τ 44 0 (m + 1) (n : Int)) 42 0 m 0) 43 0 m 0 43 0 m = 0 := up3_s _ _ _ _ _
    have v44 : up3 (up3 (up3 τ 44 0 (m + 1) (n : Int)) 42 0 m 0) 43 0 m 0 44 0 (m + 1) = n := by rw [up3_n _ (by omega), up3_n _ (by omega), up3_s]
    generalize up3 (up3 (up3 τ 44 0 (m + 1) (n : Int)) 42 0 m 0) 43 0 m 0 = τ1 at pre fr frT v6 v7 v8 v42 v43 v44
    have hT1 : TS B L N m τ1 := TS_frK hT (FrJ_K frT)
    have walk : ∀ C : Cx, Ok C RX10 cX10_readTable 2 6 → X C 1 426 [(0, vR 10 0)] [] NALL τ1 0 0 → X C 1 234 [(0, vR 10 0)] [] NALL τ 0 0 := fun C h hx => by
      refine pre C h ?_
      refine x_aload_n h dX10_readTable_287 rfl ?_
      refine x_get h fl_10_34 lvz_10 dX10_readTable_288 (pvf_542 _ _) ?_
      refine x_aload_n h dX10_readTable_291 rfl ?_
      refine x_get (q := vI (m)) h fl_10_212 lvz_10 dX10_readTable_292 (congrArg vI (by first | exact v8 | simp [up3, v8])) ?_
      refine x_zald h kdf_42 lvz_42 dX10_readTable_295 rfl (by omega) ?_
      rw [v42]
      refine x_if_eq_T (tgt := 426) h (by omega) dX10_readTable_296 (by decide) (by omega) ?_
      exact hx
    by_cases h59 : tK B i = 59
    · rw [if_pos h59]
      refine ⟨adv_q hB hi (by omega), by omega, up3 (up3 τ1 10 0 6 ((i : Int) + 1)) 10 0 8 ((m : Int) + 1), FrE_up (FrE_up fr _ (by omega)) _ (by omega), ⟨by rw [up3_n _ (by omega), up3_s]; omega, by rw [up3_s]; omega, by rw [up3_n _ (by omega), up3_n _ (by omega)]; exact v44, by rw [up3_n _ (by omega), up3_n _ (by omega)]; exact v42, by rw [up3_n _ (by omega), up3_n _ (by omega)]; exact v43⟩, fun C h hr => walk C h (rt426T hT1 v6 v7 hi h59 C h hr)⟩
    · rw [if_neg h59]
      obtain ⟨σ', q1, q2, q3⟩ := rt426F hm hT1 v6 v7 hi h59
      exact ⟨σ', FrA_tr q1 (FrE_A fr), q2, fun C h hr => walk C h (q3 C h hr)⟩
/-- 'whole' or 'rows' -/
theorem rt126F {i : Nat} {τ : Mm} (hm : m < 12) (hT : TS B L N m τ) (k6 : τ 10 0 6 = i) (k7 : τ 10 0 7 = -9) (hi : tq B i ≤ L) (hk : ¬ (tK B i = 6 ∨ tK B i = 5)) : RF B L 126 i τ := by
  obtain ⟨t1, t2, t3, t4, t5, t6, t7, t8, t9⟩ := tok_in hT hi
  have hm8 := hT.2.2.2.2.1
  have g8 : up3 τ 41 0 m 0 10 0 8 = m := by rw [up3_n _ (by omega)]; exact hm8
  have g6 : up3 τ 41 0 m 0 10 0 6 = i := by rw [up3_n _ (by omega)]; exact k6
  have g7 : up3 τ 41 0 m 0 10 0 7 = -9 := by rw [up3_n _ (by omega)]; exact k7
  have g33 : up3 τ 41 0 m 0 33 0 i = tK B i := by rw [up3_n _ (by omega)]; exact t3
  have g34 : up3 τ 41 0 m 0 34 0 i = tQ B i := by rw [up3_n _ (by omega)]; exact t4
  have g41 : up3 τ 41 0 m 0 41 0 m = 0 := up3_s _ _ _ _ _
  have f1 : FrJ m (up3 (up3 τ 41 0 m 0) 10 0 7 (tQ B i)) τ := FrJ_up (FrJ_up (FrJ_refl m τ) _ (by omega)) _ (by omega)
  obtain ⟨σ', q1, q2, q3⟩ := rf201 hm (TS_frK hT (FrJ_K f1)) (e := i) ⟨by rw [up3_n _ (by omega)]; exact g6, up3_s _ _ _ _ _, hi⟩
  refine ⟨σ', FrA_tr q1 (FrA_T f1), q2, fun C h hr => ?_⟩
  refine x_aload_n h dX10_readTable_126 rfl ?_
  refine x_get h fl_10_30 lvz_10 dX10_readTable_127 (pvf_541 _ _) ?_
  refine x_aload_n h dX10_readTable_130 rfl ?_
  refine x_get (q := vI (m)) h fl_10_212 lvz_10 dX10_readTable_131 (congrArg vI (by first | exact hm8 | simp [up3, hm8])) ?_
  refine x_aload_n h dX10_readTable_134 rfl ?_
  refine x_get h fl_10_13 lvz_10 dX10_readTable_135 (pvf_533 _ _) ?_
  refine x_aload_n h dX10_readTable_138 rfl ?_
  refine x_get (q := vI (i)) h fl_10_199 lvz_10 dX10_readTable_139 (congrArg vI (by first | exact k6 | simp [up3, k6])) ?_
  refine x_iald h kdf_33 lvz_33 dX10_readTable_142 rfl (by omega) ?_
  rw [t3]
  refine x_iconst h dX10_readTable_143 ?_
  refine x_ic_ne_T (tgt := 151) h (by omega) dX10_readTable_144 (by decide) (by omega) ?_
  refine x_iconst h dX10_readTable_151 ?_
  refine x_zast h kdf_41 lvz_41 (by omega) dX10_readTable_152 rfl (by omega) ?_
  refine x_aload_n h dX10_readTable_153 rfl ?_
  refine x_aload_n h dX10_readTable_154 rfl ?_
  refine x_get h fl_10_30 lvz_10 dX10_readTable_155 (pvf_541 _ _) ?_
  refine x_aload_n h dX10_readTable_158 rfl ?_
  refine x_get (q := vI (m)) h fl_10_212 lvz_10 dX10_readTable_159 (congrArg vI (by first | exact g8 | simp [up3, g8])) ?_
  refine x_zald h kdf_41 lvz_41 dX10_readTable_162 rfl (by omega) ?_
  rw [g41]
  refine x_if_ne_F (tgt := 180) h (by omega) dX10_readTable_163 (by decide) (by omega) ?_
  refine x_aload_n h dX10_readTable_166 rfl ?_
  refine x_get h fl_10_13 lvz_10 dX10_readTable_167 (pvf_533 _ _) ?_
  refine x_aload_n h dX10_readTable_170 rfl ?_
  refine x_get (q := vI (i)) h fl_10_199 lvz_10 dX10_readTable_171 (congrArg vI (by first | exact g6 | simp [up3, g6])) ?_
  refine x_iald h kdf_33 lvz_33 dX10_readTable_174 rfl (by omega) ?_
  rw [g33]
  refine x_bipush h dX10_readTable_175 (by decide) ?_
  refine x_ic_ne_T (tgt := 184) h (by omega) dX10_readTable_177 (by decide) (by omega) ?_
  refine x_iconst h dX10_readTable_184 ?_
  refine x_cV1 h kVX10_must lkX10_202 ⟨_, _, _, rfl, rfl⟩ dX10_readTable_185 (m_must0 (d := 0) g7 g6 t2 g34 ⟨t8, t9⟩) lvz_10 rfl rfl (Nat.le_of_ble_eq_true rfl) (by omega) ?_
  refine x_if_eq_T (tgt := 201) h (by omega) dX10_readTable_188 (by decide) (by omega) ?_
  exact q3 C h hr
theorem rt126T {i : Nat} {τ : Mm} {b : Int} (hm : m < 12) (hT : TS B L N m τ) (k6 : τ 10 0 6 = i) (k7 : τ 10 0 7 = -9) (hi : tq B i ≤ L) (hk : tK B i = 6 ∨ tK B i = 5) (hb : b = 1 - (if tK B i = 6 then 1 else 0)) (C : Cx) (h : Ok C RX10 cX10_readTable 2 6) (hx : X C 1 201 [(0, vR 10 0)] [] NALL (up3 (up3 τ 41 0 m b) 10 0 6 ((i + 1 : Nat) : Int)) 0 0) : X C 1 126 [(0, vR 10 0)] [] NALL τ 0 0 := by
  obtain ⟨t1, t2, t3, t4, t5, t6, t7, t8, t9⟩ := tok_in hT hi
  have hm8 := hT.2.2.2.2.1
  have g8 : up3 τ 41 0 m b 10 0 8 = m := by rw [up3_n _ (by omega)]; exact hm8
  have g6 : up3 τ 41 0 m b 10 0 6 = i := by rw [up3_n _ (by omega)]; exact k6
  have g7 : up3 τ 41 0 m b 10 0 7 = -9 := by rw [up3_n _ (by omega)]; exact k7
  have g33 : up3 τ 41 0 m b 33 0 i = tK B i := by rw [up3_n _ (by omega)]; exact t3
  have g41 : up3 τ 41 0 m b 41 0 m = b := up3_s _ _ _ _ _
  have ee : ((i : Nat) : Int) + 1 = ((i + 1 : Nat) : Int) := by omega
  refine x_aload_n h dX10_readTable_126 rfl ?_
  refine x_get h fl_10_30 lvz_10 dX10_readTable_127 (pvf_541 _ _) ?_
  refine x_aload_n h dX10_readTable_130 rfl ?_
  refine x_get (q := vI (m)) h fl_10_212 lvz_10 dX10_readTable_131 (congrArg vI (by first | exact hm8 | simp [up3, hm8])) ?_
  refine x_aload_n h dX10_readTable_134 rfl ?_
  refine x_get h fl_10_13 lvz_10 dX10_readTable_135 (pvf_533 _ _) ?_
  refine x_aload_n h dX10_readTable_138 rfl ?_
  refine x_get (q := vI (i)) h fl_10_199 lvz_10 dX10_readTable_139 (congrArg vI (by first | exact k6 | simp [up3, k6])) ?_
  refine x_iald h kdf_33 lvz_33 dX10_readTable_142 rfl (by omega) ?_
  rw [t3]
  rcases hk with h6 | h5
  · have hb : b = 0 := by rw [hb, if_pos h6]; rfl
    subst hb
    refine x_iconst h dX10_readTable_143 ?_
    refine x_ic_ne_T (tgt := 151) h (by omega) dX10_readTable_144 (by decide) (by omega) ?_
    refine x_iconst h dX10_readTable_151 ?_
    refine x_zast h kdf_41 lvz_41 (by omega) dX10_readTable_152 rfl (by omega) ?_
    refine x_aload_n h dX10_readTable_153 rfl ?_
    refine x_aload_n h dX10_readTable_154 rfl ?_
    refine x_get h fl_10_30 lvz_10 dX10_readTable_155 (pvf_541 _ _) ?_
    refine x_aload_n h dX10_readTable_158 rfl ?_
    refine x_get (q := vI (m)) h fl_10_212 lvz_10 dX10_readTable_159 (congrArg vI (by first | exact g8 | simp [up3, g8])) ?_
    refine x_zald h kdf_41 lvz_41 dX10_readTable_162 rfl (by omega) ?_
    rw [g41]
    refine x_if_ne_F (tgt := 180) h (by omega) dX10_readTable_163 (by decide) (by omega) ?_
    refine x_aload_n h dX10_readTable_166 rfl ?_
    refine x_get h fl_10_13 lvz_10 dX10_readTable_167 (pvf_533 _ _) ?_
    refine x_aload_n h dX10_readTable_170 rfl ?_
    refine x_get (q := vI (i)) h fl_10_199 lvz_10 dX10_readTable_171 (congrArg vI (by first | exact g6 | simp [up3, g6])) ?_
    refine x_iald h kdf_33 lvz_33 dX10_readTable_174 rfl (by omega) ?_
    rw [g33]
    refine x_bipush h dX10_readTable_175 (by decide) ?_
    refine x_ic_ne_F (tgt := 184) h (by omega) dX10_readTable_177 (by decide) (by omega) ?_
    refine x_iconst h dX10_readTable_180 ?_
    refine x_goto (tgt := 185) h dX10_readTable_181 (by decide) ?_
    refine x_cV1 h kVX10_must lkX10_202 ⟨_, _, _, rfl, rfl⟩ dX10_readTable_185 (m_must1 (d := 0) g7) lvz_10 rfl rfl (Nat.le_of_ble_eq_true rfl) (by omega) ?_
    refine x_if_eq_F (tgt := 201) h (by omega) dX10_readTable_188 (by decide) (by omega) ?_
    refine x_aload_n h dX10_readTable_191 rfl ?_
    refine x_dup h dX10_readTable_192 rfl ?_
    refine x_get (q := vI (i)) h fl_10_199 lvz_10 dX10_readTable_193 (congrArg vI (by first | exact g6 | simp [up3, g6])) ?_
    refine x_iconst h dX10_readTable_196 ?_
    refine x_iadd h dX10_readTable_197 ?_
    rw [ee]
    refine x_put h fl_10_199 lvz_10 dX10_readTable_198 rfl (fun z => absurd z (by decide)) ?_
    exact hx
  · have hb : b = 1 := by rw [hb, if_neg (by omega)]; rfl
    subst hb
    refine x_iconst h dX10_readTable_143 ?_
    refine x_ic_ne_F (tgt := 151) h (by omega) dX10_readTable_144 (by decide) (by omega) ?_
    refine x_iconst h dX10_readTable_147 ?_
    refine x_goto (tgt := 152) h dX10_readTable_148 (by decide) ?_
    refine x_zast h kdf_41 lvz_41 (by omega) dX10_readTable_152 rfl (by omega) ?_
    refine x_aload_n h dX10_readTable_153 rfl ?_
    refine x_aload_n h dX10_readTable_154 rfl ?_
    refine x_get h fl_10_30 lvz_10 dX10_readTable_155 (pvf_541 _ _) ?_
    refine x_aload_n h dX10_readTable_158 rfl ?_
    refine x_get (q := vI (m)) h fl_10_212 lvz_10 dX10_readTable_159 (congrArg vI (by first | exact g8 | simp [up3, g8])) ?_
    refine x_zald h kdf_41 lvz_41 dX10_readTable_162 rfl (by omega) ?_
    rw [g41]
    refine x_if_ne_T (tgt := 180) h (by omega) dX10_readTable_163 (by decide) (by omega) ?_
    refine x_iconst h dX10_readTable_180 ?_
    refine x_goto (tgt := 185) h dX10_readTable_181 (by decide) ?_
    refine x_cV1 h kVX10_must lkX10_202 ⟨_, _, _, rfl, rfl⟩ dX10_readTable_185 (m_must1 (d := 0) g7) lvz_10 rfl rfl (Nat.le_of_ble_eq_true rfl) (by omega) ?_
    refine x_if_eq_F (tgt := 201) h (by omega) dX10_readTable_188 (by decide) (by omega) ?_
    refine x_aload_n h dX10_readTable_191 rfl ?_
    refine x_dup h dX10_readTable_192 rfl ?_
    refine x_get (q := vI (i)) h fl_10_199 lvz_10 dX10_readTable_193 (congrArg vI (by first | exact g6 | simp [up3, g6])) ?_
    refine x_iconst h dX10_readTable_196 ?_
    refine x_iadd h dX10_readTable_197 ?_
    rw [ee]
    refine x_put h fl_10_199 lvz_10 dX10_readTable_198 rfl (fun z => absurd z (by decide)) ?_
    exact hx
/-- what the body of a TABLE may change -/
def FrB (m : Nat) (σ' σ : Mm) : Prop := ∀ f k j, ¬ ((f = 10 ∧ 6 ≤ j ∧ j ≤ 31 ∧ j ≠ 19) ∨ (46 ≤ f ∧ f ≤ 59 ∧ f ≠ 50 ∧ f ≠ 51) ∨ (41 ≤ f ∧ f ≤ 44 ∧ m ≤ j)) → σ' f k j = σ f k j
theorem FrB_tr {a b c : Mm} (h : FrB m a b) (h' : FrB m b c) : FrB m a c := fun f k j hf => (h f k j hf).trans (h' f k j hf)
theorem FrB_up {σ' σ : Mm} (h : FrB m σ' σ) {f k j : Nat} (x : Int) (hf : (f = 10 ∧ 6 ≤ j ∧ j ≤ 31 ∧ j ≠ 19) ∨ (46 ≤ f ∧ f ≤ 59 ∧ f ≠ 50 ∧ f ≠ 51) ∨ (41 ≤ f ∧ f ≤ 44 ∧ m ≤ j)) : FrB m (up3 σ' f k j x) σ := by
  intro f' k' j' hn
  have e : up3 σ' f k j x f' k' j' = σ' f' k' j' := by
    unfold up3
    rw [if_neg (fun z => hn (by obtain ⟨rfl, rfl, rfl⟩ := z; exact hf))]
  rw [e]
  exact h f' k' j' hn
theorem FrB_A {σ' σ : Mm} (h : FrB m σ' σ) : FrA σ' σ := fun f k j hf => h f k j (by omega)
/-- from readSum on -/
theorem rt208 {i : Nat} {A : List (Int × Int)} {U : List Us3} {τ : Mm} (hm : m < 12) (hT : TS B L N m τ) (hP : PRw τ i A U) (hi : tq B i ≤ L) (hA : A.length ≤ i) (hU : U.length ≤ i) : match (match sumF (tK B) (uF (tK B) (tV B) (tQ B) 11) 0 i with
      | .inl e => (.inl e : Nat ⊕ (Nat × List Zs × Int × Int))
      | .inr (i5, _, code) => match endF (tK B) (tV B) i5 with
        | .inl e => .inl e
        | .inr (i6, ip, pr) => .inr (i6, code, ip, pr)) with
    | .inl e => RF B L 208 e τ
    | .inr (i6, code, ip, pr) => tq B i6 ≤ L ∧ ∃ (N' : List (Int × Int)) (W : List Us3), NR (tK B) (tV B) (tQ B) A.length N' code ∧ WN (tK B) (tV B) (tQ B) m W code ∧ (A ++ N').length ≤ i6 ∧ (U ++ W).length ≤ i6 ∧ ∃ σ', FrB m σ' τ ∧ PRw σ' i6 (A ++ N') (U ++ W) ∧ (σ' 10 0 8 = ((m + 1 : Nat) : Int) ∧ σ' 44 0 m = A.length ∧ σ' 44 0 (m + 1) = (A ++ N').length ∧ σ' 41 0 m = τ 41 0 m ∧ σ' 42 0 m = ip ∧ σ' 43 0 m = pr) ∧ ∀ C : Cx, Ok C RX10 cX10_readTable 2 6 → Rt C 1 none none NALL σ' 0 0 → X C 1 208 [(0, vR 10 0)] [] NALL τ 0 0 := by
  have hm8 := hT.2.2.2.2.1
  have k16 := hP.2.2.1.1
  have k7 := hP.2.1
  have f1 : FrB m (up3 τ 44 0 m (A.length : Int)) τ := FrB_up (fun _ _ _ _ => rfl) _ (by omega)
  have f2 : FrJ m (up3 τ 44 0 m (A.length : Int)) τ := FrJ_up (FrJ_refl m τ) _ (by omega)
  have v44 : up3 τ 44 0 m (A.length : Int) 44 0 m = A.length := up3_s _ _ _ _ _
  have v41 : up3 τ 44 0 m (A.length : Int) 41 0 m = τ 41 0 m := up3_n _ (by omega)
  have v7 : up3 τ 44 0 m (A.length : Int) 10 0 7 = -9 := by rw [up3_n _ (by omega)]; exact k7
  have hP1 : PRw (up3 τ 44 0 m (A.length : Int)) i A U := PR_fr hP (fun f j q => up3_n _ (by omega))
  have walk : ∀ C : Cx, Ok C RX10 cX10_readTable 2 6 → X C 1 230 [(0, vR 10 0)] [] NALL (up3 τ 44 0 m (A.length : Int)) 0 0 → X C 1 208 [(0, vR 10 0)] [] NALL τ 0 0 := fun C h hx => by
    refine x_aload_n h dX10_readTable_208 rfl ?_
    refine x_get h fl_10_40 lvz_10 dX10_readTable_209 (pvf_544 _ _) ?_
    refine x_aload_n h dX10_readTable_212 rfl ?_
    refine x_get (q := vI (m)) h fl_10_212 lvz_10 dX10_readTable_213 (congrArg vI (by first | exact hm8 | simp [up3, hm8])) ?_
    refine x_aload_n h dX10_readTable_216 rfl ?_
    refine x_get (q := vI (A.length)) h fl_10_206 lvz_10 dX10_readTable_217 (congrArg vI (by first | exact k16 | simp [up3, k16])) ?_
    refine x_iast h kdf_44 lvz_44 dX10_readTable_220 rfl (by omega) ?_
    refine x_aload_n h dX10_readTable_221 rfl ?_
    refine x_get (q := vI (-9)) h fl_10_196 lvz_10 dX10_readTable_222 (congrArg vI (by first | exact v7 | simp [up3, v7])) ?_
    refine x_bipush h dX10_readTable_225 (by decide) ?_
    refine x_ic_ne_F (tgt := 234) h (by omega) dX10_readTable_227 (by decide) (by omega) ?_
    exact hx
  generalize up3 τ 44 0 m (A.length : Int) = τ1 at f1 f2 v44 v41 v7 hP1 walk
  have hT1 : TS B L N m τ1 := TS_frK hT (FrJ_K f2)
  have hs := rs_sim (tK B) (tV B) (tQ B) m i A U
  cases hv : sumF (tK B) (uF (tK B) (tV B) (tQ B) 11) 0 i with
  | inl e =>
    rw [hv] at hs
    obtain ⟨-, σ1, ⟨q1, q2⟩, hc⟩ := m_readSum hT1 hP1 hi hA hU hs
    obtain ⟨σ', r1, r2, r3⟩ := rf234 hm (TS_fr hT1 q1) q2
    refine ⟨σ', FrA_tr r1 (FrA_tr (FrA_K (FrK_P q1)) (FrA_T f2)), r2, fun C h hr => walk C h ?_⟩
    refine x_aload_n h dX10_readTable_230 rfl ?_
    refine x_cV0 h kVX10_readSum lkX10_273 ⟨_, _, _, rfl, rfl⟩ dX10_readTable_231 (hc) lvz_10 rfl rfl (Nat.le_of_ble_eq_true rfl) (by omega) ?_
    exact r3 C h hr
  | inr t =>
    obtain ⟨i5, u5, code⟩ := t
    rw [hv] at hs
    obtain ⟨N', W, hN, hW, hr0⟩ := hs
    obtain ⟨qi, σ1, ⟨q1, q2⟩, hc⟩ := m_readSum hT1 hP1 hi hA hU hr0
    have q2 : PRl σ1 i5 u5 0 (A ++ N') [] (U ++ W) := q2
    obtain ⟨⟨⟨b1, b2, b3, b4⟩, -⟩, -⟩ := qi
    have b1 : (A ++ N').length + 0 ≤ i5 := b1
    have b2 : (U ++ W).length ≤ i5 := b2
    have b4 : tq B i5 ≤ L := b4
    have hT2 := TS_fr hT1 q1
    have g := rt234 (n := (A ++ N').length) hm hT2 q2.1 q2.2.1 b4 q2.2.2.2.2.1.1
    show match (match endF (tK B) (tV B) i5 with | .inl e => (.inl e : Nat ⊕ (Nat × List Zs × Int × Int)) | .inr (i6, ip, pr) => .inr (i6, code, ip, pr)) with | .inl e => RF B L 208 e τ | .inr (i6, code, ip, pr) => _
    cases he : endF (tK B) (tV B) i5 with
    | inl e =>
      rw [he] at g
      obtain ⟨σ', r1, r2, r3⟩ := g
      refine ⟨σ', FrA_tr r1 (FrA_tr (FrA_K (FrK_P q1)) (FrA_T f2)), r2, fun C h hr => walk C h ?_⟩
      refine x_aload_n h dX10_readTable_230 rfl ?_
      refine x_cV0 h kVX10_readSum lkX10_273 ⟨_, _, _, rfl, rfl⟩ dX10_readTable_231 (hc) lvz_10 rfl rfl (Nat.le_of_ble_eq_true rfl) (by omega) ?_
      exact r3 C h hr
    | inr y =>
      obtain ⟨i6, ip, pr⟩ := y
      rw [he] at g
      obtain ⟨g1, g2, σ', r1, ⟨w6, w8, w44, w42, w43⟩, r3⟩ := g
      have fq : FrB m σ1 τ1 := fun f k j hf => q1 f k j (by omega)
      have fe : FrB m σ' σ1 := fun f k j hf => r1 f k j (by omega)
      refine ⟨g1, N', W, hN, hW, by omega, by omega, σ', FrB_tr fe (FrB_tr fq f1), ?_, ⟨w8, by rw [r1 _ _ _ (by omega), q1 _ _ _ (by omega)]; exact v44, w44, by rw [r1 _ _ _ (by omega), q1 _ _ _ (by omega)]; exact v41, w42, w43⟩, fun C h hr => walk C h ?_⟩
      · have h6 := PW_tok (PRw_l q2) i6
        refine PR_fr h6 (fun f j q => ?_)
        by_cases z : f = 10 ∧ j = 6
        · obtain ⟨rfl, rfl⟩ := z
          rw [up3_s]; exact w6
        · rw [up3_n _ (by omega), r1 _ _ _ (by omega)]
      · refine x_aload_n h dX10_readTable_230 rfl ?_
        refine x_cV0 h kVX10_readSum lkX10_273 ⟨_, _, _, rfl, rfl⟩ dX10_readTable_231 (hc) lvz_10 rfl rfl (Nat.le_of_ble_eq_true rfl) (by omega) ?_
        exact r3 C h hr
end RT
