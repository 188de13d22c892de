/-! readSize of the reference -/
/-- what the reader of a TABLE may change, but for the count of TABLES made -/
def FrK (σ' σ : Mm) : Prop := ∀ f k j, ¬ ((f = 10 ∧ 6 ≤ j ∧ j ≤ 31 ∧ j ≠ 8) ∨ (39 ≤ f ∧ f ≤ 59)) → σ' f k j = σ f k j
theorem FrK_refl (σ : Mm) : FrK σ σ := fun _ _ _ _ => rfl
theorem FrK_tr {a b c : Mm} (h : FrK a b) (h' : FrK b c) : FrK a c := fun f k j hf => (h f k j hf).trans (h' f k j hf)
theorem FrK_P {σ' σ : Mm} (h : FrP σ' σ) : FrK σ' σ := fun f k j hf => h f k j (by omega)
theorem FrK_up {σ' σ : Mm} (h : FrK σ' σ) {f k j : Nat} (x : Int) (hf : (f = 10 ∧ 6 ≤ j ∧ j ≤ 31 ∧ j ≠ 8) ∨ (39 ≤ f ∧ f ≤ 59)) : FrK (up3 σ' f k j x) σ := by
  intro f' k' j' hn
  have e : up3 σ' f k j x f' k' j' = σ' f' k' j' := by
    unfold up3
    rw [if_neg (fun z => hn (by obtain ⟨rfl, rfl, rfl⟩ := z; exact hf))]
  rw [e]
  exact h f' k' j' hn
theorem TS_frK {B : Nat → Int} {L N m : Nat} {σ σ' : Mm} (h : TS B L N m σ) (hf : FrK σ' σ) : TS B L N m σ' := by
  obtain ⟨h1, h2, h3, h4, h5, h6⟩ := h
  refine ⟨fun j hj => ?_, h2, h3, h4, by rw [hf _ _ _ (by omega)]; exact h5, h6⟩
  obtain ⟨a1, a2, a3⟩ := h1 j hj
  exact ⟨by rw [hf _ _ _ (by omega)]; exact a1, by rw [hf _ _ _ (by omega)]; exact a2, fun z => by rw [hf _ _ _ (by omega)]; exact a3 z⟩
/-- what the reader of a SIZE may change -/
def FrZ (σ' σ : Mm) : Prop := ∀ f k j, ¬ ((f = 10 ∧ (j = 6 ∨ j = 7 ∨ j = 19 ∨ j = 22)) ∨ f = 50 ∨ f = 51 ∨ f = 53 ∨ f = 54 ∨ f = 55) → σ' f k j = σ f k j
theorem FrZ_refl (σ : Mm) : FrZ σ σ := fun _ _ _ _ => rfl
theorem FrZ_tr {a b c : Mm} (h : FrZ a b) (h' : FrZ b c) : FrZ a c := fun f k j hf => (h f k j hf).trans (h' f k j hf)
theorem FrZ_K {σ' σ : Mm} (h : FrZ σ' σ) : FrK σ' σ := fun f k j hf => h f k j (by omega)
theorem FrZ_up {σ' σ : Mm} (h : FrZ σ' σ) {f k j : Nat} (x : Int) (hf : (f = 10 ∧ (j = 6 ∨ j = 7 ∨ j = 19 ∨ j = 22)) ∨ f = 50 ∨ f = 51 ∨ f = 53 ∨ f = 54 ∨ f = 55) : FrZ (up3 σ' f k j x) σ := by
  intro f' k' j' hn
  have e : up3 σ' f k j x f' k' j' = σ' f' k' j' := by
    unfold up3
    rw [if_neg (fun z => hn (by obtain ⟨rfl, rfl, rfl⟩ := z; exact hf))]
  rw [e]
  exact h f' k' j' hn
theorem PR_fr {σ σ' : Mm} {i : Nat} {A : List (Int × Int)} {U : List Us3} (h : PRw σ i A U) (hf : ∀ f j, ((f = 10 ∧ (j = 6 ∨ j = 7 ∨ j = 16 ∨ j = 22)) ∨ f = 47 ∨ f = 48 ∨ f = 53 ∨ f = 54 ∨ f = 55) → σ' f 0 j = σ f 0 j) : PRw σ' i A U := by
  obtain ⟨h1, h2, h5, h8⟩ := h
  exact ⟨by rw [hf _ _ (by omega)]; exact h1, by rw [hf _ _ (by omega)]; exact h2, ActsR_fr h5 (fun f j q => hf _ _ (by omega)), UseR_fr h8 (fun f j q => hf _ _ (by omega))⟩
theorem PW_tok {σ : Mm} {i : Nat} {A : List (Int × Int)} {U : List Us3} (h : PRw σ i A U) (x : Nat) : PRw (up3 σ 10 0 6 x) x A U := by
  obtain ⟨h1, h2, h5, h8⟩ := h
  exact ⟨up3_s _ _ _ _ _, by rw [up3_n _ (by omega)]; exact h2, ActsR_fr h5 (fun f j q => up3_n _ (by omega)), UseR_fr h8 (fun f j q => up3_n _ (by omega))⟩
theorem PW_use {σ : Mm} {i m b : Nat} {A : List (Int × Int)} {U : List Us3} (h : PRw σ i A U) : PRw (usS σ U.length m i b) (i + 1) A (U ++ [(i, m, b)]) ∧ FrP (usS σ U.length m i b) σ := by
  obtain ⟨h1, h2, h5, h8⟩ := h
  have fr : FrP (usS σ U.length m i b) σ := FrP_up (FrP_up (FrP_up (FrP_up (FrP_up (FrP_refl σ) _ (by omega)) _ (by omega)) _ (by omega)) _ (by omega)) _ (by omega)
  have n0 : ∀ f j, f ≠ 53 → f ≠ 54 → f ≠ 55 → ¬ (f = 10 ∧ (j = 22 ∨ j = 6)) → usS σ U.length m i b f 0 j = σ f 0 j := fun f j q1 q2 q3 q4 => by
    unfold usS
    rw [up3_n _ (by omega), up3_n _ (by omega), up3_n _ (by omega), up3_n _ (by omega), up3_n _ (by omega)]
  have n1 : ∀ f j, (f = 53 ∨ f = 54 ∨ f = 55) → j < U.length → usS σ U.length m i b f 0 j = σ f 0 j := fun f j q1 q2 => by
    unfold usS
    rw [up3_n _ (by omega), up3_n _ (by omega), up3_n _ (by omega), up3_n _ (by omega), up3_n _ (by omega)]
  refine ⟨⟨?_, by rw [n0 _ _ (by decide) (by decide) (by decide) (by omega)]; exact h2, ActsR_fr h5 (fun f j q => n0 _ _ (by omega) (by omega) (by omega) (by omega)), ?_, fun j hj => ?_⟩, fr⟩
  · unfold usS
    rw [up3_s]; omega
  · unfold usS
    rw [up3_n _ (by omega), up3_s, List.length_append]; rfl
  · rcases getD_app (d := ((0 : Nat), (0 : Nat), (0 : Nat))) hj with ⟨q1, q2⟩ | ⟨q1, q2⟩
    · rw [q2, n1 _ _ (by omega) q1, n1 _ _ (by omega) q1, n1 _ _ (by omega) q1]
      exact h8.2 j q1
    · rw [q2, q1]
      unfold usS
      refine ⟨?_, ?_, ?_⟩
      · rw [up3_n _ (by omega), up3_n _ (by omega), up3_n _ (by omega), up3_n _ (by omega), up3_s]
      · rw [up3_n _ (by omega), up3_n _ (by omega), up3_n _ (by omega), up3_s]
      · rw [up3_n _ (by omega), up3_n _ (by omega), up3_s]
theorem PRw_l {σ : Mm} {i u a : Nat} {A : List (Int × Int)} {S : List Fr3} {U : List Us3} (h : PRl σ i u a A S U) : PRw σ i A U := ⟨h.1, h.2.1, h.2.2.2.2.1, h.2.2.2.2.2.2⟩
/-- the parts of the SIZES -/
def PtR (σ : Mm) (P : List (Int × Int)) : Prop := σ 10 0 19 = P.length ∧ ∀ j, j < P.length → σ 50 0 j = (P.getD j (0, 0)).1 ∧ σ 51 0 j = (P.getD j (0, 0)).2
theorem PtR_fr {σ σ' : Mm} {P : List (Int × Int)} (h : PtR σ P) (hf : ∀ f j, ((f = 10 ∧ j = 19) ∨ f = 50 ∨ f = 51) → σ' f 0 j = σ f 0 j) : PtR σ' P := ⟨by rw [hf _ _ (by omega)]; exact h.1, fun j hj => ⟨by rw [hf _ _ (by omega)]; exact (h.2 j hj).1, by rw [hf _ _ (by omega)]; exact (h.2 j hj).2⟩⟩
theorem PtR_add {σ σ' : Mm} {P : List (Int × Int)} {x y : Int} (h : PtR σ P) (h1 : σ' 10 0 19 = (P.length : Int) + 1) (h2 : σ' 50 0 P.length = x) (h3 : σ' 51 0 P.length = y) (hf : ∀ f j, (f = 50 ∨ f = 51) → j < P.length → σ' f 0 j = σ f 0 j) : PtR σ' (P ++ [(x, y)]) := by
  refine ⟨by rw [h1, List.length_append]; rfl, fun j hj => ?_⟩
  rcases getD_app (d := ((0 : Int), (0 : Int))) hj with ⟨q1, q2⟩ | ⟨q1, q2⟩
  · rw [q2, hf _ _ (by omega) q1, hf _ _ (by omega) q1]
    exact h.2 j q1
  · rw [q2, q1]
    exact ⟨h2, h3⟩
abbrev sgz (k : Int) : Prop := k = 43 ∨ k = 45 ∨ k = 42
def rzP (K V : Nat → Int) (m : Nat) : Nat → Nat → Int → List (Int × Int) → List Us3 → Nat ⊕ (Nat × List (Int × Int) × List Us3)
  | 0, i, _, _, _ => .inl i
  | c + 1, i, how, P, U =>
    if K i = 35 then (if K (i + 1) = 2 then (if sgz (K (i + 2)) then rzP K V m c (i + 3) (K (i + 2)) (P ++ [(how, -1 - ((i + 1 : Nat) : Int))]) (U ++ [(i + 1, m, 1)])
        else .inr (i + 2, P ++ [(how, -1 - ((i + 1 : Nat) : Int))], U ++ [(i + 1, m, 1)])) else .inl (i + 1))
    else if K i = 1 then (if sgz (K (i + 1)) then rzP K V m c (i + 2) (K (i + 1)) (P ++ [(how, V i)]) U else .inr (i + 1, P ++ [(how, V i)], U))
    else .inl i
def ZR (σ : Mm) (i : Nat) (A : List (Int × Int)) (P : List (Int × Int)) (U : List Us3) : Prop := PRw σ i A U ∧ PtR σ P
def ZRs (B : Nat → Int) (L b : Nat) (A : List (Int × Int)) (σ' : Mm) (r : Nat ⊕ (Nat × List (Int × Int) × List Us3)) : Prop := match r with
  | .inl e => FA B L σ' e
  | .inr (i, P, U) => ZR σ' i A P U ∧ tq B i ≤ L ∧ A.length ≤ i ∧ U.length ≤ i ∧ P.length ≤ b
section ZS
variable {B : Nat → Int} {L N m : Nat}
/-- behind a part: a sign, or the end -/
theorem rz_tail {C : Cx} {d i many : Nat} {how : Int} {τ : Mm} (h : Ok C RX10 cX10_readSize 4 d) (hT : TS B L N m τ) (hf : τ 10 0 7 = -9) (hi : τ 10 0 6 = i) (hi2 : tq B i ≤ L)
    (h1 : sgz (tK B i) → X C 1 20 [(0, vR 10 0), (1, vI many), (2, vI 1), (3, vI (tK B i))] [] NALL (up3 τ 10 0 6 ((i + 1 : Nat) : Int)) 0 0)
    (h0 : ¬ sgz (tK B i) → X C 1 284 [(0, vR 10 0)] [] NALL (up3 τ 10 0 6 (i : Int)) 0 0) : X C 1 220 [(0, vR 10 0), (1, vI many), (2, vI 1), (3, vI how)] [] NALL τ 0 0 := by
  obtain ⟨t1, t2, t3, t4, t5, t6, t7, t8, t9⟩ := tok_in hT hi2
  have fin : sgz (tK B i) → X C 1 257 [(0, vR 10 0), (1, vI many), (2, vI 1), (3, vI (tK B i))] [] NALL τ 0 0 := fun z => by
    refine x_iconst h dX10_readSize_257 ?_
    refine x_goto (tgt := 262) h dX10_readSize_258 (by decide) ?_
    refine x_istore_n h dX10_readSize_262 (by decide) ?_
    refine x_aload_n h dX10_readSize_263 rfl ?_
    refine x_dup h dX10_readSize_264 rfl ?_
    refine x_get (q := vI (i)) h fl_10_199 lvz_10 dX10_readSize_265 (congrArg vI (by first | exact hi | simp [up3, hi])) ?_
    refine x_iload_n h dX10_readSize_268 rfl ?_
    refine x_if_eq_F (tgt := 276) h (by omega) dX10_readSize_269 (by decide) (by omega) ?_
    refine x_iconst h dX10_readSize_272 ?_
    refine x_goto (tgt := 277) h dX10_readSize_273 (by decide) ?_
    refine x_iadd h dX10_readSize_277 ?_
    refine x_put h fl_10_199 lvz_10 dX10_readSize_278 rfl (fun z => absurd z (by decide)) ?_
    refine x_goto (tgt := 20) h dX10_readSize_281 (by decide) ?_
    exact x_loc (ls' := [(0, vR 10 0), (1, vI many), (2, vI 1), (3, vI (tK B i))]) ⟨rfl, rfl, rfl, rfl, trivial⟩ (h1 z)
  refine x_aload_n h dX10_readSize_220 rfl ?_
  refine x_get h fl_10_13 lvz_10 dX10_readSize_221 (pvf_533 _ _) ?_
  refine x_aload_n h dX10_readSize_224 rfl ?_
  refine x_get (q := vI (i)) h fl_10_199 lvz_10 dX10_readSize_225 (congrArg vI (by first | exact hi | simp [up3, hi])) ?_
  refine x_iald h kdf_33 lvz_33 dX10_readSize_228 rfl (by omega) ?_
  rw [t3]
  refine x_istore_n h dX10_readSize_229 (by decide) ?_
  refine x_aload_n h dX10_readSize_230 rfl ?_
  refine x_get (q := vI (-9)) h fl_10_196 lvz_10 dX10_readSize_231 (congrArg vI (by first | exact hf | simp [up3, hf])) ?_
  refine x_bipush h dX10_readSize_234 (by decide) ?_
  refine x_ic_ne_F (tgt := 261) h (by omega) dX10_readSize_236 (by decide) (by omega) ?_
  by_cases k1 : tK B i = 43
  · refine x_iload_n h dX10_readSize_239 rfl ?_
    refine x_bipush h dX10_readSize_240 (by decide) ?_
    refine x_ic_eq_T (tgt := 257) h (by omega) dX10_readSize_242 (by decide) (by omega) ?_
    exact x_loc (ls' := [(0, vR 10 0), (1, vI many), (2, vI 1), (3, vI (tK B i))]) ⟨rfl, rfl, rfl, rfl, trivial⟩ (fin (Or.inl k1))
  by_cases k2 : tK B i = 45
  · refine x_iload_n h dX10_readSize_239 rfl ?_
    refine x_bipush h dX10_readSize_240 (by decide) ?_
    refine x_ic_eq_F (tgt := 257) h (by omega) dX10_readSize_242 (by decide) (by omega) ?_
    refine x_iload_n h dX10_readSize_245 rfl ?_
    refine x_bipush h dX10_readSize_246 (by decide) ?_
    refine x_ic_eq_T (tgt := 257) h (by omega) dX10_readSize_248 (by decide) (by omega) ?_
    exact x_loc (ls' := [(0, vR 10 0), (1, vI many), (2, vI 1), (3, vI (tK B i))]) ⟨rfl, rfl, rfl, rfl, trivial⟩ (fin (Or.inr (Or.inl k2)))
  by_cases k3 : tK B i = 42
  · refine x_iload_n h dX10_readSize_239 rfl ?_
    refine x_bipush h dX10_readSize_240 (by decide) ?_
    refine x_ic_eq_F (tgt := 257) h (by omega) dX10_readSize_242 (by decide) (by omega) ?_
    refine x_iload_n h dX10_readSize_245 rfl ?_
    refine x_bipush h dX10_readSize_246 (by decide) ?_
    refine x_ic_eq_F (tgt := 257) h (by omega) dX10_readSize_248 (by decide) (by omega) ?_
    refine x_iload_n h dX10_readSize_251 rfl ?_
    refine x_bipush h dX10_readSize_252 (by decide) ?_
    refine x_ic_ne_F (tgt := 261) h (by omega) dX10_readSize_254 (by decide) (by omega) ?_
    exact x_loc (ls' := [(0, vR 10 0), (1, vI many), (2, vI 1), (3, vI (tK B i))]) ⟨rfl, rfl, rfl, rfl, trivial⟩ (fin (Or.inr (Or.inr k3)))
  refine x_iload_n h dX10_readSize_239 rfl ?_
  refine x_bipush h dX10_readSize_240 (by decide) ?_
  refine x_ic_eq_F (tgt := 257) h (by omega) dX10_readSize_242 (by decide) (by omega) ?_
  refine x_iload_n h dX10_readSize_245 rfl ?_
  refine x_bipush h dX10_readSize_246 (by decide) ?_
  refine x_ic_eq_F (tgt := 257) h (by omega) dX10_readSize_248 (by decide) (by omega) ?_
  refine x_iload_n h dX10_readSize_251 rfl ?_
  refine x_bipush h dX10_readSize_252 (by decide) ?_
  refine x_ic_ne_T (tgt := 261) h (by omega) dX10_readSize_254 (by decide) (by omega) ?_
  refine x_iconst h dX10_readSize_261 ?_
  refine x_istore_n h dX10_readSize_262 (by decide) ?_
  refine x_aload_n h dX10_readSize_263 rfl ?_
  refine x_dup h dX10_readSize_264 rfl ?_
  refine x_get (q := vI (i)) h fl_10_199 lvz_10 dX10_readSize_265 (congrArg vI (by first | exact hi | simp [up3, hi])) ?_
  refine x_iload_n h dX10_readSize_268 rfl ?_
  refine x_if_eq_T (tgt := 276) h (by omega) dX10_readSize_269 (by decide) (by omega) ?_
  refine x_iconst h dX10_readSize_276 ?_
  refine x_iadd h dX10_readSize_277 ?_
  rw [Int.add_zero]
  refine x_put h fl_10_199 lvz_10 dX10_readSize_278 rfl (fun z => absurd z (by decide)) ?_
  refine x_goto (tgt := 20) h dX10_readSize_281 (by decide) ?_
  refine x_iload_n h dX10_readSize_20 rfl ?_
  refine x_if_eq_T (tgt := 284) h (by omega) dX10_readSize_21 (by decide) (by omega) ?_
  exact x_loc (ls' := [(0, vR 10 0)]) ⟨rfl, trivial⟩ (h0 (by omega))
/-- a FAULT ends it -/
theorem rz_tailF {C : Cx} {d i many : Nat} {how e : Int} {τ : Mm} (h : Ok C RX10 cX10_readSize 4 d) (hT : TS B L N m τ) (hf : τ 10 0 7 = e) (he : 0 ≤ e ∧ e ≤ 900) (hi : τ 10 0 6 = i) (hi2 : tq B i ≤ L)
    (h0 : X C 1 284 [(0, vR 10 0)] [] NALL (up3 τ 10 0 6 (i : Int)) 0 0) : X C 1 220 [(0, vR 10 0), (1, vI many), (2, vI 1), (3, vI how)] [] NALL τ 0 0 := by
  obtain ⟨t1, t2, t3, t4, t5, t6, t7, t8, t9⟩ := tok_in hT hi2
  obtain ⟨he, he9⟩ := he
  refine x_aload_n h dX10_readSize_220 rfl ?_
  refine x_get h fl_10_13 lvz_10 dX10_readSize_221 (pvf_533 _ _) ?_
  refine x_aload_n h dX10_readSize_224 rfl ?_
  refine x_get (q := vI (i)) h fl_10_199 lvz_10 dX10_readSize_225 (congrArg vI (by first | exact hi | simp [up3, hi])) ?_
  refine x_iald h kdf_33 lvz_33 dX10_readSize_228 rfl (by omega) ?_
  rw [t3]
  refine x_istore_n h dX10_readSize_229 (by decide) ?_
  refine x_aload_n h dX10_readSize_230 rfl ?_
  refine x_get (q := vI (e)) h fl_10_196 lvz_10 dX10_readSize_231 (congrArg vI (by first | exact hf | simp [up3, hf])) ?_
  refine x_bipush h dX10_readSize_234 (by decide) ?_
  refine x_ic_ne_T (tgt := 261) h (by omega) dX10_readSize_236 (by decide) (by omega) ?_
  refine x_iconst h dX10_readSize_261 ?_
  refine x_istore_n h dX10_readSize_262 (by decide) ?_
  refine x_aload_n h dX10_readSize_263 rfl ?_
  refine x_dup h dX10_readSize_264 rfl ?_
  refine x_get (q := vI (i)) h fl_10_199 lvz_10 dX10_readSize_265 (congrArg vI (by first | exact hi | simp [up3, hi])) ?_
  refine x_iload_n h dX10_readSize_268 rfl ?_
  refine x_if_eq_T (tgt := 276) h (by omega) dX10_readSize_269 (by decide) (by omega) ?_
  refine x_iconst h dX10_readSize_276 ?_
  refine x_iadd h dX10_readSize_277 ?_
  rw [Int.add_zero]
  refine x_put h fl_10_199 lvz_10 dX10_readSize_278 rfl (fun z => absurd z (by decide)) ?_
  refine x_goto (tgt := 20) h dX10_readSize_281 (by decide) ?_
  refine x_iload_n h dX10_readSize_20 rfl ?_
  refine x_if_eq_T (tgt := 284) h (by omega) dX10_readSize_21 (by decide) (by omega) ?_
  exact x_loc (ls' := [(0, vR 10 0)]) ⟨rfl, trivial⟩ h0
theorem rz_loop : ∀ (c i many b : Nat) (how : Int) (A P : List (Int × Int)) (U : List Us3) (τ : Mm), many + c = 8 → sgz how → TS B L N m τ → ZR τ i A P U → tq B i ≤ L → A.length ≤ i → U.length ≤ i → P.length + c ≤ b → b ≤ 96 → ∃ σ', FrZ σ' τ ∧ ZRs B L b A σ' (rzP (tK B) (tV B) m c i how P U) ∧ ∀ (C : Cx) (d : Nat), 2 ≤ d → Ok C RX10 cX10_readSize 4 d → X C 1 284 [(0, vR 10 0)] [] NALL σ' 0 0 → X C 1 20 [(0, vR 10 0), (1, vI many), (2, vI 1), (3, vI how)] [] NALL τ 0 0 := by
  intro c
  induction c with
  | zero =>
    intro i many b how A P U τ hm hh hT hz hi hA hU hP hb
    obtain ⟨t1, t2, t3, t4, t5, t6, t7, t8, t9⟩ := tok_in hT hi
    obtain ⟨⟨p1, p2, -⟩, q1, -⟩ := hz
    obtain rfl : many = 8 := by omega
    refine ⟨up3 (up3 (up3 τ 10 0 7 (tQ B i)) 50 0 P.length how) 10 0 6 (i : Int), FrZ_up (FrZ_up (FrZ_up (FrZ_refl τ) _ (by omega)) _ (by omega)) _ (by omega), ⟨up3_s _ _ _ _ _, by rw [up3_n _ (by omega), up3_n _ (by omega), up3_s], hi⟩, fun C d hd h hx => ?_⟩
    have e19 : up3 τ 10 0 7 (tQ B i) 10 0 19 = P.length := by rw [up3_n _ (by omega)]; exact q1
    have e7 : up3 (up3 τ 10 0 7 (tQ B i)) 50 0 P.length how 10 0 7 = tQ B i := by rw [up3_n _ (by omega), up3_s]
    have e6 : up3 (up3 τ 10 0 7 (tQ B i)) 50 0 P.length how 10 0 6 = i := by rw [up3_n _ (by omega), up3_n _ (by omega)]; exact p1
    refine x_iload_n h dX10_readSize_20 rfl ?_
    refine x_if_eq_F (tgt := 284) h (by omega) dX10_readSize_21 (by decide) (by omega) ?_
    refine x_aload_n h dX10_readSize_24 rfl ?_
    refine x_get (q := vI (-9)) h fl_10_196 lvz_10 dX10_readSize_25 (congrArg vI (by first | exact p2 | simp [up3, p2])) ?_
    refine x_bipush h dX10_readSize_28 (by decide) ?_
    refine x_ic_ne_F (tgt := 284) h (by omega) dX10_readSize_30 (by decide) (by omega) ?_
    refine x_aload_n h dX10_readSize_33 rfl ?_
    refine x_iload_n h dX10_readSize_34 rfl ?_
    refine x_bipush h dX10_readSize_35 (by decide) ?_
    refine x_ic_ge_T (tgt := 71) h (by omega) dX10_readSize_37 (by decide) (by omega) ?_
    refine x_iconst h dX10_readSize_71 ?_
    refine x_cV1 h kVX10_must lkX10_202 ⟨_, _, _, rfl, rfl⟩ dX10_readSize_72 (m_must0 (d := 0) p2 p1 t2 t4 ⟨t8, t9⟩) lvz_10 rfl rfl (Nat.le_of_ble_eq_true rfl) (by omega) ?_
    refine x_pop h dX10_readSize_75 rfl ?_
    refine x_iinc h dX10_readSize_76 rfl (by decide) ?_
    refine x_aload_n h dX10_readSize_79 rfl ?_
    refine x_get h fl_10_52 lvz_10 dX10_readSize_80 (pvf_550 _ _) ?_
    refine x_aload_n h dX10_readSize_83 rfl ?_
    refine x_get (q := vI (P.length)) h fl_10_215 lvz_10 dX10_readSize_84 (congrArg vI (by first | exact e19 | simp [up3, e19])) ?_
    refine x_bipush h dX10_readSize_87 (by decide) ?_
    refine x_ic_ge_F (tgt := 99) h (by omega) dX10_readSize_89 (by decide) (by omega) ?_
    refine x_aload_n h dX10_readSize_92 rfl ?_
    refine x_get (q := vI (P.length)) h fl_10_215 lvz_10 dX10_readSize_93 (congrArg vI (by first | exact e19 | simp [up3, e19])) ?_
    refine x_goto (tgt := 101) h dX10_readSize_96 (by decide) ?_
    refine x_iload_n h dX10_readSize_101 rfl ?_
    refine x_iast h kdf_50 lvz_50 dX10_readSize_102 rfl (by omega) ?_
    refine x_aload_n h dX10_readSize_103 rfl ?_
    refine x_get (q := vI (tQ B i)) h fl_10_196 lvz_10 dX10_readSize_104 (congrArg vI (by first | exact e7 | simp [up3, e7])) ?_
    refine x_bipush h dX10_readSize_107 (by decide) ?_
    refine x_ic_ne_T (tgt := 166) h (by omega) dX10_readSize_109 (by decide) (by omega) ?_
    refine x_aload_n h dX10_readSize_166 rfl ?_
    refine x_get (q := vI (tQ B i)) h fl_10_196 lvz_10 dX10_readSize_167 (congrArg vI (by first | exact e7 | simp [up3, e7])) ?_
    refine x_bipush h dX10_readSize_170 (by decide) ?_
    refine x_ic_ne_T (tgt := 220) h (by omega) dX10_readSize_172 (by decide) (by omega) ?_
    refine x_loc (ls' := [(0, vR 10 0), (1, vI ((9 : Nat) : Int)), (2, vI 1), (3, vI how)]) ⟨rfl, rfl, rfl, rfl, trivial⟩ ?_
    exact rz_tailF h (TS_frK hT (FrK_up (FrK_up (FrK_refl τ) _ (by omega)) _ (by omega))) e7 ⟨t8, t9⟩ e6 hi hx
  | succ c ih =>
    intro i many b how A P U τ hm hh hT hz hi hA hU hP hb
    obtain ⟨t1, t2, t3, t4, t5, t6, t7, t8, t9⟩ := tok_in hT hi
    obtain ⟨hPR, hPt⟩ := hz
    have p1 := hPR.1
    have p2 := hPR.2.1
    have q1 := hPt.1
    have hB := hT.2.2.2.1
    rw [rzP]
    by_cases h35 : tK B i = 35
    · rw [if_pos h35]
      have hi1 : tq B (i + 1) ≤ L := adv_q hB hi (by omega)
      obtain ⟨s1, s2, s3, s4, s5, s6, s7, s8, s9⟩ := tok_in hT hi1
      have hPR1 : PRw (up3 (up3 τ 50 0 P.length how) 10 0 6 ((i + 1 : Nat) : Int)) (i + 1) A U := PW_tok (PR_fr hPR (fun f j q => up3_n _ (by omega))) (i + 1)
      have f1 : FrZ (up3 (up3 τ 50 0 P.length how) 10 0 6 ((i + 1 : Nat) : Int)) τ := FrZ_up (FrZ_up (FrZ_refl τ) _ (by omega)) _ (by omega)
      have e50 : up3 (up3 τ 50 0 P.length how) 10 0 6 ((i + 1 : Nat) : Int) 50 0 P.length = how := by rw [up3_n _ (by omega), up3_s]
      have k50 : ∀ f j, (f = 50 ∨ f = 51) → j < P.length → up3 (up3 τ 50 0 P.length how) 10 0 6 ((i + 1 : Nat) : Int) f 0 j = τ f 0 j := fun f j q z => by rw [up3_n _ (by omega), up3_n _ (by omega)]
      have e7' : up3 τ 50 0 P.length how 10 0 7 = -9 := by rw [up3_n _ (by omega)]; exact p2
      have e6' : up3 τ 50 0 P.length how 10 0 6 = i := by rw [up3_n _ (by omega)]; exact p1
      have e33 : up3 τ 50 0 P.length how 33 0 i = tK B i := by rw [up3_n _ (by omega)]; exact t3
      have e19 : up3 (up3 τ 50 0 P.length how) 10 0 6 ((i + 1 : Nat) : Int) 10 0 19 = P.length := by rw [up3_n _ (by omega), up3_n _ (by omega)]; exact q1
      have head : ∀ (C : Cx) (d : Nat), 2 ≤ d → Ok C RX10 cX10_readSize 4 d → X C 1 185 [(0, vR 10 0), (1, vI ((many + 1 : Nat) : Int)), (2, vI 1), (3, vI how)] [] NALL (up3 (up3 τ 50 0 P.length how) 10 0 6 ((i + 1 : Nat) : Int)) 0 0 → X C 1 20 [(0, vR 10 0), (1, vI many), (2, vI 1), (3, vI how)] [] NALL τ 0 0 := fun C d hd h hx => by
        refine x_iload_n h dX10_readSize_20 rfl ?_
        refine x_if_eq_F (tgt := 284) h (by omega) dX10_readSize_21 (by decide) (by omega) ?_
        refine x_aload_n h dX10_readSize_24 rfl ?_
        refine x_get (q := vI (-9)) h fl_10_196 lvz_10 dX10_readSize_25 (congrArg vI (by first | exact p2 | simp [up3, p2])) ?_
        refine x_bipush h dX10_readSize_28 (by decide) ?_
        refine x_ic_ne_F (tgt := 284) h (by omega) dX10_readSize_30 (by decide) (by omega) ?_
        refine x_aload_n h dX10_readSize_33 rfl ?_
        refine x_iload_n h dX10_readSize_34 rfl ?_
        refine x_bipush h dX10_readSize_35 (by decide) ?_
        refine x_ic_ge_F (tgt := 71) h (by omega) dX10_readSize_37 (by decide) (by omega) ?_
        refine x_aload_n h dX10_readSize_40 rfl ?_
        refine x_get h fl_10_13 lvz_10 dX10_readSize_41 (pvf_533 _ _) ?_
        refine x_aload_n h dX10_readSize_44 rfl ?_
        refine x_get (q := vI (i)) h fl_10_199 lvz_10 dX10_readSize_45 (congrArg vI (by first | exact p1 | simp [up3, p1])) ?_
        refine x_iald h kdf_33 lvz_33 dX10_readSize_48 rfl (by omega) ?_
        rw [t3]
        refine x_iconst h dX10_readSize_49 ?_
        refine x_ic_eq_F (tgt := 67) h (by omega) dX10_readSize_50 (by decide) (by omega) ?_
        refine x_aload_n h dX10_readSize_53 rfl ?_
        refine x_get h fl_10_13 lvz_10 dX10_readSize_54 (pvf_533 _ _) ?_
        refine x_aload_n h dX10_readSize_57 rfl ?_
        refine x_get (q := vI (i)) h fl_10_199 lvz_10 dX10_readSize_58 (congrArg vI (by first | exact p1 | simp [up3, p1])) ?_
        refine x_iald h kdf_33 lvz_33 dX10_readSize_61 rfl (by omega) ?_
        rw [t3]
        refine x_bipush h dX10_readSize_62 (by decide) ?_
        refine x_ic_ne_F (tgt := 71) h (by omega) dX10_readSize_64 (by decide) (by omega) ?_
        refine x_iconst h dX10_readSize_67 ?_
        refine x_goto (tgt := 72) h dX10_readSize_68 (by decide) ?_
        refine x_cV1 h kVX10_must lkX10_202 ⟨_, _, _, rfl, rfl⟩ dX10_readSize_72 (m_must1 (d := 0) p2) lvz_10 rfl rfl (Nat.le_of_ble_eq_true rfl) (by omega) ?_
        refine x_pop h dX10_readSize_75 rfl ?_
        refine x_iinc h dX10_readSize_76 rfl (by decide) ?_
        refine x_aload_n h dX10_readSize_79 rfl ?_
        refine x_get h fl_10_52 lvz_10 dX10_readSize_80 (pvf_550 _ _) ?_
        refine x_aload_n h dX10_readSize_83 rfl ?_
        refine x_get (q := vI (P.length)) h fl_10_215 lvz_10 dX10_readSize_84 (congrArg vI (by first | exact q1 | simp [up3, q1])) ?_
        refine x_bipush h dX10_readSize_87 (by decide) ?_
        refine x_ic_ge_F (tgt := 99) h (by omega) dX10_readSize_89 (by decide) (by omega) ?_
        refine x_aload_n h dX10_readSize_92 rfl ?_
        refine x_get (q := vI (P.length)) h fl_10_215 lvz_10 dX10_readSize_93 (congrArg vI (by first | exact q1 | simp [up3, q1])) ?_
        refine x_goto (tgt := 101) h dX10_readSize_96 (by decide) ?_
        refine x_iload_n h dX10_readSize_101 rfl ?_
        refine x_iast h kdf_50 lvz_50 dX10_readSize_102 rfl (by omega) ?_
        refine x_aload_n h dX10_readSize_103 rfl ?_
        refine x_get (q := vI (-9)) h fl_10_196 lvz_10 dX10_readSize_104 (congrArg vI (by first | exact e7' | simp [up3, e7'])) ?_
        refine x_bipush h dX10_readSize_107 (by decide) ?_
        refine x_ic_ne_F (tgt := 166) h (by omega) dX10_readSize_109 (by decide) (by omega) ?_
        refine x_aload_n h dX10_readSize_112 rfl ?_
        refine x_get h fl_10_13 lvz_10 dX10_readSize_113 (pvf_533 _ _) ?_
        refine x_aload_n h dX10_readSize_116 rfl ?_
        refine x_get (q := vI (i)) h fl_10_199 lvz_10 dX10_readSize_117 (congrArg vI (by first | exact e6' | simp [up3, e6'])) ?_
        refine x_iald h kdf_33 lvz_33 dX10_readSize_120 rfl (by omega) ?_
        rw [e33]
        refine x_iconst h dX10_readSize_121 ?_
        refine x_ic_ne_T (tgt := 166) h (by omega) dX10_readSize_122 (by decide) (by omega) ?_
        refine x_aload_n h dX10_readSize_166 rfl ?_
        refine x_get (q := vI (-9)) h fl_10_196 lvz_10 dX10_readSize_167 (congrArg vI (by first | exact e7' | simp [up3, e7'])) ?_
        refine x_bipush h dX10_readSize_170 (by decide) ?_
        refine x_ic_ne_F (tgt := 220) h (by omega) dX10_readSize_172 (by decide) (by omega) ?_
        refine x_aload_n h dX10_readSize_175 rfl ?_
        refine x_dup h dX10_readSize_176 rfl ?_
        refine x_get (q := vI (i)) h fl_10_199 lvz_10 dX10_readSize_177 (congrArg vI (by first | exact e6' | simp [up3, e6'])) ?_
        refine x_iconst h dX10_readSize_180 ?_
        refine x_iadd h dX10_readSize_181 ?_
        refine x_put h fl_10_199 lvz_10 dX10_readSize_182 rfl (fun z => absurd z (by decide)) ?_
        exact x_loc (ls' := [(0, vR 10 0), (1, vI ((many + 1 : Nat) : Int)), (2, vI 1), (3, vI how)]) ⟨rfl, rfl, rfl, rfl, trivial⟩ hx
      generalize hτ1 : up3 (up3 τ 50 0 P.length how) 10 0 6 ((i + 1 : Nat) : Int) = τ1 at hPR1 f1 e50 k50 e19 head
      have hT1 : TS B L N m τ1 := TS_frK hT (FrZ_K f1)
      by_cases h2 : tK B (i + 1) = 2
      · rw [if_pos h2]
        have hi2 : tq B (i + 2) ≤ L := adv_q hB hi1 (by omega)
        obtain ⟨g1, g2⟩ := PW_use (m := m) (b := 1) hPR1
        have hun : U.length ≤ 900 := by omega
        have hus := m_use1 (d := 0) (b := 1) hT1 hPR1.2.1 hPR1.1 hi1 h2 hPR1.2.2.2.1 hun (Nat.le_refl _)
        have u19 : usS τ1 U.length m (i + 1) 1 10 0 19 = P.length := by rw [g2 _ _ _ (by omega)]; exact e19
        have u50 : ∀ f j, (f = 50 ∨ f = 51) → usS τ1 U.length m (i + 1) 1 f 0 j = τ1 f 0 j := fun f j q => g2 _ _ _ (by omega)
        have g3 : FrZ (usS τ1 U.length m (i + 1) 1) τ1 := fun f k j q => by
          unfold usS
          rw [up3_n _ (by omega), up3_n _ (by omega), up3_n _ (by omega), up3_n _ (by omega), up3_n _ (by omega)]
        generalize hτ2 : usS τ1 U.length m (i + 1) 1 = τ2 at g1 g2 g3 hus u19 u50
        have e6 : τ2 10 0 6 = ((i + 1 + 1 : Nat) : Int) := g1.1
        have hPt3 : PtR (up3 (up3 τ2 51 0 P.length (-1 - ((i + 1 : Nat) : Int))) 10 0 19 ((P.length : Int) + 1)) (P ++ [(how, -1 - ((i + 1 : Nat) : Int))]) := PtR_add hPt (up3_s _ _ _ _ _) (by rw [up3_n _ (by omega), up3_n _ (by omega), u50 _ _ (by omega)]; exact e50) (by rw [up3_n _ (by omega), up3_s]) (fun f j q z => by rw [up3_n _ (by omega), up3_n _ (by omega), u50 _ _ (by omega), k50 _ _ q z])
        have hPR3 : PRw (up3 (up3 τ2 51 0 P.length (-1 - ((i + 1 : Nat) : Int))) 10 0 19 ((P.length : Int) + 1)) (i + 2) A (U ++ [(i + 1, m, 1)]) := PR_fr g1 (fun f j q => by rw [up3_n _ (by omega), up3_n _ (by omega)])
        have f3 : FrZ (up3 (up3 τ2 51 0 P.length (-1 - ((i + 1 : Nat) : Int))) 10 0 19 ((P.length : Int) + 1)) τ := FrZ_up (FrZ_up (FrZ_tr g3 f1) _ (by omega)) _ (by omega)
        have mid : ∀ (C : Cx) (d : Nat), 2 ≤ d → Ok C RX10 cX10_readSize 4 d → X C 1 220 [(0, vR 10 0), (1, vI ((many + 1 : Nat) : Int)), (2, vI 1), (3, vI how)] [] NALL (up3 (up3 τ2 51 0 P.length (-1 - ((i + 1 : Nat) : Int))) 10 0 19 ((P.length : Int) + 1)) 0 0 → X C 1 185 [(0, vR 10 0), (1, vI ((many + 1 : Nat) : Int)), (2, vI 1), (3, vI how)] [] NALL τ1 0 0 := fun C d hd h hx => by
          have u19b : up3 τ2 51 0 P.length (-1 - (((i + 1 + 1 : Nat) : Int) - 1)) 10 0 19 = P.length := by rw [up3_n _ (by omega)]; exact u19
          have ei : ((i + 1 + 1 : Nat) : Int) - 1 = ((i + 1 : Nat) : Int) := by omega
          refine x_aload_n h dX10_readSize_185 rfl ?_
          refine x_iconst h dX10_readSize_186 ?_
          refine x_cV0 h kVX10_use lkX10_218 ⟨_, _, _, rfl, rfl⟩ dX10_readSize_187 (hus) lvz_10 rfl rfl (Nat.le_of_ble_eq_true rfl) (by omega) ?_
          refine x_aload_n h dX10_readSize_190 rfl ?_
          refine x_get h fl_10_55 lvz_10 dX10_readSize_191 (pvf_551 _ _) ?_
          refine x_aload_n h dX10_readSize_194 rfl ?_
          refine x_get (q := vI (P.length)) h fl_10_215 lvz_10 dX10_readSize_195 (congrArg vI (by first | exact u19 | simp [up3, u19])) ?_
          refine x_ldc2 (x := (-1)) h dX10_readSize_198 klX10_222 (by decide) ?_
          refine x_aload_n h dX10_readSize_201 rfl ?_
          refine x_get (q := vI (((i + 1 + 1 : Nat) : Int))) h fl_10_199 lvz_10 dX10_readSize_202 (congrArg vI (by first | exact e6 | simp [up3, e6])) ?_
          refine x_iconst h dX10_readSize_205 ?_
          refine x_isub h dX10_readSize_206 ?_
          refine x_i2l h (by omega) dX10_readSize_207 ?_
          refine x_lsub h dX10_readSize_208 ?_
          refine x_last h kdf_51 lvz_51 dX10_readSize_209 rfl (by omega) ?_
          refine x_aload_n h dX10_readSize_210 rfl ?_
          refine x_dup h dX10_readSize_211 rfl ?_
          refine x_get (q := vI (P.length)) h fl_10_215 lvz_10 dX10_readSize_212 (congrArg vI (by first | exact u19b | simp [up3, u19b])) ?_
          refine x_iconst h dX10_readSize_215 ?_
          refine x_iadd h dX10_readSize_216 ?_
          refine x_put h fl_10_215 lvz_10 dX10_readSize_217 rfl (fun z => absurd z (by decide)) ?_
          rw [ei]
          exact hx
        generalize hτ3 : up3 (up3 τ2 51 0 P.length (-1 - ((i + 1 : Nat) : Int))) 10 0 19 ((P.length : Int) + 1) = τ3 at hPt3 hPR3 f3 mid
        have hT3 : TS B L N m τ3 := TS_frK hT (FrZ_K f3)
        by_cases hs : sgz (tK B (i + 2))
        · rw [if_pos hs]
          have hPR4 := PW_tok hPR3 (i + 3)
          obtain ⟨σ', k1, k2, k3⟩ := ih (i + 3) (many + 1) b (tK B (i + 2)) A (P ++ [(how, -1 - ((i + 1 : Nat) : Int))]) (U ++ [(i + 1, m, 1)]) (up3 τ3 10 0 6 ((i + 3 : Nat) : Int)) (by omega) hs (TS_frK hT3 (FrK_up (FrK_refl τ3) _ (by omega))) ⟨hPR4, PtR_fr hPt3 (fun f j q => up3_n _ (by omega))⟩ (adv_q hB hi2 (by omega)) (by omega) (by simp only [List.length_append, List.length_cons, List.length_nil]; omega) (by simp only [List.length_append, List.length_cons, List.length_nil]; omega) hb
          refine ⟨σ', FrZ_tr k1 (FrZ_up f3 _ (by omega)), k2, fun C d hd h hx => head C d hd h (mid C d hd h (rz_tail h hT3 hPR3.2.1 hPR3.1 hi2 (fun _ => k3 C d hd h hx) (fun z => absurd hs z)))⟩
        · rw [if_neg hs]
          have hPR4 := PW_tok hPR3 (i + 2)
          refine ⟨up3 τ3 10 0 6 ((i + 2 : Nat) : Int), FrZ_up f3 _ (by omega), ⟨⟨hPR4, PtR_fr hPt3 (fun f j q => up3_n _ (by omega))⟩, hi2, by omega, by simp only [List.length_append, List.length_cons, List.length_nil]; omega, by simp only [List.length_append, List.length_cons, List.length_nil]; omega⟩, fun C d hd h hx => head C d hd h (mid C d hd h (rz_tail h hT3 hPR3.2.1 hPR3.1 hi2 (fun z => absurd z hs) (fun _ => hx)))⟩
      · rw [if_neg h2]
        have hus := m_use0 (d := 0) (b := 1) hT1 hPR1.2.1 hPR1.1 hi1 h2
        have f2 : FrZ (up3 τ1 10 0 7 (tQ B (i + 1))) τ := FrZ_up f1 _ (by omega)
        have e6 : up3 τ1 10 0 7 (tQ B (i + 1)) 10 0 6 = ((i + 1 : Nat) : Int) := by rw [up3_n _ (by omega)]; exact hPR1.1
        have e7 : up3 τ1 10 0 7 (tQ B (i + 1)) 10 0 7 = tQ B (i + 1) := up3_s _ _ _ _ _
        have e19 : up3 τ1 10 0 7 (tQ B (i + 1)) 10 0 19 = P.length := by rw [up3_n _ (by omega)]; exact e19
        generalize hτ2 : up3 τ1 10 0 7 (tQ B (i + 1)) = τ2 at hus f2 e6 e7 e19
        have f3 : FrZ (up3 (up3 τ2 51 0 P.length (-1 - (((i + 1 : Nat) : Int) - 1))) 10 0 19 ((P.length : Int) + 1)) τ := FrZ_up (FrZ_up f2 _ (by omega)) _ (by omega)
        have e6c : up3 (up3 τ2 51 0 P.length (-1 - (((i + 1 : Nat) : Int) - 1))) 10 0 19 ((P.length : Int) + 1) 10 0 6 = ((i + 1 : Nat) : Int) := by rw [up3_n _ (by omega), up3_n _ (by omega)]; exact e6
        have e7c : up3 (up3 τ2 51 0 P.length (-1 - (((i + 1 : Nat) : Int) - 1))) 10 0 19 ((P.length : Int) + 1) 10 0 7 = tQ B (i + 1) := by rw [up3_n _ (by omega), up3_n _ (by omega)]; exact e7
        have e19b : up3 τ2 51 0 P.length (-1 - (((i + 1 : Nat) : Int) - 1)) 10 0 19 = P.length := by rw [up3_n _ (by omega)]; exact e19
        refine ⟨up3 (up3 (up3 τ2 51 0 P.length (-1 - (((i + 1 : Nat) : Int) - 1))) 10 0 19 ((P.length : Int) + 1)) 10 0 6 ((i + 1 : Nat) : Int), FrZ_up f3 _ (by omega), ⟨up3_s _ _ _ _ _, by rw [up3_n _ (by omega)]; exact e7c, hi1⟩, fun C d hd h hx => head C d hd h ?_⟩
        refine x_aload_n h dX10_readSize_185 rfl ?_
        refine x_iconst h dX10_readSize_186 ?_
        refine x_cV0 h kVX10_use lkX10_218 ⟨_, _, _, rfl, rfl⟩ dX10_readSize_187 (hus) lvz_10 rfl rfl (Nat.le_of_ble_eq_true rfl) (by omega) ?_
        refine x_aload_n h dX10_readSize_190 rfl ?_
        refine x_get h fl_10_55 lvz_10 dX10_readSize_191 (pvf_551 _ _) ?_
        refine x_aload_n h dX10_readSize_194 rfl ?_
        refine x_get (q := vI (P.length)) h fl_10_215 lvz_10 dX10_readSize_195 (congrArg vI (by first | exact e19 | simp [up3, e19])) ?_
        refine x_ldc2 (x := (-1)) h dX10_readSize_198 klX10_222 (by decide) ?_
        refine x_aload_n h dX10_readSize_201 rfl ?_
        refine x_get (q := vI (((i + 1 : Nat) : Int))) h fl_10_199 lvz_10 dX10_readSize_202 (congrArg vI (by first | exact e6 | simp [up3, e6])) ?_
        refine x_iconst h dX10_readSize_205 ?_
        refine x_isub h dX10_readSize_206 ?_
        refine x_i2l h (by omega) dX10_readSize_207 ?_
        refine x_lsub h dX10_readSize_208 ?_
        refine x_last h kdf_51 lvz_51 dX10_readSize_209 rfl (by omega) ?_
        refine x_aload_n h dX10_readSize_210 rfl ?_
        refine x_dup h dX10_readSize_211 rfl ?_
        refine x_get (q := vI (P.length)) h fl_10_215 lvz_10 dX10_readSize_212 (congrArg vI (by first | exact e19b | simp [up3, e19b])) ?_
        refine x_iconst h dX10_readSize_215 ?_
        refine x_iadd h dX10_readSize_216 ?_
        refine x_put h fl_10_215 lvz_10 dX10_readSize_217 rfl (fun z => absurd z (by decide)) ?_
        exact rz_tailF h (TS_frK hT (FrZ_K f3)) e7c ⟨s8, s9⟩ e6c hi1 hx
    · rw [if_neg h35]
      by_cases h1 : tK B i = 1
      · rw [if_pos h1]
        have hi1 : tq B (i + 1) ≤ L := adv_q hB hi (by omega)
        have e19 : up3 τ 50 0 P.length how 10 0 19 = P.length := by rw [up3_n _ (by omega)]; exact q1
        have e7' : up3 τ 50 0 P.length how 10 0 7 = -9 := by rw [up3_n _ (by omega)]; exact p2
        have e6' : up3 τ 50 0 P.length how 10 0 6 = i := by rw [up3_n _ (by omega)]; exact p1
        have e33 : up3 τ 50 0 P.length how 33 0 i = tK B i := by rw [up3_n _ (by omega)]; exact t3
        have e35 : up3 τ 50 0 P.length how 35 0 i = tV B i := by rw [up3_n _ (by omega)]; exact t5 (by omega)
        have e19b : up3 (up3 τ 50 0 P.length how) 51 0 P.length (tV B i) 10 0 19 = P.length := by rw [up3_n _ (by omega), up3_n _ (by omega)]; exact q1
        have e6b : up3 (up3 (up3 τ 50 0 P.length how) 51 0 P.length (tV B i)) 10 0 19 ((P.length : Int) + 1) 10 0 6 = i := by rw [up3_n _ (by omega), up3_n _ (by omega), up3_n _ (by omega)]; exact p1
        have hPt3 : PtR (up3 (up3 (up3 (up3 τ 50 0 P.length how) 51 0 P.length (tV B i)) 10 0 19 ((P.length : Int) + 1)) 10 0 6 ((i + 1 : Nat) : Int)) (P ++ [(how, tV B i)]) := PtR_add hPt (by rw [up3_n _ (by omega), up3_s]) (by rw [up3_n _ (by omega), up3_n _ (by omega), up3_n _ (by omega), up3_s]) (by rw [up3_n _ (by omega), up3_n _ (by omega), up3_s]) (fun f j q z => by rw [up3_n _ (by omega), up3_n _ (by omega), up3_n _ (by omega), up3_n _ (by omega)])
        have hPR3 : PRw (up3 (up3 (up3 (up3 τ 50 0 P.length how) 51 0 P.length (tV B i)) 10 0 19 ((P.length : Int) + 1)) 10 0 6 ((i + 1 : Nat) : Int)) (i + 1) A U := PW_tok (PR_fr hPR (fun f j q => by rw [up3_n _ (by omega), up3_n _ (by omega), up3_n _ (by omega)])) (i + 1)
        have f3 : FrZ (up3 (up3 (up3 (up3 τ 50 0 P.length how) 51 0 P.length (tV B i)) 10 0 19 ((P.length : Int) + 1)) 10 0 6 ((i + 1 : Nat) : Int)) τ := FrZ_up (FrZ_up (FrZ_up (FrZ_up (FrZ_refl τ) _ (by omega)) _ (by omega)) _ (by omega)) _ (by omega)
        have head : ∀ (C : Cx) (d : Nat), 2 ≤ d → Ok C RX10 cX10_readSize 4 d → X C 1 220 [(0, vR 10 0), (1, vI ((many + 1 : Nat) : Int)), (2, vI 1), (3, vI how)] [] NALL (up3 (up3 (up3 (up3 τ 50 0 P.length how) 51 0 P.length (tV B i)) 10 0 19 ((P.length : Int) + 1)) 10 0 6 ((i + 1 : Nat) : Int)) 0 0 → X C 1 20 [(0, vR 10 0), (1, vI many), (2, vI 1), (3, vI how)] [] NALL τ 0 0 := fun C d hd h hx => by
          refine x_iload_n h dX10_readSize_20 rfl ?_
          refine x_if_eq_F (tgt := 284) h (by omega) dX10_readSize_21 (by decide) (by omega) ?_
          refine x_aload_n h dX10_readSize_24 rfl ?_
          refine x_get (q := vI (-9)) h fl_10_196 lvz_10 dX10_readSize_25 (congrArg vI (by first | exact p2 | simp [up3, p2])) ?_
          refine x_bipush h dX10_readSize_28 (by decide) ?_
          refine x_ic_ne_F (tgt := 284) h (by omega) dX10_readSize_30 (by decide) (by omega) ?_
          refine x_aload_n h dX10_readSize_33 rfl ?_
          refine x_iload_n h dX10_readSize_34 rfl ?_
          refine x_bipush h dX10_readSize_35 (by decide) ?_
          refine x_ic_ge_F (tgt := 71) h (by omega) dX10_readSize_37 (by decide) (by omega) ?_
          refine x_aload_n h dX10_readSize_40 rfl ?_
          refine x_get h fl_10_13 lvz_10 dX10_readSize_41 (pvf_533 _ _) ?_
          refine x_aload_n h dX10_readSize_44 rfl ?_
          refine x_get (q := vI (i)) h fl_10_199 lvz_10 dX10_readSize_45 (congrArg vI (by first | exact p1 | simp [up3, p1])) ?_
          refine x_iald h kdf_33 lvz_33 dX10_readSize_48 rfl (by omega) ?_
          rw [t3]
          refine x_iconst h dX10_readSize_49 ?_
          refine x_ic_eq_T (tgt := 67) h (by omega) dX10_readSize_50 (by decide) (by omega) ?_
          refine x_iconst h dX10_readSize_67 ?_
          refine x_goto (tgt := 72) h dX10_readSize_68 (by decide) ?_
          refine x_cV1 h kVX10_must lkX10_202 ⟨_, _, _, rfl, rfl⟩ dX10_readSize_72 (m_must1 (d := 0) p2) lvz_10 rfl rfl (Nat.le_of_ble_eq_true rfl) (by omega) ?_
          refine x_pop h dX10_readSize_75 rfl ?_
          refine x_iinc h dX10_readSize_76 rfl (by decide) ?_
          refine x_aload_n h dX10_readSize_79 rfl ?_
          refine x_get h fl_10_52 lvz_10 dX10_readSize_80 (pvf_550 _ _) ?_
          refine x_aload_n h dX10_readSize_83 rfl ?_
          refine x_get (q := vI (P.length)) h fl_10_215 lvz_10 dX10_readSize_84 (congrArg vI (by first | exact q1 | simp [up3, q1])) ?_
          refine x_bipush h dX10_readSize_87 (by decide) ?_
          refine x_ic_ge_F (tgt := 99) h (by omega) dX10_readSize_89 (by decide) (by omega) ?_
          refine x_aload_n h dX10_readSize_92 rfl ?_
          refine x_get (q := vI (P.length)) h fl_10_215 lvz_10 dX10_readSize_93 (congrArg vI (by first | exact q1 | simp [up3, q1])) ?_
          refine x_goto (tgt := 101) h dX10_readSize_96 (by decide) ?_
          refine x_iload_n h dX10_readSize_101 rfl ?_
          refine x_iast h kdf_50 lvz_50 dX10_readSize_102 rfl (by omega) ?_
          refine x_aload_n h dX10_readSize_103 rfl ?_
          refine x_get (q := vI (-9)) h fl_10_196 lvz_10 dX10_readSize_104 (congrArg vI (by first | exact e7' | simp [up3, e7'])) ?_
          refine x_bipush h dX10_readSize_107 (by decide) ?_
          refine x_ic_ne_F (tgt := 166) h (by omega) dX10_readSize_109 (by decide) (by omega) ?_
          refine x_aload_n h dX10_readSize_112 rfl ?_
          refine x_get h fl_10_13 lvz_10 dX10_readSize_113 (pvf_533 _ _) ?_
          refine x_aload_n h dX10_readSize_116 rfl ?_
          refine x_get (q := vI (i)) h fl_10_199 lvz_10 dX10_readSize_117 (congrArg vI (by first | exact e6' | simp [up3, e6'])) ?_
          refine x_iald h kdf_33 lvz_33 dX10_readSize_120 rfl (by omega) ?_
          rw [e33]
          refine x_iconst h dX10_readSize_121 ?_
          refine x_ic_ne_F (tgt := 166) h (by omega) dX10_readSize_122 (by decide) (by omega) ?_
          refine x_aload_n h dX10_readSize_125 rfl ?_
          refine x_get h fl_10_55 lvz_10 dX10_readSize_126 (pvf_551 _ _) ?_
          refine x_aload_n h dX10_readSize_129 rfl ?_
          refine x_get (q := vI (P.length)) h fl_10_215 lvz_10 dX10_readSize_130 (congrArg vI (by first | exact e19 | simp [up3, e19])) ?_
          refine x_aload_n h dX10_readSize_133 rfl ?_
          refine x_get h fl_10_20 lvz_10 dX10_readSize_134 (pvf_535 _ _) ?_
          refine x_aload_n h dX10_readSize_137 rfl ?_
          refine x_get (q := vI (i)) h fl_10_199 lvz_10 dX10_readSize_138 (congrArg vI (by first | exact e6' | simp [up3, e6'])) ?_
          refine x_lald h kdf_35 lvz_35 dX10_readSize_141 rfl (by omega) ?_
          rw [e35]
          refine x_last h kdf_51 lvz_51 dX10_readSize_142 rfl (by omega) ?_
          refine x_aload_n h dX10_readSize_143 rfl ?_
          refine x_dup h dX10_readSize_144 rfl ?_
          refine x_get (q := vI (P.length)) h fl_10_215 lvz_10 dX10_readSize_145 (congrArg vI (by first | exact e19b | simp [up3, e19b])) ?_
          refine x_iconst h dX10_readSize_148 ?_
          refine x_iadd h dX10_readSize_149 ?_
          refine x_put h fl_10_215 lvz_10 dX10_readSize_150 rfl (fun z => absurd z (by decide)) ?_
          refine x_aload_n h dX10_readSize_153 rfl ?_
          refine x_dup h dX10_readSize_154 rfl ?_
          refine x_get (q := vI (i)) h fl_10_199 lvz_10 dX10_readSize_155 (congrArg vI (by first | exact e6b | simp [up3, e6b])) ?_
          refine x_iconst h dX10_readSize_158 ?_
          refine x_iadd h dX10_readSize_159 ?_
          refine x_put h fl_10_199 lvz_10 dX10_readSize_160 rfl (fun z => absurd z (by decide)) ?_
          refine x_goto (tgt := 220) h dX10_readSize_163 (by decide) ?_
          exact x_loc (ls' := [(0, vR 10 0), (1, vI ((many + 1 : Nat) : Int)), (2, vI 1), (3, vI how)]) ⟨rfl, rfl, rfl, rfl, trivial⟩ hx
        generalize hτ3 : up3 (up3 (up3 (up3 τ 50 0 P.length how) 51 0 P.length (tV B i)) 10 0 19 ((P.length : Int) + 1)) 10 0 6 ((i + 1 : Nat) : Int) = τ3 at hPt3 hPR3 f3 head
        have hT3 : TS B L N m τ3 := TS_frK hT (FrZ_K f3)
        by_cases hs : sgz (tK B (i + 1))
        · rw [if_pos hs]
          have hPR4 := PW_tok hPR3 (i + 2)
          obtain ⟨σ', k1, k2, k3⟩ := ih (i + 2) (many + 1) b (tK B (i + 1)) A (P ++ [(how, tV B i)]) U (up3 τ3 10 0 6 ((i + 2 : Nat) : Int)) (by omega) hs (TS_frK hT3 (FrK_up (FrK_refl τ3) _ (by omega))) ⟨hPR4, PtR_fr hPt3 (fun f j q => up3_n _ (by omega))⟩ (adv_q hB hi1 (by omega)) (by omega) (by omega) (by simp only [List.length_append, List.length_cons, List.length_nil]; omega) hb
          refine ⟨σ', FrZ_tr k1 (FrZ_up f3 _ (by omega)), k2, fun C d hd h hx => head C d hd h (rz_tail h hT3 hPR3.2.1 hPR3.1 hi1 (fun _ => k3 C d hd h hx) (fun z => absurd hs z))⟩
        · rw [if_neg hs]
          have hPR4 := PW_tok hPR3 (i + 1)
          refine ⟨up3 τ3 10 0 6 ((i + 1 : Nat) : Int), FrZ_up f3 _ (by omega), ⟨⟨hPR4, PtR_fr hPt3 (fun f j q => up3_n _ (by omega))⟩, hi1, by omega, by omega, by simp only [List.length_append, List.length_cons, List.length_nil]; omega⟩, fun C d hd h hx => head C d hd h (rz_tail h hT3 hPR3.2.1 hPR3.1 hi1 (fun z => absurd z hs) (fun _ => hx))⟩
      · rw [if_neg h1]
        refine ⟨up3 (up3 (up3 τ 10 0 7 (tQ B i)) 50 0 P.length how) 10 0 6 (i : Int), FrZ_up (FrZ_up (FrZ_up (FrZ_refl τ) _ (by omega)) _ (by omega)) _ (by omega), ⟨up3_s _ _ _ _ _, by rw [up3_n _ (by omega), up3_n _ (by omega), up3_s], hi⟩, fun C d hd h hx => ?_⟩
        have e19 : up3 τ 10 0 7 (tQ B i) 10 0 19 = P.length := by rw [up3_n _ (by omega)]; exact q1
        have e7 : up3 (up3 τ 10 0 7 (tQ B i)) 50 0 P.length how 10 0 7 = tQ B i := by rw [up3_n _ (by omega), up3_s]
        have e6 : up3 (up3 τ 10 0 7 (tQ B i)) 50 0 P.length how 10 0 6 = i := by rw [up3_n _ (by omega), up3_n _ (by omega)]; exact p1
        refine x_iload_n h dX10_readSize_20 rfl ?_
        refine x_if_eq_F (tgt := 284) h (by omega) dX10_readSize_21 (by decide) (by omega) ?_
        refine x_aload_n h dX10_readSize_24 rfl ?_
        refine x_get (q := vI (-9)) h fl_10_196 lvz_10 dX10_readSize_25 (congrArg vI (by first | exact p2 | simp [up3, p2])) ?_
        refine x_bipush h dX10_readSize_28 (by decide) ?_
        refine x_ic_ne_F (tgt := 284) h (by omega) dX10_readSize_30 (by decide) (by omega) ?_
        refine x_aload_n h dX10_readSize_33 rfl ?_
        refine x_iload_n h dX10_readSize_34 rfl ?_
        refine x_bipush h dX10_readSize_35 (by decide) ?_
        refine x_ic_ge_F (tgt := 71) h (by omega) dX10_readSize_37 (by decide) (by omega) ?_
        refine x_aload_n h dX10_readSize_40 rfl ?_
        refine x_get h fl_10_13 lvz_10 dX10_readSize_41 (pvf_533 _ _) ?_
        refine x_aload_n h dX10_readSize_44 rfl ?_
        refine x_get (q := vI (i)) h fl_10_199 lvz_10 dX10_readSize_45 (congrArg vI (by first | exact p1 | simp [up3, p1])) ?_
        refine x_iald h kdf_33 lvz_33 dX10_readSize_48 rfl (by omega) ?_
        rw [t3]
        refine x_iconst h dX10_readSize_49 ?_
        refine x_ic_eq_F (tgt := 67) h (by omega) dX10_readSize_50 (by decide) (by omega) ?_
        refine x_aload_n h dX10_readSize_53 rfl ?_
        refine x_get h fl_10_13 lvz_10 dX10_readSize_54 (pvf_533 _ _) ?_
        refine x_aload_n h dX10_readSize_57 rfl ?_
        refine x_get (q := vI (i)) h fl_10_199 lvz_10 dX10_readSize_58 (congrArg vI (by first | exact p1 | simp [up3, p1])) ?_
        refine x_iald h kdf_33 lvz_33 dX10_readSize_61 rfl (by omega) ?_
        rw [t3]
        refine x_bipush h dX10_readSize_62 (by decide) ?_
        refine x_ic_ne_T (tgt := 71) h (by omega) dX10_readSize_64 (by decide) (by omega) ?_
        refine x_iconst h dX10_readSize_71 ?_
        refine x_cV1 h kVX10_must lkX10_202 ⟨_, _, _, rfl, rfl⟩ dX10_readSize_72 (m_must0 (d := 0) p2 p1 t2 t4 ⟨t8, t9⟩) lvz_10 rfl rfl (Nat.le_of_ble_eq_true rfl) (by omega) ?_
        refine x_pop h dX10_readSize_75 rfl ?_
        refine x_iinc h dX10_readSize_76 rfl (by decide) ?_
        refine x_aload_n h dX10_readSize_79 rfl ?_
        refine x_get h fl_10_52 lvz_10 dX10_readSize_80 (pvf_550 _ _) ?_
        refine x_aload_n h dX10_readSize_83 rfl ?_
        refine x_get (q := vI (P.length)) h fl_10_215 lvz_10 dX10_readSize_84 (congrArg vI (by first | exact e19 | simp [up3, e19])) ?_
        refine x_bipush h dX10_readSize_87 (by decide) ?_
        refine x_ic_ge_F (tgt := 99) h (by omega) dX10_readSize_89 (by decide) (by omega) ?_
        refine x_aload_n h dX10_readSize_92 rfl ?_
        refine x_get (q := vI (P.length)) h fl_10_215 lvz_10 dX10_readSize_93 (congrArg vI (by first | exact e19 | simp [up3, e19])) ?_
        refine x_goto (tgt := 101) h dX10_readSize_96 (by decide) ?_
        refine x_iload_n h dX10_readSize_101 rfl ?_
        refine x_iast h kdf_50 lvz_50 dX10_readSize_102 rfl (by omega) ?_
        refine x_aload_n h dX10_readSize_103 rfl ?_
        refine x_get (q := vI (tQ B i)) h fl_10_196 lvz_10 dX10_readSize_104 (congrArg vI (by first | exact e7 | simp [up3, e7])) ?_
        refine x_bipush h dX10_readSize_107 (by decide) ?_
        refine x_ic_ne_T (tgt := 166) h (by omega) dX10_readSize_109 (by decide) (by omega) ?_
        refine x_aload_n h dX10_readSize_166 rfl ?_
        refine x_get (q := vI (tQ B i)) h fl_10_196 lvz_10 dX10_readSize_167 (congrArg vI (by first | exact e7 | simp [up3, e7])) ?_
        refine x_bipush h dX10_readSize_170 (by decide) ?_
        refine x_ic_ne_T (tgt := 220) h (by omega) dX10_readSize_172 (by decide) (by omega) ?_
        refine x_loc (ls' := [(0, vR 10 0), (1, vI ((many + 1 : Nat) : Int)), (2, vI 1), (3, vI how)]) ⟨rfl, rfl, rfl, rfl, trivial⟩ ?_
        exact rz_tailF h (TS_frK hT (FrK_up (FrK_up (FrK_refl τ) _ (by omega)) _ (by omega))) e7 ⟨t8, t9⟩ e6 hi hx
theorem ZRs_up {b m' : Nat} {A : List (Int × Int)} {σ' : Mm} {r : Nat ⊕ (Nat × List (Int × Int) × List Us3)} {x : Int} (h : ZRs B L b A σ' r) : ZRs B L b A (up3 σ' 45 0 m' x) r := by
  cases r with
  | inl e =>
    obtain ⟨h1, h2, h3⟩ := h
    exact ⟨by rw [up3_n _ (by omega)]; exact h1, by rw [up3_n _ (by omega)]; exact h2, h3⟩
  | inr t =>
    obtain ⟨i, P, U⟩ := t
    obtain ⟨⟨h1, h2⟩, h3⟩ := h
    exact ⟨⟨PR_fr h1 (fun f j q => up3_n _ (by omega)), PtR_fr h2 (fun f j q => up3_n _ (by omega))⟩, h3⟩
/-- what the reader of TABLE m may change, but for the count of TABLES made -/
def FrJ (m : Nat) (σ' σ : Mm) : Prop := ∀ f k j, ¬ ((f = 10 ∧ 6 ≤ j ∧ j ≤ 31 ∧ j ≠ 8) ∨ (46 ≤ f ∧ f ≤ 59) ∨ (39 ≤ f ∧ f ≤ 45 ∧ m ≤ j)) → σ' f k j = σ f k j
theorem FrJ_refl (m : Nat) (σ : Mm) : FrJ m σ σ := fun _ _ _ _ => rfl
theorem FrJ_tr {a b c : Mm} (h : FrJ m a b) (h' : FrJ m b c) : FrJ m a c := fun f k j hf => (h f k j hf).trans (h' f k j hf)
theorem FrJ_K {σ' σ : Mm} (h : FrJ m σ' σ) : FrK σ' σ := fun f k j hf => h f k j (by omega)
theorem FrJ_P {σ' σ : Mm} (h : FrP σ' σ) : FrJ m σ' σ := fun f k j hf => h f k j (by omega)
theorem FrJ_Z {σ' σ : Mm} (h : FrZ σ' σ) : FrJ m σ' σ := fun f k j hf => h f k j (by omega)
theorem FrJ_up {σ' σ : Mm} (h : FrJ m σ' σ) {f k j : Nat} (x : Int) (hf : (f = 10 ∧ 6 ≤ j ∧ j ≤ 31 ∧ j ≠ 8) ∨ (46 ≤ f ∧ f ≤ 59) ∨ (39 ≤ f ∧ f ≤ 45 ∧ m ≤ j)) : FrJ m (up3 σ' f k j x) σ := by
  intro f' k' j' hn
  have e : up3 σ' f k j x f' k' j' = σ' f' k' j' := by
    unfold up3
    rw [if_neg (fun z => hn (by obtain ⟨rfl, rfl, rfl⟩ := z; exact hf))]
  rw [e]
  exact h f' k' j' hn
/-- what readSize may change -/
def FrS (m : Nat) (σ' σ : Mm) : Prop := ∀ f k j, ¬ ((f = 10 ∧ (j = 6 ∨ j = 7 ∨ j = 19 ∨ j = 22)) ∨ f = 50 ∨ f = 51 ∨ f = 53 ∨ f = 54 ∨ f = 55 ∨ (f = 45 ∧ m ≤ j)) → σ' f k j = σ f k j
theorem FrJ_S {σ' σ : Mm} (h : FrS m σ' σ) : FrJ m σ' σ := fun f k j hf => h f k j (by omega)
theorem FrS_up {σ' σ : Mm} (h : FrS m σ' σ) {f k j : Nat} (x : Int) (hf : f = 45 ∧ m ≤ j) : FrS m (up3 σ' f k j x) σ := by
  intro f' k' j' hn
  have e : up3 σ' f k j x f' k' j' = σ' f' k' j' := by
    unfold up3
    rw [if_neg (fun z => hn (by obtain ⟨rfl, rfl, rfl⟩ := z; omega))]
  rw [e]
  exact h f' k' j' hn
theorem m_readSize {i : Nat} {A P : List (Int × Int)} {U : List Us3} {τ : Mm} (hm : m < 12) (hT : TS B L N m τ) (hz : ZR τ i A P U) (hi : tq B i ≤ L) (hA : A.length ≤ i) (hU : U.length ≤ i) (hP : P.length ≤ 88) : ∃ σ', FrS m σ' τ ∧ (ZRs B L (P.length + 8) A σ' (rzP (tK B) (tV B) m 8 i 43 P U) ∧ ∀ x, rzP (tK B) (tV B) m 8 i 43 P U = .inr x → σ' 45 0 m = P.length ∧ σ' 45 0 (m + 1) = x.2.1.length) ∧ ∀ d, Ct (d + 2) mX10_readSize 1 [vR 10 0] NALL τ none NALL σ' 0 0 := by
  have hm8 : τ 10 0 8 = m := hT.2.2.2.2.1
  have f1 : FrS m (up3 τ 45 0 m (P.length : Int)) τ := FrS_up (fun _ _ _ _ => rfl) _ (by omega)
  obtain ⟨hPR, hPt⟩ := hz
  have p19 : τ 10 0 19 = P.length := hPt.1
  have e45 : up3 τ 45 0 m (P.length : Int) 45 0 m = P.length := up3_s _ _ _ _ _
  have hR1 : PRw (up3 τ 45 0 m (P.length : Int)) i A U := PR_fr hPR (fun f j q => up3_n _ (by omega))
  have hQ1 : PtR (up3 τ 45 0 m (P.length : Int)) P := PtR_fr hPt (fun f j q => up3_n _ (by omega))
  have hst : ∀ (C : Cx) (d : Nat), Ok C RX10 cX10_readSize 4 d → X C 1 20 [(0, vR 10 0), (1, vI ((0 : Nat) : Int)), (2, vI 1), (3, vI 43)] [] NALL (up3 τ 45 0 m (P.length : Int)) 0 0 → X C 1 0 [(0, vR 10 0)] [] NALL τ 0 0 := fun C d h hx => by
    refine x_iconst h dX10_readSize_0 ?_
    refine x_istore_n h dX10_readSize_1 (by decide) ?_
    refine x_iconst h dX10_readSize_2 ?_
    refine x_istore_n h dX10_readSize_3 (by decide) ?_
    refine x_aload_n h dX10_readSize_4 rfl ?_
    refine x_get h fl_10_43 lvz_10 dX10_readSize_5 (pvf_545 _ _) ?_
    refine x_aload_n h dX10_readSize_8 rfl ?_
    refine x_get (q := vI (m)) h fl_10_212 lvz_10 dX10_readSize_9 (congrArg vI (by first | exact hm8 | simp [up3, hm8])) ?_
    refine x_aload_n h dX10_readSize_12 rfl ?_
    refine x_get (q := vI (P.length)) h fl_10_215 lvz_10 dX10_readSize_13 (congrArg vI (by first | exact p19 | simp [up3, p19])) ?_
    refine x_iast h kdf_45 lvz_45 dX10_readSize_16 rfl (by omega) ?_
    refine x_bipush h dX10_readSize_17 (by decide) ?_
    refine x_istore_n h dX10_readSize_19 (by decide) ?_
    exact x_loc (ls' := [(0, vR 10 0), (1, vI ((0 : Nat) : Int)), (2, vI 1), (3, vI 43)]) ⟨rfl, rfl, rfl, rfl, trivial⟩ hx
  generalize hτ1 : up3 τ 45 0 m (P.length : Int) = τ1 at f1 e45 hR1 hQ1 hst
  obtain ⟨σ1, g1, g2, g3⟩ := rz_loop (B := B) (L := L) (N := N) (m := m) 8 i 0 (P.length + 8) 43 A P U τ1 (by omega) (Or.inl rfl) (TS_frK hT (FrJ_K (FrJ_S f1))) ⟨hR1, hQ1⟩ hi hA hU (by omega) (by omega)
  have s8 : σ1 10 0 8 = m := by rw [g1 _ _ _ (by omega), f1 _ _ _ (by omega)]; exact hm8
  have s45 : σ1 45 0 m = P.length := by rw [g1 _ _ _ (by omega)]; exact e45
  refine ⟨up3 σ1 45 0 (m + 1) (σ1 10 0 19), FrS_up (fun f k j q => (g1 f k j (by omega)).trans (f1 f k j q)) _ (by omega), ⟨ZRs_up g2, fun x hx => ?_⟩, fun d => ?_⟩
  · rw [hx] at g2
    obtain ⟨i', P', U'⟩ := x
    have e : σ1 10 0 19 = P'.length := g2.1.2.1
    exact ⟨by rw [up3_n _ (by omega)]; exact s45, by rw [up3_s]; exact e⟩
  · refine ct_of (by decide) (Nat.le_of_ble_eq_true rfl) (fun C h hr _ => ?_)
    have h : Ok C RX10 cX10_readSize 4 _ := h
    refine hst C _ h (g3 C _ (by omega) h ?_)
    have ee : ((m : Nat) : Int) + 1 = ((m + 1 : Nat) : Int) := by omega
    refine x_aload_n h dX10_readSize_284 rfl ?_
    refine x_get h fl_10_43 lvz_10 dX10_readSize_285 (pvf_545 _ _) ?_
    refine x_aload_n h dX10_readSize_288 rfl ?_
    refine x_get (q := vI (m)) h fl_10_212 lvz_10 dX10_readSize_289 (congrArg vI (by first | exact s8 | simp [up3, s8])) ?_
    refine x_iconst h dX10_readSize_292 ?_
    refine x_iadd h dX10_readSize_293 ?_
    rw [ee]
    refine x_aload_n h dX10_readSize_294 rfl ?_
    refine x_get h fl_10_215 lvz_10 dX10_readSize_295 rfl ?_
    refine x_iast h kdf_45 lvz_45 dX10_readSize_298 rfl (by omega) ?_
    exact x_return h hr dX10_readSize_299 ⟨Nat.le_refl _, Nat.le_refl _⟩
end ZS
/-! the pure machine of a SIZE against the grammar -/
theorem numV_nn {B : Nat → Int} (p : Nat) : ∀ n : Nat, (∀ j, p ≤ j → j < p + n → isDg (B j) = true) → 0 ≤ numV B p n := by
  intro n
  induction n with
  | zero => intro _; exact Int.le_refl _
  | succ n ih =>
    intro h
    have h1 := ih (fun j a b => h j a (by omega))
    have h2 := h (p + n) (by omega) (by omega)
    unfold isDg at h2
    unfold numV
    have h3 : 48 ≤ B (p + n) ∧ B (p + n) ≤ 57 := by simpa using h2
    omega
def szP (ds : List TabD) (V : Nat → Int) (p : Int) : Int := if p < 0 then szD ds (nofD ds (V (-1 - p).toNat)) else p
def szV (ds : List TabD) (V : Nat → Int) (acc : Int) (N : List (Int × Int)) : Int := N.foldl (fun v x => szOp x.1 v (szP ds V x.2)) acc
def nfW (ds : List TabD) (V Q : Nat → Int) (nf : Int) (W : List Us3) : Int := W.foldl (fun nf t => if nofD ds (V t.1) = -9 then nfA nf (Q t.1) else nf) nf
theorem rz_sz {K V Q : Nat → Int} {m : Nat} (hV : ∀ i, K i = 1 → 0 ≤ V i ∧ i64 (V i)) (ds : List TabD) : ∀ (c i : Nat) (how : Int) (P : List (Int × Int)) (U : List Us3) (acc nf : Int), sgz how → match szL K V Q ds c i acc how nf with
    | .inl e => rzP K V m c i how P U = .inl e
    | .inr (i', size, nf') => ∃ N W, rzP K V m c i how P U = .inr (i', P ++ N, U ++ W) ∧ N.length ≤ c ∧ size = szV ds V acc N ∧ nf' = nfW ds V Q nf W ∧ (∀ t ∈ W, t.2 = (m, 1) ∧ K t.1 = 2) ∧ ∀ x ∈ N, (sgz x.1 ∧ (0 ≤ x.2 → i64 x.2)) ∧ (x.2 < 0 → ∃ t ∈ W, x.2 = -1 - (t.1 : Int)) := by
  intro c
  induction c with
  | zero => intro i how P U acc nf _; exact rfl
  | succ c ih =>
    intro i how P U acc nf hh
    have en : szP ds V (-1 - ((i + 1 : Nat) : Int)) = szD ds (nofD ds (V (i + 1))) := by
      unfold szP
      rw [if_pos (by omega), show (-1 - (-1 - ((i + 1 : Nat) : Int))).toNat = i + 1 by omega]
    rw [szL, rzP]
    by_cases h35 : K i = 35
    · rw [if_pos h35, if_pos h35]
      by_cases h2 : K (i + 1) = 2
      · rw [if_pos h2, if_pos h2]
        by_cases hs : K (i + 2) = 43 ∨ K (i + 2) = 45 ∨ K (i + 2) = 42
        · rw [if_pos hs, if_pos hs]
          have g := ih (i + 3) (K (i + 2)) (P ++ [(how, -1 - ((i + 1 : Nat) : Int))]) (U ++ [(i + 1, m, 1)]) (szOp how acc (szD ds (nofD ds (V (i + 1))))) (if nofD ds (V (i + 1)) = -9 then nfA nf (Q (i + 1)) else nf) hs
          revert g
          generalize szL K V Q ds c (i + 3) (szOp how acc (szD ds (nofD ds (V (i + 1))))) (K (i + 2)) (if nofD ds (V (i + 1)) = -9 then nfA nf (Q (i + 1)) else nf) = r
          intro g
          cases r with
          | inl e => exact g
          | inr t =>
            obtain ⟨i', size, nf'⟩ := t
            obtain ⟨N, W, g1, g0, g2, g3, g4, g5⟩ := g
            refine ⟨(how, -1 - ((i + 1 : Nat) : Int)) :: N, (i + 1, m, 1) :: W, by rw [g1, List.append_assoc, List.append_assoc]; rfl, by simp only [List.length_cons]; omega, ?_, ?_, fun t ht => ?_, fun x hx => ?_⟩
            · rw [g2]
              show _ = szV ds V (szOp how acc (szP ds V (-1 - ((i + 1 : Nat) : Int)))) N
              rw [en]
            · rw [g3]
              rfl
            · rcases List.mem_cons.mp ht with q | q
              · rw [q]; exact ⟨rfl, h2⟩
              · exact g4 t q
            · rcases List.mem_cons.mp hx with q | q
              · rw [q]
                exact ⟨⟨hh, fun z => (by exfalso; have z : 0 ≤ -1 - ((i + 1 : Nat) : Int) := z; omega)⟩, fun _ => ⟨_, List.mem_cons_self, rfl⟩⟩
              · obtain ⟨y1, y2⟩ := g5 x q
                refine ⟨y1, fun hn => ?_⟩
                obtain ⟨t, ht, e⟩ := y2 hn
                exact ⟨t, List.mem_cons_of_mem _ ht, e⟩
        · rw [if_neg hs, if_neg hs]
          refine ⟨[(how, -1 - ((i + 1 : Nat) : Int))], [(i + 1, m, 1)], rfl, by simp, ?_, rfl, fun t ht => ?_, fun x hx => ?_⟩
          · show _ = szOp how acc (szP ds V (-1 - ((i + 1 : Nat) : Int)))
            rw [en]
          · rw [List.mem_singleton.mp ht]; exact ⟨rfl, h2⟩
          · rw [List.mem_singleton.mp hx]
            exact ⟨⟨hh, fun z => (by exfalso; have z : 0 ≤ -1 - ((i + 1 : Nat) : Int) := z; omega)⟩, fun _ => ⟨_, List.mem_singleton.mpr rfl, rfl⟩⟩
      · rw [if_neg h2, if_neg h2]
    · rw [if_neg h35, if_neg h35]
      by_cases h1 : K i = 1
      · rw [if_pos h1, if_pos h1]
        have ep : szP ds V (V i) = V i := by
          unfold szP
          rw [if_neg (by have := (hV i h1).1; omega)]
        by_cases hs : K (i + 1) = 43 ∨ K (i + 1) = 45 ∨ K (i + 1) = 42
        · rw [if_pos hs, if_pos hs]
          have g := ih (i + 2) (K (i + 1)) (P ++ [(how, V i)]) U (szOp how acc (V i)) nf hs
          revert g
          generalize szL K V Q ds c (i + 2) (szOp how acc (V i)) (K (i + 1)) nf = r
          intro g
          cases r with
          | inl e => exact g
          | inr t =>
            obtain ⟨i', size, nf'⟩ := t
            obtain ⟨N, W, g1, g0, g2, g3, g4, g5⟩ := g
            refine ⟨(how, V i) :: N, W, by rw [g1, List.append_assoc]; rfl, by simp only [List.length_cons]; omega, ?_, g3, g4, fun x hx => ?_⟩
            · rw [g2]
              show _ = szV ds V (szOp how acc (szP ds V (V i))) N
              rw [ep]
            · rcases List.mem_cons.mp hx with q | q
              · rw [q]
                exact ⟨⟨hh, fun _ => (hV i h1).2⟩, fun hn => absurd hn (by have := (hV i h1).1; show ¬ (V i < 0); omega)⟩
              · exact g5 x q
        · rw [if_neg hs, if_neg hs]
          refine ⟨[(how, V i)], [], by rw [List.append_nil], by simp, ?_, rfl, fun t ht => (by cases ht), fun x hx => ?_⟩
          · show _ = szOp how acc (szP ds V (V i))
            rw [ep]
          · rw [List.mem_singleton.mp hx]
            exact ⟨⟨hh, fun _ => (hV i h1).2⟩, fun hn => absurd hn (by have := (hV i h1).1; show ¬ (V i < 0); omega)⟩
      · rw [if_neg h1, if_neg h1]
theorem tok_nn {B : Nat → Int} (i : Nat) (hk : tK B i = 1) : 0 ≤ tV B i := by
  have hk : tkK B (tq B i) = 1 := hk
  show 0 ≤ tkV B (tq B i)
  unfold tkK at hk
  unfold tkV
  by_cases hd : isDg (B (tq B i)) = true
  · rw [if_pos hd]
    exact numV_nn _ _ (fun j a b => rn_P (P := isDg) a (by omega))
  · rw [if_neg hd] at hk ⊢
    by_cases hl : isLe (B (tq B i)) = true
    · exfalso
      rw [if_pos hl] at hk
      split at hk
      · omega
      · unfold kindW at hk
        repeat' split at hk
        all_goals omega
    · rw [if_neg hl]
      exact Int.le_refl _
