/-! a step of the reference that asks for nothing -/
/-- only the frame v's own act and pile change -/
def Loc (v : Nat) (σ' σ : Mm) : Prop := ∀ f k j, ¬ (((f = 90 ∨ f = 91) ∧ k = 0 ∧ j = v) ∨ (f = 92 ∧ k = 0 ∧ 40 * v ≤ j ∧ j < 40 * v + 40)) → σ' f k j = σ f k j
theorem Loc_refl (v : Nat) (σ : Mm) : Loc v σ σ := fun _ _ _ _ => rfl
theorem Loc_tr {v : Nat} {a b c : Mm} (h : Loc v a b) (h' : Loc v b c) : Loc v a c := fun f k j hf => (h f k j hf).trans (h' f k j hf)
theorem Loc_up {v : Nat} {σ' σ : Mm} (h : Loc v σ' σ) {f j : Nat} (x : Int) (hf : ((f = 90 ∨ f = 91) ∧ j = v) ∨ (f = 92 ∧ 40 * v ≤ j ∧ j < 40 * v + 40)) : Loc v (up3 σ' f 0 j x) σ := by
  intro f' k' j' hn
  have e : up3 σ' f 0 j x f' k' j' = σ' f' k' j' := by
    unfold up3
    rw [if_neg (fun z => hn (by obtain ⟨rfl, rfl, rfl⟩ := z; omega))]
  rw [e]
  exact h f' k' j' hn
theorem Loc_put {v len : Nat} {σ' σ : Mm} {x : Int} (h : Loc v σ' σ) (hl : len < 40) : Loc v (puT σ' v len x) σ := Loc_up (Loc_up h _ (by omega)) _ (by omega)
theorem Loc_G {v : Nat} {σ' σ : Mm} (h : Loc v σ' σ) : FrG σ' σ := fun f k j q => h f k j (by omega)
theorem Loc_L {v : Nat} {σ' σ : Mm} (h : Loc v σ' σ) : LowR v σ' σ := ⟨fun i f q1 q2 q3 => h _ _ _ (by omega), fun j hj => h _ _ _ (by omega)⟩
theorem HR_fr {n : Nat} {S : Sd} {D σ σ' : Mm} (h : HR n S D σ) (hf : ∀ f j, ((71 ≤ f ∧ f ≤ 82) ∨ (f = 10 ∧ (j = 44 ∨ j = 48))) → σ' f 0 j = σ f 0 j) : HR n S D σ' := ⟨fun k hk => ⟨by rw [hf _ _ (by omega)]; exact (h.1 k hk).1, fun z => by
  obtain ⟨a, b, c⟩ := (h.1 k hk).2 z
  exact ⟨a, fun y r hr => by rw [hf _ _ (by omega)]; exact b y r hr, fun p hp y => by rw [hf _ _ (by omega)]; exact c p hp y⟩⟩, LgR_fr h.2 (fun _ _ _ _ => rfl) (fun f j q => hf f j (by omega))⟩
theorem HR_Loc {n v : Nat} {S : Sd} {D σ σ' : Mm} (h : HR n S D σ) (hf : Loc v σ' σ) : HR n S D σ' := HR_fr h (fun f j q => hf _ _ _ (by omega))
theorem FrA_take {τ : Mm} {v t : Nat} {row pl e act x : Int} {st : List Int} (h : FrameAt τ v t row pl e act (x :: st)) : FrameAt (up3 τ 91 0 v (st.length : Int)) v t row pl e act st := by
  obtain ⟨⟨h1, h2⟩, h3, h4, h5, h6, h7, h8⟩ := h
  exact ⟨⟨by rw [up3_n _ (by omega)]; exact h1, by rw [up3_n _ (by omega)]; exact h2⟩, by rw [up3_n _ (by omega)]; exact h3, by rw [up3_n _ (by omega)]; exact h4, by rw [up3_n _ (by omega)]; exact h5, up3_s _ _ _ _ _, PlR_fr st (fun j q1 q2 => up3_n _ (by omega)) h8⟩
theorem FrA_put {τ : Mm} {v t : Nat} {row pl e act x : Int} {st : List Int} (h : FrameAt τ v t row pl e act st) : FrameAt (puT τ v st.length x) v t row pl e act (x :: st) := by
  obtain ⟨⟨h1, h2⟩, h3, h4, h5, h6, h8⟩ := h
  unfold puT
  refine ⟨⟨by rw [up3_n _ (by omega), up3_n _ (by omega)]; exact h1, by rw [up3_n _ (by omega), up3_n _ (by omega)]; exact h2⟩, by rw [up3_n _ (by omega), up3_n _ (by omega)]; exact h3, by rw [up3_n _ (by omega), up3_n _ (by omega)]; exact h4, by rw [up3_n _ (by omega), up3_n _ (by omega)]; exact h5, by rw [up3_s]; rfl, by rw [up3_n _ (by omega), up3_s], PlR_fr st (fun j q1 q2 => by rw [up3_n _ (by omega), up3_n _ (by omega)]) h8⟩
theorem FrA_act {τ : Mm} {v t : Nat} {row pl e act a' : Int} {st : List Int} (h : FrameAt τ v t row pl e act st) : FrameAt (up3 τ 90 0 v a') v t row pl e a' st := by
  obtain ⟨⟨h1, h2⟩, h3, h4, h5, h6, h8⟩ := h
  exact ⟨⟨by rw [up3_n _ (by omega)]; exact h1, by rw [up3_n _ (by omega)]; exact h2⟩, by rw [up3_n _ (by omega)]; exact h3, by rw [up3_n _ (by omega)]; exact h4, up3_s _ _ _ _ _, by rw [up3_n _ (by omega)]; exact h6, PlR_fr st (fun j q1 q2 => up3_n _ (by omega)) h8⟩
/-- what a step does that isn't an ENTRY -/
def spF (S : Sd) (pl : Int) (z : Zs) (st : List Int) : Option (Nat × List Int) :=
  if z.1 = 0 then some (0, z.2.1 :: st) else if z.1 = 1 then some (0, pl :: st) else if z.1 = 2 then some (0, sSz S z.2.1.toNat :: st)
  else if z.1 = 4 then some (0, w64 (-st.headD 0) :: st.tail) else if z.1 = 5 then some (z.2.1.toNat, st)
  else if z.1 = 6 then some (if st.headD 0 = 0 then z.2.1.toNat else 0, st.tail)
  else match binF z.1 (st.tail.headD 0) (st.headD 0) with
    | none => none
    | some x => some (0, x :: st.tail.tail)
theorem run_sp {S : Sd} {t : Nat} {pl : Int} {ask : Mm → Nat → Int → Int → ER} {m : Nat} {z : Zs} {c : List Zs} {st : List Int} {D : Mm} (h3 : z.1 ≠ 3) : runF S t pl ask (m + 1) (z :: c) st D = match spF S pl z st with
    | none => .inl (1, 0, D)
    | some (s, st') => runF S t pl ask m (c.drop s) st' D := by
  rw [runF]
  unfold spF
  by_cases h0 : z.1 = 0
  · rw [if_pos h0, if_pos h0]; rfl
  rw [if_neg h0, if_neg h0]
  by_cases h1 : z.1 = 1
  · rw [if_pos h1, if_pos h1]; rfl
  rw [if_neg h1, if_neg h1]
  by_cases h2 : z.1 = 2
  · rw [if_pos h2, if_pos h2]; rfl
  rw [if_neg h2, if_neg h2, if_neg h3]
  by_cases h4 : z.1 = 4
  · rw [if_pos h4, if_pos h4]; rfl
  rw [if_neg h4, if_neg h4]
  by_cases h5 : z.1 = 5
  · rw [if_pos h5, if_pos h5]
  rw [if_neg h5, if_neg h5]
  by_cases h6 : z.1 = 6
  · rw [if_pos h6, if_pos h6]
    by_cases hz : st.headD 0 = 0
    · rw [if_pos hz, if_pos hz]
    · rw [if_neg hz, if_neg hz]; rfl
  rw [if_neg h6, if_neg h6]
  cases binF z.1 (st.tail.headD 0) (st.headD 0) with
  | none => rfl
  | some x => rfl
section ST
variable {S : Sd} {n d v t A m : Nat} {row pl e : Int} {σ : Mm} {st : List Int} {z : Zs} {c : List Zs}
theorem sp_pre {C : Cx} {o : Int} (h : Ok C RX10 cX10_step 8 d) (hv : v < 12) (h90 : σ 90 0 v = (A : Int)) (hA : A < 900) (hop : σ 69 0 A = o) (hx : X C 1 24 [(0, vR 10 0), (1, vI v), (2, vI A), (3, vI o)] [] NALL (up3 σ 90 0 v ((A + 1 : Nat) : Int)) 0 0) : X C 1 0 [(0, vR 10 0), (1, vI v)] [] NALL σ 0 0 := by
  have e1 : (A : Int) + 1 = ((A + 1 : Nat) : Int) := by omega
  refine x_aload_n h dX10_step_0 rfl ?_
  refine x_get h fl_10_142 lvz_10 dX10_step_1 (pvf_590 _ _) ?_
  refine x_iload_n h dX10_step_4 rfl ?_
  refine x_iald h kdf_90 lvz_90 dX10_step_5 rfl (by omega) ?_
  rw [h90]
  refine x_istore_n h dX10_step_6 (by decide) ?_
  refine x_aload_n h dX10_step_7 rfl ?_
  refine x_get h fl_10_94 lvz_10 dX10_step_8 (pvf_569 _ _) ?_
  refine x_iload_n h dX10_step_11 rfl ?_
  refine x_iald h kdf_69 lvz_69 dX10_step_12 rfl (by omega) ?_
  rw [hop]
  refine x_istore_n h dX10_step_13 (by decide) ?_
  refine x_aload_n h dX10_step_14 rfl ?_
  refine x_get h fl_10_142 lvz_10 dX10_step_15 (pvf_590 _ _) ?_
  refine x_iload_n h dX10_step_18 rfl ?_
  refine x_dup2 h dX10_step_19 rfl rfl ?_
  refine x_iald h kdf_90 lvz_90 dX10_step_20 rfl (by omega) ?_
  rw [h90]
  refine x_iconst h dX10_step_21 ?_
  refine x_iadd h dX10_step_22 ?_
  rw [e1]
  refine x_iast h kdf_90 lvz_90 dX10_step_23 rfl (by omega) ?_
  exact x_loc (ls' := [(0, vR 10 0), (1, vI v), (2, vI A), (3, vI o)]) ⟨rfl, rfl, rfl, rfl, trivial⟩ hx
theorem st_put {C : Cx} {o x : Int} {len : Nat} {τ : Mm} (h : Ok C RX10 cX10_step 8 (d + 1)) (hv : v < 12) (h91 : τ 91 0 v = (len : Int)) (hl : len < 40) (hr : Rt C 1 (some .int) (some (vI 0)) NALL (puT τ v len x) 0 0) : X C 1 82 [(0, vR 10 0), (1, vI v), (2, vI A), (3, vI o)] [vL x, vI v, vR 10 0] NALL τ 0 0 := by
  refine x_cV0 h kVX10_putTop lkX10_339 ⟨_, _, _, rfl, rfl⟩ dX10_step_82 (m_putTop (d := d) hv h91 hl) lvz_10 rfl rfl (Nat.le_of_ble_eq_true rfl) (by omega) ?_
  refine x_iconst h dX10_step_85 ?_
  exact x_ireturn h hr dX10_step_86 (Or.inl rfl) ⟨Nat.le_refl _, Nat.le_refl _⟩
theorem st_put2 {C : Cx} {x : Int} {len : Nat} {τ : Mm} {ls : List (Nat × PV)} (h : Ok C RX10 cX10_step 8 (d + 1)) (hv : v < 12) (h91 : τ 91 0 v = (len : Int)) (hl : len < 40) (hr : Rt C 1 (some .int) (some (vI 0)) NALL (puT τ v len x) 0 0) : X C 1 347 ls [vL x, vI v, vR 10 0] NALL τ 0 0 := by
  refine x_cV0 h kVX10_putTop lkX10_339 ⟨_, _, _, rfl, rfl⟩ dX10_step_347 (m_putTop (d := d) hv h91 hl) lvz_10 rfl rfl (Nat.le_of_ble_eq_true rfl) (by omega) ?_
  refine x_iconst h dX10_step_350 ?_
  exact x_ireturn h hr dX10_step_351 (Or.inl rfl) ⟨Nat.le_refl _, Nat.le_refl _⟩
theorem st_take {C : Cx} {o x : Int} {τ : Mm} (h : Ok C RX10 cX10_step 8 (d + 1)) (hv : v < 12) (ho : 4 ≤ o ∧ o ≤ 12) (h91 : τ 91 0 v = ((x :: st).length : Int)) (hp : PlR τ v (x :: st)) (hl : st.length < 40) (hx : X C 1 115 [(0, vR 10 0), (1, vI v), (2, vI A), (3, vI o), (4, vL x)] [] NALL (up3 τ 91 0 v (st.length : Int)) 0 0) : X C 1 24 [(0, vR 10 0), (1, vI v), (2, vI A), (3, vI o)] [] NALL τ 0 0 := by
  refine x_iload_n h dX10_step_24 rfl ?_
  refine x_iconst h dX10_step_25 ?_
  refine x_ic_eq_F (tgt := 39) h (by omega) dX10_step_26 (by decide) (by omega) ?_
  refine x_iload_n h dX10_step_29 rfl ?_
  refine x_iconst h dX10_step_30 ?_
  refine x_ic_eq_F (tgt := 39) h (by omega) dX10_step_31 (by decide) (by omega) ?_
  refine x_iload_n h dX10_step_34 rfl ?_
  refine x_iconst h dX10_step_35 ?_
  refine x_ic_ne_T (tgt := 87) h (by omega) dX10_step_36 (by decide) (by omega) ?_
  refine x_iload_n h dX10_step_87 rfl ?_
  refine x_bipush h dX10_step_88 (by decide) ?_
  refine x_ic_ne_T (tgt := 108) h (by omega) dX10_step_90 (by decide) (by omega) ?_
  refine x_aload_n h dX10_step_108 rfl ?_
  refine x_iload_n h dX10_step_109 rfl ?_
  refine x_cV1 h kVX10_takeTop lkX10_342 ⟨_, _, _, rfl, rfl⟩ dX10_step_110 (m_takeTop (d := d) hv h91 hp hl) lvz_10 rfl rfl (Nat.le_of_ble_eq_true rfl) (by omega) ?_
  refine x_lstore h dX10_step_113 (by decide) ?_
  exact x_loc (ls' := [(0, vR 10 0), (1, vI v), (2, vI A), (3, vI o), (4, vL x)]) ⟨rfl, rfl, rfl, rfl, rfl, trivial⟩ hx
/-- a step with two numbers -/
theorem m_stepB {x y : Int} {o : Int} (hop : σ 69 0 A = actF z.1 ∧ (z.1 = 43 ∨ z.1 = 45 ∨ z.1 = 42 ∨ z.1 = 47 ∨ z.1 = 37) ∨ (σ 69 0 A = 11 ∧ z.1 = 60)) (ho : o = σ 69 0 A) (hF : FrameAt σ v t row pl e (A : Int) (x :: y :: st)) (hA : A < 900) (hv : v < 12) (hl : st.length < 30) (hx : i64 x) (hy : i64 y) : ∃ σ', Loc v σ' σ ∧ match binF z.1 y x with
    | none => Ct (d + 1) mX10_step 1 [vR 10 0, vI v] NALL σ (some (vI 1)) NALL σ' 0 0
    | some w => FrameAt σ' v t row pl e ((A + 1 : Nat) : Int) (w :: st) ∧ Ct (d + 1) mX10_step 1 [vR 10 0, vI v] NALL σ (some (vI 0)) NALL σ' 0 0 := by
  obtain ⟨T1, t1⟩ : ∃ q, q = up3 σ 90 0 v ((A + 1 : Nat) : Int) := ⟨_, rfl⟩
  have F1 : FrameAt T1 v t row pl e ((A + 1 : Nat) : Int) (x :: y :: st) := by rw [t1]; exact FrA_act hF
  have L1 : Loc v T1 σ := by rw [t1]; exact Loc_up (Loc_refl v σ) _ (by omega)
  obtain ⟨T2, t2⟩ : ∃ q, q = up3 T1 91 0 v ((y :: st).length : Int) := ⟨_, rfl⟩
  have F2 : FrameAt T2 v t row pl e ((A + 1 : Nat) : Int) (y :: st) := by rw [t2]; exact FrA_take F1
  have L2 : Loc v T2 σ := by rw [t2]; exact Loc_up L1 _ (by omega)
  obtain ⟨T3, t3⟩ : ∃ q, q = up3 T2 91 0 v (st.length : Int) := ⟨_, rfl⟩
  have F3 : FrameAt T3 v t row pl e ((A + 1 : Nat) : Int) st := by rw [t3]; exact FrA_take F2
  have L3 : Loc v T3 σ := by rw [t3]; exact Loc_up L2 _ (by omega)
  obtain ⟨hx1, hx2⟩ := hx
  obtain ⟨hy1, hy2⟩ := hy
  have hol : (y :: st).length < 40 := by simp only [List.length_cons]; omega
  have ho9 : 6 ≤ o ∧ o ≤ 11 := by
    rw [ho]
    rcases hop with ⟨q, -⟩ | ⟨q, -⟩
    · rw [q]; have := actF_r z.1; omega
    · rw [q]; omega
  have pre : ∀ C : Cx, Ok C RX10 cX10_step 8 (d + 1) → X C 1 241 [(0, vR 10 0), (1, vI v), (2, vI A), (3, vI o), (4, vL x), (6, vL y)] [] NALL T3 0 0 → X C 1 0 [(0, vR 10 0), (1, vI v)] [] NALL σ 0 0 := fun C h hk => by
    refine sp_pre h hv hF.2.2.2.1 hA ho.symm ?_
    rw [← t1]
    refine st_take h hv (by omega) F1.2.2.2.2.1 F1.2.2.2.2.2 hol ?_
    rw [← t2]
    refine x_iload_n h dX10_step_115 rfl ?_
    refine x_bipush h dX10_step_116 (by decide) ?_
    refine x_ic_ne_T (tgt := 152) h (by omega) dX10_step_118 (by decide) (by omega) ?_
    refine x_iload_n h dX10_step_152 rfl ?_
    refine x_iconst h dX10_step_153 ?_
    refine x_ic_ne_T (tgt := 167) h (by omega) dX10_step_154 (by decide) (by omega) ?_
    refine x_iload_n h dX10_step_167 rfl ?_
    refine x_iconst h dX10_step_168 ?_
    refine x_ic_ne_T (tgt := 234) h (by omega) dX10_step_169 (by decide) (by omega) ?_
    refine x_aload_n h dX10_step_234 rfl ?_
    refine x_iload_n h dX10_step_235 rfl ?_
    refine x_cV1 h kVX10_takeTop lkX10_342 ⟨_, _, _, rfl, rfl⟩ dX10_step_236 (m_takeTop (d := d) hv F2.2.2.2.2.1 F2.2.2.2.2.2 (by omega)) lvz_10 rfl rfl (Nat.le_of_ble_eq_true rfl) (by omega) ?_
    refine x_lstore h dX10_step_239 (by decide) ?_
    rw [← t3]
    exact x_loc (ls' := [(0, vR 10 0), (1, vI v), (2, vI A), (3, vI o), (4, vL x), (6, vL y)]) ⟨rfl, rfl, rfl, rfl, rfl, rfl, trivial⟩ hk
  have fin : ∀ w, FrameAt (puT T3 v st.length w) v t row pl e ((A + 1 : Nat) : Int) (w :: st) := fun w => FrA_put F3
  have Lf : ∀ w, Loc v (puT T3 v st.length w) σ := fun w => Loc_put L3 (by omega)
  have h91 := F3.2.2.2.2.1
  rcases hop with ⟨q, h43 | h45 | h42 | h47 | h37⟩ | ⟨q, h60⟩
  · have eb : binF z.1 y x = some (w64 (y + x)) := by unfold binF; rw [if_pos h43]
    have eo : o = 6 := by rw [ho, q, h43]; rfl
    subst eo
    rw [eb]
    refine ⟨_, Lf _, fin _, ?_⟩
    refine ct_of (by decide) (Nat.le_of_ble_eq_true rfl) (fun C h hr _ => ?_)
    have h : Ok C RX10 cX10_step 8 _ := h
    refine pre C h ?_
    refine x_iload_n h dX10_step_241 rfl ?_
    refine x_bipush h dX10_step_242 (by decide) ?_
    refine x_ic_eq_F (tgt := 253) h (by omega) dX10_step_244 (by decide) (by omega) ?_
    refine x_iload_n h dX10_step_247 rfl ?_
    refine x_bipush h dX10_step_248 (by decide) ?_
    refine x_ic_ne_T (tgt := 262) h (by omega) dX10_step_250 (by decide) (by omega) ?_
    refine x_aload_n h dX10_step_262 rfl ?_
    refine x_iload_n h dX10_step_263 rfl ?_
    refine x_iload_n h dX10_step_264 rfl ?_
    refine x_bipush h dX10_step_265 (by decide) ?_
    refine x_ic_ne_F (tgt := 278) h (by omega) dX10_step_267 (by decide) (by omega) ?_
    refine x_lload h dX10_step_270 rfl ?_
    refine x_lload h dX10_step_272 rfl ?_
    refine x_ladd h dX10_step_274 ?_
    refine x_wL ?_
    refine x_goto (tgt := 347) h dX10_step_275 (by decide) ?_
    exact st_put2 h hv h91 (by omega) hr
  · have eb : binF z.1 y x = some (w64 (y - x)) := by unfold binF; rw [if_neg (by omega), if_pos h45]
    have eo : o = 7 := by rw [ho, q, h45]; rfl
    subst eo
    rw [eb]
    refine ⟨_, Lf _, fin _, ?_⟩
    refine ct_of (by decide) (Nat.le_of_ble_eq_true rfl) (fun C h hr _ => ?_)
    have h : Ok C RX10 cX10_step 8 _ := h
    refine pre C h ?_
    refine x_iload_n h dX10_step_241 rfl ?_
    refine x_bipush h dX10_step_242 (by decide) ?_
    refine x_ic_eq_F (tgt := 253) h (by omega) dX10_step_244 (by decide) (by omega) ?_
    refine x_iload_n h dX10_step_247 rfl ?_
    refine x_bipush h dX10_step_248 (by decide) ?_
    refine x_ic_ne_T (tgt := 262) h (by omega) dX10_step_250 (by decide) (by omega) ?_
    refine x_aload_n h dX10_step_262 rfl ?_
    refine x_iload_n h dX10_step_263 rfl ?_
    refine x_iload_n h dX10_step_264 rfl ?_
    refine x_bipush h dX10_step_265 (by decide) ?_
    refine x_ic_ne_T (tgt := 278) h (by omega) dX10_step_267 (by decide) (by omega) ?_
    refine x_iload_n h dX10_step_278 rfl ?_
    refine x_bipush h dX10_step_279 (by decide) ?_
    refine x_ic_ne_F (tgt := 292) h (by omega) dX10_step_281 (by decide) (by omega) ?_
    refine x_lload h dX10_step_284 rfl ?_
    refine x_lload h dX10_step_286 rfl ?_
    refine x_lsub h dX10_step_288 ?_
    refine x_wL ?_
    refine x_goto (tgt := 347) h dX10_step_289 (by decide) ?_
    exact st_put2 h hv h91 (by omega) hr
  · have eb : binF z.1 y x = some (w64 (y * x)) := by unfold binF; rw [if_neg (by omega), if_neg (by omega), if_pos h42]
    have eo : o = 8 := by rw [ho, q, h42]; rfl
    subst eo
    rw [eb]
    refine ⟨_, Lf _, fin _, ?_⟩
    refine ct_of (by decide) (Nat.le_of_ble_eq_true rfl) (fun C h hr _ => ?_)
    have h : Ok C RX10 cX10_step 8 _ := h
    refine pre C h ?_
    refine x_iload_n h dX10_step_241 rfl ?_
    refine x_bipush h dX10_step_242 (by decide) ?_
    refine x_ic_eq_F (tgt := 253) h (by omega) dX10_step_244 (by decide) (by omega) ?_
    refine x_iload_n h dX10_step_247 rfl ?_
    refine x_bipush h dX10_step_248 (by decide) ?_
    refine x_ic_ne_T (tgt := 262) h (by omega) dX10_step_250 (by decide) (by omega) ?_
    refine x_aload_n h dX10_step_262 rfl ?_
    refine x_iload_n h dX10_step_263 rfl ?_
    refine x_iload_n h dX10_step_264 rfl ?_
    refine x_bipush h dX10_step_265 (by decide) ?_
    refine x_ic_ne_T (tgt := 278) h (by omega) dX10_step_267 (by decide) (by omega) ?_
    refine x_iload_n h dX10_step_278 rfl ?_
    refine x_bipush h dX10_step_279 (by decide) ?_
    refine x_ic_ne_T (tgt := 292) h (by omega) dX10_step_281 (by decide) (by omega) ?_
    refine x_iload_n h dX10_step_292 rfl ?_
    refine x_bipush h dX10_step_293 (by decide) ?_
    refine x_ic_ne_F (tgt := 306) h (by omega) dX10_step_295 (by decide) (by omega) ?_
    refine x_lload h dX10_step_298 rfl ?_
    refine x_lload h dX10_step_300 rfl ?_
    refine x_lmul h dX10_step_302 ?_
    refine x_wL ?_
    refine x_goto (tgt := 347) h dX10_step_303 (by decide) ?_
    exact st_put2 h hv h91 (by omega) hr
  · have eo : o = 9 := by rw [ho, q, h47]; rfl
    subst eo
    by_cases hx0 : x = 0
    · have eb : binF z.1 y x = none := by unfold binF; rw [if_neg (by omega), if_neg (by omega), if_neg (by omega), if_neg (by omega), if_pos hx0]
      rw [eb]
      refine ⟨T3, L3, ?_⟩
      refine ct_of (by decide) (Nat.le_of_ble_eq_true rfl) (fun C h hr _ => ?_)
      have h : Ok C RX10 cX10_step 8 _ := h
      refine pre C h ?_
      refine x_iload_n h dX10_step_241 rfl ?_
      refine x_bipush h dX10_step_242 (by decide) ?_
      refine x_ic_eq_T (tgt := 253) h (by omega) dX10_step_244 (by decide) (by omega) ?_
      refine x_lload h dX10_step_253 rfl ?_
      refine x_lconst0 h dX10_step_255 ?_
      refine x_lc_ne (tgt := 262) h (by omega) dX10_step_256 dX10_step_257 (by decide) (fun q => absurd q (by omega)) (fun _ => ?_)
      refine x_iconst h dX10_step_260 ?_
      exact x_ireturn h hr dX10_step_261 (Or.inl rfl) ⟨Nat.le_refl _, Nat.le_refl _⟩
    · have eb : binF z.1 y x = some (w64 (Int.tdiv y x)) := by unfold binF; rw [if_neg (by omega), if_neg (by omega), if_neg (by omega), if_neg (by omega), if_neg hx0, if_pos h47]
      rw [eb]
      refine ⟨_, Lf _, fin _, ?_⟩
      refine ct_of (by decide) (Nat.le_of_ble_eq_true rfl) (fun C h hr _ => ?_)
      have h : Ok C RX10 cX10_step 8 _ := h
      refine pre C h ?_
      refine x_iload_n h dX10_step_241 rfl ?_
      refine x_bipush h dX10_step_242 (by decide) ?_
      refine x_ic_eq_T (tgt := 253) h (by omega) dX10_step_244 (by decide) (by omega) ?_
      refine x_lload h dX10_step_253 rfl ?_
      refine x_lconst0 h dX10_step_255 ?_
      refine x_lc_ne (tgt := 262) h (by omega) dX10_step_256 dX10_step_257 (by decide) (fun _ => ?_) (fun q => absurd (by omega) q)
      refine x_aload_n h dX10_step_262 rfl ?_
      refine x_iload_n h dX10_step_263 rfl ?_
      refine x_iload_n h dX10_step_264 rfl ?_
      refine x_bipush h dX10_step_265 (by decide) ?_
      refine x_ic_ne_T (tgt := 278) h (by omega) dX10_step_267 (by decide) (by omega) ?_
      refine x_iload_n h dX10_step_278 rfl ?_
      refine x_bipush h dX10_step_279 (by decide) ?_
      refine x_ic_ne_T (tgt := 292) h (by omega) dX10_step_281 (by decide) (by omega) ?_
      refine x_iload_n h dX10_step_292 rfl ?_
      refine x_bipush h dX10_step_293 (by decide) ?_
      refine x_ic_ne_T (tgt := 306) h (by omega) dX10_step_295 (by decide) (by omega) ?_
      refine x_iload_n h dX10_step_306 rfl ?_
      refine x_bipush h dX10_step_307 (by decide) ?_
      refine x_ic_ne_F (tgt := 320) h (by omega) dX10_step_309 (by decide) (by omega) ?_
      refine x_lload h dX10_step_312 rfl ?_
      refine x_lload h dX10_step_314 rfl ?_
      refine x_ldiv h (by omega) dX10_step_316 ?_
      refine x_wL ?_
      refine x_goto (tgt := 347) h dX10_step_317 (by decide) ?_
      exact st_put2 h hv h91 (by omega) hr
  · have eo : o = 10 := by rw [ho, q, h37]; rfl
    subst eo
    by_cases hx0 : x = 0
    · have eb : binF z.1 y x = none := by unfold binF; rw [if_neg (by omega), if_neg (by omega), if_neg (by omega), if_neg (by omega), if_pos hx0]
      rw [eb]
      refine ⟨T3, L3, ?_⟩
      refine ct_of (by decide) (Nat.le_of_ble_eq_true rfl) (fun C h hr _ => ?_)
      have h : Ok C RX10 cX10_step 8 _ := h
      refine pre C h ?_
      refine x_iload_n h dX10_step_241 rfl ?_
      refine x_bipush h dX10_step_242 (by decide) ?_
      refine x_ic_eq_F (tgt := 253) h (by omega) dX10_step_244 (by decide) (by omega) ?_
      refine x_iload_n h dX10_step_247 rfl ?_
      refine x_bipush h dX10_step_248 (by decide) ?_
      refine x_ic_ne_F (tgt := 262) h (by omega) dX10_step_250 (by decide) (by omega) ?_
      refine x_lload h dX10_step_253 rfl ?_
      refine x_lconst0 h dX10_step_255 ?_
      refine x_lc_ne (tgt := 262) h (by omega) dX10_step_256 dX10_step_257 (by decide) (fun q => absurd q (by omega)) (fun _ => ?_)
      refine x_iconst h dX10_step_260 ?_
      exact x_ireturn h hr dX10_step_261 (Or.inl rfl) ⟨Nat.le_refl _, Nat.le_refl _⟩
    · have eb : binF z.1 y x = some (w64 (y - Int.tdiv y x * x)) := by unfold binF; rw [if_neg (by omega), if_neg (by omega), if_neg (by omega), if_neg (by omega), if_neg hx0, if_neg (by omega)]
      rw [eb]
      refine ⟨_, Lf _, fin _, ?_⟩
      refine ct_of (by decide) (Nat.le_of_ble_eq_true rfl) (fun C h hr _ => ?_)
      have h : Ok C RX10 cX10_step 8 _ := h
      refine pre C h ?_
      refine x_iload_n h dX10_step_241 rfl ?_
      refine x_bipush h dX10_step_242 (by decide) ?_
      refine x_ic_eq_F (tgt := 253) h (by omega) dX10_step_244 (by decide) (by omega) ?_
      refine x_iload_n h dX10_step_247 rfl ?_
      refine x_bipush h dX10_step_248 (by decide) ?_
      refine x_ic_ne_F (tgt := 262) h (by omega) dX10_step_250 (by decide) (by omega) ?_
      refine x_lload h dX10_step_253 rfl ?_
      refine x_lconst0 h dX10_step_255 ?_
      refine x_lc_ne (tgt := 262) h (by omega) dX10_step_256 dX10_step_257 (by decide) (fun _ => ?_) (fun q => absurd (by omega) q)
      refine x_aload_n h dX10_step_262 rfl ?_
      refine x_iload_n h dX10_step_263 rfl ?_
      refine x_iload_n h dX10_step_264 rfl ?_
      refine x_bipush h dX10_step_265 (by decide) ?_
      refine x_ic_ne_T (tgt := 278) h (by omega) dX10_step_267 (by decide) (by omega) ?_
      refine x_iload_n h dX10_step_278 rfl ?_
      refine x_bipush h dX10_step_279 (by decide) ?_
      refine x_ic_ne_T (tgt := 292) h (by omega) dX10_step_281 (by decide) (by omega) ?_
      refine x_iload_n h dX10_step_292 rfl ?_
      refine x_bipush h dX10_step_293 (by decide) ?_
      refine x_ic_ne_T (tgt := 306) h (by omega) dX10_step_295 (by decide) (by omega) ?_
      refine x_iload_n h dX10_step_306 rfl ?_
      refine x_bipush h dX10_step_307 (by decide) ?_
      refine x_ic_ne_T (tgt := 320) h (by omega) dX10_step_309 (by decide) (by omega) ?_
      refine x_iload_n h dX10_step_320 rfl ?_
      refine x_bipush h dX10_step_321 (by decide) ?_
      refine x_ic_ne_F (tgt := 334) h (by omega) dX10_step_323 (by decide) (by omega) ?_
      refine x_lload h dX10_step_326 rfl ?_
      refine x_lload h dX10_step_328 rfl ?_
      refine x_lrem h (by omega) dX10_step_330 ?_
      refine x_wL ?_
      refine x_goto (tgt := 347) h dX10_step_331 (by decide) ?_
      exact st_put2 h hv h91 (by omega) hr
  · have eb : binF z.1 y x = some (if y < x then 1 else 0) := by unfold binF; rw [if_neg (by omega), if_neg (by omega), if_neg (by omega), if_pos h60]
    have eo : o = 11 := by rw [ho, q]
    subst eo
    rw [eb]
    refine ⟨_, Lf _, fin _, ?_⟩
    refine ct_of (by decide) (Nat.le_of_ble_eq_true rfl) (fun C h hr _ => ?_)
    have h : Ok C RX10 cX10_step 8 _ := h
    refine pre C h ?_
    by_cases hlt : y < x
    · rw [if_pos hlt] at hr
      refine x_iload_n h dX10_step_241 rfl ?_
      refine x_bipush h dX10_step_242 (by decide) ?_
      refine x_ic_eq_F (tgt := 253) h (by omega) dX10_step_244 (by decide) (by omega) ?_
      refine x_iload_n h dX10_step_247 rfl ?_
      refine x_bipush h dX10_step_248 (by decide) ?_
      refine x_ic_ne_T (tgt := 262) h (by omega) dX10_step_250 (by decide) (by omega) ?_
      refine x_aload_n h dX10_step_262 rfl ?_
      refine x_iload_n h dX10_step_263 rfl ?_
      refine x_iload_n h dX10_step_264 rfl ?_
      refine x_bipush h dX10_step_265 (by decide) ?_
      refine x_ic_ne_T (tgt := 278) h (by omega) dX10_step_267 (by decide) (by omega) ?_
      refine x_iload_n h dX10_step_278 rfl ?_
      refine x_bipush h dX10_step_279 (by decide) ?_
      refine x_ic_ne_T (tgt := 292) h (by omega) dX10_step_281 (by decide) (by omega) ?_
      refine x_iload_n h dX10_step_292 rfl ?_
      refine x_bipush h dX10_step_293 (by decide) ?_
      refine x_ic_ne_T (tgt := 306) h (by omega) dX10_step_295 (by decide) (by omega) ?_
      refine x_iload_n h dX10_step_306 rfl ?_
      refine x_bipush h dX10_step_307 (by decide) ?_
      refine x_ic_ne_T (tgt := 320) h (by omega) dX10_step_309 (by decide) (by omega) ?_
      refine x_iload_n h dX10_step_320 rfl ?_
      refine x_bipush h dX10_step_321 (by decide) ?_
      refine x_ic_ne_T (tgt := 334) h (by omega) dX10_step_323 (by decide) (by omega) ?_
      refine x_lload h dX10_step_334 rfl ?_
      refine x_lload h dX10_step_336 rfl ?_
      refine x_lc_ge (tgt := 346) h (by omega) dX10_step_338 dX10_step_339 (by decide) (fun q => absurd q (by omega)) (fun _ => ?_)
      refine x_lconst1 h dX10_step_342 ?_
      refine x_goto (tgt := 347) h dX10_step_343 (by decide) ?_
      exact st_put2 h hv h91 (by omega) hr
    · rw [if_neg hlt] at hr
      refine x_iload_n h dX10_step_241 rfl ?_
      refine x_bipush h dX10_step_242 (by decide) ?_
      refine x_ic_eq_F (tgt := 253) h (by omega) dX10_step_244 (by decide) (by omega) ?_
      refine x_iload_n h dX10_step_247 rfl ?_
      refine x_bipush h dX10_step_248 (by decide) ?_
      refine x_ic_ne_T (tgt := 262) h (by omega) dX10_step_250 (by decide) (by omega) ?_
      refine x_aload_n h dX10_step_262 rfl ?_
      refine x_iload_n h dX10_step_263 rfl ?_
      refine x_iload_n h dX10_step_264 rfl ?_
      refine x_bipush h dX10_step_265 (by decide) ?_
      refine x_ic_ne_T (tgt := 278) h (by omega) dX10_step_267 (by decide) (by omega) ?_
      refine x_iload_n h dX10_step_278 rfl ?_
      refine x_bipush h dX10_step_279 (by decide) ?_
      refine x_ic_ne_T (tgt := 292) h (by omega) dX10_step_281 (by decide) (by omega) ?_
      refine x_iload_n h dX10_step_292 rfl ?_
      refine x_bipush h dX10_step_293 (by decide) ?_
      refine x_ic_ne_T (tgt := 306) h (by omega) dX10_step_295 (by decide) (by omega) ?_
      refine x_iload_n h dX10_step_306 rfl ?_
      refine x_bipush h dX10_step_307 (by decide) ?_
      refine x_ic_ne_T (tgt := 320) h (by omega) dX10_step_309 (by decide) (by omega) ?_
      refine x_iload_n h dX10_step_320 rfl ?_
      refine x_bipush h dX10_step_321 (by decide) ?_
      refine x_ic_ne_T (tgt := 334) h (by omega) dX10_step_323 (by decide) (by omega) ?_
      refine x_lload h dX10_step_334 rfl ?_
      refine x_lload h dX10_step_336 rfl ?_
      refine x_lc_ge (tgt := 346) h (by omega) dX10_step_338 dX10_step_339 (by decide) (fun _ => ?_) (fun q => absurd (by omega) q)
      refine x_lconst0 h dX10_step_346 ?_
      exact st_put2 h hv h91 (by omega) hr
theorem wf_k {h : Nat} (hw : wf (m + 1) (z :: c) h) : (z.1 = 0 → i64 z.2.1 ∧ h < 24 ∧ wf m c (h + 1)) ∧ (z.1 = 1 → h < 24 ∧ wf m c (h + 1)) ∧ (z.1 = 2 → h < 24 ∧ wf m c (h + 1)) ∧ (z.1 = 3 → 1 ≤ h ∧ wf m c h) ∧ (z.1 = 4 → 1 ≤ h ∧ wf m c h) ∧ (z.1 = 5 → 0 ≤ z.2.1 ∧ z.2.1 ≤ c.length ∧ wf m (c.drop z.2.1.toNat) h) ∧ (z.1 = 6 → 1 ≤ h ∧ 0 ≤ z.2.1 ∧ z.2.1 ≤ c.length ∧ wf m (c.drop z.2.1.toNat) (h - 1) ∧ wf m c (h - 1)) ∧ (7 ≤ z.1 → 2 ≤ h ∧ wf m c (h - 1)) := by
  unfold wf at hw
  rcases hw with w | w | w | w | w | w | w | w
  · exact ⟨fun _ => w.2, fun q => by omega, fun q => by omega, fun q => by omega, fun q => by omega, fun q => by omega, fun q => by omega, fun q => by omega⟩
  · exact ⟨fun q => by omega, fun _ => w.2, fun q => by omega, fun q => by omega, fun q => by omega, fun q => by omega, fun q => by omega, fun q => by omega⟩
  · exact ⟨fun q => by omega, fun q => by omega, fun _ => w.2, fun q => by omega, fun q => by omega, fun q => by omega, fun q => by omega, fun q => by omega⟩
  · exact ⟨fun q => by omega, fun q => by omega, fun q => by omega, fun _ => w.2, fun q => by omega, fun q => by omega, fun q => by omega, fun q => by omega⟩
  · exact ⟨fun q => by omega, fun q => by omega, fun q => by omega, fun q => by omega, fun _ => w.2, fun q => by omega, fun q => by omega, fun q => by omega⟩
  · exact ⟨fun q => by omega, fun q => by omega, fun q => by omega, fun q => by omega, fun q => by omega, fun _ => w.2, fun q => by omega, fun q => by omega⟩
  · exact ⟨fun q => by omega, fun q => by omega, fun q => by omega, fun q => by omega, fun q => by omega, fun q => by omega, fun _ => w.2, fun q => by omega⟩
  · exact ⟨fun q => by omega, fun q => by omega, fun q => by omega, fun q => by omega, fun q => by omega, fun q => by omega, fun q => by omega, fun _ => w.2⟩
theorem binF_64 {o l r w : Int} (h : binF o l r = some w) : i64 w := by
  unfold binF at h
  have b0 : ∀ p : Prop, [Decidable p] → i64 (if p then 1 else 0) := fun p _ => by unfold i64; split <;> omega
  split at h
  · cases h; exact w64_range _
  split at h
  · cases h; exact w64_range _
  split at h
  · cases h; exact w64_range _
  split at h
  · cases h; exact b0 _
  split at h
  · cases h
  split at h
  · cases h; exact w64_range _
  · cases h; exact w64_range _
/-- any step but an ENTRY -/
theorem m_stepS (hS : SOk S n) (hst : SRl S n σ) (hop : opR A (σ 69 0 A) (σ 70 0 A) z) (h3 : z.1 ≠ 3) (hnm : z.1 = 2 → 0 ≤ z.2.1 ∧ z.2.1 < n) (hw : wf (m + 1) (z :: c) st.length) (hF : FrameAt σ v t row pl e (A : Int) st) (hA : A + 1 + c.length ≤ 900) (hv : v < 12) (hl : st.length ≤ 24) (h64 : ∀ x ∈ st, i64 x) (hpl : 0 ≤ pl ∧ pl ≤ 1000) : ∃ σ', Loc v σ' σ ∧ match spF S pl z st with
    | none => Ct (d + 1) mX10_step 1 [vR 10 0, vI v] NALL σ (some (vI 1)) NALL σ' 0 0
    | some (s, st') => s ≤ c.length ∧ wf m (c.drop s) st'.length ∧ st'.length ≤ 24 ∧ (∀ x ∈ st', i64 x) ∧ FrameAt σ' v t row pl e ((A + 1 + s : Nat) : Int) st' ∧ Ct (d + 1) mX10_step 1 [vR 10 0, vI v] NALL σ (some (vI 0)) NALL σ' 0 0 := by
  obtain ⟨w0, w1, w2, -, w4, w5, w6, w7⟩ := wf_k hw
  have hop0 := hop
  obtain ⟨T1, t1⟩ : ∃ q, q = up3 σ 90 0 v ((A + 1 : Nat) : Int) := ⟨_, rfl⟩
  have F1 : FrameAt T1 v t row pl e ((A + 1 : Nat) : Int) st := by rw [t1]; exact FrA_act hF
  have L1 : Loc v T1 σ := by rw [t1]; exact Loc_up (Loc_refl v σ) _ (by omega)
  have g70 : T1 70 0 A = σ 70 0 A := L1 _ _ _ (by omega)
  have h91 := F1.2.2.2.2.1
  -- a number more
  have push : ∀ (x o : Int), i64 x → σ 69 0 A = o → st.length < 24 → wf m c (st.length + 1) → (∀ C : Cx, Ok C RX10 cX10_step 8 (d + 1) → X C 1 82 [(0, vR 10 0), (1, vI v), (2, vI A), (3, vI o)] [vL x, vI v, vR 10 0] NALL T1 0 0 → X C 1 24 [(0, vR 10 0), (1, vI v), (2, vI A), (3, vI o)] [] NALL T1 0 0) → ∃ σ', Loc v σ' σ ∧ (0 ≤ c.length ∧ wf m (c.drop 0) (x :: st).length ∧ (x :: st).length ≤ 24 ∧ (∀ y ∈ x :: st, i64 y) ∧ FrameAt σ' v t row pl e ((A + 1 + 0 : Nat) : Int) (x :: st) ∧ Ct (d + 1) mX10_step 1 [vR 10 0, vI v] NALL σ (some (vI 0)) NALL σ' 0 0) := fun x o hx ho hlt hwf hk => by
    refine ⟨puT T1 v st.length x, Loc_put L1 (by omega), Nat.zero_le _, by rw [List.drop_zero]; exact hwf, by simp only [List.length_cons]; omega, fun y hy => ?_, FrA_put F1, ?_⟩
    · rcases List.mem_cons.mp hy with q | q
      · rw [q]; exact hx
      · exact h64 y q
    · refine ct_of (by decide) (Nat.le_of_ble_eq_true rfl) (fun C h hr _ => ?_)
      have h : Ok C RX10 cX10_step 8 _ := h
      refine sp_pre h hv hF.2.2.2.1 (by omega) ho ?_
      rw [← t1]
      exact hk C h (st_put h hv h91 (by omega) hr)
  have go1 : ∀ s : Nat, FrameAt (up3 T1 90 0 v ((A + 1 + s : Nat) : Int)) v t row pl e ((A + 1 + s : Nat) : Int) st := fun s => FrA_act F1
  rcases hop with ⟨h0, o1, o2⟩ | ⟨h0, o1, o2⟩ | ⟨h0, o1, o2⟩ | ⟨hn, o1, o2⟩ | ⟨h0, o1, o2⟩ | ⟨h0, o1, o2⟩ | ⟨h0, o1, o2⟩ | ⟨h0, o1, o2⟩
  · obtain ⟨a1, a2, a3⟩ := w0 h0
    have es : spF S pl z st = some (0, z.2.1 :: st) := by unfold spF; rw [if_pos h0]
    rw [es]
    refine push z.2.1 1 a1 o1 a2 a3 (fun C h hk => ?_)
    refine x_iload_n h dX10_step_24 rfl ?_
    refine x_iconst h dX10_step_25 ?_
    refine x_ic_eq_T (tgt := 39) h (by omega) dX10_step_26 (by decide) (by omega) ?_
    refine x_aload_n h dX10_step_39 rfl ?_
    refine x_iload_n h dX10_step_40 rfl ?_
    refine x_iload_n h dX10_step_41 rfl ?_
    refine x_iconst h dX10_step_42 ?_
    refine x_ic_ne_F (tgt := 55) h (by omega) dX10_step_43 (by decide) (by omega) ?_
    refine x_aload_n h dX10_step_46 rfl ?_
    refine x_get h fl_10_97 lvz_10 dX10_step_47 (pvf_570 _ _) ?_
    refine x_iload_n h dX10_step_50 rfl ?_
    refine x_lald h kdf_70 lvz_70 dX10_step_51 rfl (by omega) ?_
    rw [g70, o2]
    refine x_goto (tgt := 82) h dX10_step_52 (by decide) ?_
    exact hk
  · obtain ⟨a2, a3⟩ := w1 h0
    have es : spF S pl z st = some (0, pl :: st) := by unfold spF; rw [if_neg (by omega), if_pos h0]
    rw [es]
    have g88 := F1.2.1
    refine push pl 2 ⟨by omega, by omega⟩ o1 a2 a3 (fun C h hk => ?_)
    refine x_iload_n h dX10_step_24 rfl ?_
    refine x_iconst h dX10_step_25 ?_
    refine x_ic_eq_F (tgt := 39) h (by omega) dX10_step_26 (by decide) (by omega) ?_
    refine x_iload_n h dX10_step_29 rfl ?_
    refine x_iconst h dX10_step_30 ?_
    refine x_ic_eq_T (tgt := 39) h (by omega) dX10_step_31 (by decide) (by omega) ?_
    refine x_aload_n h dX10_step_39 rfl ?_
    refine x_iload_n h dX10_step_40 rfl ?_
    refine x_iload_n h dX10_step_41 rfl ?_
    refine x_iconst h dX10_step_42 ?_
    refine x_ic_ne_T (tgt := 55) h (by omega) dX10_step_43 (by decide) (by omega) ?_
    refine x_iload_n h dX10_step_55 rfl ?_
    refine x_iconst h dX10_step_56 ?_
    refine x_ic_ne_F (tgt := 70) h (by omega) dX10_step_57 (by decide) (by omega) ?_
    refine x_aload_n h dX10_step_60 rfl ?_
    refine x_get h fl_10_136 lvz_10 dX10_step_61 (pvf_588 _ _) ?_
    refine x_iload_n h dX10_step_64 rfl ?_
    refine x_iald h kdf_88 lvz_88 dX10_step_65 rfl (by omega) ?_
    rw [g88]
    refine x_i2l h (by omega) dX10_step_66 ?_
    refine x_goto (tgt := 82) h dX10_step_67 (by decide) ?_
    exact hk
  · -- NEG
    obtain ⟨a2, a3⟩ := w4 h0
    obtain ⟨x, st1, rfl⟩ : ∃ x st1, st = x :: st1 := by
      cases st with
      | nil => exact absurd a2 (by simp)
      | cons x st1 => exact ⟨x, st1, rfl⟩
    have es : spF S pl z (x :: st1) = some (0, w64 (-x) :: st1) := by unfold spF; rw [if_neg (by omega), if_neg (by omega), if_neg (by omega), if_pos h0]; rfl
    rw [es]
    obtain ⟨T2, t2⟩ : ∃ q, q = up3 T1 91 0 v (st1.length : Int) := ⟨_, rfl⟩
    have F2 : FrameAt T2 v t row pl e ((A + 1 : Nat) : Int) st1 := by rw [t2]; exact FrA_take F1
    have L2 : Loc v T2 σ := by rw [t2]; exact Loc_up L1 _ (by omega)
    have hl1 : st1.length + 1 ≤ 24 := hl
    refine ⟨puT T2 v st1.length (w64 (-x)), Loc_put L2 (by omega), Nat.zero_le _, by rw [List.drop_zero]; exact a3, hl, fun y hy => ?_, FrA_put F2, ?_⟩
    · rcases List.mem_cons.mp hy with q | q
      · rw [q]; exact w64_range _
      · exact h64 y (List.mem_cons_of_mem _ q)
    · refine ct_of (by decide) (Nat.le_of_ble_eq_true rfl) (fun C h hr _ => ?_)
      have h : Ok C RX10 cX10_step 8 _ := h
      refine sp_pre h hv hF.2.2.2.1 (by omega) o1 ?_
      rw [← t1]
      refine st_take h hv (by omega) F1.2.2.2.2.1 F1.2.2.2.2.2 (by omega) ?_
      rw [← t2]
      refine x_iload_n h dX10_step_115 rfl ?_
      refine x_bipush h dX10_step_116 (by decide) ?_
      refine x_ic_ne_T (tgt := 152) h (by omega) dX10_step_118 (by decide) (by omega) ?_
      refine x_iload_n h dX10_step_152 rfl ?_
      refine x_iconst h dX10_step_153 ?_
      refine x_ic_ne_F (tgt := 167) h (by omega) dX10_step_154 (by decide) (by omega) ?_
      refine x_aload_n h dX10_step_157 rfl ?_
      refine x_iload_n h dX10_step_158 rfl ?_
      refine x_lload h dX10_step_159 rfl ?_
      refine x_lneg h dX10_step_161 ?_
      refine x_wL ?_
      refine x_cV0 h kVX10_putTop lkX10_339 ⟨_, _, _, rfl, rfl⟩ dX10_step_162 (m_putTop (d := d) hv F2.2.2.2.2.1 (by omega)) lvz_10 rfl rfl (Nat.le_of_ble_eq_true rfl) (by omega) ?_
      refine x_iconst h dX10_step_165 ?_
      exact x_ireturn h hr dX10_step_166 (Or.inl rfl) ⟨Nat.le_refl _, Nat.le_refl _⟩
  · -- SIZE
    have h0 : z.1 = 2 := by
      have hn : z.1 = 2 ∨ z.1 = 3 := hn
      omega
    obtain ⟨a2, a3⟩ := w2 h0
    obtain ⟨n1, n2⟩ := hnm h0
    have es : spF S pl z st = some (0, sSz S z.2.1.toNat :: st) := by unfold spF; rw [if_neg (by omega), if_neg (by omega), if_pos h0]
    rw [es]
    obtain ⟨s, hs⟩ : ∃ s : Nat, z.2.1 = s := ⟨z.2.1.toNat, by omega⟩
    have hsn : s < n := by omega
    have e2 : z.2.1.toNat = s := by omega
    have g67 : T1 67 0 s = sSz S s := by rw [L1 _ _ _ (by omega)]; exact (hst.2 s hsn).1.2.2.2.2
    have hn12 := hS.1
    rw [e2]
    refine push (sSz S s) 3 (hS.2 s hsn).1 (by rw [o1, h0]; rfl) a2 a3 (fun C h hk => ?_)
    refine x_iload_n h dX10_step_24 rfl ?_
    refine x_iconst h dX10_step_25 ?_
    refine x_ic_eq_F (tgt := 39) h (by omega) dX10_step_26 (by decide) (by omega) ?_
    refine x_iload_n h dX10_step_29 rfl ?_
    refine x_iconst h dX10_step_30 ?_
    refine x_ic_eq_F (tgt := 39) h (by omega) dX10_step_31 (by decide) (by omega) ?_
    refine x_iload_n h dX10_step_34 rfl ?_
    refine x_iconst h dX10_step_35 ?_
    refine x_ic_ne_F (tgt := 87) h (by omega) dX10_step_36 (by decide) (by omega) ?_
    refine x_aload_n h dX10_step_39 rfl ?_
    refine x_iload_n h dX10_step_40 rfl ?_
    refine x_iload_n h dX10_step_41 rfl ?_
    refine x_iconst h dX10_step_42 ?_
    refine x_ic_ne_T (tgt := 55) h (by omega) dX10_step_43 (by decide) (by omega) ?_
    refine x_iload_n h dX10_step_55 rfl ?_
    refine x_iconst h dX10_step_56 ?_
    refine x_ic_ne_T (tgt := 70) h (by omega) dX10_step_57 (by decide) (by omega) ?_
    refine x_aload_n h dX10_step_70 rfl ?_
    refine x_get h fl_10_88 lvz_10 dX10_step_71 (pvf_567 _ _) ?_
    refine x_aload_n h dX10_step_74 rfl ?_
    refine x_get h fl_10_97 lvz_10 dX10_step_75 (pvf_570 _ _) ?_
    refine x_iload_n h dX10_step_78 rfl ?_
    refine x_lald h kdf_70 lvz_70 dX10_step_79 rfl (by omega) ?_
    rw [g70, o2]
    refine x_l2i h dX10_step_80 ?_
    refine x_lald (m := s) h kdf_67 lvz_67 dX10_step_81 (by omega) (by omega) ?_
    rw [g67]
    exact hk
  · -- GO
    obtain ⟨a1, a2, a3⟩ := w5 h0
    have es : spF S pl z st = some (z.2.1.toNat, st) := by unfold spF; rw [if_neg (by omega), if_neg (by omega), if_neg (by omega), if_neg (by omega), if_pos h0]
    rw [es]
    have ev : σ 70 0 A = ((A + 1 + z.2.1.toNat : Nat) : Int) := by rw [o2]; omega
    refine ⟨up3 T1 90 0 v ((A + 1 + z.2.1.toNat : Nat) : Int), Loc_up L1 _ (by omega), by omega, a3, hl, h64, go1 _, ?_⟩
    refine ct_of (by decide) (Nat.le_of_ble_eq_true rfl) (fun C h hr _ => ?_)
    have h : Ok C RX10 cX10_step 8 _ := h
    refine sp_pre h hv hF.2.2.2.1 (by omega) o1 ?_
    rw [← t1]
    refine x_iload_n h dX10_step_24 rfl ?_
    refine x_iconst h dX10_step_25 ?_
    refine x_ic_eq_F (tgt := 39) h (by omega) dX10_step_26 (by decide) (by omega) ?_
    refine x_iload_n h dX10_step_29 rfl ?_
    refine x_iconst h dX10_step_30 ?_
    refine x_ic_eq_F (tgt := 39) h (by omega) dX10_step_31 (by decide) (by omega) ?_
    refine x_iload_n h dX10_step_34 rfl ?_
    refine x_iconst h dX10_step_35 ?_
    refine x_ic_ne_T (tgt := 87) h (by omega) dX10_step_36 (by decide) (by omega) ?_
    refine x_iload_n h dX10_step_87 rfl ?_
    refine x_bipush h dX10_step_88 (by decide) ?_
    refine x_ic_ne_F (tgt := 108) h (by omega) dX10_step_90 (by decide) (by omega) ?_
    refine x_aload_n h dX10_step_93 rfl ?_
    refine x_get h fl_10_142 lvz_10 dX10_step_94 (pvf_590 _ _) ?_
    refine x_iload_n h dX10_step_97 rfl ?_
    refine x_aload_n h dX10_step_98 rfl ?_
    refine x_get h fl_10_97 lvz_10 dX10_step_99 (pvf_570 _ _) ?_
    refine x_iload_n h dX10_step_102 rfl ?_
    refine x_lald h kdf_70 lvz_70 dX10_step_103 rfl (by omega) ?_
    rw [g70, ev]
    refine x_l2i h dX10_step_104 ?_
    refine x_iast h kdf_90 lvz_90 dX10_step_105 rfl (by omega) ?_
    refine x_iconst h dX10_step_106 ?_
    exact x_ireturn h hr dX10_step_107 (Or.inl rfl) ⟨Nat.le_refl _, Nat.le_refl _⟩
  · -- IF
    obtain ⟨a0, a1, a2, a3, a4⟩ := w6 h0
    obtain ⟨x, st1, rfl⟩ : ∃ x st1, st = x :: st1 := by
      cases st with
      | nil => exact absurd a0 (by simp)
      | cons x st1 => exact ⟨x, st1, rfl⟩
    have es : spF S pl z (x :: st1) = some (if x = 0 then z.2.1.toNat else 0, st1) := by unfold spF; rw [if_neg (by omega), if_neg (by omega), if_neg (by omega), if_neg (by omega), if_neg (by omega), if_pos h0]; rfl
    rw [es]
    obtain ⟨T2, t2⟩ : ∃ q, q = up3 T1 91 0 v (st1.length : Int) := ⟨_, rfl⟩
    have F2 : FrameAt T2 v t row pl e ((A + 1 : Nat) : Int) st1 := by rw [t2]; exact FrA_take F1
    have L2 : Loc v T2 σ := by rw [t2]; exact Loc_up L1 _ (by omega)
    have hl1 : st1.length + 1 ≤ 24 := hl
    have g702 : T2 70 0 A = σ 70 0 A := L2 _ _ _ (by omega)
    have g902 : T2 90 0 v = ((A + 1 : Nat) : Int) := F2.2.2.2.1
    have ev : σ 70 0 A = ((A + 1 + z.2.1.toNat : Nat) : Int) := by rw [o2]; omega
    obtain ⟨hx1, hx2⟩ := h64 x List.mem_cons_self
    have pre : ∀ C : Cx, Ok C RX10 cX10_step 8 (d + 1) → X C 1 115 [(0, vR 10 0), (1, vI v), (2, vI A), (3, vI 12), (4, vL x)] [] NALL T2 0 0 → X C 1 0 [(0, vR 10 0), (1, vI v)] [] NALL σ 0 0 := fun C h hk => by
      refine sp_pre h hv hF.2.2.2.1 (by omega) o1 ?_
      rw [← t1]
      refine st_take h hv (by omega) F1.2.2.2.2.1 F1.2.2.2.2.2 (by omega) ?_
      rw [← t2]
      exact hk
    by_cases hx0 : x = 0
    · rw [if_pos hx0]
      refine ⟨up3 T2 90 0 v ((A + 1 + z.2.1.toNat : Nat) : Int), Loc_up L2 _ (by omega), by omega, a3, by omega, fun y hy => h64 y (List.mem_cons_of_mem _ hy), FrA_act F2, ?_⟩
      refine ct_of (by decide) (Nat.le_of_ble_eq_true rfl) (fun C h hr _ => ?_)
      have h : Ok C RX10 cX10_step 8 _ := h
      refine pre C h ?_
      refine x_iload_n h dX10_step_115 rfl ?_
      refine x_bipush h dX10_step_116 (by decide) ?_
      refine x_ic_ne_F (tgt := 152) h (by omega) dX10_step_118 (by decide) (by omega) ?_
      refine x_aload_n h dX10_step_121 rfl ?_
      refine x_get h fl_10_142 lvz_10 dX10_step_122 (pvf_590 _ _) ?_
      refine x_iload_n h dX10_step_125 rfl ?_
      refine x_lload h dX10_step_126 rfl ?_
      refine x_lconst0 h dX10_step_128 ?_
      refine x_lc_ne (tgt := 143) h (by omega) dX10_step_129 dX10_step_130 (by decide) (fun q => absurd q (by omega)) (fun _ => ?_)
      refine x_aload_n h dX10_step_133 rfl ?_
      refine x_get h fl_10_97 lvz_10 dX10_step_134 (pvf_570 _ _) ?_
      refine x_iload_n h dX10_step_137 rfl ?_
      refine x_lald h kdf_70 lvz_70 dX10_step_138 rfl (by omega) ?_
      rw [g702, ev]
      refine x_l2i h dX10_step_139 ?_
      refine x_goto (tgt := 149) h dX10_step_140 (by decide) ?_
      refine x_iast h kdf_90 lvz_90 dX10_step_149 rfl (by omega) ?_
      refine x_iconst h dX10_step_150 ?_
      exact x_ireturn h hr dX10_step_151 (Or.inl rfl) ⟨Nat.le_refl _, Nat.le_refl _⟩
    · rw [if_neg hx0]
      refine ⟨up3 T2 90 0 v ((A + 1 : Nat) : Int), Loc_up L2 _ (by omega), Nat.zero_le _, by rw [List.drop_zero]; exact a4, by omega, fun y hy => h64 y (List.mem_cons_of_mem _ hy), FrA_act F2, ?_⟩
      refine ct_of (by decide) (Nat.le_of_ble_eq_true rfl) (fun C h hr _ => ?_)
      have h : Ok C RX10 cX10_step 8 _ := h
      refine pre C h ?_
      refine x_iload_n h dX10_step_115 rfl ?_
      refine x_bipush h dX10_step_116 (by decide) ?_
      refine x_ic_ne_F (tgt := 152) h (by omega) dX10_step_118 (by decide) (by omega) ?_
      refine x_aload_n h dX10_step_121 rfl ?_
      refine x_get h fl_10_142 lvz_10 dX10_step_122 (pvf_590 _ _) ?_
      refine x_iload_n h dX10_step_125 rfl ?_
      refine x_lload h dX10_step_126 rfl ?_
      refine x_lconst0 h dX10_step_128 ?_
      refine x_lc_ne (tgt := 143) h (by omega) dX10_step_129 dX10_step_130 (by decide) (fun _ => ?_) (fun q => absurd (by omega) q)
      refine x_aload_n h dX10_step_143 rfl ?_
      refine x_get h fl_10_142 lvz_10 dX10_step_144 (pvf_590 _ _) ?_
      refine x_iload_n h dX10_step_147 rfl ?_
      refine x_iald h kdf_90 lvz_90 dX10_step_148 rfl (by omega) ?_
      rw [g902]
      refine x_iast h kdf_90 lvz_90 dX10_step_149 rfl (by omega) ?_
      refine x_iconst h dX10_step_150 ?_
      exact x_ireturn h hr dX10_step_151 (Or.inl rfl) ⟨Nat.le_refl _, Nat.le_refl _⟩
  · obtain ⟨a2, a3⟩ := w7 (by omega)
    obtain ⟨x, y, st1, rfl⟩ : ∃ x y st1, st = x :: y :: st1 := by
      cases st with
      | nil => exact absurd a2 (by simp)
      | cons x st1 =>
        cases st1 with
        | nil => exact absurd a2 (by simp)
        | cons y st2 => exact ⟨x, y, st2, rfl⟩
    have hl1 : st1.length + 2 ≤ 24 := hl
    have es : spF S pl z (x :: y :: st1) = match binF z.1 y x with | none => none | some w => some (0, w :: st1) := by unfold spF; rw [if_neg (by omega), if_neg (by omega), if_neg (by omega), if_neg (by omega), if_neg (by omega), if_neg (by omega)]; rfl
    obtain ⟨σ', g1, g2⟩ := m_stepB (d := d) (Or.inl ⟨o1, h0⟩) rfl hF (by omega) hv (by omega) (h64 x List.mem_cons_self) (h64 y (List.mem_cons_of_mem _ List.mem_cons_self))
    refine ⟨σ', g1, ?_⟩
    rw [es]
    cases hb : binF z.1 y x with
    | none => rw [hb] at g2; exact g2
    | some w =>
      rw [hb] at g2
      refine ⟨Nat.zero_le _, by rw [List.drop_zero]; exact a3, by show st1.length + 1 ≤ 24; omega, fun q hq => ?_, g2.1, g2.2⟩
      rcases List.mem_cons.mp hq with r | r
      · rw [r]; exact binF_64 hb
      · exact h64 q (List.mem_cons_of_mem _ (List.mem_cons_of_mem _ r))
  · obtain ⟨a2, a3⟩ := w7 (by omega)
    obtain ⟨x, y, st1, rfl⟩ : ∃ x y st1, st = x :: y :: st1 := by
      cases st with
      | nil => exact absurd a2 (by simp)
      | cons x st1 =>
        cases st1 with
        | nil => exact absurd a2 (by simp)
        | cons y st2 => exact ⟨x, y, st2, rfl⟩
    have hl1 : st1.length + 2 ≤ 24 := hl
    have es : spF S pl z (x :: y :: st1) = match binF z.1 y x with | none => none | some w => some (0, w :: st1) := by unfold spF; rw [if_neg (by omega), if_neg (by omega), if_neg (by omega), if_neg (by omega), if_neg (by omega), if_neg (by omega)]; rfl
    obtain ⟨σ', g1, g2⟩ := m_stepB (d := d) (Or.inr ⟨o1, h0⟩) rfl hF (by omega) hv (by omega) (h64 x List.mem_cons_self) (h64 y (List.mem_cons_of_mem _ List.mem_cons_self))
    refine ⟨σ', g1, ?_⟩
    rw [es]
    cases hb : binF z.1 y x with
    | none => rw [hb] at g2; exact g2
    | some w =>
      rw [hb] at g2
      refine ⟨Nat.zero_le _, by rw [List.drop_zero]; exact a3, by show st1.length + 1 ≤ 24; omega, fun q hq => ?_, g2.1, g2.2⟩
      rcases List.mem_cons.mp hq with r | r
      · rw [r]; exact binF_64 hb
      · exact h64 q (List.mem_cons_of_mem _ (List.mem_cons_of_mem _ r))
end ST
