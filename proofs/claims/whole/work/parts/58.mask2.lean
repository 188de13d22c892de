/-! an ENTRY that is asked for: the reference against E -/
section AS
variable {n : Nat} {S : Sd} {δ : Nat}
theorem Psi_log {D : Mm} {S : Sd} (h : DW S D) (hp : Psi D ≤ BD + 60) : D 8 0 1 < 2147483600 ∧ D 8 1 1 < 2147483600 := by
  have := tbW_r D 12
  have := h.2.1
  unfold Psi at hp
  have hp : D 8 0 1 + D 8 1 1 + tbW D 12 ≤ 2147483500 + 60 := hp
  omega
/-- the picture of a TABLE that begins -/
theorem tab_D (hS : SOk S n) {D : Mm} {k : Nat} {a : Int} (h : DW S D) (hk : k < n) (ha : -9 ≤ a ∧ a ≤ 1000) (h0 : D 5 k 8 = 0) : DW S (zeroA (bNote (up3 D 5 k 8 1) 0 k (-9) a 0) 16 k 200) ∧ Psi (zeroA (bNote (up3 D 5 k 8 1) 0 k (-9) a 0) 16 k 200) ≤ Psi D - 17499 ∧ (∀ j, zeroA (bNote (up3 D 5 k 8 1) 0 k (-9) a 0) 16 k 200 5 j 8 = if j = k then 1 else D 5 j 8) ∧ ∀ j i, zeroA (bNote (up3 D 5 k 8 1) 0 k (-9) a 0) 16 k 200 17 j i = D 17 j i := by
  have hn := hS.1
  have hk' : k < 12 := by omega
  have d1 : DW S (up3 D 5 k 8 1) := DW_5 h hk' (by omega)
  have d2 : DW S (bNote (up3 D 5 k 8 1) 0 k (-9) a 0) := DW_note d1 (by decide) ⟨by omega, by omega, ha⟩ i64z (fun _ => rfl)
  have o : ∀ f j i, f ≠ 16 → zeroA (bNote (up3 D 5 k 8 1) 0 k (-9) a 0) 16 k 200 f j i = bNote (up3 D 5 k 8 1) 0 k (-9) a 0 f j i := fun f j i q => by
    unfold zeroA
    rw [if_neg (fun z => q z.1)]
  refine ⟨DW_16 d2 o (fun j p hj hp => ?_), ?_, fun j => ?_, fun j i => ?_⟩
  · unfold zeroA
    split
    · exact i64z
    · exact (d2.1 j hj).2.2.1 p hp
  · have := Psi_wake hk' h0
    rw [Psi_16 o, Psi_note d1 (by decide)]
    omega
  · rw [o _ _ _ (by decide), show bNote (up3 D 5 k 8 1) 0 k (-9) a 0 5 j 8 = up3 D 5 k 8 1 5 j 8 from noteS_f _ _ _ _ _ _ _ ⟨by decide, by decide⟩ _ _]
    by_cases q : j = k
    · subst q; rw [up3_s, if_pos rfl]
    · rw [up3_k _ _ q, if_neg q]
  · rw [o _ _ _ (by decide), show bNote (up3 D 5 k 8 1) 0 k (-9) a 0 17 j i = up3 D 5 k 8 1 17 j i from noteS_f _ _ _ _ _ _ _ ⟨by decide, by decide⟩ _ _, up3_f _ _ (by decide)]
variable {v t A k E : Nat} {row pl e b : Int} {st : List Int} {D σ : Mm}
/-- frame v asks TABLE k -/
def AsKs (n : Nat) (S : Sd) (v t A k E : Nat) (row pl e b : Int) (st : List Int) (D σ : Mm) : Prop := StI n S v D σ ∧ FrameAt σ v t row pl e (A : Int) (b :: st) ∧ t < n ∧ k < n ∧ (0 ≤ pl ∧ pl < e ∧ e ≤ 200) ∧ σ 69 0 A = 4 ∧ σ 70 0 A = (k : Int) ∧ σ 68 0 (t + 1) = (E : Int) ∧ A < E ∧ E ≤ 900 ∧ i64 b ∧ st.length < 30
/-- it has its answer -/
def AsVs (n : Nat) (S : Sd) (v t A : Nat) (row pl e : Int) (st : List Int) (x : Int) (D' σ : Mm) : Prop := ∃ σ', GL σ σ' ∧ FrG σ' σ ∧ LowR v σ' σ ∧ FrameAt σ' v t row pl e ((A + 1 : Nat) : Int) (x :: st) ∧ StI n S v D' σ'
theorem AsVs_pre {x : Int} {D' σ1 : Mm} (h : AsVs n S v t A row pl e st x D' σ1) (hg : GL σ σ1) (hf : FrG σ1 σ) (hl : LowR v σ1 σ) : AsVs n S v t A row pl e st x D' σ := by
  obtain ⟨σ', h1, h2, h3, h4, h5⟩ := h
  exact ⟨σ', GL_tr hg h1, FrG_tr h2 hf, LowR_tr h3 hl, h4, h5⟩
/-- nothing but the answer and the logs change -/
def AnsO (τ σ : Mm) : Prop := ∀ f j, ¬ ((75 ≤ f ∧ f ≤ 82) ∨ (f = 10 ∧ (j = 44 ∨ j = 48 ∨ j = 63))) → τ f 0 j = σ f 0 j
theorem FrameAt_o {σ' : Mm} {w t' : Nat} {row' pl' e' act' : Int} {st' : List Int} (h : FrameAt σ w t' row' pl' e' act' st') (hf : ∀ f j, 86 ≤ f → σ' f 0 j = σ f 0 j) : FrameAt σ' w t' row' pl' e' act' st' := by
  obtain ⟨⟨h1, h2⟩, h3, h4, h5, h6, h7⟩ := h
  exact ⟨⟨by rw [hf _ _ (by omega)]; exact h1, by rw [hf _ _ (by omega)]; exact h2⟩, by rw [hf _ _ (by omega)]; exact h3, by rw [hf _ _ (by omega)]; exact h4, by rw [hf _ _ (by omega)]; exact h5, by rw [hf _ _ (by omega)]; exact h6, PlR_fr st' (fun j _ _ => hf _ _ (by omega)) h7⟩
theorem ask_val (hn : n ≤ 12) (hv : v < 12) (h : AsKs n S v t A k E row pl e b st D σ) {τ D' : Mm} {x : Int} (hq : Ct 2 mX10_ask 1 [vR 10 0, vI k, vL b, vI t, vI 0] NALL (qS σ v A st.length) (some (vI 0)) NALL τ 0 0) (hg : FrG τ (qS σ v A st.length)) (ho : ∀ f j, 86 ≤ f → τ f 0 j = qS σ v A st.length f 0 j) (h55 : τ 10 0 55 = σ 10 0 55) (h63 : τ 10 0 63 = x) (hH : HR n S D' τ) (hD : DW S D') (hN : NF n D') : AsVs n S v t A row pl e st x D' σ := by
  obtain ⟨hI, hF, ht, hk, hpl, h69, h70, hE, hAE, hE9, hb, hst⟩ := h
  have F2 := qS_F hF
  have L2 : Loc v (qS σ v A st.length) σ := qS_L
  have F3 : FrameAt τ v t row pl e ((A + 1 : Nat) : Int) st := FrameAt_o F2 ho
  have hgo := g_step (d := 2) hF hI.2.2.2.2 hv (by omega) ⟨hpl.1, hpl.2.1, by omega⟩ hE hAE hE9 (m_stepEv (d := 0) (by omega) h69 h70 hF (by omega) hv (by omega) (by omega) hq F3.2.2.2.2.1 h63)
  have Lp : Loc v (puT τ v st.length x) τ := Loc_put (Loc_refl v τ) (by omega)
  have g55 : puT τ v st.length x 10 0 55 = ((v + 1 : Nat) : Int) := by rw [Lp _ _ _ (by omega), h55]; exact hI.2.2.2.2
  have fg : FrG (puT τ v st.length x) σ := FrG_tr (Loc_G Lp) (FrG_tr hg (Loc_G L2))
  refine ⟨puT τ v st.length x, GL_one (u := v) (u' := v) (Or.inl rfl) hI.2.2.2.2 g55 hgo, fg, LowR_tr (Loc_L Lp) (LowR_tr ⟨fun i f q1 q2 q3 => ho _ _ (by omega), fun j hj => ho _ _ (by omega)⟩ (Loc_L L2)), FrA_put F3, HR_Loc hH Lp, hN, SRl_G hI.2.2.1 fg, hD, g55⟩
theorem ask_fail (hn : n ≤ 12) (hv : v < 12) (h : AsKs n S v t A k E row pl e b st D σ) {τ : Mm} {w : Int} (hw : 1 ≤ w ∧ w ≤ 8) (hq : Ct 2 mX10_ask 1 [vR 10 0, vI k, vL b, vI t, vI 0] NALL (qS σ v A st.length) (some (vI w)) NALL τ 0 0) (ho : AnsO τ (qS σ v A st.length)) (hg : FrG τ (qS σ v A st.length)) (hH : HR n S D τ) : Fls n S (v + 1) w 0 D σ := by
  obtain ⟨hI, hF, ht, hk, hpl, h69, h70, hE, hAE, hE9, hb, hst⟩ := h
  have L2 : Loc v (qS σ v A st.length) σ := qS_L
  have hgo := g_step (d := 2) hF hI.2.2.2.2 hv (by omega) ⟨hpl.1, hpl.2.1, by omega⟩ hE hAE hE9 (m_stepEf (d := 0) (by omega) h69 h70 hF (by omega) hv (by omega) (by omega) hw hq)
  exact Fls_now hI.2.2.2.2 hgo (FrG_tr hg (Loc_G L2)) (fun i hi => ⟨by rw [ho _ _ (by omega), L2 _ _ _ (by omega)], by rw [ho _ _ (by omega), L2 _ _ _ (by omega)]⟩) (by rw [ho _ _ (by omega), L2 _ _ _ (by omega)]) hH
theorem HR_ans {x : Int} (h : HR n S D σ) : HR n S D (up3 σ 10 0 63 x) := HR_fr h (fun f j q => up3_n _ (by omega))
theorem hfS_o {σ : Mm} {c k p : Nat} {a x : Int} {f k' j : Nat} (h : ¬ (79 ≤ f ∧ f ≤ 82) ∧ ¬ (f = 10 ∧ (j = 48 ∨ j = 63))) : hfS σ c k p a x f k' j = σ f k' j := by
  unfold hfS
  rw [up3_n _ (by omega), nhS_o (by omega), up3_n _ (by omega)]
theorem HR_half {c p : Nat} {a : Int} {x : Int} (h : HR n S D σ) (hc : D 8 1 1 = (c : Int)) : HR n S (bNote D 1 k p a x) (hfS σ c k p a x) := by
  have e5 : ∀ j, bNote D 1 k p a x 5 j 8 = D 5 j 8 := fun j => noteS_f _ _ _ _ _ _ _ ⟨by decide, by decide⟩ _ _
  have e1 : ∀ f j i, f = 16 ∨ f = 17 → bNote D 1 k p a x f j i = D f j i := fun f j i q => noteS_f _ _ _ _ _ _ _ ⟨by omega, by omega⟩ _ _
  refine ⟨fun j hj => ⟨by rw [e5, hfS_o (by omega)]; exact (h.1 j hj).1, fun z => ?_⟩, ?_⟩
  · rw [e5] at z
    obtain ⟨x1, x2, x3⟩ := (h.1 j hj).2 z
    refine ⟨x1, fun y r hr => by rw [hfS_o (by omega), e1 _ _ _ (Or.inr rfl)]; exact x2 y r hr, fun p' hp' y => ?_⟩
    rw [e1 _ _ _ (Or.inr rfl)] at y
    rw [hfS_o (by omega), e1 _ _ _ (Or.inl rfl)]
    exact x3 p' hp' y
  · exact LgR_fr (LgR_nh (x0 := k) (x1 := p) (x2 := a) (x3 := x) (HR_ans (x := x) h).2 hc) (fun _ _ _ _ => rfl) (fun f j q => by unfold hfS; rw [up3_n _ (by omega)])
/-- behind a wake: the ENTRY itself -/
theorem got_sim (hS : SOk S n) (hrow : ∀ δ', δ = δ' + 1 → RowSim n S δ') (hv : v + 1 + δ = 12) (h : AsKs n S v t A k E row pl e b st D σ) (h5 : D 5 k 8 = 1 ∨ D 5 k 8 = 2) (hp : Psi D + 1 ≤ BD) : match (if b < 0 ∨ entsZ (sSz S k) ≤ b then (.inl (2, 0, D) : ER) else gotF S (lvW S δ).2 D k b.toNat t) with
    | .inl (w, m, D') => Fls n S (v + 1) w m D' σ
    | .inr (x, D') => AsVs n S v t A row pl e st x D' σ := by
  have hn := hS.1
  have h0 := h
  obtain ⟨hI, hF, ht, hk, hpl, h69, h70, hE, hAE, hE9, hb, hst⟩ := h
  have F2 := qS_F hF
  have L2 : Loc v (qS σ v A st.length) σ := qS_L
  have H2 := HR_Loc hI.1 L2
  have hst2 : SRl S n (qS σ v A st.length) := SRl_G hI.2.2.1 (Loc_G L2)
  obtain ⟨hz, x2, x3⟩ := (H2.1 k hk).2 h5
  have g71 := (H2.1 k hk).1
  obtain ⟨⟨s1, s2, s3, s4, s5⟩, -⟩ := hst2.2 k hk
  obtain ⟨l1, l2⟩ := Psi_log hI.2.2.2.1 (by omega)
  have dl := hI.2.2.2.1.2.1
  have g55 : qS σ v A st.length 10 0 55 = σ 10 0 55 := L2 _ _ _ (by omega)
  rw [ents_in hz]
  by_cases hbd : b < 0 ∨ sSz S k ≤ b
  · rw [if_pos hbd]
    exact ask_fail hn (by omega) h0 (by omega) (m_askB (d := 0) (by omega) h5 g71 s5 hz hb hbd) (fun _ _ _ => rfl) (FrG_refl _) H2
  · rw [if_neg hbd]
    obtain ⟨p, hpb⟩ : ∃ p : Nat, b = (p : Int) := ⟨b.toNat, by omega⟩
    subst hpb
    have hp200 : p < 200 := by omega
    have hpz : (p : Int) < sSz S k := by omega
    have hp8 : p / 8 < 25 := by omega
    rw [Int.toNat_natCast]
    obtain ⟨c, hc⟩ : ∃ c : Nat, D 8 1 1 = (c : Int) := ⟨(D 8 1 1).toNat, by omega⟩
    have h48 : qS σ v A st.length 10 0 48 = c := by rw [H2.2.2.1]; exact hc
    have dk := hI.2.2.2.1.1 k (by omega)
    -- a read of what is under way
    have half : D 17 k (p / 8) ≠ 3 → Ct 2 mX10_ask 1 [vR 10 0, vI k, vL (p : Int), vI t, vI 0] NALL (qS σ v A st.length) (some (vI 0)) NALL (hfS (qS σ v A st.length) c k p t (D 16 k p)) 0 0 → AsVs n S v t A row pl e st (D 16 k p) (bNote D 1 k p t (D 16 k p)) σ := fun hne hq => by
      have dn := EI_note (X := X0) (δ := 0) (k := k) (p := p) (a := t) hI.2.2.2.1 (by omega) ⟨by omega, by omega⟩ hp200
      refine ask_val hn (by omega) h0 hq (fun f k' j q => hfS_o (by omega)) (fun f j q => hfS_o (by omega)) (by rw [hfS_o (by omega)]; exact g55) ?_ (HR_half H2 hc) dn.1 (fun j hj z i hi => ?_)
      · unfold hfS; rw [up3_s]
      · rw [show bNote D 1 k p t (D 16 k p) 5 j 8 = D 5 j 8 from noteS_f _ _ _ _ _ _ _ ⟨by decide, by decide⟩ _ _] at z
        rw [show bNote D 1 k p t (D 16 k p) 17 j i = D 17 j i from noteS_f _ _ _ _ _ _ _ ⟨by decide, by decide⟩ _ _]
        exact hI.2.1 j hj z i hi
    have plain : Ct 2 mX10_ask 1 [vR 10 0, vI k, vL (p : Int), vI t, vI 0] NALL (qS σ v A st.length) (some (vI 0)) NALL (up3 (qS σ v A st.length) 10 0 63 (D 16 k p)) 0 0 → AsVs n S v t A row pl e st (D 16 k p) D σ := fun hq => ask_val hn (by omega) h0 hq (fun f k' j q => up3_n _ (by omega)) (fun f j q => up3_n _ (by omega)) (by rw [up3_n _ (by omega)]; exact g55) (up3_s _ _ _ _ _) (HR_ans H2) hI.2.2.2.1 hI.2.1
    unfold gotF
    by_cases h51 : D 5 k 8 = 1
    · rw [if_pos h51]
      have hne := hI.2.1 k hk h51 (p / 8) hp8
      exact half hne (m_askH (d := 0) (by omega) (by rw [g71]; exact h51) s5 hz hpz (x3 p hp200 hne) h48 (by omega))
    · rw [if_neg h51]
      have h52 : D 5 k 8 = 2 := by omega
      have g712 : qS σ v A st.length 71 0 k = 2 := by rw [g71]; exact h52
      by_cases hb0 : sBy S k = 0
      · rw [if_pos hb0]
        have h170 := dk.2.2.2 (Or.inr hb0) (p / 8) hp8
        exact plain (m_askW (d := 0) (by omega) g712 s5 hz hpz (x3 p hp200 (by omega)) (by rw [s2, hb0]; rfl))
      · rw [if_neg hb0]
        have hby1 : sBy S k = 1 := by
          have := (hS.2 k hk).2.1
          omega
        have g64 : qS σ v A st.length 64 0 k = 0 := by rw [s2, hby1]; rfl
        have g72 := x2 hb0 (p / 8) hp8
        have d17 := dk.2.1 (p / 8) hp8
        unfold awrF
        by_cases h3 : D 17 k (p / 8) = 3
        · rw [if_pos h3]
          exact ask_fail hn (by omega) h0 (by omega) (m_askR3 (d := 0) (by omega) g712 s5 hz hpz rfl g64 (by rw [g72]; exact h3)) (fun f j q => up3_n _ (by omega)) (fun f k' j q => up3_n _ (by omega)) (HR_ans H2)
        rw [if_neg h3]
        have e73 := x3 p hp200 h3
        by_cases hr0 : D 17 k (p / 8) = 0
        · rw [if_pos hr0]
          have hlv := (lv_i hS δ).2 D k (p / 8) t hI.2.2.2.1 hk hp8 ⟨by omega, by omega⟩ hr0 (by omega) hb0
          obtain ⟨τ0, t0⟩ : ∃ q, q = up3 (qS σ v A st.length) 10 0 63 (D 16 k p) := ⟨_, rfl⟩
          have H0 : HR n S D τ0 := by rw [t0]; exact HR_ans H2
          have o0 : ∀ f k' j, ¬ (f = 10 ∧ j = 63) → τ0 f k' j = qS σ v A st.length f k' j := fun f k' j q => by rw [t0, up3_n _ q]
          have st0 : SRl S n τ0 := SRl_G hst2 (fun f k' j q => o0 _ _ _ (by omega))
          have u0 : τ0 10 0 55 = ((v + 1 : Nat) : Int) := by rw [o0 _ _ _ (by omega), g55]; exact hI.2.2.2.2
          cases δ with
          | zero =>
            have hbg := m_begin12 (d := 0) (k := k) (r := ((p / 8 : Nat) : Int)) (a := t) (σ := τ0) (by rw [u0]; omega)
            rw [t0] at hbg
            exact ask_fail hn (by omega) h0 (by omega) (m_askR0 (d := 0) (by omega) g712 s5 hz hpz e73 g64 (by rw [g72]; exact hr0) hbg) (fun f j q => up3_n _ (by omega)) (fun f k' j q => up3_n _ (by omega)) (HR_ans H2)
          | succ δ' =>
            obtain ⟨τ1, q1, q2, q3, q4, q5, q6⟩ := m_beginR (d := 0) (a := t) (u := v + 1) (r := p / 8) hS st0 hk hp8 H0 hI.2.2.2.1 (Or.inr h52) hr0 hb0 u0 (by omega) l1
            rw [t0] at q6
            have hq := m_askR0 (d := 0) (by omega) g712 s5 hz hpz e73 g64 (by rw [g72]; exact hr0) q6
            have F0 : FrameAt τ0 v t row pl e ((A + 1 : Nat) : Int) st := FrameAt_o F2 (fun f j q => o0 _ _ _ (by omega))
            have F1 : FrameAt τ1 v t row pl e ((A + 1 : Nat) : Int) st := FrameAt_Low F0 q2 (by omega) (by omega)
            have hgo := g_step (d := 2) hF hI.2.2.2.2 (by omega) (by omega) ⟨hpl.1, hpl.2.1, by omega⟩ hE hAE hE9 (m_stepEb (d := 0) (by omega) h69 h70 hF (by omega) (by omega) (by omega) (by omega) hq F1.2.2.2.2.1)
            obtain ⟨σ0, s0⟩ : ∃ q, q = bkS τ1 v A st.length (p : Int) := ⟨_, rfl⟩
            rw [← s0] at hgo
            have Lb : Loc v σ0 τ1 := by rw [s0]; exact Loc_up (Loc_put (Loc_refl v τ1) (by omega)) _ (by omega)
            have Fb : FrameAt σ0 v t row pl e (A : Int) ((p : Int) :: st) := by rw [s0]; exact FrA_act (FrA_put F1)
            obtain ⟨d2, p2, e5, e17⟩ := row_D hS hI.2.2.2.1 hk hp8 (a := t) ⟨by omega, by omega⟩ hr0 (by omega) hb0
            have fg0 : FrG σ0 σ := FrG_tr (Loc_G Lb) (FrG_tr q1 (FrG_tr (fun f k' j q => o0 _ _ _ (by omega)) (Loc_G L2)))
            have lw0 : LowR v σ0 σ := LowR_tr (Loc_L Lb) (LowR_tr (LowR_le q2 (by omega)) (LowR_tr ⟨fun i f z1 z2 z3 => o0 _ _ _ (by omega), fun j hj => o0 _ _ _ (by omega)⟩ (Loc_L L2)))
            have g550 : σ0 10 0 55 = ((v + 1 + 1 : Nat) : Int) := by rw [Lb _ _ _ (by omega)]; exact q4
            have I0 : StI n S (v + 1) (bNote (up3 D 17 k (p / 8) 1) 0 k (p / 8 : Nat) t 0) σ0 := ⟨HR_Loc q5 Lb, fun j hj z i hi => by
              rw [e5] at z
              rw [e17]
              split
              · omega
              · exact hI.2.1 j hj z i hi, SRl_G hI.2.2.1 fg0, d2, g550⟩
            have Fr0 := FrameAt_Loc q3 Lb (by omega) (by decide)
            have e68 : τ0 68 0 k = σ0 68 0 k := by rw [fg0 _ _ _ (by omega), o0 _ _ _ (by omega), L2 _ _ _ (by omega)]
            rw [e68] at Fr0
            have g := hrow δ' rfl (v + 1) k (p / 8) _ σ0 (by omega) I0 Fr0 hk hp8 (Or.inr (by rw [e5]; exact h52)) (by rw [e17, if_pos ⟨rfl, rfl⟩]) (by omega)
            have gl0 : GL σ σ0 := GL_one (u := v) (u' := v + 1) (Or.inr rfl) hI.2.2.2.2 g550 hgo
            have er : (lvW S (δ' + 1)).2 D k (p / 8) t = endE (mkF S (askE S δ') k (min (entsZ (sSz S k)) (8 * ((p / 8 : Nat) : Int) + 8) - 8 * ((p / 8 : Nat) : Int)).toNat (8 * (p / 8)) (bNote (up3 D 17 k (p / 8) 1) 0 k (p / 8 : Nat) t 0)) (fun x D' => up3 D' 17 k (p / 8) x) := rfl
            rw [er] at hlv ⊢
            revert g hlv
            generalize mkF S (askE S δ') k (min (entsZ (sSz S k)) (8 * ((p / 8 : Nat) : Int) + 8) - 8 * ((p / 8 : Nat) : Int)).toNat (8 * (p / 8)) (bNote (up3 D 17 k (p / 8) 1) 0 k (p / 8 : Nat) t 0) = res
            intro hlv g
            have lowfr : ∀ i, i < v + 1 → σ0 86 0 i = σ 86 0 i ∧ σ0 87 0 i = σ 87 0 i := frs_eq (t' := t) (row' := row) hF Fb lw0
            cases res with
            | inl q =>
              obtain ⟨w, m, D2⟩ := q
              exact Fls_pre (Fls_row (v := v + 1) g hk hp8 hb0 Fr0.1) gl0 fg0 lowfr
            | inr q =>
              obtain ⟨y, D2⟩ := q
              obtain ⟨σm, σ1, g1, ⟨um, g2, g2b⟩, g3, g4, g5, g6, g7⟩ := g
              obtain ⟨⟨i1, i2, i3, i4⟩, i5⟩ := hlv
              have i5 := i5 0 (up3 D2 17 k (p / 8) 2) rfl
              have i1 : DW S (up3 D2 17 k (p / 8) 2) := i1
              have i3 : UP (Xr k (p / 8)) D (up3 D2 17 k (p / 8) 2) := i3
              have gl1 : GL σ σ1 := GL_tr gl0 (GL_tr g1 (GL_one (u := um) (u' := v) (Or.inl rfl) g2 g6 g3))
              have fg1 := FrG_tr g4 fg0
              have lw1 : LowR v σ1 σ := LowR_tr (LowR_le g5 (by omega)) lw0
              have Fv : FrameAt σ1 v t row pl e (A : Int) ((p : Int) :: st) := FrameAt_Low Fb g5 (by omega) (by simp only [List.length_cons]; omega)
              have u5 : up3 D2 17 k (p / 8) 2 5 k 8 = 2 := by rw [(i3 k (by omega)).1 (by omega)]; exact h52
              have I1 : StI n S v (up3 D2 17 k (p / 8) 2) σ1 := ⟨g7, fun j hj z i hi => by
                have z' := (i3 j (by omega)).2.1 z
                by_cases cc : j = k ∧ i = p / 8
                · obtain ⟨rfl, rfl⟩ := cc
                  rw [i5]; decide
                · rw [((i3 j (by omega)).2.2 i hi).2.2 (fun y => cc ⟨y.1, y.2⟩) z']
                  exact hI.2.1 j hj z' i hi, SRl_G hI.2.2.1 fg1, i1, g6⟩
              -- asked again
              have h1 : AsKs n S v t A k E row pl e (p : Int) st (up3 D2 17 k (p / 8) 2) σ1 := ⟨I1, Fv, ht, hk, hpl, by rw [fg1 _ _ _ (by omega)]; exact h69, by rw [fg1 _ _ _ (by omega)]; exact h70, by rw [fg1 _ _ _ (by omega)]; exact hE, hAE, hE9, hb, hst⟩
              have L3 : Loc v (qS σ1 v A st.length) σ1 := qS_L
              have H3 := HR_Loc I1.1 L3
              obtain ⟨⟨y1, y2, y3, y4, y5⟩, -⟩ := (SRl_G I1.2.2.1 (Loc_G L3)).2 k hk
              obtain ⟨w1, w2, w3⟩ := (H3.1 k hk).2 (Or.inr u5)
              have res1 := ask_val (τ := up3 (qS σ1 v A st.length) 10 0 63 (up3 D2 17 k (p / 8) 2 16 k p)) hn (by omega) h1 (m_askR2 (d := 0) (by omega) (by rw [(H3.1 k hk).1]; exact u5) y5 hz hpz (w3 p hp200 (by rw [i5]; decide)) (by rw [y2, hby1]; rfl) (by rw [w2 hb0 (p / 8) hp8]; exact i5)) (fun f k' j q => up3_n _ (by omega)) (fun f j q => up3_n _ (by omega)) (by rw [up3_n _ (by omega)]; exact L3 _ _ _ (by omega)) (up3_s _ _ _ _ _) (HR_ans H3) i1 I1.2.1
              show match (if up3 D2 17 k (p / 8) 2 17 k (p / 8) = 1 then (.inr (up3 D2 17 k (p / 8) 2 16 k p, bNote (up3 D2 17 k (p / 8) 2) 1 k p t (up3 D2 17 k (p / 8) 2 16 k p)) : ER) else .inr (up3 D2 17 k (p / 8) 2 16 k p, up3 D2 17 k (p / 8) 2)) with | .inl (w, m, D') => Fls n S (v + 1) w m D' σ | .inr (x, D') => AsVs n S v t A row pl e st x D' σ
              rw [if_neg (by rw [i5]; decide)]
              exact AsVs_pre res1 gl1 fg1 lw1
        · rw [if_neg hr0]
          show match (if D 17 k (p / 8) = 1 then (.inr (D 16 k p, bNote D 1 k p t (D 16 k p)) : ER) else .inr (D 16 k p, D)) with | .inl (w, m, D') => Fls n S (v + 1) w m D' σ | .inr (x, D') => AsVs n S v t A row pl e st x D' σ
          by_cases h1 : D 17 k (p / 8) = 1
          · rw [if_pos h1]
            exact half h3 (m_askR1 (d := 0) (by omega) g712 s5 hz hpz e73 g64 (by rw [g72]; exact h1) h48 (by omega))
          · rw [if_neg h1]
            exact plain (m_askR2 (d := 0) (by omega) g712 s5 hz hpz e73 g64 (by rw [g72]; omega))
end AS
