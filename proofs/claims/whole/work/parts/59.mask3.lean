/-! the reference's machine does what E does -/
section A3
variable {n : Nat} {S : Sd} {δ : Nat}
theorem ask_sim (hS : SOk S n) (hrow : ∀ δ', δ = δ' + 1 → RowSim n S δ') (htab : ∀ δ', δ = δ' + 1 → TabSim n S δ') : AskSim n S δ := by
  intro v t A k E row pl e b st D σ hv hI hF ht hk hpl h69 h70 hE hAE hE9 hb hst hp
  have hn := hS.1
  have h0 : AsKs n S v t A k E row pl e b st D σ := ⟨hI, hF, ht, hk, hpl, h69, h70, hE, hAE, hE9, hb, hst⟩
  have F2 := qS_F hF
  have L2 : Loc v (qS σ v A st.length) σ := qS_L
  have H2 := HR_Loc hI.1 L2
  have hst2 : SRl S n (qS σ v A st.length) := SRl_G hI.2.2.1 (Loc_G L2)
  have g71 := (H2.1 k hk).1
  have g55 : qS σ v A st.length 10 0 55 = ((v + 1 : Nat) : Int) := by rw [L2 _ _ _ (by omega)]; exact hI.2.2.2.2
  obtain ⟨l1, l2⟩ := Psi_log hI.2.2.2.1 (by omega)
  have d5 := (hI.2.2.2.1.1 k (by omega)).1
  show match bindE (awkF (lvW S δ).1 D k t) (fun _ D1 => if b < 0 ∨ entsZ (sSz S k) ≤ b then (.inl (2, 0, D1) : ER) else gotF S (lvW S δ).2 D1 k b.toNat t) with
    | .inl (w, m, D') => Fls n S (v + 1) w m D' σ
    | .inr (x, D') => AsVs n S v t A row pl e st x D' σ
  unfold awkF
  by_cases h3 : D 5 k 8 = 3
  · rw [if_pos h3]
    exact ask_fail hn (by omega) h0 (by omega) (m_ask6 (d := 0) (by omega) (by rw [g71]; exact h3)) (fun _ _ _ => rfl) (FrG_refl _) H2
  rw [if_neg h3]
  by_cases hz : D 5 k 8 = 0
  · rw [if_pos hz]
    have g710 : qS σ v A st.length 71 0 k = 0 := by rw [g71]; exact hz
    have hlv := (lv_i hS δ).1 D k t hI.2.2.2.1 hk ⟨by omega, by omega⟩ hz
    cases δ with
    | zero =>
      have hbg := m_begin12 (d := 0) (k := k) (r := -9) (a := t) (σ := qS σ v A st.length) (by rw [g55]; omega)
      exact ask_fail hn (by omega) h0 (by omega) (m_askA (d := 0) (by omega) g710 hbg) (fun _ _ _ => rfl) (FrG_refl _) H2
    | succ δ' =>
      by_cases hsz : 0 ≤ sSz S k ∧ sSz S k ≤ 200
      · obtain ⟨τ1, q1, q2, q3, q4, q5, q6⟩ := m_beginT (d := 0) (a := t) (u := v + 1) hS hst2 hk H2 hI.2.2.2.1 hz g55 (by omega) hsz l1
        have hq := m_askA (d := 0) (x := b) (o := 0) (by omega) g710 q6
        have F1 : FrameAt τ1 v t row pl e ((A + 1 : Nat) : Int) st := FrameAt_Low F2 q2 (by omega) (by omega)
        have hgo := g_step (d := 2) hF hI.2.2.2.2 (by omega) (by omega) ⟨hpl.1, hpl.2.1, by omega⟩ hE hAE hE9 (m_stepEb (d := 0) (by omega) h69 h70 hF (by omega) (by omega) (by omega) (by omega) hq F1.2.2.2.2.1)
        obtain ⟨σ0, s0⟩ : ∃ q, q = bkS τ1 v A st.length b := ⟨_, rfl⟩
        rw [← s0] at hgo
        have Lb : Loc v σ0 τ1 := by rw [s0]; exact Loc_up (Loc_put (Loc_refl v τ1) (by omega)) _ (by omega)
        have Fb : FrameAt σ0 v t row pl e (A : Int) (b :: st) := by rw [s0]; exact FrA_act (FrA_put F1)
        obtain ⟨d2, p2, e5, e17⟩ := tab_D hS hI.2.2.2.1 hk (a := t) ⟨by omega, by omega⟩ hz
        have z17 : ∀ j, j < 25 → D 17 k j = 0 := fun j hj => (hI.2.2.2.1.1 k (by omega)).2.2.2 (Or.inl hz) j hj
        have fg0 : FrG σ0 σ := FrG_tr (Loc_G Lb) (FrG_tr q1 (Loc_G L2))
        have lw0 : LowR v σ0 σ := LowR_tr (Loc_L Lb) (LowR_tr (LowR_le q2 (by omega)) (Loc_L L2))
        have g550 : σ0 10 0 55 = ((v + 1 + 1 : Nat) : Int) := by rw [Lb _ _ _ (by omega)]; exact q4
        have I0 : StI n S (v + 1) (zeroA (bNote (up3 D 5 k 8 1) 0 k (-9) t 0) 16 k 200) σ0 := ⟨HR_Loc q5 Lb, fun j hj z i hi => by
          rw [e5] at z
          rw [e17]
          by_cases q : j = k
          · subst q; rw [z17 i hi]; decide
          · rw [if_neg q] at z
            exact hI.2.1 j hj z i hi, SRl_G hI.2.2.1 fg0, d2, g550⟩
        have Fr0 := FrameAt_Loc q3 Lb (by omega) (by decide)
        have e68 : qS σ v A st.length 68 0 k = σ0 68 0 k := by rw [fg0 _ _ _ (by omega), L2 _ _ _ (by omega)]
        rw [e68] at Fr0
        have g := htab δ' rfl (v + 1) k _ σ0 (by omega) I0 Fr0 hk hsz (by rw [e5, if_pos rfl]) (fun j hj => by rw [e17]; exact z17 j hj) (by omega)
        have gl0 : GL σ σ0 := GL_one (u := v) (u' := v + 1) (Or.inr rfl) hI.2.2.2.2 g550 hgo
        have er : (lvW S (δ' + 1)).1 D k t = endE (bindE (fillF S (lvW S δ').1 (lvW S δ').2 (zeroA (bNote (up3 D 5 k 8 1) 0 k (-9) t 0) 16 k 200) k) (fun _ D' => promF S D' k)) (fun x D' => up3 D' 5 k 8 x) := by
          show endE (bodyW S (lvW S δ').1 (lvW S δ').2 (bNote (up3 D 5 k 8 1) 0 k (-9) t 0) k) (fun x D' => up3 D' 5 k 8 x) = _
          unfold bodyW
          rw [if_neg (by omega), if_neg (by omega)]
        rw [er] at hlv ⊢
        revert g hlv
        generalize bindE (fillF S (lvW S δ').1 (lvW S δ').2 (zeroA (bNote (up3 D 5 k 8 1) 0 k (-9) t 0) 16 k 200) k) (fun _ D' => promF S D' k) = res
        intro hlv g
        cases res with
        | inl q =>
          obtain ⟨w, m, D2⟩ := q
          exact Fls_pre (Fls_tab (v := v + 1) g hk Fr0.1) gl0 fg0 (frs_eq (t' := t) (row' := row) hF Fb lw0)
        | inr q =>
          obtain ⟨y, D2⟩ := q
          obtain ⟨σm, σ1, g1, ⟨um, g2, g2b⟩, g3, g4, g5, g6, g7⟩ := g
          obtain ⟨⟨i1, i2, i3, i4⟩, i5⟩ := hlv
          have i5 := i5 0 (up3 D2 5 k 8 2) rfl
          have i1 : DW S (up3 D2 5 k 8 2) := i1
          have i2 : Psi (up3 D2 5 k 8 2) ≤ Psi D + 0 := i2
          have i3 : UP X0 D (up3 D2 5 k 8 2) := i3
          have gl1 : GL σ σ1 := GL_tr gl0 (GL_tr g1 (GL_one (u := um) (u' := v) (Or.inl rfl) g2 g6 g3))
          have fg1 := FrG_tr g4 fg0
          have lw1 : LowR v σ1 σ := LowR_tr (LowR_le g5 (by omega)) lw0
          have Fv : FrameAt σ1 v t row pl e (A : Int) (b :: st) := FrameAt_Low Fb g5 (by omega) (by simp only [List.length_cons]; omega)
          have I1 : StI n S v (up3 D2 5 k 8 2) σ1 := ⟨g7, fun j hj z i hi => by
            have z' := (i3 j (by omega)).2.1 z
            rw [((i3 j (by omega)).2.2 i hi).2.2 (fun y => y) z']
            exact hI.2.1 j hj z' i hi, SRl_G hI.2.2.1 fg1, i1, g6⟩
          have h1 : AsKs n S v t A k E row pl e b st (up3 D2 5 k 8 2) σ1 := ⟨I1, Fv, ht, hk, hpl, by rw [fg1 _ _ _ (by omega)]; exact h69, by rw [fg1 _ _ _ (by omega)]; exact h70, by rw [fg1 _ _ _ (by omega)]; exact hE, hAE, hE9, hb, hst⟩
          have g := got_sim hS hrow hv h1 (Or.inr i5) (by omega)
          show match (if b < 0 ∨ entsZ (sSz S k) ≤ b then (.inl (2, 0, up3 D2 5 k 8 2) : ER) else gotF S (lvW S (δ' + 1)).2 (up3 D2 5 k 8 2) k b.toNat t) with | .inl (w, m, D') => Fls n S (v + 1) w m D' σ | .inr (x, D') => AsVs n S v t A row pl e st x D' σ
          revert g
          generalize (if b < 0 ∨ entsZ (sSz S k) ≤ b then (.inl (2, 0, up3 D2 5 k 8 2) : ER) else gotF S (lvW S (δ' + 1)).2 (up3 D2 5 k 8 2) k b.toNat t) = res2
          intro g
          cases res2 with
          | inl q =>
            obtain ⟨w, m, D3⟩ := q
            exact Fls_pre g gl1 fg1 (frs_eq (t' := t) (row' := row) hF Fv lw1)
          | inr q =>
            obtain ⟨x, D3⟩ := q
            exact AsVs_pre g gl1 fg1 lw1
      · obtain ⟨τ1, q1, q2, q3, q4, q5, q6⟩ := m_beginB (d := 0) (a := t) (u := v + 1) hS hst2 hk H2 hI.2.2.2.1 g55 (by omega) hsz l1
        have hq := m_askA (d := 0) (x := b) (o := 0) (by omega) g710 q6
        have hgo := g_step (d := 2) hF hI.2.2.2.2 (by omega) (by omega) ⟨hpl.1, hpl.2.1, by omega⟩ hE hAE hE9 (m_stepEf (d := 0) (by omega) h69 h70 hF (by omega) (by omega) (by omega) (by omega) (by split <;> omega) hq)
        have er : (lvW S (δ' + 1)).1 D k t = .inl (if sSz S k < 0 then 3 else 4, 1, up3 (bNote (up3 D 5 k 8 1) 0 k (-9) t 0) 5 k 8 3) := by
          show endE (bodyW S (lvW S δ').1 (lvW S δ').2 (bNote (up3 D 5 k 8 1) 0 k (-9) t 0) k) (fun x D' => up3 D' 5 k 8 x) = _
          unfold bodyW
          by_cases hneg : sSz S k < 0
          · rw [if_pos hneg, if_pos hneg]; rfl
          · rw [if_neg hneg, if_neg hneg, if_pos (by omega)]; rfl
        rw [er]
        show Fls n S (v + 1) (if sSz S k < 0 then 3 else 4) 1 (up3 (bNote (up3 D 5 k 8 1) 0 k (-9) t 0) 5 k 8 3) σ
        refine ⟨σ, τ1, GL_refl σ, ⟨v, hI.2.2.2.2, by omega⟩, hgo, FrG_tr q1 (Loc_G L2), fun i hi => ⟨?_, ?_⟩, q4, q5, fun i i1 i2 => ?_⟩
        · rw [q2.1 _ _ hi (by omega) (by omega), L2 _ _ _ (by omega)]
        · rw [q2.1 _ _ hi (by omega) (by omega), L2 _ _ _ (by omega)]
        · obtain rfl : i = v + 1 := by omega
          exact ⟨k, hk, q3.1, Or.inl q3.2⟩
  · rw [if_neg hz]
    exact got_sim hS hrow hv h0 (by omega) hp
theorem all_sim (hS : SOk S n) : ∀ δ, AskSim n S δ ∧ RowSim n S δ ∧ TabSim n S δ := by
  intro δ
  induction δ with
  | zero =>
    have h0 : AskSim n S 0 := ask_sim hS (fun δ' e => by omega) (fun δ' e => by omega)
    exact ⟨h0, row_sim hS h0, tab_sim hS h0 (fun δ' e => by omega)⟩
  | succ δ ih =>
    obtain ⟨i1, i2, i3⟩ := ih
    have hr : ∀ δ', δ + 1 = δ' + 1 → RowSim n S δ' := fun δ' e => by
      have q : δ' = δ := by omega
      rw [q]; exact i2
    have ht : ∀ δ', δ + 1 = δ' + 1 → TabSim n S δ' := fun δ' e => by
      have q : δ' = δ := by omega
      rw [q]; exact i3
    have h1 := ask_sim hS hr ht
    exact ⟨h1, row_sim hS h1, tab_sim hS h1 hr⟩
end A3
