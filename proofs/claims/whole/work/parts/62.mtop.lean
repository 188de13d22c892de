/-! get from the top -/
section TP
variable {n : Nat} {S : Sd}
def NUn (n : Nat) (D : Mm) : Prop := ∀ k, k < n → D 5 k 8 ≠ 1 ∧ ∀ r, r < 25 → D 17 k r ≠ 1
def TpI (n : Nat) (S : Sd) (D σ : Mm) : Prop := HR n S D σ ∧ SRl S n σ ∧ DW S D ∧ NUn n D ∧ σ 10 0 55 = 0
theorem NUn_UP {X : Nat → Nat → Prop} {D D' : Mm} (hn : n ≤ 12) (h : NUn n D) (hu : UP X D D') : NUn n D' := fun k hk => ⟨fun z => (h k hk).1 ((hu k (by omega)).2.1 z), fun r hr z => (h k hk).2 r hr (((hu k (by omega)).2.2 r hr).2.1 z)⟩
theorem NF_NU {D : Mm} (h : NUn n D) : NF n D := fun k hk z => absurd z (h k hk).1
theorem TpI_0 {u : Nat} {D σ D' : Mm} (h : TpI n S D σ) : NF n D := NF_NU h.2.2.2.1
theorem top_fail (hn : n ≤ 12) {k m : Nat} {x o w : Int} {D' σ : Mm} (hF : Fls n S 0 w m D' σ) (hw : 1 ≤ w ∧ w ≤ 8) (hm : m ≤ 12) : TopX n S 10 k x o σ (.inl (w, m, D')) := by
  obtain ⟨σm, σ', ⟨q, g1⟩, ⟨u, g2, g2b⟩, g3, g4, g5, g6, g7, g8⟩ := hF
  rw [Nat.zero_add] at g6 g7 g8
  obtain ⟨σ2, f1, f2, f3, f4, f5⟩ := m_failAll (d := 4) (w := w) hn g6 hm g7 (fun i hi => g8 i (Nat.zero_le _) hi)
  exact ⟨σ2, 0, ⟨FrH_tr f1 (FrH_G g4), rfl, f2, f3, f4⟩, fun C h hr => get_GL h q _ _ g1 (get_fail h g2 g2b hw g3 f5 hr)⟩
theorem top_askF (hn : n ≤ 12) {k : Nat} {x o w : Int} {D σ τ : Mm} (h0 : σ 10 0 55 = 0) (hq : Ct 4 mX10_ask 1 [vR 10 0, vI k, vL x, vI (-9), vI o] NALL σ (some (vI w)) NALL τ 0 0) (hw : 1 ≤ w ∧ w ≤ 8) (hg : FrG τ σ) (h55 : τ 10 0 55 = 0) (hH : HR n S D τ) : TopX n S 10 k x o σ (.inl (w, 0, D)) := by
  obtain ⟨σ2, f1, f2, f3, f4, f5⟩ := m_failAll (d := 4) (w := w) (u := 0) hn (by rw [h55]; rfl) (by decide) (HM_of 0 hH) (fun i hi => absurd hi (Nat.not_lt_zero _))
  exact ⟨σ2, 0, ⟨FrH_tr f1 (FrH_G hg), rfl, f2, f3, f4⟩, fun C h hr => get_askF h h0 hw hq f5 hr⟩
/-- the answer stands -/
theorem top_ans (hS : SOk S n) {k p : Nat} {D σ : Mm} (h : TpI n S D σ) (hk : k < n) (h5 : D 5 k 8 = 2) (hp : (p : Int) < sSz S k) (hw : sBy S k = 0 ∨ D 17 k (p / 8) = 2) : TopX n S 54 k (p : Int) 0 σ (.inr (D 16 k p, D)) := by
  have hn := hS.1
  obtain ⟨hH, hst, hD, hN, h55⟩ := h
  obtain ⟨⟨s1, s2, s3, s4, s5⟩, -⟩ := hst.2 k hk
  obtain ⟨g71, g⟩ := hH.1 k hk
  obtain ⟨hz, x2, x3⟩ := g (Or.inr h5)
  have hn3 : D 17 k (p / 8) ≠ 3 := by
    rcases hw with q | q
    · rw [(hD.1 k (by omega)).2.2.2 (Or.inr q) (p / 8) (by omega)]; decide
    · rw [q]; decide
  have e73 := x3 p (by omega) hn3
  refine ⟨up3 σ 10 0 63 (D 16 k p), 1, ⟨fun f k' j q => up3_n _ (by omega), rfl, HR_ans hH, fun _ => up3_s _ _ _ _ _, up3_n _ (by omega)⟩, fun C h hr => ?_⟩
  by_cases hb0 : sBy S k = 0
  · exact get_ans h h55 (m_iaW (d := 3) (by omega) (by rw [g71]; exact h5) s5 hz hp (by rw [s2, hb0]; rfl) e73) hr
  · have hby1 : sBy S k = 1 := by
      have := (hS.2 k hk).2.1
      omega
    exact get_ans h h55 (m_iaR2 (d := 3) (by omega) (by rw [g71]; exact h5) s5 hz hp (by rw [s2, hby1]; rfl) (by rw [x2 hb0 (p / 8) (by omega)]; omega) e73) hr
theorem top_got (hS : SOk S n) {k : Nat} {x : Int} {D σ : Mm} (h : TpI n S D σ) (hk : k < n) (hx : i64 x) (h5 : D 5 k 8 = 2) (hp : Psi D + 1 ≤ BD) : TopX n S 10 k x 0 σ (if x < 0 ∨ entsZ (sSz S k) ≤ x then .inl (2, 0, D) else gotF S (lvW S 12).2 D k x.toNat (-9)) := by
  have hn := hS.1
  have h00 := h
  obtain ⟨hH, hst, hD, hN, h55⟩ := h
  obtain ⟨⟨s1, s2, s3, s4, s5⟩, -⟩ := hst.2 k hk
  obtain ⟨g71, g⟩ := hH.1 k hk
  obtain ⟨hz, x2, x3⟩ := g (Or.inr h5)
  obtain ⟨l1, l2⟩ := Psi_log hD (by omega)
  have g712 : σ 71 0 k = 2 := by rw [g71]; exact h5
  rw [ents_in hz]
  by_cases hbd : x < 0 ∨ sSz S k ≤ x
  · rw [if_pos hbd]
    exact top_askF hn h55 (m_askB (d := 2) (by omega) (Or.inr rfl) g712 s5 hz hx hbd) (by omega) (FrG_refl σ) h55 hH
  · rw [if_neg hbd]
    obtain ⟨p, hpb⟩ : ∃ p : Nat, x = (p : Int) := ⟨x.toNat, by omega⟩
    subst hpb
    have hp200 : p < 200 := by omega
    have hpz : (p : Int) < sSz S k := by omega
    have hp8 : p / 8 < 25 := by omega
    rw [Int.toNat_natCast]
    have dk := hD.1 k (by omega)
    have plain : Ct 4 mX10_ask 1 [vR 10 0, vI k, vL (p : Int), vI (-9), vI 0] NALL σ (some (vI 0)) NALL (up3 σ 10 0 63 (D 16 k p)) 0 0 → (sBy S k = 0 ∨ D 17 k (p / 8) = 2) → TopX n S 10 k (p : Int) 0 σ (.inr (D 16 k p, D)) := fun hq hw => by
      have h1 : TpI n S D (up3 σ 10 0 63 (D 16 k p)) := ⟨HR_ans hH, SRl_G hst (fun f k' j q => up3_n _ (by omega)), hD, hN, by rw [up3_n _ (by omega)]; exact h55⟩
      exact TopX_pre (top_ans hS h1 hk h5 hpz hw) (fun f k' j q => up3_n _ (by omega)) (up3_n _ (by omega)) (fun C h hx => get_ask0 h h55 hq hx)
    unfold gotF
    rw [if_neg (by omega)]
    by_cases hb0 : sBy S k = 0
    · rw [if_pos hb0]
      have h170 := dk.2.2.2 (Or.inr hb0) (p / 8) hp8
      exact plain (m_askW (d := 2) (by omega) g712 s5 hz hpz (x3 p hp200 (by omega)) (by rw [s2, hb0]; rfl)) (Or.inl hb0)
    · rw [if_neg hb0]
      have hby1 : sBy S k = 1 := by
        have := (hS.2 k hk).2.1
        omega
      have g64 : σ 64 0 k = 0 := by rw [s2, hby1]; rfl
      have g72 := x2 hb0 (p / 8) hp8
      have d17 := dk.2.1 (p / 8) hp8
      have n17 := (hN k hk).2 (p / 8) hp8
      unfold awrF
      by_cases h3 : D 17 k (p / 8) = 3
      · rw [if_pos h3]
        exact top_askF hn h55 (m_askR3 (d := 2) (by omega) g712 s5 hz hpz rfl g64 (by rw [g72]; exact h3)) (by omega) (fun f k' j q => up3_n _ (by omega)) (by rw [up3_n _ (by omega)]; exact h55) (HR_ans hH)
      rw [if_neg h3]
      have e73 := x3 p hp200 h3
      by_cases hr0 : D 17 k (p / 8) = 0
      · rw [if_pos hr0]
        have hlv := (lv_i hS 12).2 D k (p / 8) (-9) hD hk hp8 ⟨by omega, by omega⟩ hr0 (by omega) hb0
        obtain ⟨τ0, t0⟩ : ∃ q, q = up3 σ 10 0 63 (D 16 k p) := ⟨_, rfl⟩
        have H0 : HR n S D τ0 := by rw [t0]; exact HR_ans hH
        have o0 : ∀ f k' j, ¬ (f = 10 ∧ j = 63) → τ0 f k' j = σ f k' j := fun f k' j q => by rw [t0, up3_n _ q]
        have st0 : SRl S n τ0 := SRl_G hst (fun f k' j q => o0 _ _ _ (by omega))
        have u0 : τ0 10 0 55 = ((0 : Nat) : Int) := by rw [o0 _ _ _ (by omega), h55]; rfl
        obtain ⟨τ1, q1, q2, q3, q4, q5, q6⟩ := m_beginR (d := 2) (a := -9) (u := 0) (r := p / 8) hS st0 hk hp8 H0 hD (Or.inr h5) hr0 hb0 u0 (by omega) l1
        rw [t0] at q6
        have hq := m_askR0 (d := 2) (by omega) g712 s5 hz hpz e73 g64 (by rw [g72]; exact hr0) q6
        obtain ⟨d2, p2, e5, e17⟩ := row_D hS hD hk hp8 (a := -9) ⟨by omega, by omega⟩ hr0 (by omega) hb0
        have fg1 : FrG τ1 σ := FrG_tr q1 (fun f k' j q => o0 _ _ _ (by omega))
        have I0 : StI n S 0 (bNote (up3 D 17 k (p / 8) 1) 0 k (p / 8 : Nat) (-9) 0) τ1 := ⟨q5, fun j hj z i hi => by
          rw [e5] at z
          exact absurd z (hN j hj).1, SRl_G hst fg1, d2, q4⟩
        have e68 : τ0 68 0 k = τ1 68 0 k := (q1 _ _ _ (by omega)).symm
        rw [e68] at q3
        have g := (all_sim hS 11).2.1 0 k (p / 8) _ τ1 (by omega) I0 q3 hk hp8 (Or.inr (by rw [e5]; exact h5)) (by rw [e17, if_pos ⟨rfl, rfl⟩]) (by omega)
        have er : (lvW S 12).2 D k (p / 8) (-9) = endE (mkF S (askE S 11) k (min (entsZ (sSz S k)) (8 * ((p / 8 : Nat) : Int) + 8) - 8 * ((p / 8 : Nat) : Int)).toNat (8 * (p / 8)) (bNote (up3 D 17 k (p / 8) 1) 0 k (p / 8 : Nat) (-9) 0)) (fun x D' => up3 D' 17 k (p / 8) x) := rfl
        rw [er] at hlv ⊢
        revert g hlv
        generalize mkF S (askE S 11) k (min (entsZ (sSz S k)) (8 * ((p / 8 : Nat) : Int) + 8) - 8 * ((p / 8 : Nat) : Int)).toNat (8 * (p / 8)) (bNote (up3 D 17 k (p / 8) 1) 0 k (p / 8 : Nat) (-9) 0) = res
        intro hlv g
        have b53 : τ1 10 0 53 = σ 10 0 53 := fg1 _ _ _ (by omega)
        cases res with
        | inl q =>
          obtain ⟨w, m, D2⟩ := q
          obtain ⟨⟨i1, i2, i3, i4, i5⟩, -⟩ := hlv
          exact TopX_pre (top_fail hn (Fls_row (v := 0) g hk hp8 hb0 q3.1) i4 i5) (FrH_G fg1) b53 (fun C h hx => get_beg h h55 hq hx)
        | inr q =>
          obtain ⟨y, D2⟩ := q
          obtain ⟨σm, σ1, ⟨m, g1⟩, ⟨um, g2, g2b⟩, g3, g4, g5, g6, g7⟩ := g
          obtain ⟨⟨i1, i2, i3, i4⟩, i5⟩ := hlv
          have i5 := i5 0 (up3 D2 17 k (p / 8) 2) rfl
          have i1 : DW S (up3 D2 17 k (p / 8) 2) := i1
          have i3 : UP (Xr k (p / 8)) D (up3 D2 17 k (p / 8) 2) := i3
          have fg2 := FrG_tr g4 fg1
          have u5 : up3 D2 17 k (p / 8) 2 5 k 8 = 2 := by rw [(i3 k (by omega)).1 (by omega)]; exact h5
          have h1 : TpI n S (up3 D2 17 k (p / 8) 2) σ1 := ⟨g7, SRl_G hst fg2, i1, NUn_UP hn hN i3, g6⟩
          have ht := top_ans hS h1 hk u5 hpz (Or.inr i5)
          show TopX n S 10 k (p : Int) 0 σ (if up3 D2 17 k (p / 8) 2 17 k (p / 8) = 1 then (.inr (up3 D2 17 k (p / 8) 2 16 k p, bNote (up3 D2 17 k (p / 8) 2) 1 k p (-9) (up3 D2 17 k (p / 8) 2 16 k p)) : ER) else .inr (up3 D2 17 k (p / 8) 2 16 k p, up3 D2 17 k (p / 8) 2))
          rw [if_neg (by rw [i5]; decide)]
          exact TopX_pre ht (FrH_G fg2) (fg2 _ _ _ (by omega)) (fun C h hx => get_beg h h55 hq (get_GL h m _ _ g1 (get_done h g2 g2b g3 hx)))
      · rw [if_neg hr0]
        have h17 : D 17 k (p / 8) = 2 := by omega
        show TopX n S 10 k (p : Int) 0 σ (if D 17 k (p / 8) = 1 then (.inr (D 16 k p, bNote D 1 k p (-9) (D 16 k p)) : ER) else .inr (D 16 k p, D))
        rw [if_neg (by omega)]
        exact plain (m_askR2 (d := 2) (by omega) g712 s5 hz hpz e73 g64 (by rw [g72]; exact h17)) (Or.inr h17)
/-- from the look whether the answer stands -/
theorem top_chk (hS : SOk S n) {k : Nat} {x : Int} {D σ : Mm} (h : TpI n S D σ) (hk : k < n) (hx : i64 x) (h5 : D 5 k 8 = 2) (hp : Psi D + 1 ≤ BD) : TopX n S 54 k x 0 σ (if x < 0 ∨ entsZ (sSz S k) ≤ x then .inl (2, 0, D) else gotF S (lvW S 12).2 D k x.toNat (-9)) := by
  have hn := hS.1
  have g := top_got hS h hk hx h5 hp
  have h00 := h
  obtain ⟨hH, hst, hD, hN, h55⟩ := h
  obtain ⟨⟨s1, s2, s3, s4, s5⟩, -⟩ := hst.2 k hk
  obtain ⟨g71, gg⟩ := hH.1 k hk
  obtain ⟨hz, x2, x3⟩ := gg (Or.inr h5)
  have g712 : σ 71 0 k = 2 := by rw [g71]; exact h5
  by_cases hbd : x < 0 ∨ sSz S k ≤ x
  · exact TopX_pre g (FrH_refl σ) rfl (fun C h hx2 => get_not h h55 (m_iaOut (d := 3) (by omega) g712 s5 hz hx hbd) hx2)
  · obtain ⟨p, hpb⟩ : ∃ p : Nat, x = (p : Int) := ⟨x.toNat, by omega⟩
    subst hpb
    have hpz : (p : Int) < sSz S k := by omega
    have hp8 : p / 8 < 25 := by omega
    by_cases hw : sBy S k = 0 ∨ D 17 k (p / 8) = 2
    · have e : (if (p : Int) < 0 ∨ entsZ (sSz S k) ≤ (p : Int) then (.inl (2, 0, D) : ER) else gotF S (lvW S 12).2 D k (p : Int).toNat (-9)) = .inr (D 16 k p, D) := by
        rw [ents_in hz, if_neg hbd, Int.toNat_natCast]
        unfold gotF
        rw [if_neg (by omega)]
        by_cases hb0 : sBy S k = 0
        · rw [if_pos hb0]
        · rw [if_neg hb0]
          have h17 : D 17 k (p / 8) = 2 := hw.resolve_left hb0
          unfold awrF
          rw [if_neg (by omega), if_neg (by omega)]
          show (if D 17 k (p / 8) = 1 then (.inr (D 16 k p, bNote D 1 k p (-9) (D 16 k p)) : ER) else .inr (D 16 k p, D)) = _
          rw [if_neg (by omega)]
      rw [e]
      exact top_ans hS h00 hk h5 hpz hw
    · have hb0 : sBy S k ≠ 0 := fun q => hw (Or.inl q)
      have hby1 : sBy S k = 1 := by
        have := (hS.2 k hk).2.1
        omega
      have d17 := (hD.1 k (by omega)).2.1 (p / 8) hp8
      exact TopX_pre g (FrH_refl σ) rfl (fun C h hx2 => get_not h h55 (m_iaR (d := 3) (q := D 17 k (p / 8)) (by omega) g712 s5 hz hpz (by rw [s2, hby1]; rfl) (x2 hb0 (p / 8) hp8) ⟨d17.1, d17.2, fun q => hw (Or.inr q)⟩) hx2)
/-- a TABLE asleep is woken -/
theorem top_wake (hS : SOk S n) {k : Nat} {x o : Int} {D σ : Mm} (h : TpI n S D σ) (hk : k < n) (h5 : D 5 k 8 = 0) (hp : Psi D + 1 ≤ BD) : match (lvW S 12).1 D k (-9) with
    | .inl (w, m, D') => TopX n S 10 k x o σ (.inl (w, m, D'))
    | .inr (_, D') => D' 5 k 8 = 2 ∧ Psi D' ≤ Psi D ∧ ∃ σ1, TpI n S D' σ1 ∧ FrG σ1 σ ∧ ∀ C : Cx, Ok C RX10 cX10_get 6 5 → (∀ ls, lsub (gL k x o) ls → X C 1 54 ls [] NALL σ1 0 0) → ∀ ls, lsub (gL k x o) ls → X C 1 10 ls [] NALL σ 0 0 := by
  have hn := hS.1
  obtain ⟨hH, hst, hD, hN, h55⟩ := h
  obtain ⟨l1, l2⟩ := Psi_log hD (by omega)
  have g71 : σ 71 0 k = 0 := by rw [(hH.1 k hk).1]; exact h5
  have hlv := (lv_i hS 12).1 D k (-9) hD hk ⟨by omega, by omega⟩ h5
  have u0 : σ 10 0 55 = ((0 : Nat) : Int) := by rw [h55]; rfl
  by_cases hsz : 0 ≤ sSz S k ∧ sSz S k ≤ 200
  · obtain ⟨τ1, q1, q2, q3, q4, q5, q6⟩ := m_beginT (d := 2) (a := -9) (u := 0) hS hst hk hH hD h5 u0 (by omega) hsz l1
    have hq := m_askA (d := 2) (x := x) (o := o) (by omega) g71 q6
    obtain ⟨d2, p2, e5, e17⟩ := tab_D hS hD hk (a := -9) ⟨by omega, by omega⟩ h5
    have z17 : ∀ j, j < 25 → D 17 k j = 0 := fun j hj => (hD.1 k (by omega)).2.2.2 (Or.inl h5) j hj
    have I0 : StI n S 0 (zeroA (bNote (up3 D 5 k 8 1) 0 k (-9) (-9) 0) 16 k 200) τ1 := ⟨q5, fun j hj z i hi => by
      rw [e5] at z
      rw [e17]
      by_cases q : j = k
      · subst q; rw [z17 i hi]; decide
      · rw [if_neg q] at z
        exact absurd z (hN j hj).1, SRl_G hst q1, d2, q4⟩
    have e68 : σ 68 0 k = τ1 68 0 k := (q1 _ _ _ (by omega)).symm
    rw [e68] at q3
    have g := (all_sim hS 11).2.2 0 k _ τ1 (by omega) I0 q3 hk hsz (by rw [e5, if_pos rfl]) (fun j hj => by rw [e17]; exact z17 j hj) (by omega)
    have er : (lvW S 12).1 D k (-9) = endE (bindE (fillF S (lvW S 11).1 (lvW S 11).2 (zeroA (bNote (up3 D 5 k 8 1) 0 k (-9) (-9) 0) 16 k 200) k) (fun _ D' => promF S D' k)) (fun x D' => up3 D' 5 k 8 x) := by
      show endE (bodyW S (lvW S 11).1 (lvW S 11).2 (bNote (up3 D 5 k 8 1) 0 k (-9) (-9) 0) k) (fun x D' => up3 D' 5 k 8 x) = _
      unfold bodyW
      rw [if_neg (by omega), if_neg (by omega)]
    rw [er] at hlv ⊢
    revert g hlv
    generalize bindE (fillF S (lvW S 11).1 (lvW S 11).2 (zeroA (bNote (up3 D 5 k 8 1) 0 k (-9) (-9) 0) 16 k 200) k) (fun _ D' => promF S D' k) = res
    intro hlv g
    cases res with
    | inl q =>
      obtain ⟨w, m, D2⟩ := q
      obtain ⟨⟨i1, i2, i3, i4, i5⟩, -⟩ := hlv
      exact TopX_pre (top_fail hn (Fls_tab (v := 0) g hk q3.1) i4 i5) (FrH_G q1) (q1 _ _ _ (by omega)) (fun C h hx => get_beg h h55 hq hx)
    | inr q =>
      obtain ⟨y, D2⟩ := q
      obtain ⟨σm, σ1, ⟨m, g1⟩, ⟨um, g2, g2b⟩, g3, g4, g5, g6, g7⟩ := g
      obtain ⟨⟨i1, i2, i3, i4⟩, i5⟩ := hlv
      have i5 := i5 0 (up3 D2 5 k 8 2) rfl
      have i1 : DW S (up3 D2 5 k 8 2) := i1
      have i2 : Psi (up3 D2 5 k 8 2) ≤ Psi D + 0 := i2
      have i3 : UP X0 D (up3 D2 5 k 8 2) := i3
      have fg2 := FrG_tr g4 q1
      show up3 D2 5 k 8 2 5 k 8 = 2 ∧ Psi (up3 D2 5 k 8 2) ≤ Psi D ∧ ∃ σ1, TpI n S (up3 D2 5 k 8 2) σ1 ∧ FrG σ1 σ ∧ ∀ C : Cx, Ok C RX10 cX10_get 6 5 → (∀ ls, lsub (gL k x o) ls → X C 1 54 ls [] NALL σ1 0 0) → ∀ ls, lsub (gL k x o) ls → X C 1 10 ls [] NALL σ 0 0
      exact ⟨i5, by omega, σ1, ⟨g7, SRl_G hst fg2, i1, NUn_UP hn hN i3, g6⟩, fg2, fun C h hx => get_beg h h55 hq (get_GL h m _ _ g1 (get_done h g2 g2b g3 hx))⟩
  · obtain ⟨τ1, q1, q2, q3, q4, q5, q6⟩ := m_beginB (d := 2) (a := -9) (u := 0) hS hst hk hH hD u0 (by omega) hsz l1
    have hq := m_askA (d := 2) (x := x) (o := o) (by omega) g71 q6
    have er : (lvW S 12).1 D k (-9) = .inl (if sSz S k < 0 then 3 else 4, 1, up3 (bNote (up3 D 5 k 8 1) 0 k (-9) (-9) 0) 5 k 8 3) := by
      show endE (bodyW S (lvW S 11).1 (lvW S 11).2 (bNote (up3 D 5 k 8 1) 0 k (-9) (-9) 0) k) (fun x D' => up3 D' 5 k 8 x) = _
      unfold bodyW
      by_cases hneg : sSz S k < 0
      · rw [if_pos hneg, if_pos hneg]; rfl
      · rw [if_neg hneg, if_neg hneg, if_pos (by omega)]; rfl
    rw [er]
    show TopX n S 10 k x o σ (.inl (if sSz S k < 0 then 3 else 4, 1, up3 (bNote (up3 D 5 k 8 1) 0 k (-9) (-9) 0) 5 k 8 3))
    obtain ⟨σ2, f1, f2, f3, f4, f5⟩ := m_failAll (d := 4) (w := if sSz S k < 0 then 3 else 4) (u := 1) hn q4 (by decide) q5 (fun i hi => by
      obtain rfl : i = 0 := by omega
      exact ⟨k, hk, q3.1, Or.inl q3.2⟩)
    exact ⟨σ2, 0, ⟨FrH_tr f1 (FrH_G q1), rfl, f2, f3, f4⟩, fun C h hr => get_askF h h55 (by split <;> omega) hq f5 hr⟩
/-- get of an ENTRY -/
theorem top_get (hS : SOk S n) {k : Nat} {x : Int} {D σ : Mm} (h : TpI n S D σ) (hk : k < n) (hx : i64 x) (hp : Psi D + 1 ≤ BD) : TopX n S 10 k x 0 σ (askE S 12 D k x (-9)) := by
  have hn := hS.1
  have h00 := h
  obtain ⟨hH, hst, hD, hN, h55⟩ := h
  have g71 := (hH.1 k hk).1
  have d5 := (hD.1 k (by omega)).1
  have n5 := (hN k hk).1
  show TopX n S 10 k x 0 σ (bindE (awkF (lvW S 12).1 D k (-9)) (fun _ D1 => if x < 0 ∨ entsZ (sSz S k) ≤ x then .inl (2, 0, D1) else gotF S (lvW S 12).2 D1 k x.toNat (-9)))
  unfold awkF
  by_cases h3 : D 5 k 8 = 3
  · rw [if_pos h3]
    exact top_askF hn h55 (m_ask6 (d := 2) (by omega) (by rw [g71]; exact h3)) (by omega) (FrG_refl σ) h55 hH
  rw [if_neg h3]
  by_cases hz : D 5 k 8 = 0
  · rw [if_pos hz]
    have g := top_wake hS h00 hk hz hp (x := x) (o := 0)
    revert g
    generalize (lvW S 12).1 D k (-9) = res
    intro g
    cases res with
    | inl q => exact g
    | inr q =>
      obtain ⟨y, D1⟩ := q
      obtain ⟨g1, g2, σ1, g3, g4, g5⟩ := g
      exact TopX_pre (top_chk hS g3 hk hx g1 (by omega)) (FrH_G g4) (g4 _ _ _ (by omega)) g5
  · rw [if_neg hz]
    exact top_got hS h00 hk hx (by omega) hp
/-- get of a TABLE alone -/
theorem top_getO (hS : SOk S n) {k : Nat} {x : Int} {D σ : Mm} (h : TpI n S D σ) (hk : k < n) (hp : Psi D + 1 ≤ BD) : TopX n S 10 k x 1 σ (awkF (lvW S 12).1 D k (-9)) := by
  have hn := hS.1
  have h00 := h
  obtain ⟨hH, hst, hD, hN, h55⟩ := h
  have g71 := (hH.1 k hk).1
  have d5 := (hD.1 k (by omega)).1
  have n5 := (hN k hk).1
  -- it stands
  have stands : ∀ (y : Int) (D1 σ1 : Mm), TpI n S D1 σ1 → D1 5 k 8 = 2 → TopX n S 54 k x 1 σ1 (.inr (y, D1)) := fun y D1 σ1 hI h5 => ⟨σ1, 1, ⟨FrH_refl σ1, rfl, hI.1, fun z => absurd z (by decide), rfl⟩, fun C h hr => get_ans h hI.2.2.2.2 (m_iaO (d := 3) (by omega) (by rw [(hI.1.1 k hk).1]; exact h5)) hr⟩
  unfold awkF
  by_cases h3 : D 5 k 8 = 3
  · rw [if_pos h3]
    exact top_askF hn h55 (m_ask6 (d := 2) (by omega) (by rw [g71]; exact h3)) (by omega) (FrG_refl σ) h55 hH
  rw [if_neg h3]
  by_cases hz : D 5 k 8 = 0
  · rw [if_pos hz]
    have g := top_wake hS h00 hk hz hp (x := x) (o := 1)
    revert g
    generalize (lvW S 12).1 D k (-9) = res
    intro g
    cases res with
    | inl q => exact g
    | inr q =>
      obtain ⟨y, D1⟩ := q
      obtain ⟨g1, g2, σ1, g3, g4, g5⟩ := g
      exact TopX_pre (stands y D1 σ1 g3 g1) (FrH_G g4) (g4 _ _ _ (by omega)) g5
  · rw [if_neg hz]
    have h2 : D 5 k 8 = 2 := by omega
    exact TopX_pre (stands 0 D σ h00 h2) (FrH_refl σ) rfl (fun C h hx => get_ask0 h h55 (m_askO (d := 2) (s := 2) (by omega) (Or.inr rfl) (by rw [g71]; exact h2)) hx)
/-- get -/
theorem m_get {k : Nat} {x o : Int} {res : ER} {σ : Mm} (ho : o = 0 ∨ o = 1) (h : TopX n S 10 k x o (up3 (up3 σ 10 0 55 0) 10 0 53 0) res) : ∃ σ' b, TopO n S o res (up3 (up3 σ 10 0 55 0) 10 0 53 0) σ' b ∧ Ct 5 mX10_get 1 [vR 10 0, vI k, vL x, vI o] NALL σ (some (vI b)) NALL σ' 0 0 := by
  obtain ⟨σ', b, h1, h2⟩ := h
  refine ⟨σ', b, h1, ?_⟩
  refine ct_of (by decide) (Nat.le_of_ble_eq_true rfl) (fun C h hr _ => ?_)
  have h : Ok C RX10 cX10_get 6 _ := h
  refine x_aload_n h dX10_get_0 rfl ?_
  refine x_iconst h dX10_get_1 ?_
  refine x_put h fl_10_315 lvz_10 dX10_get_2 rfl (fun z => absurd z (by decide)) ?_
  refine x_aload_n h dX10_get_5 rfl ?_
  refine x_iconst h dX10_get_6 ?_
  refine x_put h fl_10_302 lvz_10 dX10_get_7 rfl (fun z => absurd z (by decide)) ?_
  exact h2 C h hr _ ⟨rfl, rfl, rfl, rfl, trivial⟩
end TP
