/-! ENTRIES that are asked for; ROWS and TABLES that are built: the reference against E -/
section SM
variable {n : Nat} {S : Sd} {δ : Nat}
/-- a ROW under way -/
def RowSim (n : Nat) (S : Sd) (δ : Nat) : Prop := ∀ (u k r : Nat) (D σ : Mm), u + 1 + δ = 12 → StI n S u D σ → FrameAt σ u k r ((8 * r : Nat) : Int) (if ((8 * r + 8 : Nat) : Int) < sSz S k then ((8 * r + 8 : Nat) : Int) else sSz S k) (σ 68 0 k) [] → k < n → r < 25 → (D 5 k 8 = 1 ∨ D 5 k 8 = 2) → D 17 k r = 1 → Psi D + 480 ≤ BD → match mkF S (askE S δ) k (min (entsZ (sSz S k)) (8 * r + 8) - 8 * r).toNat (8 * r) D with
    | .inl (w, m, D') => Fls n S (u + 1) w m D' σ
    | .inr (_, D') => ∃ σm σ', GL σ σm ∧ (∃ q : Nat, σm 10 0 55 = ((q + 1 : Nat) : Int) ∧ q < 100) ∧ Ct 4 mX10_goOne 1 [vR 10 0] NALL σm (some (vI 0)) NALL σ' 0 0 ∧ FrG σ' σ ∧ LowR u σ' σ ∧ σ' 10 0 55 = (u : Int) ∧ HR n S (up3 D' 17 k r 2) σ'
/-- a TABLE under way -/
def TabSim (n : Nat) (S : Sd) (δ : Nat) : Prop := ∀ (u k : Nat) (D σ : Mm), u + 1 + δ = 12 → StI n S u D σ → FrameAt σ u k (-9) 0 (if sBy S k = 0 then sSz S k else 0) (σ 68 0 k) [] → k < n → (0 ≤ sSz S k ∧ sSz S k ≤ 200) → D 5 k 8 = 1 → (∀ j, j < 25 → D 17 k j = 0) → Psi D + 12000 ≤ BD → match bindE (fillF S (lvW S δ).1 (lvW S δ).2 D k) (fun _ D' => promF S D' k) with
    | .inl (w, m, D') => Fls n S (u + 1) w m D' σ
    | .inr (_, D') => ∃ σm σ', GL σ σm ∧ (∃ q : Nat, σm 10 0 55 = ((q + 1 : Nat) : Int) ∧ q < 100) ∧ Ct 4 mX10_goOne 1 [vR 10 0] NALL σm (some (vI 0)) NALL σ' 0 0 ∧ FrG σ' σ ∧ LowR u σ' σ ∧ σ' 10 0 55 = (u : Int) ∧ HR n S (up3 D' 5 k 8 2) σ'
theorem ents_in {z : Int} (h : 0 ≤ z ∧ z ≤ 200) : entsZ z = z := by unfold entsZ; omega
theorem HR_row {D σ : Mm} {k r : Nat} {x : Int} (h : HR n S D σ) (h17 : D 17 k r ≠ 3) (hr : r < 25) : HR n S (up3 D 17 k r 2) (up3 (up3 σ 72 0 (25 * k + r) 2) 10 0 55 x) := by
  have o : ∀ f j, f ≠ 72 → ¬ (f = 10 ∧ j = 55) → up3 (up3 σ 72 0 (25 * k + r) 2) 10 0 55 x f 0 j = σ f 0 j := fun f j q1 q2 => by rw [up3_n _ (by omega), up3_f _ _ q1]
  have e17 : ∀ j i, up3 D 17 k r 2 17 j i = if j = k ∧ i = r then 2 else D 17 j i := fun j i => by
    unfold up3
    by_cases q : j = k ∧ i = r
    · rw [if_pos ⟨rfl, q⟩, if_pos q]
    · rw [if_neg (fun z => q z.2), if_neg q]
  refine ⟨fun j hj => ⟨by rw [o _ _ (by omega) (by omega), up3_f _ _ (by decide)]; exact (h.1 j hj).1, fun z => ?_⟩, LgR_fr h.2 (fun f k' j q => up3_f _ _ (by omega)) (fun f j q => o _ _ (by omega) (by omega))⟩
  rw [up3_f _ _ (by decide)] at z
  obtain ⟨x1, x2, x3⟩ := (h.1 j hj).2 z
  refine ⟨x1, fun y i hi => ?_, fun p hp y => ?_⟩
  · rw [e17, up3_f _ _ (by decide)]
    by_cases q : j = k ∧ i = r
    · obtain ⟨rfl, rfl⟩ := q
      rw [if_pos ⟨rfl, rfl⟩, up3_s]
    · rw [if_neg q, up3_j _ _ (by omega)]
      exact x2 y i hi
  · rw [e17] at y
    rw [o _ _ (by omega) (by omega), up3_f _ _ (by decide)]
    refine x3 p hp (fun w => ?_)
    by_cases q : j = k ∧ p / 8 = r
    · rw [q.1, q.2] at w; exact h17 w
    · rw [if_neg q] at y; exact y w
theorem HR_tab {D σ τ : Mm} {k : Nat} {x : Int} (h : HR n S D σ) (h5 : D 5 k 8 = 1) (hτ : ∀ f j, f ≠ 10 → τ f 0 j = σ f 0 j) (hτ2 : τ 10 0 44 = σ 10 0 44 ∧ τ 10 0 48 = σ 10 0 48) : HR n S (up3 D 5 k 8 2) (up3 (up3 τ 71 0 k 2) 10 0 55 x) := by
  have o : ∀ f j, f ≠ 71 → f ≠ 10 → up3 (up3 τ 71 0 k 2) 10 0 55 x f 0 j = σ f 0 j := fun f j q1 q2 => by rw [up3_f _ _ q2, up3_f _ _ q1, hτ _ _ q2]
  refine ⟨fun j hj => ⟨?_, fun z => ?_⟩, LgR_fr h.2 (fun f k' j q => up3_f _ _ (by omega)) (fun f j q => ?_)⟩
  · rw [up3_f _ _ (by decide)]
    by_cases q : j = k
    · subst q; rw [up3_s, up3_s]
    · rw [up3_j _ _ q, up3_k _ _ q, hτ _ _ (by decide)]
      exact (h.1 j hj).1
  · have z' : D 5 j 8 = 1 ∨ D 5 j 8 = 2 := by
      by_cases q : j = k
      · subst q; exact Or.inl h5
      · rw [up3_k _ _ q] at z; exact z
    obtain ⟨x1, x2, x3⟩ := (h.1 j hj).2 z'
    refine ⟨x1, fun y i hi => ?_, fun p hp y => ?_⟩
    · rw [o _ _ (by omega) (by omega), up3_f _ _ (by decide)]
      exact x2 y i hi
    · rw [up3_f _ _ (by decide)] at y
      rw [o _ _ (by omega) (by omega), up3_f _ _ (by decide)]
      exact x3 p hp y
  · by_cases q2 : f = 10
    · subst q2
      have q3 : j = 44 ∨ j = 48 := by omega
      rcases q3 with rfl | rfl
      · rw [up3_n _ (by omega), up3_n _ (by omega)]; exact hτ2.1
      · rw [up3_n _ (by omega), up3_n _ (by omega)]; exact hτ2.2
    · exact o _ _ (by omega) q2
theorem row_sim (hS : SOk S n) (hask : AskSim n S δ) : RowSim n S δ := by
  intro u k r D σ hu hI hF hk hr h5 h17 hp
  have hn := hS.1
  obtain ⟨hsz1, hsz2⟩ := ((hI.1.1 k hk).2 h5).1
  obtain ⟨-, C1, c1, c2, c3, c4⟩ := hI.2.2.1.2 k hk
  obtain ⟨z, hz⟩ : ∃ z : Nat, sSz S k = z := ⟨(sSz S k).toNat, by omega⟩
  rw [ents_in ⟨hsz1, hsz2⟩]
  rw [c1] at hF
  -- the end of the ROW
  obtain ⟨e, he⟩ : ∃ e : Nat, (if ((8 * r + 8 : Nat) : Int) < sSz S k then ((8 * r + 8 : Nat) : Int) else sSz S k) = e := ⟨(if ((8 * r + 8 : Nat) : Int) < sSz S k then ((8 * r + 8 : Nat) : Int) else sSz S k).toNat, by split <;> omega⟩
  rw [he] at hF
  have e200 : e ≤ 200 := by split at he <;> omega
  have pop : ∀ (e2 : Nat) (D' σ1 : Mm), e ≤ e2 → e2 ≤ 1000 → FrameAt σ1 u k r (e2 : Int) (e : Int) (C1 : Int) [] → StI n S u D' σ1 → D' 17 k r ≠ 3 → FrG σ1 σ → LowR u σ1 σ → GL σ σ1 → ∃ σm σ', GL σ σm ∧ (∃ q : Nat, σm 10 0 55 = ((q + 1 : Nat) : Int) ∧ q < 100) ∧ Ct 4 mX10_goOne 1 [vR 10 0] NALL σm (some (vI 0)) NALL σ' 0 0 ∧ FrG σ' σ ∧ LowR u σ' σ ∧ σ' 10 0 55 = (u : Int) ∧ HR n S (up3 D' 17 k r 2) σ' := fun e2 D' σ1 he2 he3 hF1 hI1 h173 hg hl hgl => by
    have hgo := g_rowpop (d := 2) hF1 hI1.2.2.2.2 (by omega) (by omega) hr ⟨by omega, by omega, by omega⟩
    refine ⟨σ1, _, hgl, ⟨u, hI1.2.2.2.2, by omega⟩, hgo, FrG_tr (fun f k' j q => ?_) hg, LowR_tr ⟨fun i f q1 q2 q3 => ?_, fun j hj => ?_⟩ hl, up3_s _ _ _ _ _, HR_row hI1.1 h173 hr⟩
    · rw [up3_n _ (by omega), up3_f _ _ (by omega)]
    · rw [up3_f _ _ (by omega), up3_f _ _ (by omega)]
    · rw [up3_f _ _ (by omega), up3_f _ _ (by omega)]
  by_cases hlt : 8 * r ≤ e
  · obtain ⟨c, hc⟩ : ∃ c : Nat, 8 * r + c = e := ⟨e - 8 * r, by omega⟩
    have ec : (min (sSz S k) (8 * r + 8) - 8 * r).toNat = c := by split at he <;> omega
    rw [ec]
    have c8 : c ≤ 8 := by split at he <;> omega
    have g := mk_sim hS hask (row := r) (C0 := C1) hu hk c (8 * r) e D σ hI hF c1 hc e200 (by omega)
    have ei := mk_i (k := k) hS hk (ask_i hS.1 (lv_i hS δ).1 (lv_i hS δ).2) c (8 * r) D hI.2.2.2.1 (by omega)
    have ei : EI S X0 δ (60 * c) D (mkF S (askE S δ) k c (8 * r) D) := ei
    revert g ei
    generalize mkF S (askE S δ) k c (8 * r) D = res
    intro g ei
    cases res with
    | inl q => exact g
    | inr q =>
      obtain ⟨x, D'⟩ := q
      obtain ⟨σ1, g1, g2, g3, g4, g5⟩ := g
      obtain ⟨i1, i2, i3, i4⟩ := ei
      have h17' : D' 17 k r = 1 := by rw [((i3 k (by omega)).2.2 r hr).1 (by omega)]; exact h17
      exact pop e D' σ1 (Nat.le_refl _) (by omega) g4 g5 (by omega) g2 g3 g1
  · have ec : (min (sSz S k) (8 * r + 8) - 8 * r).toNat = 0 := by split at he <;> omega
    rw [ec]
    show ∃ σm σ', GL σ σm ∧ (∃ q : Nat, σm 10 0 55 = ((q + 1 : Nat) : Int) ∧ q < 100) ∧ Ct 4 mX10_goOne 1 [vR 10 0] NALL σm (some (vI 0)) NALL σ' 0 0 ∧ FrG σ' σ ∧ LowR u σ' σ ∧ σ' 10 0 55 = (u : Int) ∧ HR n S (up3 D 17 k r 2) σ'
    exact pop (8 * r) D σ (by omega) (by omega) hF hI (by omega) (FrG_refl σ) (LowR_refl u σ) (GL_refl σ)
/-- the picture of a ROW that begins -/
theorem row_D (hS : SOk S n) {D : Mm} {k r : Nat} {a : Int} (h : DW S D) (hk : k < n) (hr25 : r < 25) (ha : -9 ≤ a ∧ a ≤ 1000) (h0 : D 17 k r = 0) (h5 : D 5 k 8 ≠ 0) (hb : sBy S k ≠ 0) : DW S (bNote (up3 D 17 k r 1) 0 k r a 0) ∧ Psi (bNote (up3 D 17 k r 1) 0 k r a 0) ≤ Psi D - 499 ∧ (∀ j, bNote (up3 D 17 k r 1) 0 k r a 0 5 j 8 = D 5 j 8) ∧ ∀ j i, bNote (up3 D 17 k r 1) 0 k r a 0 17 j i = if j = k ∧ i = r then 1 else D 17 j i := by
  have hn := hS.1
  have hk' : k < 12 := by omega
  have d1 : DW S (up3 D 17 k r 1) := DW_17 h hk' (by omega) h5 hb
  refine ⟨DW_note d1 (by decide) ⟨by omega, by omega, ha⟩ i64z (fun _ => rfl), ?_, fun j => ?_, fun j i => ?_⟩
  · have := Psi_row hk' hr25 h0 h5
    rw [Psi_note d1 (by decide)]
    omega
  · rw [show bNote (up3 D 17 k r 1) 0 k r a 0 5 j 8 = up3 D 17 k r 1 5 j 8 from noteS_f _ _ _ _ _ _ _ ⟨by decide, by decide⟩ _ _, up3_f _ _ (by decide)]
  · rw [show bNote (up3 D 17 k r 1) 0 k r a 0 17 j i = up3 D 17 k r 1 17 j i from noteS_f _ _ _ _ _ _ _ ⟨by decide, by decide⟩ _ _]
    unfold up3
    by_cases q : j = k ∧ i = r
    · rw [if_pos ⟨rfl, q⟩, if_pos q]
    · rw [if_neg (fun z => q z.2), if_neg q]
/-- ROWS of a promise, one behind another -/
theorem rows_sim (hS : SOk S n) (hrow : ∀ δ', δ = δ' + 1 → RowSim n S δ') {u k : Nat} (hu : u + 1 + δ = 12) (hk : k < n) (hby : sBy S k ≠ 0) (hip : sIp S k = 1) (hsz : 0 ≤ sSz S k ∧ sSz S k ≤ 200) : ∀ (c r : Nat) (D σ : Mm), StI n S u D σ → FrameAt σ u k (-9) 0 0 (σ 68 0 k) [] → ((r + c : Nat) : Int) = (sSz S k + 7) / 8 → D 5 k 8 = 1 → (∀ j, j < r → D 17 k j = 2) → (∀ j, r ≤ j → j < 25 → D 17 k j = 0) → Psi D ≤ BD → match rowsF (lvW S δ).2 k c r D with
    | .inl (w, m, D') => Fls n S (u + 1) w m D' σ
    | .inr (_, D') => ∃ σ', GL σ σ' ∧ FrG σ' σ ∧ LowR u σ' σ ∧ FrameAt σ' u k (-9) 0 0 (σ 68 0 k) [] ∧ StI n S u D' σ' ∧ D' 5 k 8 = 1 ∧ (∀ j : Nat, (j : Int) < (sSz S k + 7) / 8 → D' 17 k j = 2) := by
  have hn := hS.1
  intro c
  induction c with
  | zero =>
    intro r D σ hI hF hrc h5 h2 h0 hp
    exact ⟨σ, GL_refl σ, FrG_refl σ, LowR_refl u σ, hF, hI, h5, fun j hj => h2 j (by omega)⟩
  | succ c ih =>
    intro r D σ hI hF hrc h5 h2 h0 hp
    have hr25 : r < 25 := by omega
    obtain ⟨⟨s1, s2, s3, s4, s5⟩, -⟩ := hI.2.2.1.2 k hk
    obtain ⟨-, x2, -⟩ := (hI.1.1 k hk).2 (Or.inl h5)
    have hby1 : sBy S k = 1 := by
      have := (hS.2 k hk).2.1
      omega
    have hb64 : σ 64 0 k = 0 := by rw [s2, hby1]; rfl
    have hpsi : D 8 0 1 < 2147483600 := by
      have := tbW_r D 12
      have := hI.2.2.2.1.2.1.2
      unfold Psi at hp
      have hp : D 8 0 1 + D 8 1 1 + tbW D 12 ≤ 2147483500 := hp
      omega
    have nz : ∀ j, j < r → ∃ q : Nat, q ≤ 3 ∧ q ≠ 0 ∧ σ 72 0 (25 * k + j) = q := fun j hj => ⟨2, by omega, by omega, by rw [x2 hby j (by omega), h2 j hj]; rfl⟩
    have z72 : σ 72 0 (25 * k + r) = 0 := by rw [x2 hby r hr25]; exact h0 r (Nat.le_refl _) hr25
    show match bindE ((lvW S δ).2 D k r (-9)) (fun _ D' => rowsF (lvW S δ).2 k c (r + 1) D') with | .inl (w, m, D') => Fls n S (u + 1) w m D' σ | .inr (_, D') => _
    have hlv := (lv_i hS δ).2 D k r (-9) hI.2.2.2.1 hk hr25 ⟨by omega, by omega⟩ (h0 r (Nat.le_refl _) hr25) (by omega) hby
    cases δ with
    | zero =>
      have hbg := m_begin12 (d := 2) (k := k) (r := (r : Int)) (a := -9) (σ := σ) (by rw [hI.2.2.2.2]; omega)
      have hgo := g_rowbeg (d := 2) (m := r) hF hI.2.2.2.2 (by omega) (by omega) ⟨by omega, by omega, by omega⟩ (by rw [s3]; exact hip) s5 hsz hb64 (by omega) nz z72 hbg
      exact Fls_now hI.2.2.2.2 hgo (FrG_refl σ) (fun i hi => ⟨rfl, rfl⟩) rfl hI.1
    | succ δ' =>
      obtain ⟨σ0, q1, q2, q3, q4, q5, q6⟩ := m_beginR (d := 2) (a := -9) (u := u + 1) hS hI.2.2.1 hk hr25 hI.1 hI.2.2.2.1 (Or.inl h5) (h0 r (Nat.le_refl _) hr25) hby hI.2.2.2.2 (by omega) hpsi
      have hgo := g_rowbeg (d := 2) (m := r) hF hI.2.2.2.2 (by omega) (by omega) ⟨by omega, by omega, by omega⟩ (by rw [s3]; exact hip) s5 hsz hb64 (by omega) nz z72 q6
      obtain ⟨d2, p2, e5, e17⟩ := row_D hS hI.2.2.2.1 hk hr25 (a := -9) ⟨by omega, by omega⟩ (h0 r (Nat.le_refl _) hr25) (by omega) hby
      have I0 : StI n S (u + 1) (bNote (up3 D 17 k r 1) 0 k r (-9) 0) σ0 := ⟨q5, fun j hj z i hi => by
        rw [e5] at z
        rw [e17]
        split
        · omega
        · exact hI.2.1 j hj z i hi, SRl_G hI.2.2.1 q1, d2, q4⟩
      rw [← q1 68 0 k (by omega)] at q3
      have g := hrow δ' rfl (u + 1) k r _ σ0 (by omega) I0 q3 hk hr25 (Or.inl (by rw [e5]; exact h5)) (by rw [e17, if_pos ⟨rfl, rfl⟩]) (by omega)
      have gl0 : GL σ σ0 := GL_one (u := u) (u' := u + 1) (Or.inr rfl) hI.2.2.2.2 q4 hgo
      have er : (lvW S (δ' + 1)).2 D k r (-9) = endE (mkF S (askE S δ') k (min (entsZ (sSz S k)) (8 * r + 8) - 8 * r).toNat (8 * r) (bNote (up3 D 17 k r 1) 0 k r (-9) 0)) (fun x D' => up3 D' 17 k r x) := rfl
      rw [er] at hlv ⊢
      revert g hlv
      generalize mkF S (askE S δ') k (min (entsZ (sSz S k)) (8 * r + 8) - 8 * r).toNat (8 * r) (bNote (up3 D 17 k r 1) 0 k r (-9) 0) = res
      intro hlv g
      cases res with
      | inl q =>
        obtain ⟨w, m, D2⟩ := q
        exact Fls_pre (Fls_row (v := u + 1) g hk hr25 hby q3.1) gl0 q1 (fun i hi => ⟨q2.1 _ _ hi (by omega) (by omega), q2.1 _ _ hi (by omega) (by omega)⟩)
      | inr q =>
        obtain ⟨y, D2⟩ := q
        obtain ⟨σm, σ1, g1, ⟨um, g2, g2b⟩, g3, g4, g5, g6, g7⟩ := g
        obtain ⟨⟨i1, i2, i3, i4⟩, i5⟩ := hlv
        have i5 := i5 0 (up3 D2 17 k r 2) rfl
        have i1 : DW S (up3 D2 17 k r 2) := i1
        have i2 : Psi (up3 D2 17 k r 2) ≤ Psi D + 0 := i2
        have i3 : UP (Xr k r) D (up3 D2 17 k r 2) := i3
        have gl1 : GL σ σ1 := GL_tr gl0 (GL_tr g1 (GL_one (u := um) (u' := u) (Or.inl rfl) g2 g6 g3))
        have fg1 := FrG_tr g4 q1
        have fl1 : LowR (u + 1) σ1 σ := LowR_tr g5 q2
        have F1 := FrameAt_Low hF fl1 (by omega) (by decide)
        have u5 : up3 D2 17 k r 2 5 k 8 = 1 := by rw [(i3 k (by omega)).1 (by omega)]; exact h5
        have same : ∀ j, j < 25 → j ≠ r → up3 D2 17 k r 2 17 k j = D 17 k j := fun j hj hjr => ((i3 k (by omega)).2.2 j hj).2.2 (fun z => hjr z.2) h5
        have I1 : StI n S u (up3 D2 17 k r 2) σ1 := ⟨g7, fun j hj z i hi => by
          have z' := (i3 j (by omega)).2.1 z
          by_cases c : j = k ∧ i = r
          · obtain ⟨rfl, rfl⟩ := c
            rw [i5]; decide
          · rw [((i3 j (by omega)).2.2 i hi).2.2 (fun y => c ⟨y.1, y.2⟩) z']
            exact hI.2.1 j hj z' i hi, SRl_G hI.2.2.1 fg1, i1, g6⟩
        have e68 : σ1 68 0 k = σ 68 0 k := fg1 _ _ _ (by omega)
        have g := ih (r + 1) (up3 D2 17 k r 2) σ1 I1 (by rw [e68]; exact F1) (by rw [← hrc]; omega) u5 (fun j hj => by
          by_cases c : j = r
          · subst c; exact i5
          · rw [same j (by omega) c]; exact h2 j (by omega)) (fun j hj hj2 => by rw [same j hj2 (by omega)]; exact h0 j (by omega) hj2) (by omega)
        rw [e68] at g
        show match rowsF (lvW S (δ' + 1)).2 k c (r + 1) (up3 D2 17 k r 2) with | .inl (w, m, D') => Fls n S (u + 1) w m D' σ | .inr (_, D') => _
        revert g
        generalize rowsF (lvW S (δ' + 1)).2 k c (r + 1) (up3 D2 17 k r 2) = res2
        intro g
        cases res2 with
        | inl q =>
          obtain ⟨w, m, D3⟩ := q
          exact Fls_pre g gl1 fg1 (fun i hi => ⟨fl1.1 _ _ hi (by omega) (by omega), fl1.1 _ _ hi (by omega) (by omega)⟩)
        | inr q =>
          obtain ⟨y2, D3⟩ := q
          obtain ⟨σ', z1, z2, z3, z4, z5, z6, z7⟩ := g
          exact ⟨σ', GL_tr gl1 z1, FrG_tr z2 fg1, LowR_tr z3 (LowR_le fl1 (by omega)), z4, z5, z6, z7⟩
theorem sumM_E {D σ : Mm} {k : Nat} (h : ∀ p, p < 200 → σ 73 0 (200 * k + p) = D 16 k p) : ∀ m : Nat, m ≤ 200 → sumM σ k m = sumE D k m := by
  intro m
  induction m with
  | zero => intro _; rfl
  | succ m ih =>
    intro hm
    show sumM σ k m + σ 73 0 (200 * k + m) = sumE D k m + D 16 k m
    rw [ih (by omega), h m (by omega)]
theorem HR_ad {D σ : Mm} {T : Int} (h : HR n S D σ) : HR n S D (adS σ T) := HR_fr h (fun f j q => adS_o (by omega))
/-- the promise, and the end of a TABLE -/
theorem prom_sim (hS : SOk S n) {u k : Nat} {pl e : Int} {D σ : Mm} (hu : u < 12) (hk : k < n) (hI : StI n S u D σ) (hF : FrameAt σ u k (-9) pl e (σ 68 0 k) []) (hpe : e ≤ pl ∧ 0 ≤ e ∧ pl ≤ 1000) (h5 : D 5 k 8 = 1) (hrows : sIp S k ≠ 0 → sBy S k ≠ 0 → ∀ j : Nat, (j : Int) < (sSz S k + 7) / 8 → D 17 k j = 2) : match promF S D k with
    | .inl (w, m, D') => Fls n S (u + 1) w m D' σ
    | .inr (_, D') => ∃ σm σ', GL σ σm ∧ (∃ q : Nat, σm 10 0 55 = ((q + 1 : Nat) : Int) ∧ q < 100) ∧ Ct 4 mX10_goOne 1 [vR 10 0] NALL σm (some (vI 0)) NALL σ' 0 0 ∧ FrG σ' σ ∧ LowR u σ' σ ∧ σ' 10 0 55 = (u : Int) ∧ HR n S (up3 D' 5 k 8 2) σ' := by
  have hn := hS.1
  obtain ⟨⟨s1, s2, s3, s4, s5⟩, -⟩ := hI.2.2.1.2 k hk
  obtain ⟨⟨z1, z2⟩, x2, x3⟩ := (hI.1.1 k hk).2 (Or.inl h5)
  obtain ⟨-, hby, hip, hpr, -⟩ := hS.2 k hk
  have n3 : ∀ r, r < 25 → D 17 k r ≠ 3 := fun r hr => hI.2.1 k hk h5 r hr
  have fin : ∀ T : Int, FrG (up3 (up3 (adS σ T) 71 0 k 2) 10 0 55 (u : Int)) σ ∧ LowR u (up3 (up3 (adS σ T) 71 0 k 2) 10 0 55 (u : Int)) σ := fun T => ⟨fun f k' j q => by rw [up3_n _ (by omega), up3_f _ _ (by omega), adS_o (by omega)], ⟨fun i f q1 q2 q3 => by rw [up3_f _ _ (by omega), up3_f _ _ (by omega), adS_o (by omega)], fun j hj => by rw [up3_f _ _ (by omega), up3_f _ _ (by omega), adS_o (by omega)]⟩⟩
  unfold promF
  by_cases hip0 : sIp S k = 0
  · rw [if_pos hip0]
    have hgo := g_tabpop (d := 2) hF hI.2.2.2.2 hu (by omega) hpe (by rw [s3]; exact hip0)
    exact ⟨σ, _, GL_refl σ, ⟨u, hI.2.2.2.2, by omega⟩, hgo, fun f k' j q => by rw [up3_n _ (by omega), up3_f _ _ (by omega)], ⟨fun i f q1 q2 q3 => by rw [up3_f _ _ (by omega), up3_f _ _ (by omega)], fun j hj => by rw [up3_f _ _ (by omega), up3_f _ _ (by omega)]⟩, up3_s _ _ _ _ _, HR_tab hI.1 h5 (fun _ _ _ => rfl) ⟨rfl, rfl⟩⟩
  · rw [if_neg hip0]
    obtain ⟨z, hz⟩ : ∃ z : Nat, sSz S k = z := ⟨(sSz S k).toNat, by omega⟩
    have ez : (entsZ (sSz S k)).toNat = z := by rw [ents_in ⟨z1, z2⟩]; omega
    rw [ez]
    have e73 : ∀ p, p < 200 → σ 73 0 (200 * k + p) = D 16 k p := fun p hp => x3 p hp (n3 _ (by omega))
    have hsum := sumM_E e73 z (by omega)
    obtain ⟨g1, g2⟩ := g_sum (d := 2) (pr := sPr S k) (b := 1 - sBy S k) (z := z) hF hI.2.2.2.2 hu (by omega) hpe (by rw [s3]; omega) (by rw [s5]; exact hz) (by omega) s2 (by
      rcases hby with q | q
      · exact Or.inl (by rw [q]; rfl)
      · refine Or.inr ⟨by rw [q]; rfl, fun j hj => ⟨2, by omega, by omega, ?_⟩⟩
        rw [x2 (by omega) j (by omega), hrows hip0 (by omega) j (by rw [hz]; exact hj)]
        rfl) (fun p hp => by rw [e73 p hp]; exact (hI.2.2.2.1.1 k (by omega)).2.2.1 p hp) s4 hpr
    rw [hsum] at g1 g2
    by_cases hs : sumE D k z = sPr S k
    · rw [if_pos hs]
      exact ⟨σ, _, GL_refl σ, ⟨u, hI.2.2.2.2, by omega⟩, g1 hs, (fin _).1, (fin _).2, up3_s _ _ _ _ _, HR_tab hI.1 h5 (fun f j q => adS_o (by omega)) ⟨adS_o (by omega), adS_o (by omega)⟩⟩
    · rw [if_neg hs]
      exact Fls_now hI.2.2.2.2 (g2 hs) (fun f k' j q => adS_o (by omega)) (fun i hi => ⟨adS_o (by omega), adS_o (by omega)⟩) (adS_o (by omega)) (HR_ad hI.1)
theorem tab_sim (hS : SOk S n) (hask : AskSim n S δ) (hrow : ∀ δ', δ = δ' + 1 → RowSim n S δ') : TabSim n S δ := by
  intro u k D σ hu hI hF hk hsz h5 h0 hp
  have hn := hS.1
  obtain ⟨-, hby, hip, hpr, -⟩ := hS.2 k hk
  obtain ⟨-, C1, c1, -⟩ := hI.2.2.1.2 k hk
  have efi := fill_i hS hk (lv_i hS δ).1 (lv_i hS δ).2 hI.2.2.2.1 h5 h0
  -- what is behind the filling
  have fin : ∀ (D' σ1 : Mm) (pl e : Int), GL σ σ1 → FrG σ1 σ → LowR u σ1 σ → FrameAt σ1 u k (-9) pl e (σ 68 0 k) [] → (e ≤ pl ∧ 0 ≤ e ∧ pl ≤ 1000) → StI n S u D' σ1 → D' 5 k 8 = 1 → (sIp S k ≠ 0 → sBy S k ≠ 0 → ∀ j : Nat, (j : Int) < (sSz S k + 7) / 8 → D' 17 k j = 2) → match promF S D' k with
      | .inl (w, m, D') => Fls n S (u + 1) w m D' σ
      | .inr (_, D') => ∃ σm σ', GL σ σm ∧ (∃ q : Nat, σm 10 0 55 = ((q + 1 : Nat) : Int) ∧ q < 100) ∧ Ct 4 mX10_goOne 1 [vR 10 0] NALL σm (some (vI 0)) NALL σ' 0 0 ∧ FrG σ' σ ∧ LowR u σ' σ ∧ σ' 10 0 55 = (u : Int) ∧ HR n S (up3 D' 5 k 8 2) σ' := fun D' σ1 pl e hgl hg hl hF1 hpe hI1 h51 hrows => by
    have e68 : σ1 68 0 k = σ 68 0 k := hg _ _ _ (by omega)
    have g := prom_sim hS (by omega) hk hI1 (by rw [e68]; exact hF1) hpe h51 hrows
    revert g
    generalize promF S D' k = res
    intro g
    cases res with
    | inl q =>
      obtain ⟨w, m, D2⟩ := q
      exact Fls_pre g hgl hg (frs_eq (t' := k) (row' := -9) hF hF1 hl)
    | inr q =>
      obtain ⟨y, D2⟩ := q
      obtain ⟨σm, σ', g1, g2, g3, g4, g5, g6, g7⟩ := g
      exact ⟨σm, σ', GL_tr hgl g1, g2, g3, FrG_tr g4 hg, LowR_tr g5 hl, g6, g7⟩
  unfold fillF at efi ⊢
  rw [ents_in hsz] at efi ⊢
  by_cases hb0 : sBy S k = 0
  · rw [if_pos hb0] at efi hF ⊢
    obtain ⟨z, hz⟩ : ∃ z : Nat, sSz S k = z := ⟨(sSz S k).toNat, by omega⟩
    have ez : (sSz S k).toNat = z := by omega
    rw [ez] at efi ⊢
    rw [hz, c1] at hF
    have g := mk_sim hS hask (row := -9) (C0 := C1) hu hk z 0 z D σ hI hF c1 (by omega) (by omega) (by omega)
    have efi : EI S (Xt k) δ 12000 D (mkF S (askE S δ) k z 0 D) := efi
    show match bindE (mkF S (askE S δ) k z 0 D) (fun _ D' => promF S D' k) with | .inl (w, m, D') => Fls n S (u + 1) w m D' σ | .inr (_, D') => _
    revert g efi
    generalize mkF S (askE S δ) k z 0 D = res
    intro g efi
    cases res with
    | inl q => exact g
    | inr q =>
      obtain ⟨y, D'⟩ := q
      obtain ⟨σ1, g1, g2, g3, g4, g5⟩ := g
      obtain ⟨i1, i2, i3, i4⟩ := efi
      exact fin D' σ1 z z g1 g2 g3 (by rw [c1]; exact g4) ⟨by omega, by omega, by omega⟩ g5 (by rw [(i3 k (by omega)).1 (by omega)]; exact h5) (fun _ q => absurd hb0 q)
  · rw [if_neg hb0] at efi hF ⊢
    by_cases hip0 : sIp S k = 0
    · rw [if_pos hip0]
      exact fin D σ 0 0 (GL_refl σ) (FrG_refl σ) (LowR_refl u σ) hF ⟨by omega, by omega, by omega⟩ hI h5 (fun q => absurd hip0 q)
    · rw [if_neg hip0] at efi ⊢
      obtain ⟨m, hm⟩ : ∃ m : Nat, (sSz S k + 7) / 8 = (m : Int) := ⟨((sSz S k + 7) / 8).toNat, by omega⟩
      have em : ((sSz S k + 7) / 8).toNat = m := by omega
      rw [em] at efi ⊢
      have g := rows_sim hS hrow hu hk hb0 (by omega) hsz m 0 D σ hI hF (by omega) h5 (fun j hj => absurd hj (Nat.not_lt_zero _)) (fun j _ hj => h0 j hj) (by omega)
      revert g
      generalize rowsF (lvW S δ).2 k m 0 D = res
      intro g
      cases res with
      | inl q => exact g
      | inr q =>
        obtain ⟨y, D'⟩ := q
        obtain ⟨σ1, g1, g2, g3, g4, g5, g6, g7⟩ := g
        exact fin D' σ1 0 0 g1 g2 g3 g4 ⟨by omega, by omega, by omega⟩ g5 g6 (fun _ _ => g7)
end SM
