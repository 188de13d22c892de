/-! the reference's machine against E -/
def GLn : Nat → Mm → Mm → Prop
  | 0, σ, σ' => σ' = σ
  | k + 1, σ, σ' => ∃ σ1 is, (is = 0 ∨ is = -1) ∧ (∃ u : Nat, σ 10 0 55 = ((u + 1 : Nat) : Int) ∧ u < 100) ∧ (∃ u : Nat, σ1 10 0 55 = ((u + 1 : Nat) : Int) ∧ u < 100) ∧ Ct 4 mX10_goOne 1 [vR 10 0] NALL σ (some (vI is)) NALL σ1 0 0 ∧ GLn k σ1 σ'
def GL (σ σ' : Mm) : Prop := ∃ k, GLn k σ σ'
theorem GL_refl (σ : Mm) : GL σ σ := ⟨0, rfl⟩
theorem GLn_tr : ∀ (k l : Nat) (a b c : Mm), GLn k a b → GLn l b c → GLn (k + l) a c := by
  intro k
  induction k with
  | zero => intro l a b c h h'; rw [Nat.zero_add, ← (show b = a from h)]; exact h'
  | succ k ih =>
    intro l a b c h h'
    obtain ⟨σ1, is, h1, h2, h3, h4, h5⟩ := h
    rw [show k + 1 + l = k + l + 1 by omega]
    exact ⟨σ1, is, h1, h2, h3, h4, ih l _ _ _ h5 h'⟩
theorem GL_tr {a b c : Mm} (h : GL a b) (h' : GL b c) : GL a c := by
  obtain ⟨k, hk⟩ := h
  obtain ⟨l, hl⟩ := h'
  exact ⟨k + l, GLn_tr k l _ _ _ hk hl⟩
theorem GL_one {σ σ1 : Mm} {is : Int} {u u' : Nat} (h1 : is = 0 ∨ is = -1) (h2 : σ 10 0 55 = ((u + 1 : Nat) : Int)) (h3 : σ1 10 0 55 = ((u' + 1 : Nat) : Int)) (h4 : Ct 4 mX10_goOne 1 [vR 10 0] NALL σ (some (vI is)) NALL σ1 0 0) (hu : u < 100 := by omega) (hu' : u' < 100 := by omega) : GL σ σ1 := ⟨1, σ1, is, h1, ⟨u, h2, hu⟩, ⟨u', h3, hu'⟩, h4, rfl⟩
/-- no ROW of a TABLE under way has failed -/
def NF (n : Nat) (D : Mm) : Prop := ∀ k, k < n → D 5 k 8 = 1 → ∀ r, r < 25 → D 17 k r ≠ 3
def StI (n : Nat) (S : Sd) (v : Nat) (D σ : Mm) : Prop := HR n S D σ ∧ NF n D ∧ SRl S n σ ∧ DW S D ∧ σ 10 0 55 = ((v + 1 : Nat) : Int)
def FrW1 (n : Nat) (S : Sd) (σ : Mm) (i : Nat) : Prop := ∃ k : Nat, k < n ∧ σ 86 0 i = (k : Int) ∧ (σ 87 0 i = -9 ∨ ∃ r : Nat, r < 25 ∧ sBy S k ≠ 0 ∧ σ 87 0 i = (r : Int))
def FlR (n : Nat) (S : Sd) (lo m : Nat) (D' σ σ' : Mm) : Prop := FrG σ' σ ∧ (∀ i, i < lo → σ' 86 0 i = σ 86 0 i ∧ σ' 87 0 i = σ 87 0 i) ∧ σ' 10 0 55 = ((lo + m : Nat) : Int) ∧ HM n S lo (lo + m) D' σ' ∧ ∀ i, lo ≤ i → i < lo + m → FrW1 n S σ' i
def Fls (n : Nat) (S : Sd) (lo : Nat) (w : Int) (m : Nat) (D' σ : Mm) : Prop := ∃ σm σ', GL σ σm ∧ (∃ u : Nat, σm 10 0 55 = ((u + 1 : Nat) : Int) ∧ u < 100) ∧ Ct 4 mX10_goOne 1 [vR 10 0] NALL σm (some (vI w)) NALL σ' 0 0 ∧ FlR n S lo m D' σ σ'
abbrev BD : Int := 2147483500
theorem Fls_pre {n : Nat} {S : Sd} {lo m : Nat} {w : Int} {D' σ σ1 : Mm} (h : Fls n S lo w m D' σ1) (hg : GL σ σ1) (hf : FrG σ1 σ) (hl : ∀ i, i < lo → σ1 86 0 i = σ 86 0 i ∧ σ1 87 0 i = σ 87 0 i) : Fls n S lo w m D' σ := by
  obtain ⟨σm, σ', h1, h2, h3, h4, h5, h6, h7, h8⟩ := h
  exact ⟨σm, σ', GL_tr hg h1, h2, h3, FrG_tr h4 hf, fun i hi => ⟨(h5 i hi).1.trans (hl i hi).1, (h5 i hi).2.trans (hl i hi).2⟩, h6, h7, h8⟩
/-- it fails at once -/
theorem Fls_now {n : Nat} {S : Sd} {v : Nat} {w : Int} {D σ σ' : Mm} (hu : σ 10 0 55 = ((v + 1 : Nat) : Int)) (hc : Ct 4 mX10_goOne 1 [vR 10 0] NALL σ (some (vI w)) NALL σ' 0 0) (hf : FrG σ' σ) (hl : ∀ i, i < v + 1 → σ' 86 0 i = σ 86 0 i ∧ σ' 87 0 i = σ 87 0 i) (h55 : σ' 10 0 55 = σ 10 0 55) (hH : HR n S D σ') (hv : v < 100 := by omega) : Fls n S (v + 1) w 0 D σ := ⟨σ, σ', GL_refl σ, ⟨v, hu, hv⟩, hc, hf, hl, by rw [h55, hu], HM_of (v + 1) hH, fun i h1 h2 => by omega⟩
theorem FrI_lo {σ : Mm} {v hi k : Nat} {r : Int} (hv : v < hi) (h : σ 86 0 v = (k : Int) ∧ σ 87 0 v = r) {j : Nat} {q : Int} : FrI σ v hi j q ↔ (j = k ∧ q = r) ∨ FrI σ (v + 1) hi j q := by
  constructor
  · rintro ⟨i, h1, h2, h3, h4⟩
    by_cases e : i = v
    · subst e
      rw [h.1] at h3
      rw [h.2] at h4
      exact Or.inl ⟨by omega, h4.symm⟩
    · exact Or.inr ⟨i, by omega, h2, h3, h4⟩
  · rintro (⟨rfl, rfl⟩ | ⟨i, h1, h2, h3, h4⟩)
    · exact ⟨v, Nat.le_refl _, hv, h.1, h.2⟩
    · exact ⟨i, by omega, h2, h3, h4⟩
theorem HM_tab {n : Nat} {S : Sd} {D σ : Mm} {v hi k : Nat} (hv : v < hi) (h : HM n S (v + 1) hi D σ) (hf : σ 86 0 v = (k : Int) ∧ σ 87 0 v = -9) : HM n S v hi (up3 D 5 k 8 3) σ := by
  obtain ⟨h1, h2⟩ := h
  refine ⟨fun j hj => ⟨fun z => ?_, fun z => ?_, fun z => ?_⟩, LgR_fr h2 (fun f k' j q => up3_f _ _ (by omega)) (fun _ _ _ => rfl)⟩
  · by_cases e : j = k
    · subst e; exact up3_s _ _ _ _ _
    · rw [up3_k _ _ e]
      rcases (FrI_lo hv hf).mp z with q | q
      · exact absurd q.1 e
      · exact (h1 j hj).1 q
  · have e : j ≠ k := fun e => z ((FrI_lo hv hf).mpr (Or.inl ⟨e, rfl⟩))
    rw [up3_k _ _ e]
    exact (h1 j hj).2.1 (fun q => z ((FrI_lo hv hf).mpr (Or.inr q)))
  · have e : j ≠ k := fun e => by rw [e, up3_s] at z; omega
    rw [up3_k _ _ e] at z
    obtain ⟨x1, x2, x3⟩ := (h1 j hj).2.2 z
    refine ⟨x1, fun y r hr => ?_, fun p hp y => ?_⟩
    · rw [up3_f _ _ (by decide)]
      exact ⟨fun w => by
        rcases (FrI_lo hv hf).mp w with q | q
        · exact absurd q.1 e
        · exact (x2 y r hr).1 q, fun w => (x2 y r hr).2 (fun q => w ((FrI_lo hv hf).mpr (Or.inr q)))⟩
    · rw [up3_f _ _ (by decide)] at y ⊢
      exact x3 p hp y
theorem HM_row {n : Nat} {S : Sd} {D σ : Mm} {v hi k r : Nat} (hv : v < hi) (h : HM n S (v + 1) hi D σ) (hf : σ 86 0 v = (k : Int) ∧ σ 87 0 v = (r : Int)) : HM n S v hi (up3 D 17 k r 3) σ := by
  obtain ⟨h1, h2⟩ := h
  have e17 : ∀ j i, up3 D 17 k r 3 17 j i = if j = k ∧ i = r then 3 else D 17 j i := fun j i => by
    unfold up3
    by_cases q : j = k ∧ i = r
    · rw [if_pos ⟨rfl, q⟩, if_pos q]
    · rw [if_neg (fun z => q z.2), if_neg q]
  refine ⟨fun j hj => ⟨fun z => ?_, fun z => ?_, fun z => ?_⟩, LgR_fr h2 (fun f k' j q => up3_f _ _ (by omega)) (fun _ _ _ => rfl)⟩
  · rw [up3_f _ _ (by decide)]
    rcases (FrI_lo hv hf).mp z with q | q
    · omega
    · exact (h1 j hj).1 q
  · rw [up3_f _ _ (by decide)]
    exact (h1 j hj).2.1 (fun q => z ((FrI_lo hv hf).mpr (Or.inr q)))
  · rw [up3_f _ _ (by decide)] at z
    obtain ⟨x1, x2, x3⟩ := (h1 j hj).2.2 z
    refine ⟨x1, fun y i hi => ?_, fun p hp y => ?_⟩
    · rw [e17]
      refine ⟨fun w => ?_, fun w => ?_⟩
      · rcases (FrI_lo hv hf).mp w with q | q
        · rw [if_pos ⟨q.1, by omega⟩]
        · by_cases c : j = k ∧ i = r
          · rw [if_pos c]
          · rw [if_neg c]; exact (x2 y i hi).1 q
      · have c : ¬ (j = k ∧ i = r) := fun c => w ((FrI_lo hv hf).mpr (Or.inl ⟨c.1, by omega⟩))
        rw [if_neg c]
        exact (x2 y i hi).2 (fun q => w ((FrI_lo hv hf).mpr (Or.inr q)))
    · rw [e17] at y
      rw [up3_f _ _ (by decide)]
      refine x3 p hp (fun q => y ?_)
      by_cases c : j = k ∧ p / 8 = r
      · rw [if_pos c]
      · rw [if_neg c]; exact q
theorem FlR_tab {n : Nat} {S : Sd} {v m k : Nat} {D σ σ' : Mm} (h : FlR n S (v + 1) m D σ σ') (hk : k < n) (hf : σ 86 0 v = (k : Int) ∧ σ 87 0 v = -9) : FlR n S v (m + 1) (up3 D 5 k 8 3) σ σ' := by
  obtain ⟨h1, h2, h3, h4, h5⟩ := h
  have e : v + 1 + m = v + (m + 1) := by omega
  obtain ⟨f1, f2⟩ := h2 v (by omega)
  rw [e] at h3 h4 h5
  refine ⟨h1, fun i hi => h2 i (by omega), h3, HM_tab (by omega) h4 ⟨by rw [f1]; exact hf.1, by rw [f2]; exact hf.2⟩, fun i i1 i2 => ?_⟩
  by_cases q : i = v
  · subst q; exact ⟨k, hk, by rw [f1]; exact hf.1, Or.inl (by rw [f2]; exact hf.2)⟩
  · exact h5 i (by omega) i2
theorem FlR_row {n : Nat} {S : Sd} {v m k r : Nat} {D σ σ' : Mm} (h : FlR n S (v + 1) m D σ σ') (hk : k < n) (hr : r < 25) (hb : sBy S k ≠ 0) (hf : σ 86 0 v = (k : Int) ∧ σ 87 0 v = (r : Int)) : FlR n S v (m + 1) (up3 D 17 k r 3) σ σ' := by
  obtain ⟨h1, h2, h3, h4, h5⟩ := h
  have e : v + 1 + m = v + (m + 1) := by omega
  obtain ⟨f1, f2⟩ := h2 v (by omega)
  rw [e] at h3 h4 h5
  refine ⟨h1, fun i hi => h2 i (by omega), h3, HM_row (by omega) h4 ⟨by rw [f1]; exact hf.1, by rw [f2]; exact hf.2⟩, fun i i1 i2 => ?_⟩
  by_cases q : i = v
  · subst q; exact ⟨k, hk, by rw [f1]; exact hf.1, Or.inr ⟨r, hr, hb, by rw [f2]; exact hf.2⟩⟩
  · exact h5 i (by omega) i2
theorem Fls_tab {n : Nat} {S : Sd} {v m k : Nat} {w : Int} {D σ : Mm} (h : Fls n S (v + 1) w m D σ) (hk : k < n) (hf : σ 86 0 v = (k : Int) ∧ σ 87 0 v = -9) : Fls n S v w (m + 1) (up3 D 5 k 8 3) σ := by
  obtain ⟨σm, σ', h1, h2, h3, h4⟩ := h
  exact ⟨σm, σ', h1, h2, h3, FlR_tab h4 hk hf⟩
theorem Fls_row {n : Nat} {S : Sd} {v m k r : Nat} {w : Int} {D σ : Mm} (h : Fls n S (v + 1) w m D σ) (hk : k < n) (hr : r < 25) (hb : sBy S k ≠ 0) (hf : σ 86 0 v = (k : Int) ∧ σ 87 0 v = (r : Int)) : Fls n S v w (m + 1) (up3 D 17 k r 3) σ := by
  obtain ⟨σm, σ', h1, h2, h3, h4⟩ := h
  exact ⟨σm, σ', h1, h2, h3, FlR_row h4 hk hr hb hf⟩
theorem StI_Loc {n : Nat} {S : Sd} {v w : Nat} {D σ σ' : Mm} (h : StI n S v D σ) (hf : Loc w σ' σ) : StI n S v D σ' := ⟨HR_Loc h.1 hf, h.2.1, SRl_G h.2.2.1 (Loc_G hf), h.2.2.2.1, by rw [hf _ _ _ (by omega)]; exact h.2.2.2.2⟩
theorem FrameAt_Low {σ σ' : Mm} {u v t : Nat} {row pl e act : Int} {st : List Int} (h : FrameAt σ v t row pl e act st) (hf : LowR u σ' σ) (hv : v < u) (hl : st.length ≤ 40) : FrameAt σ' v t row pl e act st := by
  obtain ⟨⟨h1, h2⟩, h3, h4, h5, h6, h7⟩ := h
  refine ⟨⟨by rw [hf.1 _ _ hv (by omega) (by omega)]; exact h1, by rw [hf.1 _ _ hv (by omega) (by omega)]; exact h2⟩, by rw [hf.1 _ _ hv (by omega) (by omega)]; exact h3, by rw [hf.1 _ _ hv (by omega) (by omega)]; exact h4, by rw [hf.1 _ _ hv (by omega) (by omega)]; exact h5, by rw [hf.1 _ _ hv (by omega) (by omega)]; exact h6, PlR_fr st (fun j q1 q2 => hf.2 j (by omega)) h7⟩
theorem FrameAt_Loc {σ σ' : Mm} {w v t : Nat} {row pl e act : Int} {st : List Int} (h : FrameAt σ v t row pl e act st) (hf : Loc w σ' σ) (hv : v ≠ w) (hl : st.length ≤ 40) : FrameAt σ' v t row pl e act st := by
  obtain ⟨⟨h1, h2⟩, h3, h4, h5, h6, h7⟩ := h
  exact ⟨⟨by rw [hf _ _ _ (by omega)]; exact h1, by rw [hf _ _ _ (by omega)]; exact h2⟩, by rw [hf _ _ _ (by omega)]; exact h3, by rw [hf _ _ _ (by omega)]; exact h4, by rw [hf _ _ _ (by omega)]; exact h5, by rw [hf _ _ _ (by omega)]; exact h6, PlR_fr st (fun j q1 q2 => hf _ _ _ (by omega)) h7⟩
/-- an ENTRY that is asked for -/
def AskSim (n : Nat) (S : Sd) (δ : Nat) : Prop := ∀ (v t A k E : Nat) (row pl e b : Int) (st : List Int) (D σ : Mm), v + 1 + δ = 12 → StI n S v D σ → FrameAt σ v t row pl e (A : Int) (b :: st) → t < n → k < n → (0 ≤ pl ∧ pl < e ∧ e ≤ 200) → σ 69 0 A = 4 → σ 70 0 A = (k : Int) → σ 68 0 (t + 1) = (E : Int) → A < E → E ≤ 900 → i64 b → st.length < 30 → Psi D + 1 ≤ BD → match askE S δ D k b t with
    | .inl (w, m, D') => Fls n S (v + 1) w m D' σ
    | .inr (x, D') => ∃ σ', GL σ σ' ∧ FrG σ' σ ∧ LowR v σ' σ ∧ FrameAt σ' v t row pl e ((A + 1 : Nat) : Int) (x :: st) ∧ StI n S v D' σ'
section RS
variable {n : Nat} {S : Sd} {δ : Nat}
theorem frs_eq {σ σ' : Mm} {v t t' : Nat} {row row' pl pl' e e' act act' : Int} {st st' : List Int} (h : FrameAt σ v t row pl e act st) (h' : FrameAt σ' v t row pl' e' act' st') (hl : LowR v σ' σ) : ∀ i, i < v + 1 → σ' 86 0 i = σ 86 0 i ∧ σ' 87 0 i = σ 87 0 i := fun i hi => by
  by_cases q : i = v
  · subst q; exact ⟨by rw [h'.1.1, h.1.1], by rw [h'.1.2, h.1.2]⟩
  · exact ⟨hl.1 _ _ (by omega) (by omega) (by omega), hl.1 _ _ (by omega) (by omega) (by omega)⟩
theorem run_sim (hS : SOk S n) (hask : AskSim n S δ) {v t : Nat} {row e : Int} {pl : Int} (hv : v + 1 + δ = 12) (ht : t < n) (hpl : 0 ≤ pl ∧ pl < e ∧ e ≤ 200) : ∀ (m : Nat) (rem : List Zs) (st : List Int) (D σ : Mm) (A E : Nat), StI n S v D σ → FrameAt σ v t row pl e (A : Int) st → σ 68 0 (t + 1) = (E : Int) → E ≤ 900 → A + rem.length = E → (∀ i, i < rem.length → opR (A + i) (σ 69 0 (A + i)) (σ 70 0 (A + i)) (rem.getD i (0, 0, 0))) → wf m rem st.length → st.length ≤ 24 → (∀ x ∈ st, i64 x) → (∀ z ∈ rem, (z.1 = 2 ∨ z.1 = 3) → 0 ≤ z.2.1 ∧ z.2.1 < n) → Psi D + m ≤ BD → match runF S t pl (askE S δ) m rem st D with
    | .inl (w, mm, D') => Fls n S (v + 1) w mm D' σ
    | .inr (x, D') => ∃ σ', GL σ σ' ∧ FrG σ' σ ∧ LowR v σ' σ ∧ FrameAt σ' v t row pl e (E : Int) [x] ∧ StI n S v D' σ' := by
  have hn := hS.1
  intro m
  induction m with
  | zero => intro rem st D σ A E _ _ _ _ _ _ hw; exact hw.elim
  | succ m ih =>
    intro rem st D σ A E hI hF hE hE9 hA hop hw hl h64 hnm hp
    cases rem with
    | nil =>
      have hw1 : st.length = 1 := hw
      cases st with
      | nil => cases hw1
      | cons x st =>
        cases st with
        | cons y st => cases hw1
        | nil =>
          have hA : A = E := hA
          subst hA
          exact ⟨σ, GL_refl σ, FrG_refl σ, LowR_refl v σ, hF, hI⟩
    | cons z c =>
      have hA : A + (c.length + 1) = E := hA
      have hop0 : opR A (σ 69 0 A) (σ 70 0 A) z := hop 0 (by simp)
      have ht12 : t < 12 := by omega
      -- from σ1 on
      have next : ∀ (s : Nat) (st' : List Int) (D1 σ1 : Mm), s ≤ c.length → StI n S v D1 σ1 → FrameAt σ1 v t row pl e ((A + 1 + s : Nat) : Int) st' → wf m (c.drop s) st'.length → st'.length ≤ 24 → (∀ x ∈ st', i64 x) → Psi D1 + m ≤ BD → FrG σ1 σ → LowR v σ1 σ → GL σ σ1 → match runF S t pl (askE S δ) m (c.drop s) st' D1 with
          | .inl (w, mm, D') => Fls n S (v + 1) w mm D' σ
          | .inr (x, D') => ∃ σ', GL σ σ' ∧ FrG σ' σ ∧ LowR v σ' σ ∧ FrameAt σ' v t row pl e (E : Int) [x] ∧ StI n S v D' σ' := fun s st' D1 σ1 hs hI1 hF1 hw1 hl1 h641 hp1 hg1 hlo1 hgl => by
        have g := ih (c.drop s) st' D1 σ1 (A + 1 + s) E hI1 hF1 (by rw [hg1 _ _ _ (by omega)]; exact hE) hE9 (by rw [List.length_drop]; omega) (fun i hi => by
          rw [List.length_drop] at hi
          have := hop (s + i + 1) (by simp only [List.length_cons]; omega)
          rw [show A + (s + i + 1) = A + 1 + s + i by omega] at this
          rw [hg1 _ _ _ (by omega), hg1 _ _ _ (by omega)]
          have e : (c.drop s).getD i (0, 0, 0) = (z :: c).getD (s + i + 1) (0, 0, 0) := by
            rw [List.getD_eq_getElem?_getD, List.getD_eq_getElem?_getD, List.getElem?_drop]
            rfl
          rw [e]
          exact this) hw1 hl1 h641 (fun y hy => hnm y (List.mem_cons_of_mem _ (List.mem_of_mem_drop hy))) hp1
        revert g
        generalize runF S t pl (askE S δ) m (c.drop s) st' D1 = r
        intro g
        cases r with
        | inl q =>
          obtain ⟨w, mm, D'⟩ := q
          exact Fls_pre g hgl hg1 (frs_eq (t' := t) (row' := row) hF hF1 hlo1)
        | inr q =>
          obtain ⟨x, D'⟩ := q
          obtain ⟨σ', g1, g2, g3, g4, g5⟩ := g
          exact ⟨σ', GL_tr hgl g1, FrG_tr g2 hg1, LowR_tr g3 hlo1, g4, g5⟩
      by_cases h3 : z.1 = 3
      · obtain ⟨-, -, -, w3, -⟩ := wf_k hw
        obtain ⟨w1, w2⟩ := w3 h3
        obtain ⟨b, st1, rfl⟩ : ∃ b st1, st = b :: st1 := by
          cases st with
          | nil => exact absurd w1 (by simp)
          | cons b st1 => exact ⟨b, st1, rfl⟩
        obtain ⟨n1, n2⟩ := hnm z List.mem_cons_self (Or.inr h3)
        obtain ⟨k, hk⟩ : ∃ k : Nat, z.2.1 = k := ⟨z.2.1.toNat, by omega⟩
        have hl1 : st1.length + 1 ≤ 24 := hl
        have h69 : σ 69 0 A = 4 ∧ σ 70 0 A = (k : Int) := by
          rcases hop0 with ⟨q, _⟩ | ⟨q, _⟩ | ⟨q, _⟩ | ⟨_, o1, o2⟩ | ⟨q, _⟩ | ⟨q, _⟩ | ⟨q, _⟩ | ⟨q, _⟩
          · omega
          · omega
          · omega
          · exact ⟨by rw [o1, h3]; rfl, by rw [o2, hk]⟩
          · omega
          · omega
          · omega
          · omega
        have g := hask v t A k E row pl e b st1 D σ hv hI hF ht (by omega) hpl h69.1 h69.2 hE (by omega) hE9 (h64 b List.mem_cons_self) (by omega) (by omega)
        have ei := ask_i hS.1 (lv_i hS δ).1 (lv_i hS δ).2 D k b t hI.2.2.2.1 (by omega) ⟨by omega, by omega⟩
        have er : runF S t pl (askE S δ) (m + 1) (z :: c) (b :: st1) D = bindE (askE S δ D k b t) (fun x D' => runF S t pl (askE S δ) m c (x :: st1) D') := by
          rw [runF, if_neg (by omega), if_neg (by omega), if_neg (by omega), if_pos h3, show z.2.1.toNat = k by omega]
          rfl
        rw [er]
        have ei : EI S X0 δ 1 D (askE S δ D k b t) := ei
        revert g ei
        generalize askE S δ D k b t = r
        intro g ei
        cases r with
        | inl q => exact g
        | inr q =>
          obtain ⟨x, D'⟩ := q
          obtain ⟨σ1, g1, g2, g3, g4, g5⟩ := g
          obtain ⟨i1, i2, i3, i4⟩ := ei
          have := next 0 (x :: st1) D' σ1 (Nat.zero_le _) g5 g4 (by rw [List.drop_zero]; exact w2) hl (fun y hy => by
            rcases List.mem_cons.mp hy with q | q
            · rw [q]; exact i4
            · exact h64 y (List.mem_cons_of_mem _ q)) (by omega) g2 g3 g1
          rw [List.drop_zero] at this
          exact this
      · rw [run_sp h3]
        obtain ⟨σ1, hloc, hr⟩ := m_stepS (d := 2) hS hI.2.2.1 hop0 h3 (fun q => hnm z List.mem_cons_self (Or.inl q)) hw hF (by omega) (by omega) hl h64 ⟨hpl.1, by omega⟩
        have h55 : σ1 10 0 55 = σ 10 0 55 := hloc _ _ _ (by omega)
        cases hsp : spF S pl z st with
        | none =>
          rw [hsp] at hr
          have hgo := g_step (d := 2) hF hI.2.2.2.2 (by omega) ht12 ⟨hpl.1, hpl.2.1, by omega⟩ hE (by omega) hE9 hr
          exact Fls_now hI.2.2.2.2 hgo (Loc_G hloc) (fun i hi => ⟨hloc _ _ _ (by omega), hloc _ _ _ (by omega)⟩) h55 (HR_Loc hI.1 hloc)
        | some y =>
          obtain ⟨s, st'⟩ := y
          rw [hsp] at hr
          obtain ⟨a1, a2, a3, a4, a5, a6⟩ := hr
          have hgo := g_step (d := 2) hF hI.2.2.2.2 (by omega) ht12 ⟨hpl.1, hpl.2.1, by omega⟩ hE (by omega) hE9 a6
          exact next s st' D σ1 a1 (StI_Loc hI hloc) a5 a2 a3 a4 (by omega) (Loc_G hloc) (Loc_L hloc) (GL_one (u := v) (u' := v) (Or.inl rfl) hI.2.2.2.2 (by rw [h55]; exact hI.2.2.2.2) hgo)
/-- a number is stored -/
theorem HR_store {D σ : Mm} {v t p : Nat} {x c : Int} (ht : t < n) (hp : p < 200) (h : HR n S D σ) : HR n S (up3 D 16 t p x) (sgS σ v t p x c) := by
  have o : ∀ f j, f ≠ 91 → f ≠ 73 → f ≠ 88 → f ≠ 90 → sgS σ v t p x c f 0 j = σ f 0 j := fun f j q1 q2 q3 q4 => by
    unfold sgS
    rw [up3_f _ _ q4, up3_f _ _ q3, up3_f _ _ q2, up3_f _ _ q1]
  refine ⟨fun k hk => ⟨by rw [o _ _ (by omega) (by omega) (by omega) (by omega), up3_f _ _ (by decide)]; exact (h.1 k hk).1, fun z => ?_⟩, LgR_fr h.2 (fun f k' j q => up3_f _ _ (by omega)) (fun f j q => o _ _ (by omega) (by omega) (by omega) (by omega))⟩
  rw [up3_f _ _ (by decide)] at z
  obtain ⟨x1, x2, x3⟩ := (h.1 k hk).2 z
  refine ⟨x1, fun y r hr => by rw [o _ _ (by omega) (by omega) (by omega) (by omega), up3_f _ _ (by decide)]; exact x2 y r hr, fun p' hp' y => ?_⟩
  rw [up3_f _ _ (by decide)] at y
  have e : sgS σ v t p x c 73 0 (200 * k + p') = up3 (up3 σ 91 0 v 0) 73 0 (200 * t + p) x 73 0 (200 * k + p') := by
    unfold sgS
    rw [up3_f _ _ (by decide), up3_f _ _ (by decide)]
  rw [e]
  by_cases q : k = t ∧ p' = p
  · obtain ⟨rfl, rfl⟩ := q
    rw [up3_s, up3_s]
  · rw [up3_j _ _ (by omega), up3_f _ _ (by decide), show up3 D 16 t p x 16 k p' = D 16 k p' by unfold up3; rw [if_neg (fun z => q z.2)]]
    exact x3 p' hp' y
/-- ENTRIES one behind another -/
theorem mk_sim (hS : SOk S n) (hask : AskSim n S δ) {v t C0 : Nat} {row : Int} (hv : v + 1 + δ = 12) (ht : t < n) : ∀ (c p e : Nat) (D σ : Mm), StI n S v D σ → FrameAt σ v t row (p : Int) (e : Int) (C0 : Int) [] → σ 68 0 t = (C0 : Int) → p + c = e → e ≤ 200 → Psi D + 60 * c ≤ BD → match mkF S (askE S δ) t c p D with
    | .inl (w, mm, D') => Fls n S (v + 1) w mm D' σ
    | .inr (_, D') => ∃ σ', GL σ σ' ∧ FrG σ' σ ∧ LowR v σ' σ ∧ FrameAt σ' v t row (e : Int) (e : Int) (C0 : Int) [] ∧ StI n S v D' σ' := by
  have hn := hS.1
  intro c
  induction c with
  | zero =>
    intro p e D σ hI hF h68 he he2 hp
    obtain rfl : p = e := by omega
    exact ⟨σ, GL_refl σ, FrG_refl σ, LowR_refl v σ, hF, hI⟩
  | succ c ih =>
    intro p e D σ hI hF h68 he he2 hp
    obtain ⟨-, -, -, -, hwf, hlen, hnm⟩ := hS.2 t ht
    obtain ⟨-, C1, c1, c2, c3, c4⟩ := hI.2.2.1.2 t ht
    obtain rfl : C1 = C0 := by omega
    have g := run_sim hS hask (row := row) (e := (e : Int)) (pl := (p : Int)) hv ht ⟨by omega, by omega, by omega⟩ 60 (sCd S t) [] D σ C1 (C1 + (sCd S t).length) hI hF c2 c3 rfl c4 hwf (by decide) (fun x hx => (by cases hx)) hnm (by omega)
    have ei := run_i (δ := δ) (t := t) (pl := (p : Int)) hS (by omega) ⟨by omega, by omega⟩ (ask_i hS.1 (lv_i hS δ).1 (lv_i hS δ).2) 60 (sCd S t) [] D hI.2.2.2.1 hwf (fun x hx => (by cases hx)) hnm
    have ei : EI S X0 δ (60 : Nat) D (runF S t p (askE S δ) 60 (sCd S t) [] D) := ei
    show match bindE (runF S t p (askE S δ) 60 (sCd S t) [] D) (fun x D' => mkF S (askE S δ) t c (p + 1) (up3 D' 16 t p x)) with | .inl (w, mm, D') => Fls n S (v + 1) w mm D' σ | .inr (_, D') => _
    revert g ei
    generalize runF S t p (askE S δ) 60 (sCd S t) [] D = r
    intro g ei
    cases r with
    | inl q => exact g
    | inr q =>
      obtain ⟨x, D'⟩ := q
      obtain ⟨σ1, g1, g2, g3, g4, g5⟩ := g
      obtain ⟨i1, i2, i3, i4⟩ := ei
      have q68 : σ1 68 0 (t + 1) = ((C1 + (sCd S t).length : Nat) : Int) := by rw [g2 _ _ _ (by omega)]; exact c2
      have q68b : σ1 68 0 t = (C1 : Int) := by rw [g2 _ _ _ (by omega)]; exact h68
      have hgo := g_store (d := 2) g4 g5.2.2.2.2 (by omega) (by omega) ⟨by omega, by omega⟩ q68 c3 q68b
      have o : ∀ f k j, ¬ ((f = 91 ∨ f = 88 ∨ f = 90) ∧ k = 0 ∧ j = v) → f ≠ 73 → sgS σ1 v t p x C1 f k j = σ1 f k j := fun f k j q1 q2 => by
        unfold sgS up3
        rw [if_neg (by omega), if_neg (by omega), if_neg (by omega), if_neg (by omega)]
      have fg : FrG (sgS σ1 v t p x C1) σ1 := fun f k j q => o _ _ _ (by omega) (by omega)
      have fl : LowR v (sgS σ1 v t p x C1) σ1 := ⟨fun i f q1 q2 q3 => o _ _ _ (by omega) (by omega), fun j hj => o _ _ _ (by omega) (by omega)⟩
      have F2 : FrameAt (sgS σ1 v t p x C1) v t row ((p + 1 : Nat) : Int) (e : Int) (C1 : Int) [] := by
        refine ⟨⟨by rw [o _ _ _ (by omega) (by omega)]; exact g4.1.1, by rw [o _ _ _ (by omega) (by omega)]; exact g4.1.2⟩, ?_, by rw [o _ _ _ (by omega) (by omega)]; exact g4.2.2.1, ?_, ?_, trivial⟩
        · unfold sgS; rw [up3_f _ _ (by decide), up3_s]
        · unfold sgS; rw [up3_s]
        · unfold sgS; rw [up3_f _ _ (by decide), up3_f _ _ (by decide), up3_f _ _ (by decide), up3_s]; rfl
      have hD16 : DW S (up3 D' 16 t p x) := DW_16 i1 (fun f k j q => up3_f _ _ q) (fun k p' hk hp' => by
        by_cases q : k = t ∧ p' = p
        · obtain ⟨rfl, rfl⟩ := q; rw [up3_s]; exact i4
        · rw [show up3 D' 16 t p x 16 k p' = D' 16 k p' by unfold up3; rw [if_neg (fun z => q z.2)]]
          exact (i1.1 k hk).2.2.1 p' hp')
      have I2 : StI n S v (up3 D' 16 t p x) (sgS σ1 v t p x C1) := ⟨HR_store ht (by omega) g5.1, fun k hk z r hr => by
        rw [up3_f _ _ (by decide)] at z ⊢
        exact g5.2.1 k hk z r hr, SRl_G g5.2.2.1 fg, hD16, by rw [o _ _ _ (by omega) (by omega)]; exact g5.2.2.2.2⟩
      have gl : GL σ (sgS σ1 v t p x C1) := GL_tr g1 (GL_one (u := v) (u' := v) (Or.inl rfl) g5.2.2.2.2 I2.2.2.2.2 hgo)
      have hps : Psi (up3 D' 16 t p x) = Psi D' := Psi_16 (fun f k j q => up3_f _ _ q)
      have g := ih (p + 1) e (up3 D' 16 t p x) (sgS σ1 v t p x C1) I2 F2 (by rw [o _ _ _ (by omega) (by omega)]; exact q68b) (by omega) he2 (by rw [hps]; omega)
      have fg2 := FrG_tr fg g2
      have fl2 := LowR_tr fl g3
      show match mkF S (askE S δ) t c (p + 1) (up3 D' 16 t p x) with | .inl (w, mm, D') => Fls n S (v + 1) w mm D' σ | .inr (_, D') => _
      revert g
      generalize mkF S (askE S δ) t c (p + 1) (up3 D' 16 t p x) = r2
      intro g
      cases r2 with
      | inl q =>
        obtain ⟨w, mm, D2⟩ := q
        exact Fls_pre g gl fg2 (frs_eq (t' := t) (row' := row) hF F2 fl2)
      | inr q =>
        obtain ⟨y, D2⟩ := q
        obtain ⟨σ', z1, z2, z3, z4, z5⟩ := g
        exact ⟨σ', GL_tr gl z1, FrG_tr z2 fg2, LowR_tr z3 fl2, z4, z5⟩
end RS
