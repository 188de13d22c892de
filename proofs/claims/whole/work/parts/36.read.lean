/-! what a TEXT that is read gives -/
def PI : PR → Prop
  | .inl _ => True
  | .inr (_, _, s) => ∀ z ∈ s, i64 z.2.1
theorem bindR_i {r : PR} {f : Nat → Nat → List Zs → PR} (hr : PI r) (hf : ∀ i u s, r = .inr (i, u, s) → (∀ z ∈ s, i64 z.2.1) → PI (f i u s)) : PI (bindR r f) := by
  cases r with
  | inl e => trivial
  | inr t =>
    obtain ⟨i, u, s⟩ := t
    exact hf i u s rfl hr
theorem needR_i {K : Nat → Int} {k : Int} {i u : Nat} {s : List Zs} (h : K i = k → ∀ z ∈ s, i64 z.2.1) : PI (needR K k i u s) := by
  unfold needR
  split
  · next hk => exact h hk
  · trivial
theorem app_i {a b : List Zs} (ha : ∀ z ∈ a, i64 z.2.1) (hb : ∀ z ∈ b, i64 z.2.1) : ∀ z ∈ a ++ b, i64 z.2.1 := fun z hz => (List.mem_append.mp hz).elim (ha z) (hb z)
theorem one_i {a b c : Int} (ha : i64 b) : ∀ z ∈ [(a, b, c)], i64 z.2.1 := fun z hz => by rw [List.mem_singleton.mp hz]; exact ha
theorem prodL_i {K : Nat → Int} {un : Nat → Nat → PR} (h : ∀ u i, PI (un u i)) : ∀ (c i u : Nat) (s : List Zs), (∀ z ∈ s, i64 z.2.1) → PI (prodL K un c i u s) := by
  intro c
  induction c with
  | zero => intro i u s hs; exact hs
  | succ c ih =>
    intro i u s hs
    unfold prodL
    split
    · exact bindR_i (h _ _) (fun i' u' s' _ hs' => ih _ _ _ (app_i (app_i hs hs') (one_i i64z)))
    · exact hs
theorem prodF_i {K : Nat → Int} {un : Nat → Nat → PR} (h : ∀ u i, PI (un u i)) (u i : Nat) : PI (prodF K un u i) := bindR_i (h u i) (fun _ _ _ _ hs => prodL_i h _ _ _ _ hs)
theorem sumL_i {K : Nat → Int} {un : Nat → Nat → PR} (h : ∀ u i, PI (un u i)) : ∀ (c i u : Nat) (s : List Zs), (∀ z ∈ s, i64 z.2.1) → PI (sumL K un c i u s) := by
  intro c
  induction c with
  | zero => intro i u s hs; exact hs
  | succ c ih =>
    intro i u s hs
    unfold sumL
    split
    · exact bindR_i (prodF_i h _ _) (fun i' u' s' _ hs' => ih _ _ _ (app_i (app_i hs hs') (one_i i64z)))
    · exact hs
theorem sumF_i {K : Nat → Int} {un : Nat → Nat → PR} (h : ∀ u i, PI (un u i)) (u i : Nat) : PI (sumF K un u i) := bindR_i (prodF_i h u i) (fun _ _ _ _ hs => sumL_i h _ _ _ _ hs)
theorem uF_i {K V Q : Nat → Int} (hV : ∀ i, K i = 1 ∨ K i = 2 → i64 (V i)) : ∀ δ u i, PI (uF K V Q δ u i) := by
  intro δ
  induction δ with
  | zero => intro u i; trivial
  | succ δ ih =>
    have hs := fun u i => sumF_i (K := K) ih u i
    have hb := sumF_b (K := K) (uF_b K V Q δ)
    have small : ∀ x : Nat, x ≤ 100 → i64 (x : Int) := fun x hx => by unfold i64; omega
    intro u i
    unfold uF
    split
    · trivial
    split
    · next hk => exact one_i (hV _ (Or.inl hk))
    split
    · exact one_i i64z
    split
    · exact needR_i (fun hk => one_i (hV _ (Or.inr hk)))
    split
    · next hk =>
      unfold entF
      split
      · exact bindR_i (hs _ _) (fun i' u' s _ h1 => needR_i (fun _ => app_i h1 (one_i (hV _ (Or.inr hk)))))
      · trivial
    split
    · exact bindR_i (ih _ _) (fun i' u' s _ h1 => app_i h1 (one_i i64z))
    split
    · unfold grpF
      refine bindR_i (hs _ _) (fun i0 u0 s0 _ h1 => ?_)
      split
      · exact bindR_i (hs _ _) (fun i' u' s _ h2 => needR_i (fun _ => app_i (app_i h1 h2) (one_i i64z)))
      split
      · unfold choiF
        refine bindR_i (bindR_i (hs _ _) (fun i1 u1 s1 e1 h2 => ?_)) (fun i2 u2 s _ h3 => needR_i (fun _ => app_i h1 h3))
        split
        · refine bindR_i (hs _ _) (fun i2 u2 s2 e2 h3 => ?_)
          have b1 := hb u0 (i0 + 1)
          rw [e1] at b1
          have b2 := hb u1 (i1 + 1)
          rw [e2] at b2
          obtain ⟨c1, c2, c3⟩ := b1
          obtain ⟨d1, d2, d3⟩ := b2
          exact app_i (app_i (app_i (one_i (by have := small (s1.length + 1) (by omega); unfold i64 at this ⊢; omega)) h2) (one_i (small _ (by omega)))) h3
        · trivial
      · exact needR_i (fun _ => h1)
    · trivial
theorem numV_b {B : Nat → Int} (hB : ∀ j, 0 ≤ B j ∧ B j ≤ 255) (p : Nat) : ∀ n : Nat, -(23 * 10 ^ n - 23) ≤ numV B p n ∧ numV B p n ≤ 23 * 10 ^ n - 23 := by
  intro n
  induction n with
  | zero => exact ⟨by simp [numV], by simp [numV]⟩
  | succ n ih =>
    have := hB (p + n)
    have e : (10 : Int) ^ (n + 1) = 10 * 10 ^ n := by rw [Int.pow_succ, Int.mul_comm]
    rw [e]
    unfold numV
    have hp : (1 : Int) ≤ 10 ^ n := by
      have := Int.pow_pos (n := 10) (m := n) (by decide)
      omega
    omega
theorem tok_num {B : Nat → Int} {L : Nat} (h : BOk B L) (i : Nat) (hk : tK B i = 1) : i64 (tV B i) := by
  have hk : tkK B (tq B i) = 1 := hk
  show i64 (tkV B (tq B i))
  unfold tkK at hk
  unfold tkV
  by_cases hd : isDg (B (tq B i)) = true
  · rw [if_pos hd] at hk ⊢
    by_cases h6 : 6 < rn isDg B (tq B i) - tq B i
    · rw [if_pos h6] at hk; omega
    · have hb := numV_b h.2.2.2 (tq B i) (rn isDg B (tq B i) - tq B i)
      generalize rn isDg B (tq B i) - tq B i = m at hb h6
      unfold i64
      rcases (by omega : m = 0 ∨ m = 1 ∨ m = 2 ∨ m = 3 ∨ m = 4 ∨ m = 5 ∨ m = 6) with rfl | rfl | rfl | rfl | rfl | rfl | rfl <;> omega
  · rw [if_neg hd] at ⊢
    by_cases hl : isLe (B (tq B i)) = true
    · rw [if_pos hl]
      exact letV_r _ _ _
    · rw [if_neg hl]
      exact i64z
/-- a SUM out of the grammar -/
def CodeOf (K V Q : Nat → Int) (code : List Zs) : Prop := ∃ i0 i1 u1, sumF K (uF K V Q 11) 0 i0 = .inr (i1, u1, code)
theorem tabF_code {K V Q : Nat → Int} {ds : List TabD} {nf : Int} {i i' : Nat} {D : TabD} {nf' : Int} (ht : tabF K V Q ds nf i = .inr (i', D, nf')) : CodeOf K V Q D.2.2.2.2.2 := by
  unfold tabF at ht
  split at ht
  · split at ht
    · split at ht
      · split at ht
        · cases ht
        · unfold bodyF at ht
          split at ht
          · split at ht
            · split at ht
              · split at ht
                · cases ht
                · next i5 u5 code hs =>
                  split at ht
                  · cases ht
                  · injection ht with ht
                    injection ht with h1 h2
                    injection h2 with h2 h3
                    subst h2
                    exact ⟨_, _, _, hs⟩
              · cases ht
            · cases ht
          · cases ht
      · cases ht
    · cases ht
  · cases ht
theorem txtF_code {K V Q : Nat → Int} : ∀ (c i : Nat) (ds : List TabD) (nf : Int) (ds' : List TabD) (nf' : Int), (∀ D ∈ ds, CodeOf K V Q D.2.2.2.2.2) → txtF K V Q c i ds nf = .inr (ds', nf') → ∀ D ∈ ds', CodeOf K V Q D.2.2.2.2.2 := by
  intro c
  induction c with
  | zero => intro i ds nf ds' nf' h0 h; cases h
  | succ c ih =>
    intro i ds nf ds' nf' h0 h
    unfold txtF at h
    split at h
    · cases h
    · next i' D nf2 ht =>
      have h1 : ∀ E ∈ ds ++ [D], CodeOf K V Q E.2.2.2.2.2 := fun E hE => by
        rcases List.mem_append.mp hE with q | q
        · exact h0 E q
        · rw [List.mem_singleton.mp q]; exact tabF_code ht
      split at h
      · injection h with h
        injection h with h2 h3
        rw [← h2]
        exact h1
      · exact ih i' (ds ++ [D]) nf2 ds' nf' h1 h
theorem nfA_n {nf x : Int} (hx : 0 ≤ x) : nfA nf x ≠ -9 := by unfold nfA; split <;> omega
/-- no name FAULT: every name is told -/
theorem rsN_n {ds : List TabD} : ∀ (ss : List Zs) (nf : Int), (∀ z ∈ ss, ZOk z) → rsN ds ss nf = -9 → nf = -9 ∧ ∀ z ∈ ss, (z.1 = 2 ∨ z.1 = 3) → nofD ds z.2.1 ≠ -9 := by
  intro ss
  induction ss with
  | nil => intro nf _ h; exact ⟨h, fun z hz => by cases hz⟩
  | cons z r ih =>
    intro nf hz h
    have h1 := ih _ (fun y hy => hz y (List.mem_cons_of_mem _ hy)) h
    obtain ⟨h2, h3⟩ := h1
    by_cases hc : (z.1 = 2 ∨ z.1 = 3) ∧ nofD ds z.2.1 = -9
    · rw [if_pos hc] at h2
      exact absurd h2 (nfA_n ((hz z List.mem_cons_self).2 hc.1).2.1)
    · rw [if_neg hc] at h2
      refine ⟨h2, fun y hy hy2 => ?_⟩
      rcases List.mem_cons.mp hy with e | e
      · subst e
        exact fun q => hc ⟨hy2, q⟩
      · exact h3 y e hy2
theorem rsA_n {ds : List TabD} : ∀ (es : List TabD) (nf : Int), (∀ D ∈ es, DOk D) → rsA ds es nf = -9 → ∀ D ∈ es, ∀ z ∈ D.2.2.2.2.2, (z.1 = 2 ∨ z.1 = 3) → nofD ds z.2.1 ≠ -9 := by
  intro es
  induction es with
  | nil => intro nf _ _ D hD; cases hD
  | cons E r ih =>
    intro nf hE h
    have h1 : ∀ (es : List TabD) (nf : Int), (∀ D ∈ es, DOk D) → rsA ds es nf = -9 → nf = -9 := by
      intro es
      induction es with
      | nil => intro nf _ h; exact h
      | cons E r ih2 => intro nf hE h; exact (rsN_n _ _ (hE E List.mem_cons_self).2.2.2.2.2 (ih2 _ (fun y hy => hE y (List.mem_cons_of_mem _ hy)) h)).1
    have hr : ∀ D ∈ r, DOk D := fun y hy => hE y (List.mem_cons_of_mem _ hy)
    intro D hD
    rcases List.mem_cons.mp hD with e | e
    · rw [e]
      exact (rsN_n _ _ (hE E List.mem_cons_self).2.2.2.2.2 (h1 r _ hr h)).2
    · exact ih _ hr h D e
theorem nofD_r {ds : List TabD} {x : Int} (h : nofD ds x ≠ -9) : 0 ≤ nofD ds x ∧ nofD ds x < ds.length := by
  rcases nof_r (fun k => (ds.getD k (0, 0, 0, 0, 0, [])).1) x ds.length with q | ⟨j, h1, h2, h3⟩
  · exact absurd q h
  · unfold nofD; omega
/-- the resolved code runs as the code does -/
theorem wf_map {ds : List TabD} : ∀ (n : Nat) (c : List Zs) (h : Nat), wf n c h → wf n (c.map (rslv ds)) h := by
  intro n
  induction n with
  | zero => intro c h hw; exact hw
  | succ n ih =>
    intro c h hw
    cases c with
    | nil => exact hw
    | cons z c =>
      have e1 : (rslv ds z).1 = z.1 := (rslv_1 ds z).1
      have e2 : ¬ (z.1 = 2 ∨ z.1 = 3) → rslv ds z = z := fun q => by unfold rslv; rw [if_neg q]
      show wf (n + 1) (rslv ds z :: c.map (rslv ds)) h
      unfold wf at hw ⊢
      rw [e1]
      rcases hw with h1 | h1 | h1 | h1 | h1 | h1 | h1 | h1
      · rw [e2 (by omega)]
        exact Or.inl ⟨h1.1, h1.2.1, h1.2.2.1, ih _ _ h1.2.2.2⟩
      · exact Or.inr (Or.inl ⟨h1.1, h1.2.1, ih _ _ h1.2.2⟩)
      · exact Or.inr (Or.inr (Or.inl ⟨h1.1, h1.2.1, ih _ _ h1.2.2⟩))
      · exact Or.inr (Or.inr (Or.inr (Or.inl ⟨h1.1, h1.2.1, ih _ _ h1.2.2⟩)))
      · exact Or.inr (Or.inr (Or.inr (Or.inr (Or.inl ⟨h1.1, h1.2.1, ih _ _ h1.2.2⟩))))
      · rw [e2 (by omega), ← List.map_drop]
        exact Or.inr (Or.inr (Or.inr (Or.inr (Or.inr (Or.inl ⟨h1.1, h1.2.1, by rw [List.length_map]; exact h1.2.2.1, ih _ _ h1.2.2.2⟩)))))
      · rw [e2 (by omega), ← List.map_drop]
        exact Or.inr (Or.inr (Or.inr (Or.inr (Or.inr (Or.inr (Or.inl ⟨h1.1, h1.2.1, h1.2.2.1, by rw [List.length_map]; exact h1.2.2.2.1, ih _ _ h1.2.2.2.2.1, ih _ _ h1.2.2.2.2.2⟩))))))
      · exact Or.inr (Or.inr (Or.inr (Or.inr (Or.inr (Or.inr (Or.inr ⟨h1.1, h1.2.1, ih _ _ h1.2.2⟩))))))
def readF (B : Nat → Int) : Int ⊕ List TabD := match txtF (tK B) (tV B) (tQ B) 12 0 [] (-9) with
  | .inl e => .inl (tQ B e)
  | .inr (ds, nf) => if rsA ds ds nf = -9 then .inr ds else .inl (rsA ds ds nf)
def Sof (ds : List TabD) : Sd := fun k => if k < ds.length then ((ds.getD k dz).1, (ds.getD k dz).2.1, (ds.getD k dz).2.2.1, (ds.getD k dz).2.2.2.1, (ds.getD k dz).2.2.2.2.1, (ds.getD k dz).2.2.2.2.2.map (rslv ds)) else (0, 0, 1, 0, 0, [])
theorem endF_pr {B : Nat → Int} {L i i' : Nat} {ip pr : Int} (h : BOk B L) (he : endF (tK B) (tV B) i = .inr (i', ip, pr)) : i64 pr := by
  have neg : ∀ j, tK B j = 1 → i64 (tV B j) ∧ i64 (-tV B j) := fun j hj => by
    have h1 := tok_num h j hj
    have hk : tkK B (tq B j) = 1 := hj
    refine ⟨h1, ?_⟩
    show i64 (-tkV B (tq B j))
    unfold tkK at hk
    unfold tkV
    by_cases hd : isDg (B (tq B j)) = true
    · rw [if_pos hd] at hk ⊢
      by_cases h6 : 6 < rn isDg B (tq B j) - tq B j
      · rw [if_pos h6] at hk; omega
      · have hb := numV_b h.2.2.2 (tq B j) (rn isDg B (tq B j) - tq B j)
        generalize rn isDg B (tq B j) - tq B j = m at hb h6
        unfold i64
        rcases (by omega : m = 0 ∨ m = 1 ∨ m = 2 ∨ m = 3 ∨ m = 4 ∨ m = 5 ∨ m = 6) with rfl | rfl | rfl | rfl | rfl | rfl | rfl <;> omega
    · exfalso
      rw [if_neg hd] at hk
      by_cases hl : isLe (B (tq B j)) = true
      · rw [if_pos hl] at hk
        split at hk
        · omega
        · unfold kindW at hk
          repeat' split at hk
          all_goals omega
      · rw [if_neg hl] at hk
        split at hk
        · next hs =>
          rw [hk] at hs
          exact absurd hs (by decide)
        · split at hk <;> omega
  unfold endF at he
  repeat' split at he
  all_goals first
    | (cases he; done)
    | (injection he with he; injection he with h1 h2; injection h2 with h2 h3; rw [← h3]; exact i64z)
    | (injection he with he; injection he with h1 h2; injection h2 with h2 h3; rw [← h3]; exact (neg _ (by assumption)).1)
    | (injection he with he; injection he with h1 h2; injection h2 with h2 h3; rw [← h3]; exact (neg _ (by assumption)).2)
theorem tabF_pr {B : Nat → Int} {L : Nat} (h : BOk B L) {ds : List TabD} {nf : Int} {i i' : Nat} {D : TabD} {nf' : Int} (ht : tabF (tK B) (tV B) (tQ B) ds nf i = .inr (i', D, nf')) : i64 D.2.2.2.2.1 := by
  unfold tabF at ht
  split at ht
  · split at ht
    · split at ht
      · split at ht
        · cases ht
        · unfold bodyF at ht
          split at ht
          · split at ht
            · split at ht
              · split at ht
                · cases ht
                · next i5 u5 code hs =>
                  split at ht
                  · cases ht
                  · next i6 ip pr he =>
                    injection ht with ht
                    injection ht with h1 h2
                    injection h2 with h2 h3
                    subst h2
                    exact endF_pr h he
              · cases ht
            · cases ht
          · cases ht
      · cases ht
    · cases ht
  · cases ht
theorem txtF_pr {B : Nat → Int} {L : Nat} (hB : BOk B L) : ∀ (c i : Nat) (ds : List TabD) (nf : Int) (ds' : List TabD) (nf' : Int), (∀ D ∈ ds, i64 D.2.2.2.2.1) → txtF (tK B) (tV B) (tQ B) c i ds nf = .inr (ds', nf') → ∀ D ∈ ds', i64 D.2.2.2.2.1 := by
  intro c
  induction c with
  | zero => intro i ds nf ds' nf' h0 h; cases h
  | succ c ih =>
    intro i ds nf ds' nf' h0 h
    unfold txtF at h
    split at h
    · cases h
    · next i' D nf2 ht =>
      have h1 : ∀ E ∈ ds ++ [D], i64 E.2.2.2.2.1 := fun E hE => by
        rcases List.mem_append.mp hE with q | q
        · exact h0 E q
        · rw [List.mem_singleton.mp q]; exact tabF_pr hB ht
      split at h
      · injection h with h
        injection h with h2 h3
        rw [← h2]
        exact h1
      · exact ih i' (ds ++ [D]) nf2 ds' nf' h1 h
/-- the TABLES that a tape without FAULT gives -/
theorem Sof_ok {B : Nat → Int} {L : Nat} {ds : List TabD} {nf : Int} (hB : BOk B L) (ht : txtF (tK B) (tV B) (tQ B) 12 0 [] (-9) = .inr (ds, nf)) (hD : ∀ k, k < ds.length → DOk (ds.getD k dz)) (hl : ds.length ≤ 12) (hn : rsA ds ds nf = -9) : SOk (Sof ds) ds.length ∧ ∀ k, k < ds.length → i64 (Sof ds k).1 ∧ ∀ z ∈ sCd (Sof ds) k, (0 ≤ z.1 ∧ z.1 ≤ 1000) ∧ i64 z.2.1 := by
  have hDm : ∀ D ∈ ds, DOk D := fun D hm => by
    obtain ⟨k, hk, rfl⟩ := mem_getD hm
    exact hD k hk
  have hcode := txtF_code 12 0 [] (-9) ds nf (fun D hD => by cases hD) ht
  have hpr := txtF_pr hB 12 0 [] (-9) ds nf (fun D hD => by cases hD) ht
  have hres := rsA_n ds nf hDm hn
  have mem : ∀ k, k < ds.length → ds.getD k dz ∈ ds := fun k hk => by
    rw [List.getD_eq_getElem?_getD, List.getElem?_eq_getElem hk]
    exact List.getElem_mem hk
  have hz : ∀ k, k < ds.length → ∀ z ∈ (ds.getD k dz).2.2.2.2.2, i64 z.2.1 := fun k hk => by
    obtain ⟨i0, i1, u1, hs⟩ := hcode _ (mem k hk)
    have := sumF_i (K := tK B) (fun u i => uF_i (V := tV B) (Q := tQ B) (fun j hj => by
      rcases hj with hj | hj
      · exact tok_num hB j hj
      · exact (tok_names hB j hj).1) 11 u i) 0 i0
    rw [hs] at this
    exact this
  refine ⟨⟨hl, fun k hk => ?_⟩, fun k hk => ?_⟩
  · have e : Sof ds k = ((ds.getD k dz).1, (ds.getD k dz).2.1, (ds.getD k dz).2.2.1, (ds.getD k dz).2.2.2.1, (ds.getD k dz).2.2.2.2.1, (ds.getD k dz).2.2.2.2.2.map (rslv ds)) := by unfold Sof; rw [if_pos hk]
    obtain ⟨d1, d2, d3, d4, d5, d6⟩ := hD k hk
    show i64 (Sof ds k).2.1 ∧ ((Sof ds k).2.2.1 = 0 ∨ (Sof ds k).2.2.1 = 1) ∧ ((Sof ds k).2.2.2.1 = 0 ∨ (Sof ds k).2.2.2.1 = 1) ∧ i64 (Sof ds k).2.2.2.2.1 ∧ wf 60 (Sof ds k).2.2.2.2.2 0 ∧ (Sof ds k).2.2.2.2.2.length ≤ 48 ∧ ∀ z ∈ (Sof ds k).2.2.2.2.2, (z.1 = 2 ∨ z.1 = 3) → 0 ≤ z.2.1 ∧ z.2.1 < ds.length
    rw [e]
    refine ⟨d2, d3, d4, hpr (ds.getD k dz) (mem k hk), wf_map 60 _ 0 ?_, by rw [List.length_map]; exact d5, fun z hzm hz2 => ?_⟩
    · obtain ⟨i0, i1, u1, hs⟩ := hcode _ (mem k hk)
      have hw := sumF_w (K := tK B) (uF_w (V := tV B) (Q := tQ B) (fun j hj => tok_num hB j hj) 11) 0 i0
      have hb := sumF_b (K := tK B) (uF_b (tK B) (tV B) (tQ B) 11) 0 i0
      rw [hs] at hw hb
      exact P1_wf hw.2 (by have := hb.2.1; omega) d5
    · obtain ⟨y, hy, rfl⟩ := List.mem_map.mp hzm
      rw [(rslv_1 ds y).1] at hz2
      unfold rslv
      rw [if_pos hz2]
      exact nofD_r (hres _ (mem k hk) y hy hz2)
  · have e : Sof ds k = ((ds.getD k dz).1, (ds.getD k dz).2.1, (ds.getD k dz).2.2.1, (ds.getD k dz).2.2.2.1, (ds.getD k dz).2.2.2.2.1, (ds.getD k dz).2.2.2.2.2.map (rslv ds)) := by unfold Sof; rw [if_pos hk]
    obtain ⟨d1, d2, d3, d4, d5, d6⟩ := hD k hk
    show i64 (Sof ds k).1 ∧ ∀ z ∈ (Sof ds k).2.2.2.2.2, (0 ≤ z.1 ∧ z.1 ≤ 1000) ∧ i64 z.2.1
    rw [e]
    refine ⟨d1, fun z hzm => ?_⟩
    obtain ⟨y, hy, rfl⟩ := List.mem_map.mp hzm
    refine ⟨by rw [(rslv_1 ds y).1]; exact (d6 y hy).1, ?_⟩
    unfold rslv
    split
    · next hc =>
      have := nofD_r (hres _ (mem k hk) y hy hc)
      show i64 (nofD ds y.2.1)
      unfold i64
      omega
    · exact hz k hk y hy
theorem sleepX_5 (σ : Mm) (s : Nat) : ∀ (n k : Nat), sleepX σ s n 5 (12 * s + k) 8 = if k < n then 0 else σ 5 (12 * s + k) 8 := by
  intro n
  induction n with
  | zero => intro k; rw [if_neg (by omega)]; rfl
  | succ n ih =>
    intro k
    show sleepT (sleepX σ s n) (12 * s + n) 5 (12 * s + k) 8 = _
    rw [sleepT_5, ih]
    by_cases q : k = n
    · rw [if_pos (by omega), if_pos (by omega)]
    · rw [if_neg (by omega)]
      by_cases q2 : k < n
      · rw [if_pos q2, if_pos (by omega)]
      · rw [if_neg q2, if_neg (by omega)]
theorem sleepX_17 (σ : Mm) (s : Nat) {r : Nat} (hr : r < 25) : ∀ (n k : Nat), sleepX σ s n 17 (12 * s + k) r = if k < n then 0 else σ 17 (12 * s + k) r := by
  intro n
  induction n with
  | zero => intro k; rw [if_neg (by omega)]; rfl
  | succ n ih =>
    intro k
    show sleepT (sleepX σ s n) (12 * s + n) 17 (12 * s + k) r = _
    rw [sleepT_17 _ _ _ _ hr, ih]
    by_cases q : k = n
    · rw [if_pos (by omega), if_pos (by omega)]
    · rw [if_neg (by omega)]
      by_cases q2 : k < n
      · rw [if_pos q2, if_pos (by omega)]
      · rw [if_neg q2, if_neg (by omega)]
/-- nothing but conditions of the text's own TABLES changes -/
theorem sleepX_o (σ : Mm) (s : Nat) {f j i : Nat} : ∀ n : Nat, n ≤ 12 → ¬ ((f = 17 ∨ (f = 5 ∧ i = 8)) ∧ 12 * s ≤ j ∧ j < 12 * s + 12) → sleepX σ s n f j i = σ f j i := by
  intro n
  induction n with
  | zero => intro _ _; rfl
  | succ n ih =>
    intro hn h
    show sleepT (sleepX σ s n) (12 * s + n) f j i = _
    rw [← ih (by omega) h]
    unfold sleepT zeroA up3
    rw [if_neg (by omega), if_neg (by omega)]
/-- the memory behind a reading that goes well -/
def rdS (σ : Mm) (t n : Nat) : Mm := up3 (opS (sleepX (up3 (up3 σ 0 0 3 ((1 - t : Nat) : Int)) 0 0 4 t) (1 - t) n) (1 - t)) 1 0 1 0
theorem rdS_o {σ : Mm} {t n f k j : Nat} (hn : n ≤ 12) (h : ¬ (f = 0 ∨ f = 7 ∨ (f = 8 ∧ j = 1) ∨ (f = 1 ∧ j = 1) ∨ ((f = 17 ∨ (f = 5 ∧ j = 8)) ∧ 12 * (1 - t) ≤ k ∧ k < 12 * (1 - t) + 12))) : rdS σ t n f k j = σ f k j := by
  unfold rdS opS stS up3
  rw [if_neg (by omega), if_neg (by omega), if_neg (by omega), if_neg (by omega), if_neg (by omega), if_neg (by omega), if_neg (by omega)]
  rw [sleepX_o _ _ n hn (by omega), if_neg (by omega), if_neg (by omega)]
theorem rdS_0 {σ : Mm} {t n k j : Nat} (hn : n ≤ 12) : rdS σ t n 0 k j = (up3 (up3 σ 0 0 3 ((1 - t : Nat) : Int)) 0 0 4 t) 0 k j := by
  unfold rdS opS stS
  rw [up3_f _ _ (by decide), up3_f _ _ (by decide), up3_f _ _ (by decide), up3_f _ _ (by decide), up3_f _ _ (by decide), up3_f _ _ (by decide), up3_f _ _ (by decide), sleepX_o _ _ n hn (by omega)]
theorem rdS_7 {σ : Mm} {t n j : Nat} (hn : n ≤ 12) : rdS σ t n 7 0 j = if j = 5 then ((1 - t : Nat) : Int) else if j = 7 ∨ j = 10 ∨ j = 11 then 0 else σ 7 0 j := by
  have e : sleepX (up3 (up3 σ 0 0 3 ((1 - t : Nat) : Int)) 0 0 4 t) (1 - t) n 7 0 j = σ 7 0 j := by
    rw [sleepX_o _ _ n hn (by omega), up3_f _ _ (by decide), up3_f _ _ (by decide)]
  unfold rdS opS stS up3
  unfold up3 at e
  rw [e]
  by_cases h5 : j = 5
  · subst h5; simp
  · by_cases h7 : j = 7
    · subst h7; simp
    · by_cases h10 : j = 10
      · subst h10; simp
      · by_cases h11 : j = 11
        · subst h11; simp
        · simp [h5, h7, h10, h11]
theorem rdS_81 {σ : Mm} {t n m : Nat} (hm : m < 2) : rdS σ t n 8 m 1 = 0 := by
  unfold rdS opS stS up3
  rcases (by omega : m = 0 ∨ m = 1) with rfl | rfl <;> simp
theorem rdS_11 {σ : Mm} {t n : Nat} : rdS σ t n 1 0 1 = 0 := up3_s _ _ _ _ _
theorem rdS_5 {σ : Mm} {t n k : Nat} (hk : k < 12) : rdS σ t n 5 (12 * (1 - t) + k) 8 = if k < n then 0 else σ 5 (12 * (1 - t) + k) 8 := by
  unfold rdS opS stS
  rw [up3_f _ _ (by decide), up3_f _ _ (by decide), up3_f _ _ (by decide), up3_f _ _ (by decide), up3_f _ _ (by decide), up3_f _ _ (by decide), up3_f _ _ (by decide), sleepX_5, up3_f _ _ (by decide), up3_f _ _ (by decide)]
theorem rdS_17 {σ : Mm} {t n k r : Nat} (hr : r < 25) : rdS σ t n 17 (12 * (1 - t) + k) r = if k < n then 0 else σ 17 (12 * (1 - t) + k) r := by
  unfold rdS opS stS
  rw [up3_f _ _ (by decide), up3_f _ _ (by decide), up3_f _ _ (by decide), up3_f _ _ (by decide), up3_f _ _ (by decide), up3_f _ _ (by decide), up3_f _ _ (by decide), sleepX_17 _ _ hr, up3_f _ _ (by decide), up3_f _ _ (by decide)]
theorem CI_frX {t n L q : Nat} {S : Sd} {D σ σ' : Mm} {why : Int} (h : CI t n L S D q why σ) (hf : FrX (1 - t) σ' σ) : CI t n L S D q why σ' := by
  obtain ⟨⟨a1, a2, ⟨k1, k2, k3, k4⟩, a4, a5, a6, a7, a8, a9⟩, hc, hd, hnu, r1, r2, r3, r4⟩ := h
  refine ⟨⟨by rw [hf _ _ _ (by omega)]; exact a1, by rw [hf _ _ _ (by omega)]; exact a2, ⟨k1, by rw [hf _ _ _ (by omega)]; exact k2, by rw [hf _ _ _ (by omega)]; exact k3, fun k hk => ?_⟩, a4, a5, frX_T hf a6, ?_, fun k hk => ?_, by rw [hf _ _ _ (by omega)]; exact a9⟩, fun f k j hdy => ?_, hd, hnu, r1, by rw [hf _ _ _ (by omega)]; exact r2, fun z => by rw [hf _ _ _ (by omega)]; exact r3 z, fun i i1 i2 => by rw [hf _ _ _ (by omega)]; exact r4 i i1 i2⟩
  · have hn := a4.1
    obtain ⟨⟨t1, t2, t3, t4, t5⟩, f1, f2⟩ := k4 k hk
    refine ⟨⟨by rw [hf _ _ _ (by omega)]; exact t1, by rw [hf _ _ _ (by omega)]; exact t2, by rw [hf _ _ _ (by omega)]; exact t3, by rw [hf _ _ _ (by omega)]; exact t4, fun z => by rw [hf _ _ _ (by omega)]; exact t5 z⟩, by rw [hf _ _ _ (by omega)]; exact f1, fun j hj => ?_⟩
    obtain ⟨g1, g2, g3⟩ := f2 j hj
    exact ⟨by rw [hf _ _ _ (by omega)]; exact g1, by rw [hf _ _ _ (by omega)]; exact g2, by rw [hf _ _ _ (by omega)]; exact g3⟩
  · rw [frX_B hf]; exact a7
  · obtain ⟨b1, b2, b3, b4⟩ := a8 k hk
    have e5 : σ' 5 (12 * (1 - t) + k) 8 = σ 5 (12 * (1 - t) + k) 8 := hf _ _ _ (by omega)
    have e17 : ∀ r, σ' 17 (12 * (1 - t) + k) r = σ 17 (12 * (1 - t) + k) r := fun r => hf _ _ _ (by omega)
    have e16 : ∀ r, σ' 16 (12 * (1 - t) + k) r = σ 16 (12 * (1 - t) + k) r := fun r => hf _ _ _ (by omega)
    rw [e5]
    exact ⟨b1, fun r hr => by rw [e17]; exact b2 r hr, fun p hp => by rw [e16]; exact b3 p hp, fun z r hr => by rw [e17]; exact b4 z r hr⟩
  · rw [← hc f k j hdy]
    refine hf _ _ _ ?_
    unfold dyn at hdy
    unfold trk
    split <;> omega
theorem FrC_X {s : Nat} {σ' σ : Mm} (h : FrX s σ' σ) : FrC σ' σ := fun f k j hf => h f k j (by omega)
theorem c9_read {σ D : Mm} {t n L q : Nat} {S : Sd} {why : Int} (hI : CI t n L S D q why σ) : match readF (tB σ 11 L) with
    | .inl e => ∃ σ', FrC σ' σ ∧ CI t n L S D q why σ' ∧ Ct 80 mX9_read 1 [vR 0 0] NALL σ (some (vI (-100 - e))) NALL σ' 0 0
    | .inr ds => ∃ σ' D', FrC σ' σ ∧ CI (1 - t) ds.length 0 (Sof ds) D' 0 0 σ' ∧ (D' 8 0 1 = 0 ∧ D' 8 1 1 = 0) ∧ (∀ k, k < ds.length → D' 5 k 8 = 0) ∧ Ct 80 mX9_read 1 [vR 0 0] NALL σ (some (vI ds.length)) NALL σ' 0 0 := by
  have hI0 := hI
  obtain ⟨⟨a1, a2, a3, a4, a5, a6, a7, a8, a9⟩, hc, hd, hnu, hrs⟩ := hI
  have ht := a3.1
  have hs : 1 - t < 2 := by omega
  have hn := a4.1
  obtain ⟨r, σ1, ⟨fr, hres⟩, hct⟩ := c_parse a6 a7 hs
  unfold readF
  cases hv : txtF (tK (tB σ 11 L)) (tV (tB σ 11 L)) (tQ (tB σ 11 L)) 12 0 [] (-9) with
  | inl e =>
    rw [hv] at hres
    have hr0 : r = tQ (tB σ 11 L) e := hres
    have hpos : 0 ≤ tQ (tB σ 11 L) e := Int.natCast_nonneg _
    subst hr0
    refine ⟨σ1, FrC_X fr, CI_frX hI0 fr, ?_⟩
    refine ct_of (by decide) (Nat.le_of_ble_eq_true rfl) (fun C h hr _ => ?_)
    have h : Ok C RX9 cX9_read 3 _ := h
    by_cases hbig : tQ (tB σ 11 L) e < 2147483648
    · refine x_aload_n h dX9_read_0 rfl ?_
      refine x_get h fl_9_21 lvz_0 dX9_read_1 (pvf_502 _ _) ?_
      refine x_aload_n h dX9_read_4 rfl ?_
      refine x_get h fl_9_32 lvz_0 dX9_read_5 (pvr a2 ⟨by decide, by decide⟩) ?_
      refine x_cV1 h kVX5_parse lkX9_52 ⟨_, _, _, rfl, rfl⟩ dX9_read_8 (hct) lvz_2 rfl rfl (Nat.le_of_ble_eq_true rfl) (by omega) ?_
      refine x_istore_n h dX9_read_11 (by decide) ?_
      refine x_iload_n h dX9_read_12 rfl ?_
      refine x_bipush h dX9_read_13 (by decide) ?_
      refine x_ic_eq_F (tgt := 23) h (by omega) dX9_read_15 (by decide) (by omega) ?_
      refine x_bipush h dX9_read_18 (by decide) ?_
      refine x_iload_n h dX9_read_20 rfl ?_
      refine x_isub h dX9_read_21 ?_
      exact x_ireturn h hr dX9_read_22 (Or.inl rfl) ⟨Nat.le_refl _, Nat.le_refl _⟩
    · exfalso
      have hb := txtF_q a7 12 0 [] (-9) (tq_0 a7) (Or.inl rfl)
      rw [hv] at hb
      have : tq (tB σ 11 L) e ≤ L := hb
      have hL9 := a6.2
      exact hbig (by show ((tq (tB σ 11 L) e : Nat) : Int) < _; omega)
  | inr y =>
    obtain ⟨ds, nf⟩ := y
    rw [hv] at hres
    obtain ⟨rfl, hT, hD, hpos, hl12⟩ := hres
    show match (if rsA ds ds nf = -9 then (.inr ds : Int ⊕ List TabD) else .inl (rsA ds ds nf)) with | .inl e => _ | .inr ds => _
    by_cases hnf : rsA ds ds nf = -9
    · rw [if_pos hnf]
      obtain ⟨sok, sok2⟩ := Sof_ok a7 hv hD hl12 hnf
      have hn9 : ∀ x : Mm, True := fun _ => trivial
      have hI1 := CI_frX hI0 fr
      obtain ⟨⟨b1, b2, b3, b4, b5, b6, b7, b8, b9⟩, hc1, -, -, -⟩ := hI1
      have et : 1 - (1 - t) = t := by omega
      have hE : ∀ {f k j : Nat}, ¬ (f = 0 ∨ f = 7 ∨ (f = 8 ∧ j = 1) ∨ (f = 1 ∧ j = 1) ∨ ((f = 17 ∨ (f = 5 ∧ j = 8)) ∧ 12 * (1 - t) ≤ k ∧ k < 12 * (1 - t) + 12)) → rdS σ1 t ds.length f k j = σ1 f k j := fun h => rdS_o hl12 h
      refine ⟨rdS σ1 t ds.length, fun f k j => rdS σ1 t ds.length f (trk (1 - t) f k) j, fun f k j hf => ?_, ⟨⟨?_, ?_, ⟨hs, ?_, ?_, fun k hk => ?_⟩, sok, sok2, ⟨rdS_11, by omega⟩, ⟨by omega, fun j hj => absurd hj (Nat.not_lt_zero _), fun j _ => ?_, fun j => tB_r _ _ _ _⟩, fun k hk => ?_, ?_⟩, fun f k j _ => rfl, ⟨fun k hk => ?_, ⟨?_, ?_⟩, fun j hj => ?_⟩, fun k hk => ?_, ?_⟩, ⟨show rdS σ1 t ds.length 8 0 1 = 0 from rdS_81 (by decide), show rdS σ1 t ds.length 8 1 1 = 0 from rdS_81 (by decide)⟩, fun k hk => ?_, ?_⟩
      · rw [hE (by omega)]; exact FrC_X fr f k j hf
      · rw [rdS_0 hl12, up3_j _ _ (by decide), up3_s]
      · rw [rdS_0 hl12, up3_s, et]
      · rw [hE (by omega)]; exact hT.1
      · rw [rdS_7 hl12, if_pos rfl]
      · obtain ⟨⟨t1, t2, t3, t4, t5⟩, f1, f2⟩ := hT.2 k hk
        have e : Sof ds k = ((ds.getD k dz).1, (ds.getD k dz).2.1, (ds.getD k dz).2.2.1, (ds.getD k dz).2.2.2.1, (ds.getD k dz).2.2.2.2.1, (ds.getD k dz).2.2.2.2.2.map (rslv ds)) := by unfold Sof; rw [if_pos hk]
        show TabOk _ _ (Sof ds k) ∧ FormOk _ _ (Sof ds k).2.2.2.2.2
        rw [e]
        refine ⟨⟨by rw [hE (by omega)]; exact t1, by rw [hE (by omega)]; exact t2, by rw [hE (by omega)]; exact t3, by rw [hE (by omega)]; exact t4, fun z => by rw [hE (by omega)]; exact t5 z⟩, by rw [hE (by omega)]; exact f1, fun j hj => ?_⟩
        obtain ⟨g1, g2, g3⟩ := f2 j hj
        exact ⟨by rw [hE (by omega)]; exact g1, by rw [hE (by omega)]; exact g2, by rw [hE (by omega)]; exact g3⟩
      · unfold tB; rw [if_neg (Nat.not_lt_zero _)]
      · rw [et]
        have c5 : rdS σ1 t ds.length 5 (12 * t + k) 8 = D 5 k 8 := by rw [hE (by omega)]; exact HC_5 hc1 hk
        have c17 : ∀ r, r < 25 → rdS σ1 t ds.length 17 (12 * t + k) r = D 17 k r := fun r hr => by rw [hE (by omega)]; exact HC_17 hc1 hk hr
        obtain ⟨w1, w2, w3, w4⟩ := hd.1 k hk
        rw [c5]
        refine ⟨⟨w1.1, w1.2, (hnu k hk).1⟩, fun r hr => by rw [c17 r hr]; exact ⟨(w2 r hr).1, (w2 r hr).2, (hnu k hk).2 r hr⟩, fun p hp => ?_, fun z r hr => by rw [c17 r hr]; exact w4 (Or.inl z) r hr⟩
        rw [hE (by omega), show σ1 16 (12 * t + k) p = D 16 k p from hc1 16 k p (Or.inr (Or.inr (Or.inl ⟨rfl, hk, hp⟩)))]
        exact w3 p hp
      · rw [rdS_7 hl12, if_neg (by decide), if_neg (by decide)]; exact b9
      · obtain ⟨w1, w2, w3, w4⟩ := b8 k hk
        show (0 ≤ rdS σ1 t ds.length 5 (12 * (1 - t) + k) 8 ∧ rdS σ1 t ds.length 5 (12 * (1 - t) + k) 8 ≤ 3) ∧ (∀ r, r < 25 → 0 ≤ rdS σ1 t ds.length 17 (12 * (1 - t) + k) r ∧ rdS σ1 t ds.length 17 (12 * (1 - t) + k) r ≤ 3) ∧ (∀ p, p < 200 → i64 (rdS σ1 t ds.length 16 (12 * (1 - t) + k) p)) ∧ ((rdS σ1 t ds.length 5 (12 * (1 - t) + k) 8 = 0 ∨ sBy (Sof ds) k = 0) → ∀ r, r < 25 → rdS σ1 t ds.length 17 (12 * (1 - t) + k) r = 0)
        rw [rdS_5 hk]
        refine ⟨?_, fun r hr => ?_, fun p hp => ?_, fun z r hr => ?_⟩
        · split <;> omega
        · rw [rdS_17 hr]
          have := w2 r hr
          split <;> omega
        · rw [hE (by omega)]; exact w3 p hp
        · rw [rdS_17 hr]
          by_cases q : k < ds.length
          · rw [if_pos q]
          · rw [if_neg q]
            rw [if_neg q] at z
            refine w4 ?_ r hr
            rcases z with z | z
            · exact z
            · exfalso
              unfold sBy Sof at z
              rw [if_neg q] at z
              exact absurd z (by decide)
      · show 0 ≤ rdS σ1 t ds.length 8 0 1
        rw [rdS_81 (by decide)]; omega
      · show 0 ≤ rdS σ1 t ds.length 8 1 1
        rw [rdS_81 (by decide)]; omega
      · show (-9 ≤ rdS σ1 t ds.length 18 0 j ∧ rdS σ1 t ds.length 18 0 j ≤ 1000) ∧ i64 (rdS σ1 t ds.length 18 1 j) ∧ (j % 4 ≠ 3 → -9 ≤ rdS σ1 t ds.length 18 1 j ∧ rdS σ1 t ds.length 18 1 j ≤ 1000)
        rw [hE (by omega), hE (by omega), HC_18 hc1 (by decide) hj, HC_18 hc1 (by decide) hj]
        exact hd.2.2 j hj
      · obtain ⟨w1, w2, w3, w4⟩ := b8 k hk
        show rdS σ1 t ds.length 5 (12 * (1 - t) + k) 8 ≠ 1 ∧ ∀ r, r < 25 → rdS σ1 t ds.length 17 (12 * (1 - t) + k) r ≠ 1
        rw [rdS_5 hk]
        refine ⟨?_, fun r hr => ?_⟩
        · split <;> omega
        · rw [rdS_17 hr]
          have := w2 r hr
          split <;> omega
      · exact ⟨Nat.zero_le _, by rw [rdS_7 hl12, if_neg (by decide), if_pos (by decide)]; rfl, fun z => absurd z (by omega), fun i i1 i2 => absurd i2 (Nat.not_lt_zero _)⟩
      · show rdS σ1 t ds.length 5 (12 * (1 - t) + k) 8 = 0
        rw [rdS_5 (by omega), if_pos hk]
      · rw [hnf] at hct
        have q4 : up3 (up3 σ1 0 0 3 ((1 - t : Nat) : Int)) 0 0 4 t 4 (1 - t) 1 = ds.length := by rw [up3_f _ _ (by decide), up3_f _ _ (by decide)]; exact hT.1
        have qs := c_xsleep (d := 0) (σ := up3 (up3 σ1 0 0 3 ((1 - t : Nat) : Int)) 0 0 4 t) (t := 1 - t) (n := ds.length) hs q4 hl12
        have z3 : ∀ x : Mm, sleepX (up3 (up3 σ1 0 0 3 ((1 - t : Nat) : Int)) 0 0 4 t) (1 - t) ds.length 0 0 3 = ((1 - t : Nat) : Int) := fun _ => by rw [sleepX_o _ _ _ hl12 (by omega), up3_j _ _ (by decide), up3_s]
        have qfin : rdS σ1 t ds.length 4 (1 - t) 1 = ds.length := by rw [hE (by omega)]; exact hT.1
        have qt3 : rdS σ1 t ds.length 0 0 3 = ((1 - t : Nat) : Int) := by rw [rdS_0 hl12, up3_j _ _ (by decide), up3_s]
        have zo : opS (sleepX (up3 (up3 σ1 0 0 3 ((1 - t : Nat) : Int)) 0 0 4 t) (1 - t) ds.length) (1 - t) 0 0 3 = ((1 - t : Nat) : Int) := by
          unfold opS stS
          rw [up3_f _ _ (by decide), up3_f _ _ (by decide), up3_f _ _ (by decide), up3_f _ _ (by decide), up3_f _ _ (by decide), up3_f _ _ (by decide)]
          exact z3 σ1
        refine ct_of (by decide) (Nat.le_of_ble_eq_true rfl) (fun C h hr _ => ?_)
        have h : Ok C RX9 cX9_read 3 _ := h
        refine x_aload_n h dX9_read_0 rfl ?_
        refine x_get h fl_9_21 lvz_0 dX9_read_1 (pvf_502 _ _) ?_
        refine x_aload_n h dX9_read_4 rfl ?_
        refine x_get h fl_9_32 lvz_0 dX9_read_5 (pvr a2 ⟨by decide, by decide⟩) ?_
        refine x_cV1 h kVX5_parse lkX9_52 ⟨_, _, _, rfl, rfl⟩ dX9_read_8 (hct) lvz_2 rfl rfl (Nat.le_of_ble_eq_true rfl) (by omega) ?_
        refine x_istore_n h dX9_read_11 (by decide) ?_
        refine x_iload_n h dX9_read_12 rfl ?_
        refine x_bipush h dX9_read_13 (by decide) ?_
        refine x_ic_eq_T (tgt := 23) h (by omega) dX9_read_15 (by decide) (by omega) ?_
        refine x_aload_n h dX9_read_23 rfl ?_
        refine x_get h fl_9_28 lvz_0 dX9_read_24 (pvr b1 ⟨by decide, by decide⟩) ?_
        refine x_astore_n h dX9_read_27 (by decide) ?_
        refine x_aload_n h dX9_read_28 rfl ?_
        refine x_aload_n h dX9_read_29 rfl ?_
        refine x_get h fl_9_32 lvz_0 dX9_read_30 (pvr b2 ⟨by decide, by decide⟩) ?_
        refine x_put (x := ((1 - t : Nat) : Int)) h fl_9_28 lvz_0 dX9_read_33 (pvr rfl ⟨by decide, by decide⟩) (fun z => absurd z (by decide)) ?_
        refine x_aload_n h dX9_read_36 rfl ?_
        refine x_aload_n h dX9_read_37 rfl ?_
        refine x_put (x := (t : Int)) h fl_9_32 lvz_0 dX9_read_38 (pvr rfl ⟨by decide, by decide⟩) (fun z => absurd z (by decide)) ?_
        refine x_aload_n h dX9_read_41 rfl ?_
        refine x_get h fl_9_28 lvz_0 dX9_read_42 (pvr (by rw [up3_j _ _ (by decide), up3_s]) ⟨by decide, by decide⟩) ?_
        refine x_cV0 h kVX4_putToSleep lkX9_56 ⟨_, _, _, rfl, rfl⟩ dX9_read_45 (qs) (lvm_4 (by omega)) rfl rfl (Nat.le_of_ble_eq_true rfl) (by omega) ?_
        refine x_aload_n h dX9_read_48 rfl ?_
        refine x_get h fl_9_40 lvz_0 dX9_read_49 (pvf_507 _ _) ?_
        refine x_aload_n h dX9_read_52 rfl ?_
        refine x_get h fl_9_28 lvz_0 dX9_read_53 (pvr (z3 σ1) ⟨by decide, by decide⟩) ?_
        refine x_cV0 h kVX8_open lkX9_59 ⟨_, _, _, rfl, rfl⟩ dX9_read_56 (c_open (d := 0) hs) lvz_7 rfl rfl (Nat.le_of_ble_eq_true rfl) (by omega) ?_
        refine x_aload_n h dX9_read_59 rfl ?_
        refine x_get h fl_9_12 lvz_0 dX9_read_60 (pvf_501 _ _) ?_
        refine x_cV0 h kVX3_empty lkX9_62 ⟨_, _, _, rfl, rfl⟩ dX9_read_63 (c_empty (d := 0)) lvz_1 rfl rfl (Nat.le_of_ble_eq_true rfl) (by omega) ?_
        refine x_aload_n h dX9_read_66 rfl ?_
        refine x_get h fl_9_28 lvz_0 dX9_read_67 (pvr qt3 ⟨by decide, by decide⟩) ?_
        refine x_get (q := vI (ds.length)) h fl_9_65 (lvm_4 (by omega)) dX9_read_70 (congrArg vI (by first | exact qfin | simp [up3, qfin])) ?_
        exact x_ireturn h hr dX9_read_73 (Or.inl rfl) ⟨Nat.le_refl _, Nat.le_refl _⟩
    · rw [if_neg hnf]
      have hr2 := rsA_r (ds := ds) ds (nf := nf) (fun D hm => by
        obtain ⟨k, hk, rfl⟩ := mem_getD hm
        exact hD k hk) (by
        have hb := txtF_q a7 12 0 [] (-9) (tq_0 a7) (Or.inl rfl)
        rw [hv] at hb
        have hb : nfOk nf := hb
        unfold nfOk at hb
        omega)
      refine ⟨σ1, FrC_X fr, CI_frX hI0 fr, ?_⟩
      refine ct_of (by decide) (Nat.le_of_ble_eq_true rfl) (fun C h hr _ => ?_)
      have h : Ok C RX9 cX9_read 3 _ := h
      refine x_aload_n h dX9_read_0 rfl ?_
      refine x_get h fl_9_21 lvz_0 dX9_read_1 (pvf_502 _ _) ?_
      refine x_aload_n h dX9_read_4 rfl ?_
      refine x_get h fl_9_32 lvz_0 dX9_read_5 (pvr a2 ⟨by decide, by decide⟩) ?_
      refine x_cV1 h kVX5_parse lkX9_52 ⟨_, _, _, rfl, rfl⟩ dX9_read_8 (hct) lvz_2 rfl rfl (Nat.le_of_ble_eq_true rfl) (by omega) ?_
      refine x_istore_n h dX9_read_11 (by decide) ?_
      refine x_iload_n h dX9_read_12 rfl ?_
      refine x_bipush h dX9_read_13 (by decide) ?_
      refine x_ic_eq_F (tgt := 23) h (by omega) dX9_read_15 (by decide) (by omega) ?_
      refine x_bipush h dX9_read_18 (by decide) ?_
      refine x_iload_n h dX9_read_20 rfl ?_
      refine x_isub h dX9_read_21 ?_
      exact x_ireturn h hr dX9_read_22 (Or.inl rfl) ⟨Nat.le_refl _, Nat.le_refl _⟩
