/-! one TABLE of a TEXT: the grammar -/
abbrev TabD : Type := Int × Int × Int × Int × Int × List Zs
def nfA (nf x : Int) : Int := if nf = -9 ∨ x < nf then x else nf
def nofD (ds : List TabD) (x : Int) : Int := nof (fun k => (ds.getD k (0, 0, 0, 0, 0, [])).1) x ds.length
def szD (ds : List TabD) (n : Int) : Int := if 0 ≤ n then (ds.getD n.toNat (0, 0, 0, 0, 0, [])).2.1 else 0
def szOp (sign a b : Int) : Int := w64 (if sign = 43 then a + b else if sign = 45 then a - b else a * b)
def szL (K V Q : Nat → Int) (ds : List TabD) : Nat → Nat → Int → Int → Int → Nat ⊕ (Nat × Int × Int)
  | 0, i, _, _, _ => .inl i
  | c + 1, i, acc, sign, nf =>
    if K i = 35 then (if K (i + 1) = 2 then
        (if K (i + 2) = 43 ∨ K (i + 2) = 45 ∨ K (i + 2) = 42 then szL K V Q ds c (i + 3) (szOp sign acc (szD ds (nofD ds (V (i + 1))))) (K (i + 2)) (if nofD ds (V (i + 1)) = -9 then nfA nf (Q (i + 1)) else nf)
         else .inr (i + 2, szOp sign acc (szD ds (nofD ds (V (i + 1)))), if nofD ds (V (i + 1)) = -9 then nfA nf (Q (i + 1)) else nf))
      else .inl (i + 1))
    else if K i = 1 then
        (if K (i + 1) = 43 ∨ K (i + 1) = 45 ∨ K (i + 1) = 42 then szL K V Q ds c (i + 2) (szOp sign acc (V i)) (K (i + 1)) nf
         else .inr (i + 1, szOp sign acc (V i), nf))
    else .inl i
def endF (K V : Nat → Int) (i : Nat) : Nat ⊕ (Nat × Int × Int) :=
  if K i = 7 then (if K (i + 1) = 45 then (if K (i + 2) = 1 then (if K (i + 3) = 59 then .inr (i + 4, 1, -V (i + 2)) else .inl (i + 3)) else .inl (i + 2))
    else (if K (i + 1) = 1 then (if K (i + 2) = 59 then .inr (i + 3, 1, V (i + 1)) else .inl (i + 2)) else .inl (i + 1)))
  else if K i = 59 then .inr (i + 1, 0, 0) else .inl i
def bodyF (K V Q : Nat → Int) (i4 : Nat) (nm size nf2 : Int) : Nat ⊕ (Nat × TabD × Int) :=
  if K i4 = 93 then (if K (i4 + 1) = 6 ∨ K (i4 + 1) = 5 then (if K (i4 + 2) = 61 then
    (match sumF K (uF K V Q 11) 0 (i4 + 3) with
      | .inl e => .inl e
      | .inr (i5, _, code) => match endF K V i5 with
        | .inl e => .inl e
        | .inr (i6, ip, pr) => .inr (i6, (nm, size, (if K (i4 + 1) = 6 then 1 else 0), ip, pr, code), nf2))
    else .inl (i4 + 2)) else .inl (i4 + 1)) else .inl i4
def tabF (K V Q : Nat → Int) (ds : List TabD) (nf : Int) (i : Nat) : Nat ⊕ (Nat × TabD × Int) :=
  if K i = 4 then (if K (i + 1) = 2 then (if K (i + 2) = 91 then
    (match szL K V Q ds 8 (i + 3) 0 43 (if nofD ds (V (i + 1)) ≠ -9 then nfA nf (Q (i + 1)) else nf) with
      | .inl e => .inl e
      | .inr (i4, size, nf2) => bodyF K V Q i4 (V (i + 1)) size nf2)
    else .inl (i + 2)) else .inl (i + 1)) else .inl i
theorem nofR_ext {g g' : Nat → Int} {x : Int} : ∀ (c k : Nat), (∀ j, k ≤ j → j < k + c → g j = g' j) → nofR g x c k = nofR g' x c k := by
  intro c
  induction c with
  | zero => intro k _; rfl
  | succ c ih =>
    intro k h
    unfold nofR
    rw [h k (Nat.le_refl _) (by omega), ih (k + 1) (fun j h1 h2 => h j (by omega) (by omega))]
theorem nof_ext {g g' : Nat → Int} {x : Int} {n : Nat} (h : ∀ j, j < n → g j = g' j) : nof g x n = nof g' x n := nofR_ext n 0 (fun j _ h2 => h j (by omega))
theorem nofR_r (g : Nat → Int) (x : Int) : ∀ (c k : Nat), nofR g x c k = -9 ∨ ∃ j : Nat, nofR g x c k = j ∧ k ≤ j ∧ j < k + c ∧ g j = x := by
  intro c
  induction c with
  | zero => intro k; exact Or.inl rfl
  | succ c ih =>
    intro k
    unfold nofR
    split
    · next h => exact Or.inr ⟨k, rfl, Nat.le_refl _, by omega, h⟩
    · rcases ih (k + 1) with h | ⟨j, h1, h2, h3, h4⟩
      · exact Or.inl h
      · exact Or.inr ⟨j, h1, by omega, by omega, h4⟩
theorem nof_r (g : Nat → Int) (x : Int) (n : Nat) : nof g x n = -9 ∨ ∃ j : Nat, nof g x n = j ∧ j < n ∧ g j = x := by
  rcases nofR_r g x n 0 with h | ⟨j, h1, h2, h3, h4⟩
  · exact Or.inl h
  · exact Or.inr ⟨j, h1, by omega, h4⟩
/-- the told TABLES stand in the spare TEXT s -/
def TabOk (σ : Mm) (m : Nat) (D : TabD) : Prop := σ 5 m 3 = D.1 ∧ σ 5 m 4 = D.2.1 ∧ σ 5 m 5 = D.2.2.1 ∧ σ 5 m 6 = D.2.2.2.1 ∧ (D.2.2.2.1 = 1 → σ 5 m 7 = D.2.2.2.2.1)
def FormOk (σ : Mm) (m : Nat) (ss : List Zs) : Prop := σ 6 m 3 = ss.length ∧ ∀ j, j < ss.length → σ 13 m j = (ss.getD j (0, 0, 0)).1 ∧ σ 14 m j = (ss.getD j (0, 0, 0)).2.1 ∧ σ 15 m j = (ss.getD j (0, 0, 0)).2.2
def Told (σ : Mm) (s : Nat) (ds : List TabD) : Prop := σ 4 s 1 = ds.length ∧ ∀ k, k < ds.length → TabOk σ (12 * s + k) (ds.getD k (0, 0, 0, 0, 0, [])) ∧ FormOk σ (12 * s + k) (ds.getD k (0, 0, 0, 0, 0, [])).2.2.2.2.2
def i64 (x : Int) : Prop := -9223372036854775808 ≤ x ∧ x < 9223372036854775808
def DsOk (ds : List TabD) : Prop := ds.length ≤ 12 ∧ ∀ k, k < ds.length → i64 (ds.getD k (0, 0, 0, 0, 0, [])).1 ∧ i64 (ds.getD k (0, 0, 0, 0, 0, [])).2.1
theorem tkV_le {B : Nat → Int} {q : Nat} (h : tkK B q = 2) : i64 (tkV B q) := by
  unfold tkK at h
  unfold tkV
  by_cases hd : isDg (B q) = true
  · rw [if_pos hd] at h
    split at h <;> omega
  · rw [if_neg hd] at h ⊢
    by_cases hl : isLe (B q) = true
    · rw [if_pos hl]
      exact letV_r _ _ _
    · rw [if_neg hl]
      exact ⟨by decide, by decide⟩
/-- memory elsewhere -/
theorem psS_up {σ : Mm} {L m i u : Nat} {ss : List Zs} {f k j : Nat} {x : Int} (h3 : f ≠ 3) (h11 : f ≠ 11) (h2 : ¬ (f = 2 ∧ j = 2)) (hm : ¬ (k = m ∧ (f = 6 ∨ f = 13 ∨ f = 14 ∨ f = 15))) : up3 (psS σ L m i u ss) f k j x = psS (up3 σ f k j x) L m i u ss := by
  have hB : tB (up3 σ f k j x) 11 L = tB σ 11 L := by
    funext q
    unfold tB
    rw [up3_f _ _ (Ne.symm h11)]
  unfold psS
  rw [hB]
  generalize ((tkE (tB σ 11 L) (tq (tB σ 11 L) i) : Nat) : Int) = a
  generalize tK (tB σ 11 L) i = b
  generalize tQ (tB σ 11 L) i = c
  generalize tV (tB σ 11 L) i = v
  funext f' k' j'
  by_cases h : f' = f ∧ k' = k ∧ j' = j
  · obtain ⟨rfl, rfl, rfl⟩ := h
    rw [up3_s, psT_f _ _ _ _ _ _ _ _ h3 h2 hm, up3_s]
  · have e : up3 (psT σ m a b c v u ss) f k j x f' k' j' = psT σ m a b c v u ss f' k' j' := by unfold up3; rw [if_neg h]
    rw [e]
    unfold psT lsS
    by_cases g2 : f' = 2 ∧ k' = 0 ∧ j' = 2
    · unfold up3; rw [if_pos g2, if_pos g2]
    · have e1 : ∀ τ : Mm, up3 τ 2 0 2 (u : Int) f' k' j' = τ f' k' j' := fun τ => by unfold up3; rw [if_neg g2]
      rw [e1, e1]
      have e2 : tkS (up3 σ f k j x) a b c v f' k' j' = tkS σ a b c v f' k' j' := by
        by_cases h3' : f' = 3
        · subst h3'
          unfold tkS up3
          have : ¬ (3 = f ∧ k' = k ∧ j' = j) := h
          simp [this]
        · rw [tkS_f _ _ _ _ _ h3', tkS_f _ _ _ _ _ h3']
          unfold up3
          rw [if_neg h]
      show (if _ then _ else if _ then _ else if _ then _ else if _ then _ else tkS σ a b c v f' k' j') = (if _ then _ else if _ then _ else if _ then _ else if _ then _ else tkS (up3 σ f k j x) a b c v f' k' j')
      rw [e2]
theorem up3_id (σ : Mm) (f k j : Nat) : up3 σ f k j (σ f k j) = σ := by
  funext f' k' j'
  unfold up3
  split
  · next h => obtain ⟨rfl, rfl, rfl⟩ := h; rfl
  · rfl
theorem psS_nf {σ : Mm} {L m i u : Nat} {ss : List Zs} {x : Int} : up3 (psS σ L m i u ss) 2 0 4 x = psS (up3 σ 2 0 4 x) L m i u ss := psS_up (by decide) (by decide) (by omega) (by omega)
theorem psS_r24 {σ : Mm} {L m i u : Nat} {ss : List Zs} : psS σ L m i u ss 2 0 4 = σ 2 0 4 := by unfold psS; exact psT_f _ _ _ _ _ _ _ _ (by decide) (by omega) (by omega)
/-- a name is missing, or told again -/
theorem c_pnote {d : Nat} {σ : Mm} {L m i u : Nat} {ss : List Zs} {x nf : Int} (hnf : σ 2 0 4 = nf) (hx : -2147483648 ≤ x ∧ x < 2147483648) (hnf2 : -2147483648 ≤ nf ∧ nf < 2147483648) : Ct d mX5_noteNameFault 1 [vR 2 0, vI x] NALL (psS σ L m i u ss) none NALL (psS (up3 σ 2 0 4 (nfA nf x)) L m i u ss) 0 0 := by
  have hc := c_note_0 (d := d) (σ := psS σ L m i u ss) (x := x) (y := nf) (psS_r24.trans hnf) hx hnf2
  have e : (if nf = -9 ∨ x < nf then up3 (psS σ L m i u ss) 2 0 4 x else psS σ L m i u ss) = psS (up3 σ 2 0 4 (nfA nf x)) L m i u ss := by
    unfold nfA
    split
    · rw [psS_nf]
    · rw [← hnf, up3_id]
  rw [e] at hc
  exact hc
