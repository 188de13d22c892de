/-! memory while a TEXT is read: at TOKEN i, u UNITS so far, the steps ss in Formula m -/
def lsS (σ : Mm) (m : Nat) (ss : List Zs) : Mm := fun f k j =>
  if k = m ∧ f = 13 ∧ j < ss.length then (ss.getD j (0, 0, 0)).1
  else if k = m ∧ f = 14 ∧ j < ss.length then (ss.getD j (0, 0, 0)).2.1
  else if k = m ∧ f = 15 ∧ j < ss.length then (ss.getD j (0, 0, 0)).2.2
  else if k = m ∧ f = 6 ∧ j = 3 then (ss.length : Int)
  else σ f k j
def psT (σ : Mm) (m : Nat) (a b c v : Int) (u : Int) (ss : List Zs) : Mm := up3 (lsS (tkS σ a b c v) m ss) 2 0 2 u
theorem lsS_tk (σ : Mm) (m : Nat) (a b c v : Int) (ss : List Zs) : lsS (tkS σ a b c v) m ss = tkS (lsS σ m ss) a b c v := by
  funext f k j
  by_cases h : f = 3
  · subst h
    unfold lsS tkS up3
    simp
  · rw [tkS_f _ _ _ _ _ h]
    unfold lsS
    rw [tkS_f _ _ _ _ _ h]
theorem psT_tk (σ : Mm) (m : Nat) (a b c v a' b' c' v' u : Int) (ss : List Zs) : tkS (psT σ m a b c v u ss) a' b' c' v' = psT σ m a' b' c' v' u ss := by
  unfold psT
  rw [lsS_tk, lsS_tk]
  funext f k j
  by_cases h : f = 3
  · subst h
    unfold tkS up3
    simp
    by_cases h4 : k = 0 ∧ j = 4
    · simp [h4]
    by_cases h3 : k = 0 ∧ j = 3
    · simp [h3]
    by_cases h2 : k = 0 ∧ j = 2
    · simp [h2]
    by_cases h1 : k = 0 ∧ j = 1
    · simp [h1]
    simp [h1, h2, h3, h4]
  · rw [tkS_f _ _ _ _ _ h]
    by_cases h2 : f = 2 ∧ k = 0 ∧ j = 2
    · unfold up3; rw [if_pos h2, if_pos h2]
    · unfold up3; rw [if_neg h2, if_neg h2, tkS_f _ _ _ _ _ h, tkS_f _ _ _ _ _ h]
theorem psT_u (σ : Mm) (m : Nat) (a b c v u x : Int) (ss : List Zs) : up3 (psT σ m a b c v u ss) 2 0 2 x = psT σ m a b c v x ss := by
  funext f k j
  unfold psT up3
  by_cases h2 : f = 2 ∧ k = 0 ∧ j = 2
  · rw [if_pos h2, if_pos h2]
  · rw [if_neg h2, if_neg h2, if_neg h2]
theorem psT_f (σ : Mm) (m : Nat) (a b c v u : Int) (ss : List Zs) {f k j : Nat} (h3 : f ≠ 3) (h2 : ¬ (f = 2 ∧ j = 2)) (hm : ¬ (k = m ∧ (f = 6 ∨ f = 13 ∨ f = 14 ∨ f = 15))) : psT σ m a b c v u ss f k j = σ f k j := by
  unfold psT up3 lsS
  rw [if_neg (by omega), if_neg (by omega), if_neg (by omega), if_neg (by omega), if_neg (by omega), tkS_f _ _ _ _ _ h3]
theorem psT_3 (σ : Mm) (m : Nat) (a b c v u : Int) (ss : List Zs) (k j : Nat) : psT σ m a b c v u ss 3 k j = tkS σ a b c v 3 k j := by
  unfold psT up3 lsS
  rw [if_neg (by omega), if_neg (by omega), if_neg (by omega), if_neg (by omega), if_neg (by omega)]
theorem psT_r2 (σ : Mm) (m : Nat) (a b c v u : Int) (ss : List Zs) : psT σ m a b c v u ss 2 0 2 = u := by
  unfold psT up3
  rw [if_pos ⟨rfl, rfl, rfl⟩]
theorem psT_len (σ : Mm) (m : Nat) (a b c v u : Int) (ss : List Zs) : psT σ m a b c v u ss 6 m 3 = ss.length := by
  unfold psT up3 lsS
  rw [if_neg (by omega), if_neg (by omega), if_neg (by omega), if_neg (by omega), if_pos ⟨rfl, rfl, rfl⟩]
theorem psT_B (σ : Mm) (m : Nat) (a b c v u : Int) (ss : List Zs) (L : Nat) : tB (psT σ m a b c v u ss) 11 L = tB σ 11 L := by
  funext j
  unfold tB
  rw [psT_f _ _ _ _ _ _ _ _ (by decide) (by omega) (by omega)]
theorem psT_add (σ : Mm) (m : Nat) (a b c v u : Int) (ss : List Zs) (x y z : Int) : addS (psT σ m a b c v u ss) m ss.length x y z = psT σ m a b c v u (ss ++ [(x, y, z)]) := by
  have g0 : ∀ j, j < ss.length → (ss ++ [(x, y, z)]).getD j (0, 0, 0) = ss.getD j (0, 0, 0) := fun j h => by
    rw [List.getD_eq_getElem?_getD, List.getD_eq_getElem?_getD, List.getElem?_append_left h]
  have g1 : (ss ++ [(x, y, z)]).getD ss.length (0, 0, 0) = (x, y, z) := by
    rw [List.getD_eq_getElem?_getD, List.getElem?_append_right (Nat.le_refl _), Nat.sub_self]
    rfl
  have gl : (ss ++ [(x, y, z)]).length = ss.length + 1 := by simp
  funext f k j
  unfold addS psT up3 lsS
  rw [gl]
  by_cases h2 : f = 2 ∧ k = 0 ∧ j = 2
  · rw [if_neg (by omega), if_neg (by omega), if_neg (by omega), if_neg (by omega), if_pos h2, if_pos h2]
  rw [if_neg h2, if_neg h2]
  by_cases hm : k = m
  · subst hm
    by_cases f13 : f = 13
    · subst f13
      rcases Nat.lt_trichotomy j ss.length with h | h | h
      · rw [if_neg (by omega), if_neg (by omega), if_neg (by omega), if_neg (by omega), if_pos ⟨rfl, rfl, h⟩, if_pos ⟨rfl, rfl, by omega⟩, g0 j h]
      · subst h
        rw [if_neg (by omega), if_neg (by omega), if_neg (by omega), if_pos ⟨rfl, rfl, rfl⟩, if_pos ⟨rfl, rfl, by omega⟩, g1]
      · rw [if_neg (by omega), if_neg (by omega), if_neg (by omega), if_neg (by omega), if_neg (by omega), if_neg (by omega), if_neg (by omega), if_neg (by omega), if_neg (by omega), if_neg (by omega), if_neg (by omega), if_neg (by omega)]
    by_cases f14 : f = 14
    · subst f14
      rcases Nat.lt_trichotomy j ss.length with h | h | h
      · rw [if_neg (by omega), if_neg (by omega), if_neg (by omega), if_neg (by omega), if_neg (by omega), if_pos ⟨rfl, rfl, h⟩, if_neg (by omega), if_pos ⟨rfl, rfl, by omega⟩, g0 j h]
      · subst h
        rw [if_neg (by omega), if_neg (by omega), if_pos ⟨rfl, rfl, rfl⟩, if_neg (by omega), if_pos ⟨rfl, rfl, by omega⟩, g1]
      · rw [if_neg (by omega), if_neg (by omega), if_neg (by omega), if_neg (by omega), if_neg (by omega), if_neg (by omega), if_neg (by omega), if_neg (by omega), if_neg (by omega), if_neg (by omega), if_neg (by omega), if_neg (by omega)]
    by_cases f15 : f = 15
    · subst f15
      rcases Nat.lt_trichotomy j ss.length with h | h | h
      · rw [if_neg (by omega), if_neg (by omega), if_neg (by omega), if_neg (by omega), if_neg (by omega), if_neg (by omega), if_pos ⟨rfl, rfl, h⟩, if_neg (by omega), if_neg (by omega), if_pos ⟨rfl, rfl, by omega⟩, g0 j h]
      · subst h
        rw [if_neg (by omega), if_pos ⟨rfl, rfl, rfl⟩, if_neg (by omega), if_neg (by omega), if_pos ⟨rfl, rfl, by omega⟩, g1]
      · rw [if_neg (by omega), if_neg (by omega), if_neg (by omega), if_neg (by omega), if_neg (by omega), if_neg (by omega), if_neg (by omega), if_neg (by omega), if_neg (by omega), if_neg (by omega), if_neg (by omega), if_neg (by omega)]
    by_cases f6 : f = 6 ∧ j = 3
    · obtain ⟨rfl, rfl⟩ := f6
      rw [if_pos ⟨rfl, rfl, rfl⟩, if_neg (by omega), if_neg (by omega), if_neg (by omega), if_pos ⟨rfl, rfl, rfl⟩]
      push_cast
      rfl
    rw [if_neg (by omega), if_neg (by omega), if_neg (by omega), if_neg (by omega), if_neg (by omega), if_neg (by omega), if_neg (by omega), if_neg (by omega), if_neg (by omega), if_neg (by omega), if_neg (by omega), if_neg (by omega)]
  · rw [if_neg (by omega), if_neg (by omega), if_neg (by omega), if_neg (by omega), if_neg (by omega), if_neg (by omega), if_neg (by omega), if_neg (by omega), if_neg (by omega), if_neg (by omega), if_neg (by omega), if_neg (by omega)]
theorem psT_set (σ : Mm) (m : Nat) (a b c v u : Int) (s1 s2 : List Zs) (x y z y' : Int) : up3 (psT σ m a b c v u (s1 ++ [(x, y, z)] ++ s2)) 14 m s1.length y' = psT σ m a b c v u (s1 ++ [(x, y', z)] ++ s2) := by
  have gl : (s1 ++ [(x, y, z)] ++ s2).length = (s1 ++ [(x, y', z)] ++ s2).length := by simp
  have g0 : ∀ j, j ≠ s1.length → (s1 ++ [(x, y, z)] ++ s2).getD j (0, 0, 0) = (s1 ++ [(x, y', z)] ++ s2).getD j (0, 0, 0) := fun j h => by
    rw [List.getD_eq_getElem?_getD, List.getD_eq_getElem?_getD]
    congr 1
    rw [List.append_assoc, List.append_assoc]
    rcases Nat.lt_or_ge j s1.length with q | q
    · rw [List.getElem?_append_left q, List.getElem?_append_left q]
    · rw [List.getElem?_append_right q, List.getElem?_append_right q]
      obtain ⟨t, ht⟩ : ∃ t, j - s1.length = t + 1 := ⟨j - s1.length - 1, by omega⟩
      rw [ht]
      rfl
  have g1 : ∀ w : Int, (s1 ++ [(x, w, z)] ++ s2).getD s1.length (0, 0, 0) = (x, w, z) := fun w => by
    rw [List.getD_eq_getElem?_getD, List.append_assoc, List.getElem?_append_right (Nat.le_refl _), Nat.sub_self]
    rfl
  have hlt : s1.length < (s1 ++ [(x, y', z)] ++ s2).length := by simp
  funext f k j
  unfold psT up3 lsS
  rw [gl]
  by_cases h : f = 14 ∧ k = m ∧ j = s1.length
  · obtain ⟨rfl, rfl, rfl⟩ := h
    rw [if_pos ⟨rfl, rfl, rfl⟩, if_neg (by omega), if_neg (by omega), if_pos ⟨rfl, rfl, hlt⟩, g1]
  · rw [if_neg h]
    by_cases hj : j = s1.length
    · subst hj
      rw [g1, g1]
      by_cases h14 : k = m ∧ f = 14
      · exact absurd ⟨h14.2, h14.1, rfl⟩ h
      · rw [if_neg (c := k = m ∧ f = 14 ∧ _) (by omega), if_neg (c := k = m ∧ f = 14 ∧ _) (by omega)]
    · rw [g0 j hj]
theorem psT_14 (σ : Mm) (m : Nat) (a b c v u : Int) (ss : List Zs) (j : Nat) (h : j < ss.length) : psT σ m a b c v u ss 14 m j = (ss.getD j (0, 0, 0)).2.1 := by
  unfold psT up3 lsS
  rw [if_neg (by omega), if_neg (by omega), if_pos ⟨rfl, rfl, h⟩]
/-- at a TOKEN of the tape's bytes -/
def psS (σ : Mm) (L m i u : Nat) (ss : List Zs) : Mm := psT σ m (tkE (tB σ 11 L) (tq (tB σ 11 L) i)) (tK (tB σ 11 L) i) (tQ (tB σ 11 L) i) (tV (tB σ 11 L) i) u ss
theorem psS_next (σ : Mm) (L m i u : Nat) (ss : List Zs) : psS σ L m i u ss 3 0 1 = tkE (tB σ 11 L) (tq (tB σ 11 L) i) := by unfold psS; rw [psT_3, tkS_r1]
theorem psS_kind (σ : Mm) (L m i u : Nat) (ss : List Zs) : psS σ L m i u ss 3 0 2 = tK (tB σ 11 L) i := by unfold psS; rw [psT_3, tkS_r2]
theorem psS_place (σ : Mm) (L m i u : Nat) (ss : List Zs) : psS σ L m i u ss 3 0 3 = tQ (tB σ 11 L) i := by unfold psS; rw [psT_3, tkS_r3]
theorem psS_value (σ : Mm) (L m i u : Nat) (ss : List Zs) : psS σ L m i u ss 3 0 4 = tV (tB σ 11 L) i := by unfold psS; rw [psT_3, tkS_r4]
theorem psS_adv (σ : Mm) (L m i u : Nat) (ss : List Zs) : advS (psS σ L m i u ss) L (tkE (tB σ 11 L) (tq (tB σ 11 L) i)) = psS σ L m (i + 1) u ss := by
  unfold advS psS
  rw [psT_B, psT_tk]
  rfl
theorem psS_tape {σ : Mm} {L : Nat} (h : TapeL σ L) (m i u : Nat) (ss : List Zs) : TapeL (psS σ L m i u ss) L := by
  refine ⟨?_, h.2⟩
  unfold psS
  rw [psT_f _ _ _ _ _ _ _ _ (by decide) (by omega) (by omega)]
  exact h.1
theorem c_padv {d : Nat} {σ : Mm} {L m i u : Nat} {ss : List Zs} (hL : TapeL σ L) (hB : BOk (tB σ 11 L) L) (hi : tq (tB σ 11 L) i ≤ L) (hk : tK (tB σ 11 L) i ≠ 0) : Ct (d + 2) mX6_advance 1 [vR 3 0] NALL (psS σ L m i u ss) none NALL (psS σ L m (i + 1) u ss) 0 0 := by
  have h := c_advance (d := d) (p := tkE (tB σ 11 L) (tq (tB σ 11 L) i)) (psS_tape hL m i u ss) (tkE_le hB hi hk).1 (psS_next σ L m i u ss)
  rw [psS_adv] at h
  exact h
