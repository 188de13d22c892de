/-! the grammar of a SUM over a row of TOKENS: kinds K, worths V, places Q -/
abbrev Zs : Type := Int × Int × Int
abbrev PR : Type := Nat ⊕ (Nat × Nat × List Zs)
def bindR (r : PR) (f : Nat → Nat → List Zs → PR) : PR := match r with
  | .inl e => .inl e
  | .inr (i, u, s) => f i u s
def needR (K : Nat → Int) (k : Int) (i u : Nat) (s : List Zs) : PR := if K i = k then .inr (i + 1, u, s) else .inl i
def prodL (K : Nat → Int) (un : Nat → Nat → PR) : Nat → Nat → Nat → List Zs → PR
  | 0, i, u, s => .inr (i, u, s)
  | c + 1, i, u, s => if K i = 42 ∨ K i = 47 ∨ K i = 37 then bindR (un u (i + 1)) (fun i' u' s' => prodL K un c i' u' (s ++ s' ++ [(K i, 0, -9)])) else .inr (i, u, s)
def prodF (K : Nat → Int) (un : Nat → Nat → PR) (u i : Nat) : PR := bindR (un u i) (fun i' u' s => prodL K un 900 i' u' s)
def sumL (K : Nat → Int) (un : Nat → Nat → PR) : Nat → Nat → Nat → List Zs → PR
  | 0, i, u, s => .inr (i, u, s)
  | c + 1, i, u, s => if K i = 43 ∨ K i = 45 then bindR (prodF K un u (i + 1)) (fun i' u' s' => sumL K un c i' u' (s ++ s' ++ [(K i, 0, -9)])) else .inr (i, u, s)
def sumF (K : Nat → Int) (un : Nat → Nat → PR) (u i : Nat) : PR := bindR (prodF K un u i) (fun i' u' s => sumL K un 900 i' u' s)
def entF (K V Q : Nat → Int) (S : Nat → Nat → PR) (u i : Nat) : PR := if K (i + 1) = 91 then bindR (S u (i + 2)) (fun i' u' s => needR K 93 i' u' (s ++ [(3, V i, Q i)])) else .inl (i + 1)
/-- ahead of '?' : the SUM behind '?', then the one behind ':' -/
def choiF (K : Nat → Int) (S : Nat → Nat → PR) (u i : Nat) : PR := bindR (S u (i + 1)) (fun i1 u1 s1 => if K i1 = 58 then bindR (S u1 (i1 + 1)) (fun i2 u2 s2 => .inr (i2, u2, [(6, (s1.length : Int) + 1, -9)] ++ s1 ++ [(5, (s2.length : Int), -9)] ++ s2)) else .inl i1)
def grpF (K : Nat → Int) (S : Nat → Nat → PR) (u i : Nat) : PR := bindR (S u (i + 1)) (fun i0 u0 s0 =>
      if K i0 = 60 then bindR (S u0 (i0 + 1)) (fun i1 u1 s1 => needR K 41 i1 u1 (s0 ++ s1 ++ [(60, 0, -9)]))
      else if K i0 = 63 then bindR (choiF K S u0 i0) (fun i2 u2 s => needR K 41 i2 u2 (s0 ++ s))
      else needR K 41 i0 u0 s0)
def uF (K V Q : Nat → Int) : Nat → Nat → Nat → PR
  | 0, _, i => .inl i
  | δ + 1, u, i => if 24 ≤ u then .inl i
    else if K i = 1 then .inr (i + 1, u + 1, [(0, V i, -9)])
    else if K i = 8 then .inr (i + 1, u + 1, [(1, 0, -9)])
    else if K i = 35 then needR K 2 (i + 1) (u + 1) [(2, V (i + 1), Q (i + 1))]
    else if K i = 2 then entF K V Q (sumF K (uF K V Q δ)) (u + 1) i
    else if K i = 45 then bindR (uF K V Q δ (u + 1) (i + 1)) (fun i' u' s => .inr (i', u', s ++ [(4, 0, -9)]))
    else if K i = 40 then grpF K (sumF K (uF K V Q δ)) (u + 1) i
    else .inl i
/-- what is always so of an answer -/
def PB (u : Nat) : PR → Prop
  | .inl _ => True
  | .inr (_, u', s) => u < u' ∧ u' ≤ 24 ∧ s.length + 1 ≤ 2 * (u' - u)
def PU (un : Nat → Nat → PR) : Prop := ∀ u i, PB u (un u i)
theorem prodL_b {K : Nat → Int} {un : Nat → Nat → PR} (h : PU un) {u0 : Nat} : ∀ (c i u : Nat) (s : List Zs), u0 < u → u ≤ 24 → s.length + 1 ≤ 2 * (u - u0) → PB u0 (prodL K un c i u s) := by
  intro c
  induction c with
  | zero => intro i u s h1 h2 h3; exact ⟨h1, h2, h3⟩
  | succ c ih =>
    intro i u s h1 h2 h3
    unfold prodL
    split
    · have hu := h u (i + 1)
      cases hr : un u (i + 1) with
      | inl e => trivial
      | inr t =>
        obtain ⟨i', u', s'⟩ := t
        rw [hr] at hu
        obtain ⟨g1, g2, g3⟩ := hu
        exact ih i' u' _ (by omega) g2 (by simp only [List.length_append, List.length_cons, List.length_nil]; omega)
    · exact ⟨h1, h2, h3⟩
theorem prodF_b {K : Nat → Int} {un : Nat → Nat → PR} (h : PU un) : PU (prodF K un) := by
  intro u i
  unfold prodF
  have hu := h u i
  cases hr : un u i with
  | inl e => trivial
  | inr t =>
    obtain ⟨i', u', s'⟩ := t
    rw [hr] at hu
    exact prodL_b h 900 i' u' s' hu.1 hu.2.1 hu.2.2
theorem sumL_b {K : Nat → Int} {un : Nat → Nat → PR} (h : PU un) {u0 : Nat} : ∀ (c i u : Nat) (s : List Zs), u0 < u → u ≤ 24 → s.length + 1 ≤ 2 * (u - u0) → PB u0 (sumL K un c i u s) := by
  intro c
  induction c with
  | zero => intro i u s h1 h2 h3; exact ⟨h1, h2, h3⟩
  | succ c ih =>
    intro i u s h1 h2 h3
    unfold sumL
    split
    · have hu := prodF_b (K := K) h u (i + 1)
      cases hr : prodF K un u (i + 1) with
      | inl e => trivial
      | inr t =>
        obtain ⟨i', u', s'⟩ := t
        rw [hr] at hu
        obtain ⟨g1, g2, g3⟩ := hu
        exact ih i' u' _ (by omega) g2 (by simp only [List.length_append, List.length_cons, List.length_nil]; omega)
    · exact ⟨h1, h2, h3⟩
theorem sumF_b {K : Nat → Int} {un : Nat → Nat → PR} (h : PU un) : PU (sumF K un) := by
  intro u i
  unfold sumF
  have hu := prodF_b (K := K) h u i
  cases hr : prodF K un u i with
  | inl e => trivial
  | inr t =>
    obtain ⟨i', u', s'⟩ := t
    rw [hr] at hu
    exact sumL_b h 900 i' u' s' hu.1 hu.2.1 hu.2.2
theorem bindR_b {u u1 : Nat} {r : PR} {f : Nat → Nat → List Zs → PR} (hr : PB u1 r) (hf : ∀ i u' s, u1 < u' → u' ≤ 24 → s.length + 1 ≤ 2 * (u' - u1) → PB u (f i u' s)) : PB u (bindR r f) := by
  cases r with
  | inl e => trivial
  | inr t =>
    obtain ⟨i', u', s'⟩ := t
    exact hf i' u' s' hr.1 hr.2.1 hr.2.2
theorem needR_b {K : Nat → Int} {k : Int} {i u u' : Nat} {s : List Zs} (h : u < u' ∧ u' ≤ 24 ∧ s.length + 1 ≤ 2 * (u' - u)) : PB u (needR K k i u' s) := by
  unfold needR
  split
  · exact h
  · trivial
theorem choiF_b {K : Nat → Int} {S : Nat → Nat → PR} (hs : PU S) (u i : Nat) {i' u' : Nat} {s : List Zs} (h : choiF K S u i = .inr (i', u', s)) : u < u' ∧ u' ≤ 24 ∧ s.length ≤ 2 * (u' - u) := by
  unfold choiF at h
  have h1 := hs u (i + 1)
  cases hv : S u (i + 1) with
  | inl e => rw [hv] at h; cases h
  | inr t =>
    obtain ⟨i1, u1, s1⟩ := t
    rw [hv] at h h1
    have h : (if K i1 = 58 then bindR (S u1 (i1 + 1)) (fun i2 u2 s2 => (.inr (i2, u2, [(6, (s1.length : Int) + 1, -9)] ++ s1 ++ [(5, (s2.length : Int), -9)] ++ s2) : PR)) else .inl i1) = .inr (i', u', s) := h
    split at h
    · have h2 := hs u1 (i1 + 1)
      cases hv2 : S u1 (i1 + 1) with
      | inl e => rw [hv2] at h; cases h
      | inr t =>
        obtain ⟨i2, u2, s2⟩ := t
        rw [hv2] at h h2
        cases h
        obtain ⟨a1, a2, a3⟩ := h1
        obtain ⟨b1, b2, b3⟩ := h2
        refine ⟨by omega, b2, ?_⟩
        simp only [List.length_append, List.length_cons, List.length_nil]
        omega
    · cases h
theorem uF_b (K V Q : Nat → Int) : ∀ δ, PU (uF K V Q δ) := by
  intro δ
  induction δ with
  | zero => intro u i; trivial
  | succ δ ih =>
    have hs := sumF_b (K := K) ih
    intro u i
    unfold uF
    split
    · trivial
    split
    · exact ⟨by omega, by omega, by simp <;> omega⟩
    split
    · exact ⟨by omega, by omega, by simp <;> omega⟩
    split
    · exact needR_b ⟨by omega, by omega, by simp <;> omega⟩
    split
    · unfold entF
      split
      · exact bindR_b (hs _ _) (fun i' u' s h1 h2 h3 => needR_b ⟨by omega, by omega, by simp only [List.length_append, List.length_cons, List.length_nil]; omega⟩)
      · trivial
    split
    · exact bindR_b (ih _ _) (fun i' u' s h1 h2 h3 => ⟨by omega, by omega, by simp only [List.length_append, List.length_cons, List.length_nil]; omega⟩)
    split
    · unfold grpF
      refine bindR_b (hs _ _) (fun i0 u0 s0 h1 h2 h3 => ?_)
      split
      · exact bindR_b (hs _ _) (fun i' u' s h4 h5 h6 => needR_b ⟨by omega, by omega, by simp only [List.length_append, List.length_cons, List.length_nil]; omega⟩)
      split
      · cases hc : choiF K (sumF K (uF K V Q δ)) u0 i0 with
        | inl e => trivial
        | inr t =>
          obtain ⟨i1, u1, s1⟩ := t
          obtain ⟨h4, h5, h6⟩ := choiF_b hs _ _ hc
          exact needR_b ⟨by omega, by omega, by simp only [List.length_append, List.length_cons, List.length_nil]; omega⟩
      · exact needR_b ⟨by omega, by omega, by omega⟩
    · trivial
/-- the TOKENS of a row of bytes -/
def tq (B : Nat → Int) : Nat → Nat
  | 0 => rn isBl B 0
  | i + 1 => rn isBl B (tkE B (tq B i))
def tK (B : Nat → Int) (i : Nat) : Int := tkK B (tq B i)
def tV (B : Nat → Int) (i : Nat) : Int := tkV B (tq B i)
def tQ (B : Nat → Int) (i : Nat) : Int := tq B i
/-- a row of bytes: none is 0 ahead of its end -/
def BOk (B : Nat → Int) (L : Nat) : Prop := L ≤ 900 ∧ (∀ j, j < L → B j ≠ 0) ∧ (∀ j, L ≤ j → B j = 0) ∧ ∀ j, 0 ≤ B j ∧ B j ≤ 255
theorem tkE_le {B : Nat → Int} {L q : Nat} (h : BOk B L) (hq : q ≤ L) (hk : tkK B q ≠ 0) : tkE B q ≤ L ∧ q < tkE B q := by
  have hlt : q < L := by
    rcases Nat.lt_or_ge q L with z | z
    · exact z
    · exfalso
      apply hk
      have e := h.2.2.1 q z
      unfold tkK
      rw [e]
      rfl
  unfold tkE
  split
  · next hd =>
    have h1 := rn_le (P := isDg) rfl h.2.2.1 q
    have h2 := rn_go (P := isDg) hd (by have := h.1; omega)
    have h3 := rn_le (P := isDg) rfl h.2.2.1 (q + 1)
    omega
  · split
    · next hd =>
      have h1 := rn_le (P := isLe) rfl h.2.2.1 q
      have h2 := rn_go (P := isLe) hd (by have := h.1; omega)
      have h3 := rn_le (P := isLe) rfl h.2.2.1 (q + 1)
      omega
    · omega
theorem tq_next {B : Nat → Int} {L i : Nat} (h : BOk B L) (hq : tq B i ≤ L) (hk : tK B i ≠ 0) : tkE B (tq B i) ≤ L ∧ tq B (i + 1) ≤ L ∧ tq B i < tq B (i + 1) := by
  have h1 := tkE_le h hq hk
  have h2 := rn_le (P := isBl) rfl h.2.2.1 (tkE B (tq B i))
  refine ⟨h1.1, h2.2 h1.1, ?_⟩
  show tq B i < rn isBl B (tkE B (tq B i))
  omega
theorem tkK_r {B : Nat → Int} {L : Nat} (h : BOk B L) (q : Nat) : 0 ≤ tkK B q ∧ tkK B q ≤ 255 := by
  have hb := h.2.2.2 q
  unfold tkK
  split
  · split <;> omega
  split
  · split
    · omega
    · unfold kindW; repeat' split
      all_goals omega
  split
  · omega
  split <;> omega
