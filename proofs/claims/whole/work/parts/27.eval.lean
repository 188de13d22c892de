/-! the workshop: what it does, over a picture D of all that changes there; S tells the TABLES -/
abbrev ER : Type := (Int × Nat × Mm) ⊕ (Int × Mm)
def bindE (r : ER) (f : Int → Mm → ER) : ER := match r with
  | .inl x => .inl x
  | .inr (v, D) => f v D
abbrev Sd : Type := Nat → TabD
abbrev sSz (S : Sd) (k : Nat) : Int := (S k).2.1
abbrev sBy (S : Sd) (k : Nat) : Int := (S k).2.2.1
abbrev sIp (S : Sd) (k : Nat) : Int := (S k).2.2.2.1
abbrev sPr (S : Sd) (k : Nat) : Int := (S k).2.2.2.2.1
abbrev sCd (S : Sd) (k : Nat) : List Zs := (S k).2.2.2.2.2
def bNote (D : Mm) (m : Nat) (x0 x1 x2 x3 : Int) : Mm := noteS D m (D 8 m 1).toNat x0 x1 x2 x3
abbrev WkT : Type := Mm → Nat → Int → ER
abbrev RwT : Type := Mm → Nat → Nat → Int → ER
def awkF (wk : WkT) (D : Mm) (k : Nat) (a : Int) : ER := if D 5 k 8 = 3 then .inl (6, 0, D) else if D 5 k 8 = 0 then wk D k a else .inr (0, D)
def awrF (rw_ : RwT) (D : Mm) (k r : Nat) (a : Int) : ER := if D 17 k r = 3 then .inl (6, 0, D) else if D 17 k r = 0 then rw_ D k r a else .inr (0, D)
def gotF (S : Sd) (rw_ : RwT) (D : Mm) (k p : Nat) (a : Int) : ER :=
  if D 5 k 8 = 1 then .inr (D 16 k p, bNote D 1 k p a (D 16 k p))
  else if sBy S k = 0 then .inr (D 16 k p, D)
  else bindE (awrF rw_ D k (p / 8) a) (fun _ D2 => if D2 17 k (p / 8) = 1 then .inr (D2 16 k p, bNote D2 1 k p a (D2 16 k p)) else .inr (D2 16 k p, D2))
def askF (S : Sd) (wk : WkT) (rw_ : RwT) (D : Mm) (k : Nat) (x : Int) (a : Int) : ER :=
  bindE (awkF wk D k a) (fun _ D1 => if x < 0 ∨ entsZ (sSz S k) ≤ x then .inl (2, 0, D1) else gotF S rw_ D1 k x.toNat a)
def binF (op l r : Int) : Option Int :=
  if op = 43 then some (w64 (l + r)) else if op = 45 then some (w64 (l - r)) else if op = 42 then some (w64 (l * r))
  else if op = 60 then some (if l < r then 1 else 0) else if r = 0 then none
  else if op = 47 then some (w64 (Int.tdiv l r)) else some (w64 (l - Int.tdiv l r * r))
def runF (S : Sd) (t : Nat) (pl : Int) (ask : Mm → Nat → Int → Int → ER) : Nat → List Zs → List Int → Mm → ER
  | 0, _, _, D => .inr (0, D)
  | _ + 1, [], st, D => .inr (st.headD 0, D)
  | n + 1, z :: c, st, D =>
    if z.1 = 0 then runF S t pl ask n c (z.2.1 :: st) D
    else if z.1 = 1 then runF S t pl ask n c (pl :: st) D
    else if z.1 = 2 then runF S t pl ask n c (sSz S z.2.1.toNat :: st) D
    else if z.1 = 3 then bindE (ask D z.2.1.toNat (st.headD 0) t) (fun v D' => runF S t pl ask n c (v :: st.tail) D')
    else if z.1 = 4 then runF S t pl ask n c (w64 (-st.headD 0) :: st.tail) D
    else if z.1 = 5 then runF S t pl ask n (c.drop z.2.1.toNat) st D
    else if z.1 = 6 then runF S t pl ask n (if st.headD 0 = 0 then c.drop z.2.1.toNat else c) st.tail D
    else match binF z.1 (st.tail.headD 0) (st.headD 0) with
      | none => .inl (1, 0, D)
      | some v => runF S t pl ask n c (v :: st.tail.tail) D
def mkF (S : Sd) (ask : Mm → Nat → Int → Int → ER) (k : Nat) : Nat → Nat → Mm → ER
  | 0, _, D => .inr (0, D)
  | c + 1, p, D => bindE (runF S k p ask 60 (sCd S k) [] D) (fun v D' => mkF S ask k c (p + 1) (up3 D' 16 k p v))
def rowsF (rw_ : RwT) (k : Nat) : Nat → Nat → Mm → ER
  | 0, _, D => .inr (0, D)
  | c + 1, r, D => bindE (rw_ D k r (-9)) (fun _ D' => rowsF rw_ k c (r + 1) D')
def sumE (D : Mm) (k : Nat) : Nat → Int
  | 0 => 0
  | n + 1 => sumE D k n + D 16 k n
def fillF (S : Sd) (wk : WkT) (rw_ : RwT) (D : Mm) (k : Nat) : ER :=
  if sBy S k = 0 then mkF S (askF S wk rw_) k (entsZ (sSz S k)).toNat 0 D
  else if sIp S k = 0 then .inr (0, D) else rowsF rw_ k ((entsZ (sSz S k) + 7) / 8).toNat 0 D
def promF (S : Sd) (D : Mm) (k : Nat) : ER :=
  if sIp S k = 0 then .inr (0, D) else if sumE D k (entsZ (sSz S k)).toNat = sPr S k then .inr (0, D) else .inl (5, 0, D)
def bodyW (S : Sd) (wk : WkT) (rw_ : RwT) (D : Mm) (k : Nat) : ER :=
  if sSz S k < 0 then .inl (3, 0, D) else if 200 < sSz S k then .inl (4, 0, D)
  else bindE (fillF S wk rw_ (zeroA D 16 k 200) k) (fun _ D' => promF S D' k)
def endE (r : ER) (g : Int → Mm → Mm) : ER := match r with
  | .inl (w, m, D) => .inl (w, m + 1, g 3 D)
  | .inr (_, D) => .inr (0, g 2 D)
def wakeF (S : Sd) (wk : WkT) (rw_ : RwT) (D : Mm) (k : Nat) (a : Int) : ER :=
  endE (bodyW S wk rw_ (bNote (up3 D 5 k 8 1) 0 k (-9) a 0) k) (fun x D' => up3 D' 5 k 8 x)
def rowF (S : Sd) (wk : WkT) (rw_ : RwT) (D : Mm) (k r : Nat) (a : Int) : ER :=
  endE (mkF S (askF S wk rw_) k (min (entsZ (sSz S k)) (8 * r + 8) - 8 * r).toNat (8 * r) (bNote (up3 D 17 k r 1) 0 k r a 0)) (fun x D' => up3 D' 17 k r x)
def lvW (S : Sd) : Nat → WkT × RwT
  | 0 => (fun D _ _ => .inl (8, 0, D), fun D _ _ _ => .inl (8, 0, D))
  | δ + 1 => (wakeF S (lvW S δ).1 (lvW S δ).2, rowF S (lvW S δ).1 (lvW S δ).2)
def askE (S : Sd) (δ : Nat) : Mm → Nat → Int → Int → ER := askF S (lvW S δ).1 (lvW S δ).2

/-! the code of a SUM runs from h waiting numbers to one more -/
def wf : Nat → List Zs → Nat → Prop
  | 0, _, _ => False
  | _ + 1, [], h => h = 1
  | n + 1, z :: c, h =>
    (z.1 = 0 ∧ i64 z.2.1 ∧ h < 24 ∧ wf n c (h + 1)) ∨ (z.1 = 1 ∧ h < 24 ∧ wf n c (h + 1)) ∨ (z.1 = 2 ∧ h < 24 ∧ wf n c (h + 1))
    ∨ (z.1 = 3 ∧ 1 ≤ h ∧ wf n c h) ∨ (z.1 = 4 ∧ 1 ≤ h ∧ wf n c h)
    ∨ (z.1 = 5 ∧ 0 ≤ z.2.1 ∧ z.2.1 ≤ c.length ∧ wf n (c.drop z.2.1.toNat) h)
    ∨ (z.1 = 6 ∧ 1 ≤ h ∧ 0 ≤ z.2.1 ∧ z.2.1 ≤ c.length ∧ wf n (c.drop z.2.1.toNat) (h - 1) ∧ wf n c (h - 1))
    ∨ ((z.1 = 43 ∨ z.1 = 45 ∨ z.1 = 42 ∨ z.1 = 47 ∨ z.1 = 37 ∨ z.1 = 60) ∧ 2 ≤ h ∧ wf n c (h - 1))
theorem wf_mono : ∀ (n : Nat) (c : List Zs) (h : Nat), wf n c h → wf (n + 1) c h := by
  intro n
  induction n with
  | zero => intro c h hw; exact hw.elim
  | succ n ih =>
    intro c h hw
    cases c with
    | nil => exact hw
    | cons z c =>
      unfold wf at hw ⊢
      rcases hw with h1 | h1 | h1 | h1 | h1 | h1 | h1 | h1
      · exact Or.inl ⟨h1.1, h1.2.1, h1.2.2.1, ih _ _ h1.2.2.2⟩
      · exact Or.inr (Or.inl ⟨h1.1, h1.2.1, ih _ _ h1.2.2⟩)
      · exact Or.inr (Or.inr (Or.inl ⟨h1.1, h1.2.1, ih _ _ h1.2.2⟩))
      · exact Or.inr (Or.inr (Or.inr (Or.inl ⟨h1.1, h1.2.1, ih _ _ h1.2.2⟩)))
      · exact Or.inr (Or.inr (Or.inr (Or.inr (Or.inl ⟨h1.1, h1.2.1, ih _ _ h1.2.2⟩))))
      · exact Or.inr (Or.inr (Or.inr (Or.inr (Or.inr (Or.inl ⟨h1.1, h1.2.1, h1.2.2.1, ih _ _ h1.2.2.2⟩)))))
      · exact Or.inr (Or.inr (Or.inr (Or.inr (Or.inr (Or.inr (Or.inl ⟨h1.1, h1.2.1, h1.2.2.1, h1.2.2.2.1, ih _ _ h1.2.2.2.2.1, ih _ _ h1.2.2.2.2.2⟩))))))
      · exact Or.inr (Or.inr (Or.inr (Or.inr (Or.inr (Or.inr (Or.inr ⟨h1.1, h1.2.1, ih _ _ h1.2.2⟩))))))
theorem wf_le {n m : Nat} (hnm : n ≤ m) {c : List Zs} {h : Nat} (hw : wf n c h) : wf m c h := by
  obtain ⟨d, rfl⟩ := Nat.exists_eq_add_of_le hnm
  clear hnm
  induction d with
  | zero => exact hw
  | succ d ih => exact wf_mono _ _ _ ih
/-- steps s of w UNITS leave one number more -/
def P1 (w : Nat) (s : List Zs) : Prop := 1 ≤ w ∧ ∀ (n : Nat) (c : List Zs) (h : Nat), h + w ≤ 24 → wf n c (h + 1) → wf (n + s.length) (s ++ c) h
theorem P1_mono {w w' : Nat} {s : List Zs} (hw : w ≤ w') (h : P1 w s) : P1 w' s := ⟨by have := h.1; omega, fun n c hh h1 h2 => h.2 n c hh (by omega) h2⟩
theorem P1_bin {w w' : Nat} {s s' : List Zs} {k a b : Int} (h : P1 w s) (h' : P1 w' s') (hk : k = 43 ∨ k = 45 ∨ k = 42 ∨ k = 47 ∨ k = 37 ∨ k = 60) : P1 (w + w') (s ++ s' ++ [(k, a, b)]) := by
  obtain ⟨h1, h2⟩ := h
  obtain ⟨h3, h4⟩ := h'
  refine ⟨by omega, fun n c hh g1 g2 => ?_⟩
  have e : s ++ s' ++ [(k, a, b)] ++ c = s ++ (s' ++ ((k, a, b) :: c)) := by simp
  rw [e, show n + (s ++ s' ++ [(k, a, b)]).length = n + 1 + s'.length + s.length by simp; omega]
  refine h2 _ _ hh (by omega) (h4 _ _ _ (by omega) ?_)
  unfold wf
  exact Or.inr (Or.inr (Or.inr (Or.inr (Or.inr (Or.inr (Or.inr ⟨hk, by omega, g2⟩))))))
theorem P1_un {w : Nat} {s : List Zs} {k a b : Int} (h : P1 w s) (hk : k = 3 ∨ k = 4) : P1 w (s ++ [(k, a, b)]) := by
  obtain ⟨h1, h2⟩ := h
  refine ⟨h1, fun n c hh g1 g2 => ?_⟩
  have e : s ++ [(k, a, b)] ++ c = s ++ ((k, a, b) :: c) := by simp
  rw [e, show n + (s ++ [(k, a, b)]).length = n + 1 + s.length by simp; omega]
  refine h2 _ _ hh (by omega) ?_
  unfold wf
  rcases hk with hk | hk
  · exact Or.inr (Or.inr (Or.inr (Or.inl ⟨hk, by omega, g2⟩)))
  · exact Or.inr (Or.inr (Or.inr (Or.inr (Or.inl ⟨hk, by omega, g2⟩))))
theorem P1_one {k a b : Int} (hk : (k = 0 ∧ i64 a) ∨ k = 1 ∨ k = 2) : P1 1 [(k, a, b)] := by
  refine ⟨Nat.le_refl _, fun n c hh g1 g2 => ?_⟩
  show wf (n + 1) ((k, a, b) :: c) hh
  unfold wf
  rcases hk with hk | hk | hk
  · exact Or.inl ⟨hk.1, hk.2, by omega, g2⟩
  · exact Or.inr (Or.inl ⟨hk, by omega, g2⟩)
  · exact Or.inr (Or.inr (Or.inl ⟨hk, by omega, g2⟩))
theorem P1_choi {w0 w1 w2 : Nat} {s0 s1 s2 : List Zs} {a b : Int} (h0 : P1 w0 s0) (h1 : P1 w1 s1) (h2 : P1 w2 s2) : P1 (w0 + w1 + w2) (s0 ++ ([(6, (s1.length : Int) + 1, a)] ++ s1 ++ [(5, (s2.length : Int), b)] ++ s2)) := by
  obtain ⟨a1, a2⟩ := h0
  obtain ⟨b1, b2⟩ := h1
  obtain ⟨c1, c2⟩ := h2
  refine ⟨by omega, fun n c hh g1 g2 => ?_⟩
  have e : s0 ++ ([(6, (s1.length : Int) + 1, a)] ++ s1 ++ [(5, (s2.length : Int), b)] ++ s2) ++ c = s0 ++ ((6, (s1.length : Int) + 1, a) :: (s1 ++ ((5, (s2.length : Int), b) :: (s2 ++ c)))) := by simp
  have e0 : (s0 ++ ([((6 : Int), (s1.length : Int) + 1, a)] ++ s1 ++ [((5 : Int), (s2.length : Int), b)] ++ s2)).length = s2.length + 1 + s1.length + 1 + s0.length := by simp; omega
  rw [e, e0, show n + (s2.length + 1 + s1.length + 1 + s0.length) = n + s2.length + 1 + s1.length + 1 + s0.length by omega]
  refine a2 _ _ hh (by omega) ?_
  unfold wf
  refine Or.inr (Or.inr (Or.inr (Or.inr (Or.inr (Or.inr (Or.inl ⟨rfl, by omega, by show (0 : Int) ≤ (s1.length : Int) + 1; omega, by show (s1.length : Int) + 1 ≤ _; simp only [List.length_append, List.length_cons]; omega, ?_, ?_⟩))))))
  · have e2 : ((s1.length : Int) + 1).toNat = s1.length + 1 := by omega
    show wf _ (List.drop ((s1.length : Int) + 1).toNat _) _
    rw [e2, Nat.add_comm s1.length 1, ← List.drop_drop]
    have e3 : List.drop s1.length (s1 ++ ((5, (s2.length : Int), b) :: (s2 ++ c))) = (5, (s2.length : Int), b) :: (s2 ++ c) := List.drop_left
    have e4 : List.drop (1 + s1.length) (s1 ++ ((5, (s2.length : Int), b) :: (s2 ++ c))) = s2 ++ c := by
      rw [Nat.add_comm, ← List.drop_drop, e3]
      rfl
    rw [List.drop_drop]
    first
      | rw [e4]
      | rw [Nat.add_comm, e4]
    rw [show hh + 1 - 1 = hh by omega]
    exact wf_le (by omega) (c2 n c hh (by omega) g2)
  · rw [show hh + 1 - 1 = hh by omega]
    refine b2 _ _ hh (by omega) ?_
    unfold wf
    refine Or.inr (Or.inr (Or.inr (Or.inr (Or.inr (Or.inl ⟨rfl, by show (0 : Int) ≤ (s2.length : Int); omega, by show (s2.length : Int) ≤ _; simp only [List.length_append]; omega, ?_⟩)))))
    show wf _ (List.drop ((s2.length : Int)).toNat (s2 ++ c)) _
    rw [show ((s2.length : Int)).toNat = s2.length by omega, show List.drop s2.length (s2 ++ c) = c from List.drop_left]
    exact wf_le (by omega) g2
/-- what the grammar gives runs so -/
def PW (u : Nat) : PR → Prop
  | .inl _ => True
  | .inr (_, u', s) => u < u' ∧ P1 (u' - u) s
def PWU (un : Nat → Nat → PR) : Prop := ∀ u i, PW u (un u i)
theorem prodL_w {K : Nat → Int} {un : Nat → Nat → PR} (h : PWU un) {u0 : Nat} : ∀ (c i u : Nat) (s : List Zs), u0 < u → P1 (u - u0) s → PW u0 (prodL K un c i u s) := by
  intro c
  induction c with
  | zero => intro i u s h1 h2; exact ⟨h1, h2⟩
  | succ c ih =>
    intro i u s h1 h2
    unfold prodL
    split
    · next hk =>
      have hu := h u (i + 1)
      cases hr : un u (i + 1) with
      | inl e => trivial
      | inr t =>
        obtain ⟨i', u', s'⟩ := t
        rw [hr] at hu
        obtain ⟨g1, g2⟩ := hu
        exact ih i' u' _ (by omega) (P1_mono (by omega) (P1_bin h2 g2 (by omega)))
    · exact ⟨h1, h2⟩
theorem prodF_w {K : Nat → Int} {un : Nat → Nat → PR} (h : PWU un) : PWU (prodF K un) := by
  intro u i
  unfold prodF
  have hu := h u i
  cases hr : un u i with
  | inl e => trivial
  | inr t =>
    obtain ⟨i', u', s'⟩ := t
    rw [hr] at hu
    exact prodL_w h 900 i' u' s' hu.1 hu.2
theorem sumL_w {K : Nat → Int} {un : Nat → Nat → PR} (h : PWU un) {u0 : Nat} : ∀ (c i u : Nat) (s : List Zs), u0 < u → P1 (u - u0) s → PW u0 (sumL K un c i u s) := by
  intro c
  induction c with
  | zero => intro i u s h1 h2; exact ⟨h1, h2⟩
  | succ c ih =>
    intro i u s h1 h2
    unfold sumL
    split
    · next hk =>
      have hu := prodF_w (K := K) h u (i + 1)
      cases hr : prodF K un u (i + 1) with
      | inl e => trivial
      | inr t =>
        obtain ⟨i', u', s'⟩ := t
        rw [hr] at hu
        obtain ⟨g1, g2⟩ := hu
        exact ih i' u' _ (by omega) (P1_mono (by omega) (P1_bin h2 g2 (by omega)))
    · exact ⟨h1, h2⟩
theorem sumF_w {K : Nat → Int} {un : Nat → Nat → PR} (h : PWU un) : PWU (sumF K un) := by
  intro u i
  unfold sumF
  have hu := prodF_w (K := K) h u i
  cases hr : prodF K un u i with
  | inl e => trivial
  | inr t =>
    obtain ⟨i', u', s'⟩ := t
    rw [hr] at hu
    exact sumL_w h 900 i' u' s' hu.1 hu.2
theorem bindR_w {u u1 : Nat} {r : PR} {f : Nat → Nat → List Zs → PR} (hr : PW u1 r) (hf : ∀ i u' s, u1 < u' → P1 (u' - u1) s → PW u (f i u' s)) : PW u (bindR r f) := by
  cases r with
  | inl e => trivial
  | inr t =>
    obtain ⟨i', u', s'⟩ := t
    exact hf i' u' s' hr.1 hr.2
theorem needR_w {K : Nat → Int} {k : Int} {i u u' : Nat} {s : List Zs} (h : u < u' ∧ P1 (u' - u) s) : PW u (needR K k i u' s) := by
  unfold needR
  split
  · exact h
  · trivial
theorem uF_w {K V Q : Nat → Int} (hv : ∀ i, K i = 1 → i64 (V i)) : ∀ δ, PWU (uF K V Q δ) := by
  intro δ
  induction δ with
  | zero => intro u i; trivial
  | succ δ ih =>
    have hs := sumF_w (K := K) ih
    intro u i
    unfold uF
    split
    · trivial
    split
    · next hk => exact ⟨by omega, P1_mono (by omega) (P1_one (Or.inl ⟨rfl, hv i hk⟩))⟩
    split
    · exact ⟨by omega, P1_mono (by omega) (P1_one (Or.inr (Or.inl rfl)))⟩
    split
    · exact needR_w ⟨by omega, P1_mono (by omega) (P1_one (Or.inr (Or.inr rfl)))⟩
    split
    · unfold entF
      split
      · exact bindR_w (hs _ _) (fun i' u' s h1 h2 => needR_w ⟨by omega, P1_mono (by omega) (P1_un h2 (Or.inl rfl))⟩)
      · trivial
    split
    · exact bindR_w (ih _ _) (fun i' u' s h1 h2 => ⟨by omega, P1_mono (by omega) (P1_un h2 (Or.inr rfl))⟩)
    split
    · unfold grpF
      refine bindR_w (hs _ _) (fun i0 u0 s0 h1 h2 => ?_)
      split
      · exact bindR_w (hs _ _) (fun i' u' s h4 h5 => needR_w ⟨by omega, P1_mono (by omega) (P1_bin h2 h5 (by omega))⟩)
      split
      · unfold choiF
        have q1 := hs u0 (i0 + 1)
        cases hv1 : sumF K (uF K V Q δ) u0 (i0 + 1) with
        | inl e => trivial
        | inr t =>
          obtain ⟨i1, u1, s1⟩ := t
          rw [hv1] at q1
          show PW u (bindR (if K i1 = 58 then _ else _) _)
          split
          · have q2 := hs u1 (i1 + 1)
            cases hv2 : sumF K (uF K V Q δ) u1 (i1 + 1) with
            | inl e => trivial
            | inr t =>
              obtain ⟨i2, u2, s2⟩ := t
              rw [hv2] at q2
              obtain ⟨a1, a2⟩ := q1
              obtain ⟨b1, b2⟩ := q2
              exact needR_w ⟨by omega, P1_mono (by omega) (P1_choi h2 a2 b2)⟩
          · trivial
      · exact needR_w ⟨by omega, P1_mono (by omega) h2⟩
    · trivial
theorem P1_wf {w : Nat} {s : List Zs} (h : P1 w s) (hw : w ≤ 24) (hl : s.length ≤ 48) : wf 60 s 0 := by
  have := h.2 1 [] 0 (by omega) rfl
  rw [List.append_nil] at this
  exact wf_le (by omega) this
