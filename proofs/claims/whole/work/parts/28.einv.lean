/-! what the workshop always keeps -/
def rwW (g : Nat → Int) : Nat → Int
  | 0 => 0
  | r + 1 => rwW g r + (if g r = 0 then 500 else 0)
def tbW (D : Mm) : Nat → Int
  | 0 => 0
  | k + 1 => tbW D k + (if D 5 k 8 = 0 then 30000 else rwW (D 17 k) 25)
/-- what was noted, and what can still be -/
def Psi (D : Mm) : Int := D 8 0 1 + D 8 1 1 + tbW D 12
theorem rwW_r (g : Nat → Int) : ∀ n : Nat, 0 ≤ rwW g n ∧ rwW g n ≤ 500 * n := by
  intro n
  induction n with
  | zero => exact ⟨Int.le_refl _, Int.le_refl _⟩
  | succ n ih => unfold rwW; split <;> omega
theorem rwW_ext {g g' : Nat → Int} : ∀ n : Nat, (∀ r, r < n → (g r = 0 ↔ g' r = 0)) → rwW g n = rwW g' n := by
  intro n
  induction n with
  | zero => intro _; rfl
  | succ n ih =>
    intro h
    unfold rwW
    rw [ih (fun r hr => h r (by omega))]
    have := h n (by omega)
    by_cases q : g n = 0
    · rw [if_pos q, if_pos (this.mp q)]
    · rw [if_neg q, if_neg (fun z => q (this.mpr z))]
theorem rwW_one {g g' : Nat → Int} {r : Nat} (h1 : g r = 0) (h2 : g' r ≠ 0) (h3 : ∀ j, j ≠ r → g' j = g j) : ∀ n : Nat, r < n → rwW g' n = rwW g n - 500 := by
  intro n
  induction n with
  | zero => intro h; omega
  | succ n ih =>
    intro h
    unfold rwW
    rcases Nat.lt_or_ge r n with q | q
    · rw [ih q, h3 n (by omega)]
      omega
    · obtain rfl : n = r := by omega
      rw [if_neg h2, if_pos h1, rwW_ext (g := g') (g' := g) n (fun j hj => by rw [h3 j (by omega)])]
      omega
theorem tbW_r (D : Mm) : ∀ n : Nat, 0 ≤ tbW D n ∧ tbW D n ≤ 30000 * n := by
  intro n
  induction n with
  | zero => exact ⟨Int.le_refl _, Int.le_refl _⟩
  | succ n ih =>
    have := rwW_r (D 17 n) 25
    unfold tbW
    split <;> omega
theorem tbW_ext {D D' : Mm} : ∀ n : Nat, (∀ k, k < n → (D 5 k 8 = 0 ↔ D' 5 k 8 = 0) ∧ (∀ r, r < 25 → (D 17 k r = 0 ↔ D' 17 k r = 0))) → tbW D n = tbW D' n := by
  intro n
  induction n with
  | zero => intro _; rfl
  | succ n ih =>
    intro h
    unfold tbW
    rw [ih (fun r hr => h r (by omega)), rwW_ext 25 (h n (by omega)).2]
    have := (h n (by omega)).1
    by_cases q : D 5 n 8 = 0
    · rw [if_pos q, if_pos (this.mp q)]
    · rw [if_neg q, if_neg (fun z => q (this.mpr z))]
/-- one TABLE's weight changes -/
theorem tbW_one {D D' : Mm} {k : Nat} (h3 : ∀ j, j ≠ k → D' 5 j 8 = D 5 j 8 ∧ D' 17 j = D 17 j) : ∀ n : Nat, k < n → tbW D' n = tbW D n - (if D 5 k 8 = 0 then 30000 else rwW (D 17 k) 25) + (if D' 5 k 8 = 0 then 30000 else rwW (D' 17 k) 25) := by
  intro n
  induction n with
  | zero => intro h; omega
  | succ n ih =>
    intro h
    unfold tbW
    rcases Nat.lt_or_ge k n with q | q
    · rw [ih q, (h3 n (by omega)).1, (h3 n (by omega)).2]
      omega
    · obtain rfl : n = k := by omega
      rw [tbW_ext (D := D') (D' := D) n (fun j hj => by rw [(h3 j (by omega)).1, (h3 j (by omega)).2]; exact ⟨Iff.rfl, fun _ _ => Iff.rfl⟩)]
      omega
theorem Psi_eq {D D' : Mm} (h8 : D' 8 0 1 = D 8 0 1 ∧ D' 8 1 1 = D 8 1 1) (h : ∀ k, k < 12 → (D' 5 k 8 = 0 ↔ D 5 k 8 = 0) ∧ (∀ r, r < 25 → (D' 17 k r = 0 ↔ D 17 k r = 0))) : Psi D' = Psi D := by
  unfold Psi
  rw [h8.1, h8.2, tbW_ext 12 h]
theorem Psi_wake {D : Mm} {k : Nat} (hk : k < 12) (h : D 5 k 8 = 0) : Psi (up3 D 5 k 8 1) ≤ Psi D - 17500 := by
  unfold Psi
  have e := tbW_one (D := D) (D' := up3 D 5 k 8 1) (k := k) (fun j hj => ⟨up3_k _ _ hj, by funext r; exact up3_f _ _ (by decide)⟩) 12 hk
  have hr := rwW_r (D 17 k) 25
  rw [e, h, if_pos rfl, up3_s, if_neg (by decide), up3_f _ _ (by decide), up3_f _ _ (by decide), show up3 D 5 k 8 1 17 k = D 17 k by funext r; exact up3_f _ _ (by decide)]
  omega
theorem Psi_row {D : Mm} {k r : Nat} (hk : k < 12) (hr : r < 25) (h : D 17 k r = 0) (h5 : D 5 k 8 ≠ 0) : Psi (up3 D 17 k r 1) ≤ Psi D - 500 := by
  unfold Psi
  have e := tbW_one (D := D) (D' := up3 D 17 k r 1) (k := k) (fun j hj => ⟨up3_f _ _ (by decide), by funext r; exact up3_k _ _ hj⟩) 12 hk
  rw [up3_f D (f := 17) (f' := 5) _ (by decide), if_neg h5, if_neg h5] at e
  rw [rwW_one (g := D 17 k) (g' := up3 D 17 k r 1 17 k) (r := r) h (by rw [up3_s]; decide) (fun j hj => up3_j _ _ hj) 25 hr] at e
  rw [e, up3_f _ _ (by decide), up3_f _ _ (by decide)]
  omega
def DW (S : Sd) (D : Mm) : Prop :=
  (∀ k, k < 12 → (0 ≤ D 5 k 8 ∧ D 5 k 8 ≤ 3) ∧ (∀ r, r < 25 → 0 ≤ D 17 k r ∧ D 17 k r ≤ 3) ∧ (∀ p, p < 200 → i64 (D 16 k p)) ∧ ((D 5 k 8 = 0 ∨ sBy S k = 0) → ∀ r, r < 25 → D 17 k r = 0))
  ∧ (0 ≤ D 8 0 1 ∧ 0 ≤ D 8 1 1) ∧ ∀ j, j < 400 → (-9 ≤ D 18 0 j ∧ D 18 0 j ≤ 1000) ∧ i64 (D 18 1 j) ∧ (j % 4 ≠ 3 → -9 ≤ D 18 1 j ∧ D 18 1 j ≤ 1000)
def UP (X : Nat → Nat → Prop) (D D' : Mm) : Prop := ∀ k, k < 12 → (D 5 k 8 ≠ 0 → D' 5 k 8 = D 5 k 8) ∧ (D' 5 k 8 = 1 → D 5 k 8 = 1) ∧ ∀ r, r < 25 → (D 17 k r ≠ 0 → D' 17 k r = D 17 k r) ∧ (D' 17 k r = 1 → D 17 k r = 1) ∧ (¬ X k r → D 5 k 8 = 1 → D' 17 k r = D 17 k r)
def X0 (_ _ : Nat) : Prop := False
def Xr (k r : Nat) (a b : Nat) : Prop := a = k ∧ b = r
def Xt (k : Nat) (a _ : Nat) : Prop := a = k
theorem UP_refl (X : Nat → Nat → Prop) (D : Mm) : UP X D D := fun _ _ => ⟨fun _ => rfl, fun h => h, fun _ _ => ⟨fun _ => rfl, fun h => h, fun _ _ => rfl⟩⟩
theorem UP_tr {X : Nat → Nat → Prop} {D D1 D2 : Mm} (h : UP X D D1) (h' : UP X D1 D2) : UP X D D2 := by
  intro k hk
  obtain ⟨a1, a2, a3⟩ := h k hk
  obtain ⟨b1, b2, b3⟩ := h' k hk
  refine ⟨fun q => by rw [b1 (by rw [a1 q]; exact q), a1 q], fun q => a2 (b2 q), fun r hr => ?_⟩
  obtain ⟨c1, c2, c3⟩ := a3 r hr
  obtain ⟨d1, d2, d3⟩ := b3 r hr
  exact ⟨fun q => by rw [d1 (by rw [c1 q]; exact q), c1 q], fun q => c2 (d2 q), fun q1 q2 => by rw [d3 q1 (by rw [a1 (by omega), q2]), c3 q1 q2]⟩
theorem UP_mono {X Y : Nat → Nat → Prop} {D D' : Mm} (h : UP X D D') (hxy : ∀ a b, X a b → Y a b) : UP Y D D' := by
  intro k hk
  obtain ⟨a1, a2, a3⟩ := h k hk
  exact ⟨a1, a2, fun r hr => ⟨(a3 r hr).1, (a3 r hr).2.1, fun q1 q2 => (a3 r hr).2.2 (fun z => q1 (hxy _ _ z)) q2⟩⟩
theorem UP_0 {X : Nat → Nat → Prop} {D D' : Mm} (h : UP X0 D D') : UP X D D' := UP_mono h (fun _ _ z => z.elim)
/-- nothing but what isn't watched changed -/
theorem UP_eq {X : Nat → Nat → Prop} {D D' : Mm} (h5 : ∀ k, D' 5 k 8 = D 5 k 8) (h17 : ∀ k r, D' 17 k r = D 17 k r) : UP X D D' := by
  intro k hk
  rw [h5]
  exact ⟨fun _ => rfl, fun q => q, fun r hr => by rw [h17]; exact ⟨fun _ => rfl, fun q => q, fun _ _ => rfl⟩⟩
def EI (S : Sd) (X : Nat → Nat → Prop) (δ : Nat) (c : Int) (D : Mm) (r : ER) : Prop := match r with
  | .inl (w, m, D') => DW S D' ∧ Psi D' ≤ Psi D + c ∧ UP X D D' ∧ (1 ≤ w ∧ w ≤ 8) ∧ m ≤ δ
  | .inr (v, D') => DW S D' ∧ Psi D' ≤ Psi D + c ∧ UP X D D' ∧ i64 v
theorem EI_bind {S : Sd} {X : Nat → Nat → Prop} {δ : Nat} {c c1 c2 : Int} {D : Mm} {r : ER} {f : Int → Mm → ER} (h : EI S X δ c1 D r) (hc : c1 + c2 ≤ c) (hc0 : c1 ≤ c) (hf : ∀ v D', r = .inr (v, D') → DW S D' → UP X D D' → i64 v → EI S X δ c2 D' (f v D')) : EI S X δ c D (bindE r f) := by
  cases r with
  | inl t =>
    obtain ⟨w, m, D'⟩ := t
    obtain ⟨a1, a2, a3, a4, a5⟩ := h
    exact ⟨a1, by omega, a3, a4, a5⟩
  | inr t =>
    obtain ⟨v, D'⟩ := t
    obtain ⟨a1, a2, a3, a4⟩ := h
    have g := hf v D' rfl a1 a3 a4
    show EI S X δ c D (f v D')
    cases hr : f v D' with
    | inl t =>
      obtain ⟨w, m, D2⟩ := t
      rw [hr] at g
      obtain ⟨b1, b2, b3, b4, b5⟩ := g
      exact ⟨b1, by omega, UP_tr a3 b3, b4, b5⟩
    | inr t =>
      obtain ⟨v2, D2⟩ := t
      rw [hr] at g
      obtain ⟨b1, b2, b3, b4⟩ := g
      exact ⟨b1, by omega, UP_tr a3 b3, b4⟩
theorem EI_mono {S : Sd} {X Y : Nat → Nat → Prop} {δ : Nat} {c c' : Int} {D : Mm} {r : ER} (h : EI S X δ c D r) (hc : c ≤ c') (hxy : ∀ a b, X a b → Y a b) : EI S Y δ c' D r := by
  cases r with
  | inl t =>
    obtain ⟨w, m, D'⟩ := t
    obtain ⟨a1, a2, a3, a4, a5⟩ := h
    exact ⟨a1, by omega, UP_mono a3 hxy, a4, a5⟩
  | inr t =>
    obtain ⟨v, D'⟩ := t
    obtain ⟨a1, a2, a3, a4⟩ := h
    exact ⟨a1, by omega, UP_mono a3 hxy, a4⟩
/-- from another picture whose changes are bounded -/
theorem EI_pre {S : Sd} {X : Nat → Nat → Prop} {δ : Nat} {c c' : Int} {D D0 : Mm} {r : ER} (h : EI S X δ c D r) (hp : Psi D + c ≤ Psi D0 + c') (hu : UP X D0 D) : EI S X δ c' D0 r := by
  cases r with
  | inl t =>
    obtain ⟨w, m, D'⟩ := t
    obtain ⟨a1, a2, a3, a4, a5⟩ := h
    exact ⟨a1, by omega, UP_tr hu a3, a4, a5⟩
  | inr t =>
    obtain ⟨v, D'⟩ := t
    obtain ⟨a1, a2, a3, a4⟩ := h
    exact ⟨a1, by omega, UP_tr hu a3, a4⟩
/-! single changes -/
theorem DW_5 {S : Sd} {D : Mm} {k : Nat} {x : Int} (h : DW S D) (hk : k < 12) (hx : 1 ≤ x ∧ x ≤ 3) : DW S (up3 D 5 k 8 x) := by
  obtain ⟨h1, h2, h3⟩ := h
  refine ⟨fun j hj => ?_, ?_, fun j hj => ?_⟩
  · obtain ⟨a1, a2, a3, a4⟩ := h1 j hj
    by_cases q : j = k
    · subst q
      rw [up3_s]
      refine ⟨⟨by omega, hx.2⟩, fun r hr => ?_, fun p hp => ?_, fun z r hr => ?_⟩
      · rw [up3_f _ _ (by decide)]; exact a2 r hr
      · rw [up3_f _ _ (by decide)]; exact a3 p hp
      · rw [up3_f _ _ (by decide)]; exact a4 (Or.inr (by rcases z with z | z; omega; exact z)) r hr
    · rw [up3_k _ _ q]
      refine ⟨a1, fun r hr => ?_, fun p hp => ?_, fun z r hr => ?_⟩
      · rw [up3_f _ _ (by decide)]; exact a2 r hr
      · rw [up3_f _ _ (by decide)]; exact a3 p hp
      · rw [up3_f _ _ (by decide)]; exact a4 z r hr
  · rw [up3_f _ _ (by decide), up3_f _ _ (by decide)]; exact h2
  · rw [up3_f _ _ (by decide), up3_f _ _ (by decide)]; exact h3 j hj
theorem DW_17 {S : Sd} {D : Mm} {k r : Nat} {x : Int} (h : DW S D) (hk : k < 12) (hx : 1 ≤ x ∧ x ≤ 3) (h5 : D 5 k 8 ≠ 0) (hb : sBy S k ≠ 0) : DW S (up3 D 17 k r x) := by
  obtain ⟨h1, h2, h3⟩ := h
  refine ⟨fun j hj => ?_, ?_, fun j hj => ?_⟩
  · obtain ⟨a1, a2, a3, a4⟩ := h1 j hj
    rw [up3_f _ _ (by decide)]
    refine ⟨a1, fun i hi => ?_, fun p hp => ?_, fun z i hi => ?_⟩
    · unfold up3
      split
      · omega
      · exact a2 i hi
    · rw [up3_f _ _ (by decide)]; exact a3 p hp
    · by_cases q : j = k
      · subst q
        exfalso
        rcases z with z | z
        · exact h5 z
        · exact hb z
      · rw [up3_k _ _ q]; exact a4 z i hi
  · rw [up3_f _ _ (by decide), up3_f _ _ (by decide)]; exact h2
  · rw [up3_f _ _ (by decide), up3_f _ _ (by decide)]; exact h3 j hj
theorem DW_16 {S : Sd} {D D' : Mm} (h : DW S D) (hf : ∀ f k j, f ≠ 16 → D' f k j = D f k j) (hv : ∀ k p, k < 12 → p < 200 → i64 (D' 16 k p)) : DW S D' := by
  obtain ⟨h1, h2, h3⟩ := h
  refine ⟨fun j hj => ?_, ?_, fun j hj => ?_⟩
  · obtain ⟨a1, a2, a3, a4⟩ := h1 j hj
    rw [hf _ _ _ (by decide)]
    exact ⟨a1, fun i hi => by rw [hf _ _ _ (by decide)]; exact a2 i hi, fun p hp => hv j p hj hp, fun z i hi => by rw [hf _ _ _ (by decide)]; exact a4 z i hi⟩
  · rw [hf _ _ _ (by decide), hf _ _ _ (by decide)]; exact h2
  · rw [hf _ _ _ (by decide), hf _ _ _ (by decide)]; exact h3 j hj
theorem noteS_f (D : Mm) (m b : Nat) (x0 x1 x2 x3 : Int) {f : Nat} (h : f ≠ 8 ∧ f ≠ 18) (k j : Nat) : noteS D m b x0 x1 x2 x3 f k j = D f k j := by
  unfold noteS
  split
  · rw [up3_f _ _ h.1, up3_f _ _ h.2, up3_f _ _ h.2, up3_f _ _ h.2, up3_f _ _ h.2]
  · rw [up3_f _ _ h.1]
theorem noteS_8 (D : Mm) (m b : Nat) (x0 x1 x2 x3 : Int) (k j : Nat) : noteS D m b x0 x1 x2 x3 8 k j = if k = m ∧ j = 1 then (b : Int) + 1 else D 8 k j := by
  unfold noteS
  split
  · show (if 8 = 8 ∧ k = m ∧ j = 1 then _ else _) = _
    by_cases q : k = m ∧ j = 1
    · rw [if_pos ⟨rfl, q⟩, if_pos q]
    · rw [if_neg (fun z => q z.2), if_neg q, up3_f _ _ (by decide), up3_f _ _ (by decide), up3_f _ _ (by decide), up3_f _ _ (by decide)]
  · show (if 8 = 8 ∧ k = m ∧ j = 1 then _ else _) = _
    by_cases q : k = m ∧ j = 1
    · rw [if_pos ⟨rfl, q⟩, if_pos q]
    · rw [if_neg (fun z => q z.2), if_neg q]
theorem noteS_18 (D : Mm) (m b : Nat) (x0 x1 x2 x3 : Int) (k j : Nat) : noteS D m b x0 x1 x2 x3 18 k j = if b < 100 ∧ k = m ∧ j / 4 = b then (if j % 4 = 0 then x0 else if j % 4 = 1 then x1 else if j % 4 = 2 then x2 else x3) else D 18 k j := by
  unfold noteS
  split
  · next hb =>
    rw [up3_f _ _ (by decide)]
    unfold up3
    by_cases q : k = m ∧ j / 4 = b
    · rw [if_pos (c := b < 100 ∧ k = m ∧ j / 4 = b) ⟨hb, q⟩]
      obtain ⟨q1, q2⟩ := q
      have h4 : j = 4 * b + j % 4 := by omega
      have h5 : j % 4 < 4 := Nat.mod_lt _ (by decide)
      rcases (by omega : j % 4 = 0 ∨ j % 4 = 1 ∨ j % 4 = 2 ∨ j % 4 = 3) with c | c | c | c
      · rw [if_neg (by omega), if_neg (by omega), if_neg (by omega), if_pos ⟨rfl, q1, by omega⟩, if_pos c]
      · rw [if_neg (by omega), if_neg (by omega), if_pos ⟨rfl, q1, by omega⟩, if_neg (by omega), if_pos c]
      · rw [if_neg (by omega), if_pos ⟨rfl, q1, by omega⟩, if_neg (by omega), if_neg (by omega), if_pos c]
      · rw [if_pos ⟨rfl, q1, by omega⟩, if_neg (by omega), if_neg (by omega), if_neg (by omega)]
    · rw [if_neg (by omega), if_neg (by omega), if_neg (by omega), if_neg (by omega), if_neg (by omega)]
  · next hb => rw [up3_f _ _ (by decide), if_neg (by omega)]
theorem DW_note {S : Sd} {D : Mm} {m : Nat} {x0 x1 x2 x3 : Int} (h : DW S D) (hm : m < 2) (hx : (-9 ≤ x0 ∧ x0 ≤ 1000) ∧ (-9 ≤ x1 ∧ x1 ≤ 1000) ∧ (-9 ≤ x2 ∧ x2 ≤ 1000)) (h3 : i64 x3) (h30 : m = 0 → x3 = 0) : DW S (bNote D m x0 x1 x2 x3) := by
  obtain ⟨a1, a2, a3⟩ := h
  unfold bNote
  refine ⟨fun j hj => ?_, ?_, fun j hj => ?_⟩
  · rw [noteS_f _ _ _ _ _ _ _ ⟨by decide, by decide⟩]
    obtain ⟨b1, b2, b3, b4⟩ := a1 j hj
    exact ⟨b1, fun i hi => by rw [noteS_f _ _ _ _ _ _ _ ⟨by decide, by decide⟩]; exact b2 i hi, fun i hi => by rw [noteS_f _ _ _ _ _ _ _ ⟨by decide, by decide⟩]; exact b3 i hi, fun z i hi => by rw [noteS_f _ _ _ _ _ _ _ ⟨by decide, by decide⟩]; exact b4 z i hi⟩
  · rw [noteS_8, noteS_8]
    constructor
    · split <;> omega
    · split <;> omega
  · rw [noteS_18, noteS_18]
    obtain ⟨b1, b2, b3⟩ := a3 j hj
    unfold i64 at h3 b2 ⊢
    refine ⟨?_, ?_, fun hj3 => ?_⟩
    · split
      · next q => obtain rfl : m = 0 := by omega
                  rw [h30 rfl]; repeat' split
                  all_goals omega
      · exact b1
    · split
      · repeat' split
        all_goals omega
      · exact b2
    · split
      · repeat' split
        all_goals omega
      · exact b3 hj3
theorem Psi_note {S : Sd} {D : Mm} {m : Nat} {x0 x1 x2 x3 : Int} (h : DW S D) (hm : m < 2) : Psi (bNote D m x0 x1 x2 x3) = Psi D + 1 := by
  have h8 := h.2.1
  unfold Psi bNote
  rw [tbW_ext (D := noteS D m (D 8 m 1).toNat x0 x1 x2 x3) (D' := D) 12 (fun k hk => by rw [noteS_f _ _ _ _ _ _ _ ⟨by decide, by decide⟩]; exact ⟨Iff.rfl, fun r hr => by rw [noteS_f _ _ _ _ _ _ _ ⟨by decide, by decide⟩]⟩), noteS_8, noteS_8]
  rcases (by omega : m = 0 ∨ m = 1) with q | q
  · subst q; rw [if_pos ⟨rfl, rfl⟩, if_neg (by decide)]; omega
  · subst q; rw [if_neg (by decide), if_pos ⟨rfl, rfl⟩]; omega
theorem UP_note {X : Nat → Nat → Prop} {D : Mm} {m : Nat} {x0 x1 x2 x3 : Int} : UP X D (bNote D m x0 x1 x2 x3) := UP_eq (fun _ => noteS_f _ _ _ _ _ _ _ ⟨by decide, by decide⟩ _ _) (fun _ _ => noteS_f _ _ _ _ _ _ _ ⟨by decide, by decide⟩ _ _)
theorem Psi_16 {D D' : Mm} (hf : ∀ f k j, f ≠ 16 → D' f k j = D f k j) : Psi D' = Psi D := Psi_eq ⟨hf _ _ _ (by decide), hf _ _ _ (by decide)⟩ (fun k _ => ⟨by rw [hf _ _ _ (by decide)], fun r _ => by rw [hf _ _ _ (by decide)]⟩)
theorem UP_16 {X : Nat → Nat → Prop} {D D' : Mm} (hf : ∀ f k j, f ≠ 16 → D' f k j = D f k j) : UP X D D' := UP_eq (fun _ => hf _ _ _ (by decide)) (fun _ _ => hf _ _ _ (by decide))
/-! the levels -/
def SOk (S : Sd) (n : Nat) : Prop := n ≤ 12 ∧ ∀ k, k < n → i64 (sSz S k) ∧ (sBy S k = 0 ∨ sBy S k = 1) ∧ (sIp S k = 0 ∨ sIp S k = 1) ∧ i64 (sPr S k) ∧ wf 60 (sCd S k) 0 ∧ (sCd S k).length ≤ 48 ∧ ∀ z ∈ sCd S k, (z.1 = 2 ∨ z.1 = 3) → 0 ≤ z.2.1 ∧ z.2.1 < n
def WkOk (S : Sd) (n δ : Nat) (wk : WkT) : Prop := ∀ D k a, DW S D → k < n → (-9 ≤ a ∧ a ≤ 1000) → D 5 k 8 = 0 → EI S X0 δ 0 D (wk D k a) ∧ ∀ v D', wk D k a = .inr (v, D') → D' 5 k 8 = 2
def RwOk (S : Sd) (n δ : Nat) (rw_ : RwT) : Prop := ∀ D k r a, DW S D → k < n → r < 25 → (-9 ≤ a ∧ a ≤ 1000) → D 17 k r = 0 → D 5 k 8 ≠ 0 → sBy S k ≠ 0 → EI S (Xr k r) δ 0 D (rw_ D k r a) ∧ ∀ v D', rw_ D k r a = .inr (v, D') → D' 17 k r = 2
def AkOk (S : Sd) (n δ : Nat) (ask : Mm → Nat → Int → Int → ER) : Prop := ∀ D k x a, DW S D → k < n → (-9 ≤ a ∧ a ≤ 1000) → EI S X0 δ 1 D (ask D k x a)
theorem EI_here {S : Sd} {X : Nat → Nat → Prop} {δ : Nat} {D : Mm} {v : Int} (h : DW S D) (hv : i64 v) : EI S X δ 0 D (.inr (v, D)) := ⟨h, by omega, UP_refl _ _, hv⟩
theorem EI_fail {S : Sd} {X : Nat → Nat → Prop} {δ : Nat} {D : Mm} {w : Int} (h : DW S D) (hw : 1 ≤ w ∧ w ≤ 8) : EI S X δ 0 D (.inl (w, 0, D)) := ⟨h, by omega, UP_refl _ _, hw, Nat.zero_le _⟩
theorem i64z : i64 0 := ⟨by decide, by decide⟩
theorem EI_note {S : Sd} {X : Nat → Nat → Prop} {δ : Nat} {D : Mm} {k p : Nat} {a : Int} (h : DW S D) (hk : k < 12) (ha : -9 ≤ a ∧ a ≤ 1000) (hp : p < 200) : EI S X δ 1 D (.inr (D 16 k p, bNote D 1 k p a (D 16 k p))) :=
  ⟨DW_note h (by decide) ⟨by omega, by omega, ha⟩ ((h.1 k hk).2.2.1 p hp) (fun z => absurd z (by decide)), by rw [Psi_note h (by decide)]; omega, UP_note, (h.1 k hk).2.2.1 p hp⟩
theorem awk_i {S : Sd} {n δ : Nat} {wk : WkT} (hw : WkOk S n δ wk) {D : Mm} {k : Nat} {a : Int} (h : DW S D) (hk : k < n) (hn : n ≤ 12) (ha : -9 ≤ a ∧ a ≤ 1000) : EI S X0 δ 0 D (awkF wk D k a) ∧ ∀ v D', awkF wk D k a = .inr (v, D') → (D' 5 k 8 = 1 ∨ D' 5 k 8 = 2) := by
  unfold awkF
  split
  · exact ⟨EI_fail h (by omega), fun v D' e => by cases e⟩
  split
  · next h3 h0 => exact ⟨(hw D k a h hk ha h0).1, fun v D' e => Or.inr ((hw D k a h hk ha h0).2 v D' e)⟩
  · next h3 h0 =>
    refine ⟨EI_here h i64z, fun v D' e => ?_⟩
    cases e
    have := (h.1 k (by omega)).1
    omega
theorem got_i {S : Sd} {n δ : Nat} {rw_ : RwT} (hw : RwOk S n δ rw_) {D : Mm} {k p : Nat} {a : Int} (h : DW S D) (hk : k < n) (hn : n ≤ 12) (ha : -9 ≤ a ∧ a ≤ 1000) (hp : p < 200) (h5 : D 5 k 8 = 1 ∨ D 5 k 8 = 2) : EI S X0 δ 1 D (gotF S rw_ D k p a) := by
  have hk' : k < 12 := by omega
  unfold gotF
  split
  · exact EI_note h hk' ha hp
  split
  · exact EI_mono (EI_here h ((h.1 k hk').2.2.1 p hp)) (by omega) (fun _ _ z => z)
  · next h1 hb =>
    have hx : EI S X0 δ 0 D (awrF rw_ D k (p / 8) a) := by
      unfold awrF
      split
      · exact EI_fail h (by omega)
      split
      · next h3 h0 =>
        have g := (hw D k (p / 8) a h hk (by omega) ha h0 (by omega) hb).1
        have up : ∀ D', UP (Xr k (p / 8)) D D' → UP X0 D D' := by
          intro D' hu j hj
          obtain ⟨u1, u2, u3⟩ := hu j hj
          refine ⟨u1, u2, fun r hr => ⟨(u3 r hr).1, (u3 r hr).2.1, fun _ q => ?_⟩⟩
          refine (u3 r hr).2.2 (fun z => ?_) q
          obtain ⟨rfl, rfl⟩ := z
          exact h1 q
        cases hr : rw_ D k (p / 8) a with
        | inl t =>
          obtain ⟨w, m, D'⟩ := t
          rw [hr] at g
          obtain ⟨g1, g2, g3, g4, g5⟩ := g
          exact ⟨g1, g2, up D' g3, g4, g5⟩
        | inr t =>
          obtain ⟨v, D'⟩ := t
          rw [hr] at g
          obtain ⟨g1, g2, g3, g4⟩ := g
          exact ⟨g1, g2, up D' g3, g4⟩
      · exact EI_here h i64z
    refine EI_bind (c2 := 1) hx (by omega) (by omega) (fun v D' _ hd hu _ => ?_)
    split
    · exact EI_note hd hk' ha hp
    · exact EI_mono (EI_here hd ((hd.1 k hk').2.2.1 p hp)) (by omega) (fun _ _ z => z)
theorem ask_i {S : Sd} {n δ : Nat} {wk : WkT} {rw_ : RwT} (hn : n ≤ 12) (hw : WkOk S n δ wk) (hr : RwOk S n δ rw_) : AkOk S n δ (askF S wk rw_) := by
  intro D k x a h hk ha
  have h1 := awk_i hw h hk hn ha
  unfold askF
  refine EI_bind (c2 := 1) h1.1 (by omega) (by omega) (fun v D' e hd hu _ => ?_)
  split
  · exact EI_mono (EI_fail hd (by omega)) (by omega) (fun _ _ z => z)
  · next hx =>
    have he := entsZ_r (sSz S k)
    exact got_i hr hd hk hn ha (by omega) (h1.2 v D' e)
theorem run_i {S : Sd} {n δ t : Nat} {pl : Int} {ask : Mm → Nat → Int → Int → ER} (hS : SOk S n) (ht : t < 12) (hpl : i64 pl) (hask : AkOk S n δ ask) : ∀ (c : Nat) (ss : List Zs) (st : List Int) (D : Mm), DW S D → wf c ss st.length → (∀ v ∈ st, i64 v) → (∀ z ∈ ss, (z.1 = 2 ∨ z.1 = 3) → 0 ≤ z.2.1 ∧ z.2.1 < n) → EI S X0 δ c D (runF S t pl ask c ss st D) := by
  intro c
  induction c with
  | zero => intro ss st D h hw; exact hw.elim
  | succ c ih =>
    intro ss st D h hw hst hz
    cases ss with
    | nil =>
      have hw : st.length = 1 := hw
      match st, hw with
      | [v], _ => exact EI_mono (EI_here h (hst v (List.mem_singleton.mpr rfl))) (by omega) (fun _ _ z => z)
    | cons z ss =>
      have hz' : ∀ y ∈ ss, (y.1 = 2 ∨ y.1 = 3) → 0 ≤ y.2.1 ∧ y.2.1 < n := fun y hy => hz y (List.mem_cons_of_mem _ hy)
      have hzd : ∀ (i : Nat), ∀ y ∈ ss.drop i, (y.1 = 2 ∨ y.1 = 3) → 0 ≤ y.2.1 ∧ y.2.1 < n := fun i y hy => hz' y (List.mem_of_mem_drop hy)
      have mono : ∀ {r : ER} {D0 : Mm}, EI S X0 δ c D0 r → EI S X0 δ ((c + 1 : Nat) : Int) D0 r := fun g => EI_mono g (by omega) (fun _ _ z => z)
      have push : ∀ {v : Int} {st' : List Int}, i64 v → (∀ y ∈ st', i64 y) → ∀ y ∈ v :: st', i64 y := fun g1 g2 y hy => by
        rcases List.mem_cons.mp hy with e | e
        · rw [e]; exact g1
        · exact g2 y e
      unfold wf at hw
      unfold runF
      rcases hw with ⟨w1, w2, w3, w4⟩ | ⟨w1, w2, w3⟩ | ⟨w1, w2, w3⟩ | ⟨w1, w2, w3⟩ | ⟨w1, w2, w3⟩ | ⟨w1, w2, w3, w4⟩ | ⟨w1, w2, w3, w4, w5, w6⟩ | ⟨w1, w2, w3⟩
      · rw [if_pos w1]
        exact mono (ih ss _ D h w4 (push w2 hst) hz')
      · rw [if_neg (by omega), if_pos w1]
        exact mono (ih ss _ D h w3 (push hpl hst) hz')
      · have hzn := hz z (List.mem_cons_self ..) (Or.inl w1)
        rw [if_neg (by omega), if_neg (by omega), if_pos w1]
        exact mono (ih ss _ D h w3 (push (hS.2 _ (by omega)).1 hst) hz')
      · have hzn := hz z (List.mem_cons_self ..) (Or.inr w1)
        match st, w2, w3, hst with
        | v :: st', _, w3, hst =>
          rw [if_neg (by omega), if_neg (by omega), if_neg (by omega), if_pos w1]
          refine EI_bind (c2 := (c : Int)) (hask D z.2.1.toNat v t h (by omega) (by omega)) (by omega) (by omega) (fun x D' _ hd hu hx => ?_)
          exact ih ss (x :: st') D' hd w3 (push hx (fun y hy => hst y (List.mem_cons_of_mem _ hy))) hz'
      · match st, w2, w3, hst with
        | v :: st', _, w3, hst =>
          rw [if_neg (by omega), if_neg (by omega), if_neg (by omega), if_neg (by omega), if_pos w1]
          exact mono (ih ss (w64 (-v) :: st') D h w3 (push (w64_range _) (fun y hy => hst y (List.mem_cons_of_mem _ hy))) hz')
      · rw [if_neg (by omega), if_neg (by omega), if_neg (by omega), if_neg (by omega), if_neg (by omega), if_pos w1]
        exact mono (ih _ st D h w4 hst (hzd _))
      · match st, w2, w5, w6, hst with
        | v :: st', _, w5, w6, hst =>
          rw [if_neg (by omega), if_neg (by omega), if_neg (by omega), if_neg (by omega), if_neg (by omega), if_neg (by omega), if_pos w1]
          have hst' : ∀ y ∈ st', i64 y := fun y hy => hst y (List.mem_cons_of_mem _ hy)
          show EI S X0 δ _ D (runF S t pl ask c (if v = 0 then ss.drop z.2.1.toNat else ss) st' D)
          split
          · exact mono (ih _ st' D h w5 hst' (hzd _))
          · exact mono (ih _ st' D h w6 hst' hz')
      · match st, w2, w3, hst with
        | v :: u :: st', _, w3, hst =>
          rw [if_neg (by omega), if_neg (by omega), if_neg (by omega), if_neg (by omega), if_neg (by omega), if_neg (by omega), if_neg (by omega)]
          have hst' : ∀ y ∈ st', i64 y := fun y hy => hst y (List.mem_cons_of_mem _ (List.mem_cons_of_mem _ hy))
          show EI S X0 δ _ D (match binF z.1 u v with | none => .inl (1, 0, D) | some v => runF S t pl ask c ss (v :: st') D)
          cases hb : binF z.1 u v with
          | none => exact EI_mono (EI_fail h (by omega)) (by omega) (fun _ _ z => z)
          | some x =>
            refine mono (ih ss (x :: st') D h w3 (push ?_ hst') hz')
            unfold binF at hb
            repeat' split at hb
            all_goals first
              | (cases hb; exact w64_range _)
              | (cases hb; exact ⟨by decide, by decide⟩)
              | (cases hb; split <;> exact ⟨by decide, by decide⟩)
              | (cases hb; done)
theorem mk_i {S : Sd} {n δ k : Nat} {ask : Mm → Nat → Int → Int → ER} (hS : SOk S n) (hk : k < n) (hask : AkOk S n δ ask) : ∀ (c p : Nat) (D : Mm), DW S D → p + c ≤ 200 → EI S X0 δ (60 * c) D (mkF S ask k c p D) := by
  intro c
  induction c with
  | zero => intro p D h _; exact EI_here h i64z
  | succ c ih =>
    intro p D h hp
    obtain ⟨s1, s2, s3, s4, s5, s6, s7⟩ := hS.2 k hk
    have hn := hS.1
    unfold mkF
    refine EI_bind (c1 := 60) (c2 := 60 * c) (run_i (pl := (p : Int)) hS (by omega) (by unfold i64; omega) hask 60 (sCd S k) [] D h s5 (fun v hv => by cases hv) s7) (by omega) (by omega) (fun v D' _ hd hu hv => ?_)
    have hf : ∀ f j i, f ≠ 16 → up3 D' 16 k p v f j i = D' f j i := fun f j i hf => up3_f _ _ hf
    refine EI_pre (ih (p + 1) _ (DW_16 hd hf (fun j i hj hi => ?_)) (by omega)) (by rw [Psi_16 hf]; omega) (UP_16 hf)
    unfold up3
    split
    · exact hv
    · exact (hd.1 j hj).2.2.1 i hi
theorem rows_i {S : Sd} {n δ k : Nat} {rw_ : RwT} (hS : SOk S n) (hk : k < n) (hw : RwOk S n δ rw_) (hb : sBy S k ≠ 0) : ∀ (c r : Nat) (D : Mm), DW S D → r + c ≤ 25 → D 5 k 8 = 1 → (∀ j, r ≤ j → j < 25 → D 17 k j = 0) → EI S (Xt k) δ 0 D (rowsF rw_ k c r D) := by
  intro c
  induction c with
  | zero => intro r D h _ _ _; exact EI_here h i64z
  | succ c ih =>
    intro r D h hr h5 hz
    have hn := hS.1
    unfold rowsF
    have g := (hw D k r (-9) h hk (by omega) ⟨by omega, by omega⟩ (hz r (by omega) (by omega)) (by omega) hb).1
    have up : ∀ v D', rw_ D k r (-9) = .inr (v, D') → UP (Xr k r) D D' := fun v D' e => by rw [e] at g; exact g.2.2.1
    refine EI_bind (c2 := 0) (EI_mono g (Int.le_refl _) (fun a b z => z.1)) (by omega) (by omega) (fun v D' e hd hu _ => ?_)
    have u := up v D' e k (by omega)
    refine ih (r + 1) D' hd (by omega) (by rw [u.1 (by omega)]; exact h5) (fun j hj1 hj2 => ?_)
    rw [(u.2.2 j hj2).2.2 (fun z => by have := z.2; omega) h5]
    exact hz j (by omega) hj2
theorem fill_i {S : Sd} {n δ k : Nat} {wk : WkT} {rw_ : RwT} (hS : SOk S n) (hk : k < n) (hw : WkOk S n δ wk) (hr : RwOk S n δ rw_) {D : Mm} (h : DW S D) (h5 : D 5 k 8 = 1) (hz : ∀ j, j < 25 → D 17 k j = 0) : EI S (Xt k) δ 12000 D (fillF S wk rw_ D k) := by
  have he := entsZ_r (sSz S k)
  unfold fillF
  split
  · exact EI_mono (mk_i hS hk (ask_i hS.1 hw hr) _ 0 D h (by omega)) (by omega) (fun _ _ z => z.elim)
  · next hb =>
    split
    · exact EI_mono (X := Xt k) (EI_here h i64z) (by omega) (fun _ _ z => z)
    · exact EI_mono (rows_i hS hk hr hb _ 0 D h (by omega) h5 (fun j _ hj => hz j hj)) (by omega) (fun _ _ z => z)
theorem body_i {S : Sd} {n δ k : Nat} {wk : WkT} {rw_ : RwT} (hS : SOk S n) (hk : k < n) (hw : WkOk S n δ wk) (hr : RwOk S n δ rw_) {D : Mm} (h : DW S D) (h5 : D 5 k 8 = 1) (hz : ∀ j, j < 25 → D 17 k j = 0) : EI S (Xt k) δ 12000 D (bodyW S wk rw_ D k) := by
  unfold bodyW
  split
  · exact EI_mono (X := Xt k) (EI_fail h (by omega)) (by omega) (fun _ _ z => z)
  split
  · exact EI_mono (X := Xt k) (EI_fail h (by omega)) (by omega) (fun _ _ z => z)
  · have hf : ∀ f j i, f ≠ 16 → zeroA D 16 k 200 f j i = D f j i := fun f j i hf => by unfold zeroA; rw [if_neg (by omega)]
    have hd : DW S (zeroA D 16 k 200) := DW_16 h hf (fun j p hj hp => by
      unfold zeroA
      split
      · exact i64z
      · exact (h.1 j hj).2.2.1 p hp)
    refine EI_pre (c := 12000) ?_ (by rw [Psi_16 hf]; omega) (UP_16 hf)
    refine EI_bind (c2 := 0) (fill_i hS hk hw hr hd (by rw [hf _ _ _ (by decide)]; exact h5) (fun j hj => by rw [hf _ _ _ (by decide)]; exact hz j hj)) (by omega) (by omega) (fun v D' _ hd' _ _ => ?_)
    unfold promF
    split
    · exact EI_here hd' i64z
    split
    · exact EI_here hd' i64z
    · exact EI_fail hd' (by omega)
theorem wake_i {S : Sd} {n δ : Nat} {wk : WkT} {rw_ : RwT} (hS : SOk S n) (hw : WkOk S n δ wk) (hr : RwOk S n δ rw_) : WkOk S n (δ + 1) (wakeF S wk rw_) := by
  intro D k a h hk ha h0
  have hn := hS.1
  have hk' : k < 12 := by omega
  have d1 : DW S (up3 D 5 k 8 1) := DW_5 h hk' (by omega)
  have d2 : DW S (bNote (up3 D 5 k 8 1) 0 k (-9) a 0) := DW_note d1 (by decide) ⟨by omega, by omega, ha⟩ i64z (fun _ => rfl)
  have p2 : Psi (bNote (up3 D 5 k 8 1) 0 k (-9) a 0) ≤ Psi D - 17499 := by
    have := Psi_wake hk' h0
    rw [Psi_note d1 (by decide)]
    omega
  have e5 : ∀ j, bNote (up3 D 5 k 8 1) 0 k (-9) a 0 5 j 8 = up3 D 5 k 8 1 5 j 8 := fun j => noteS_f _ _ _ _ _ _ _ ⟨by decide, by decide⟩ _ _
  have e17 : ∀ j r, bNote (up3 D 5 k 8 1) 0 k (-9) a 0 17 j r = D 17 j r := fun j r => by
    rw [show bNote (up3 D 5 k 8 1) 0 k (-9) a 0 17 j r = up3 D 5 k 8 1 17 j r from noteS_f _ _ _ _ _ _ _ ⟨by decide, by decide⟩ _ _, up3_f _ _ (by decide)]
  have g := body_i hS hk hw hr d2 (by rw [e5, up3_s]) (fun j hj => by rw [e17]; exact (h.1 k hk').2.2.2 (Or.inl h0) j hj)
  have up : ∀ (D' : Mm) (x : Int), (x = 2 ∨ x = 3) → UP (Xt k) (bNote (up3 D 5 k 8 1) 0 k (-9) a 0) D' → UP X0 D (up3 D' 5 k 8 x) := by
    intro D' x hx hu j hj
    obtain ⟨u1, u2, u3⟩ := hu j hj
    rw [e5] at u1 u2 u3
    by_cases q : j = k
    · subst q
      rw [up3_s]
      refine ⟨fun z => absurd h0 z, fun z => by omega, fun r hr => ?_⟩
      obtain ⟨v1, v2, v3⟩ := u3 r hr
      rw [e17] at v1 v2
      rw [up3_f _ _ (by decide)]
      exact ⟨v1, v2, fun _ z => by omega⟩
    · rw [up3_k _ _ q] at u1 u2 u3 ⊢
      refine ⟨u1, u2, fun r hr => ?_⟩
      obtain ⟨v1, v2, v3⟩ := u3 r hr
      rw [e17] at v1 v2 v3
      rw [up3_f _ _ (by decide)]
      exact ⟨v1, v2, fun _ z => v3 q z⟩
  have nz : ∀ (D' : Mm), UP (Xt k) (bNote (up3 D 5 k 8 1) 0 k (-9) a 0) D' → D' 5 k 8 = 1 := fun D' hu => by
    have := (hu k hk').1
    rw [e5, up3_s] at this
    exact this (by decide)
  have ps : ∀ (D' : Mm) (x : Int), (x = 2 ∨ x = 3) → UP (Xt k) (bNote (up3 D 5 k 8 1) 0 k (-9) a 0) D' → Psi D' ≤ Psi (bNote (up3 D 5 k 8 1) 0 k (-9) a 0) + 12000 → Psi (up3 D' 5 k 8 x) ≤ Psi D + 0 := by
    intro D' x hx hu hp
    rw [Psi_eq (D := D') ⟨up3_f _ _ (by decide), up3_f _ _ (by decide)⟩ (fun j hj => ⟨?_, fun r hr => by rw [up3_f _ _ (by decide)]⟩)]
    · omega
    · by_cases q : j = k
      · subst q
        rw [up3_s, nz D' hu]
        constructor <;> intro z <;> omega
      · rw [up3_k _ _ q]
  unfold wakeF
  cases hb : bodyW S wk rw_ (bNote (up3 D 5 k 8 1) 0 k (-9) a 0) k with
  | inl t =>
    obtain ⟨w, m, D'⟩ := t
    rw [hb] at g
    obtain ⟨g1, g2, g3, g4, g5⟩ := g
    exact ⟨⟨DW_5 g1 hk' (by omega), ps D' 3 (Or.inr rfl) g3 g2, up D' 3 (Or.inr rfl) g3, g4, by omega⟩, fun v D2 e => by cases e⟩
  | inr t =>
    obtain ⟨v, D'⟩ := t
    rw [hb] at g
    obtain ⟨g1, g2, g3, g4⟩ := g
    exact ⟨⟨DW_5 g1 hk' (by omega), ps D' 2 (Or.inl rfl) g3 g2, up D' 2 (Or.inl rfl) g3, i64z⟩, fun v D2 e => by cases e; exact up3_s _ _ _ _ _⟩
theorem row_i {S : Sd} {n δ : Nat} {wk : WkT} {rw_ : RwT} (hS : SOk S n) (hw : WkOk S n δ wk) (hr : RwOk S n δ rw_) : RwOk S n (δ + 1) (rowF S wk rw_) := by
  intro D k r a h hk hr25 ha h0 h5 hb
  have hn := hS.1
  have hk' : k < 12 := by omega
  have he := entsZ_r (sSz S k)
  have d1 : DW S (up3 D 17 k r 1) := DW_17 h hk' (by omega) h5 hb
  have d2 : DW S (bNote (up3 D 17 k r 1) 0 k r a 0) := DW_note d1 (by decide) ⟨by omega, by omega, ha⟩ i64z (fun _ => rfl)
  have p2 : Psi (bNote (up3 D 17 k r 1) 0 k r a 0) ≤ Psi D - 499 := by
    have := Psi_row hk' hr25 h0 h5
    rw [Psi_note d1 (by decide)]
    omega
  have e5 : ∀ j, bNote (up3 D 17 k r 1) 0 k r a 0 5 j 8 = D 5 j 8 := fun j => by
    rw [show bNote (up3 D 17 k r 1) 0 k r a 0 5 j 8 = up3 D 17 k r 1 5 j 8 from noteS_f _ _ _ _ _ _ _ ⟨by decide, by decide⟩ _ _, up3_f _ _ (by decide)]
  have e17 : ∀ j i, bNote (up3 D 17 k r 1) 0 k r a 0 17 j i = up3 D 17 k r 1 17 j i := fun j i => noteS_f _ _ _ _ _ _ _ ⟨by decide, by decide⟩ _ _
  have g := mk_i (k := k) hS hk (ask_i hS.1 hw hr) (min (entsZ (sSz S k)) (8 * r + 8) - 8 * r).toNat (8 * r) _ d2 (by omega)
  have up : ∀ (D' : Mm) (x : Int), (x = 2 ∨ x = 3) → UP X0 (bNote (up3 D 17 k r 1) 0 k r a 0) D' → UP (Xr k r) D (up3 D' 17 k r x) := by
    intro D' x hx hu j hj
    obtain ⟨u1, u2, u3⟩ := hu j hj
    rw [e5] at u1 u2 u3
    rw [up3_f _ _ (by decide)]
    refine ⟨u1, u2, fun i hi => ?_⟩
    obtain ⟨v1, v2, v3⟩ := u3 i hi
    rw [e17] at v1 v2 v3
    by_cases q : j = k ∧ i = r
    · obtain ⟨rfl, rfl⟩ := q
      rw [up3_s]
      exact ⟨fun z => absurd h0 z, fun z => by omega, fun z => absurd ⟨rfl, rfl⟩ z⟩
    · have eq : ∀ (F : Mm) (y : Int), up3 F 17 k r y 17 j i = F 17 j i := fun F y => by unfold up3; rw [if_neg (by omega)]
      rw [eq] at v1 v2 v3 ⊢
      exact ⟨v1, v2, fun _ z => v3 (fun y => y) z⟩
  have nz : ∀ (D' : Mm), UP X0 (bNote (up3 D 17 k r 1) 0 k r a 0) D' → D' 17 k r = 1 := fun D' hu => by
    have := ((hu k hk').2.2 r hr25).1
    rw [e17, up3_s] at this
    exact this (by decide)
  have nz5 : ∀ (D' : Mm), UP X0 (bNote (up3 D 17 k r 1) 0 k r a 0) D' → D' 5 k 8 ≠ 0 := fun D' hu => by
    have := (hu k hk').1
    rw [e5] at this
    rw [this h5]
    exact h5
  have ps : ∀ (D' : Mm) (x : Int), (x = 2 ∨ x = 3) → UP X0 (bNote (up3 D 17 k r 1) 0 k r a 0) D' → Psi D' ≤ Psi (bNote (up3 D 17 k r 1) 0 k r a 0) + (60 * ((min (entsZ (sSz S k)) (8 * r + 8) - 8 * r).toNat : Int)) → Psi (up3 D' 17 k r x) ≤ Psi D + 0 := by
    intro D' x hx hu hp
    rw [Psi_eq (D := D') ⟨up3_f _ _ (by decide), up3_f _ _ (by decide)⟩ (fun j hj => ⟨by rw [up3_f _ _ (by decide)], fun i hi => ?_⟩)]
    · omega
    · by_cases q : j = k ∧ i = r
      · obtain ⟨rfl, rfl⟩ := q
        rw [up3_s, nz D' hu]
        constructor <;> intro z <;> omega
      · rw [show up3 D' 17 k r x 17 j i = D' 17 j i by unfold up3; rw [if_neg (by omega)]]
  unfold rowF
  cases hbb : mkF S (askF S wk rw_) k (min (entsZ (sSz S k)) (8 * r + 8) - 8 * r).toNat (8 * r) (bNote (up3 D 17 k r 1) 0 k r a 0) with
  | inl t =>
    obtain ⟨w, m, D'⟩ := t
    rw [hbb] at g
    obtain ⟨g1, g2, g3, g4, g5⟩ := g
    exact ⟨⟨DW_17 g1 hk' (by omega) (nz5 D' g3) hb, ps D' 3 (Or.inr rfl) g3 g2, up D' 3 (Or.inr rfl) g3, g4, by omega⟩, fun v D2 e => by cases e⟩
  | inr t =>
    obtain ⟨v, D'⟩ := t
    rw [hbb] at g
    obtain ⟨g1, g2, g3, g4⟩ := g
    exact ⟨⟨DW_17 g1 hk' (by omega) (nz5 D' g3) hb, ps D' 2 (Or.inl rfl) g3 g2, up D' 2 (Or.inl rfl) g3, i64z⟩, fun v D2 e => by cases e; exact up3_s _ _ _ _ _⟩
theorem lv_i {S : Sd} {n : Nat} (hS : SOk S n) : ∀ δ, WkOk S n δ (lvW S δ).1 ∧ RwOk S n δ (lvW S δ).2 := by
  intro δ
  induction δ with
  | zero => exact ⟨fun D k a h _ _ _ => ⟨EI_fail h (by omega), fun v D' e => by cases e⟩, fun D k r a h _ _ _ _ _ _ => ⟨EI_fail h (by omega), fun v D' e => by cases e⟩⟩
  | succ δ ih => exact ⟨wake_i hS ih.1 ih.2, row_i hS ih.1 ih.2⟩
