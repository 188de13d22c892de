/-! the reference's reader of a SUM against the grammar -/
section SIM
variable (K V Q : Nat → Int) (m : Nat)
abbrev nmZ (z : Zs) : Prop := z.1 = 2 ∨ z.1 = 3
/-- an act at place b for a step -/
def aR (b : Nat) (x : Int × Int) (z : Zs) : Prop :=
  (z.1 = 0 ∧ x = (1, z.2.1)) ∨ (z.1 = 1 ∧ x = (2, 0)) ∨ (z.1 = 4 ∧ x = (5, 0))
  ∨ (nmZ z ∧ ∃ T : Nat, x = (z.1 + 1, (T : Int)) ∧ K T = 2 ∧ V T = z.2.1 ∧ Q T = z.2.2)
  ∨ (z.1 = 5 ∧ x = (13, (b : Int) + 1 + z.2.1)) ∨ (z.1 = 6 ∧ x = (12, (b : Int) + 1 + z.2.1))
  ∨ ((z.1 = 43 ∨ z.1 = 45 ∨ z.1 = 42 ∨ z.1 = 47 ∨ z.1 = 37) ∧ x = (actF z.1, 0)) ∨ (z.1 = 60 ∧ x = (11, 0))
def NR : Nat → List (Int × Int) → List Zs → Prop
  | _, [], [] => True
  | b, x :: N, z :: s => aR K V Q b x z ∧ NR (b + 1) N s
  | _, _, _ => False
theorem NR_len : ∀ (N : List (Int × Int)) (s : List Zs) (b : Nat), NR K V Q b N s → N.length = s.length := by
  intro N
  induction N with
  | nil => intro s b h; cases s with
    | nil => rfl
    | cons z s => exact h.elim
  | cons x N ih => intro s b h; cases s with
    | nil => exact h.elim
    | cons z s => simp only [List.length_cons, ih s _ h.2]
theorem NR_app : ∀ (N : List (Int × Int)) (s : List Zs) (b : Nat) (N' : List (Int × Int)) (s' : List Zs), NR K V Q b N s → NR K V Q (b + N.length) N' s' → NR K V Q b (N ++ N') (s ++ s') := by
  intro N
  induction N with
  | nil => intro s b N' s' h h'; cases s with
    | nil => exact h'
    | cons z s => exact h.elim
  | cons x N ih => intro s b N' s' h h'; cases s with
    | nil => exact h.elim
    | cons z s => exact ⟨h.1, ih s _ _ _ h.2 (by rw [show b + 1 + N.length = b + (x :: N).length by simp only [List.length_cons]; omega]; exact h')⟩
/-- the names of the steps s are those of the uses W -/
def WN (W : List Us3) (s : List Zs) : Prop := (∀ t ∈ W, t.2 = (m, 0) ∧ K t.1 = 2 ∧ ∃ z ∈ s, nmZ z ∧ z.2.1 = V t.1 ∧ z.2.2 = Q t.1) ∧ ∀ z ∈ s, nmZ z → ∃ t ∈ W, z.2.1 = V t.1 ∧ z.2.2 = Q t.1
theorem WN_app {W W' : List Us3} {s s' : List Zs} (h : WN K V Q m W s) (h' : WN K V Q m W' s') : WN K V Q m (W ++ W') (s ++ s') := by
  refine ⟨fun t ht => ?_, fun z hz hn => ?_⟩
  · rcases List.mem_append.mp ht with q | q
    · obtain ⟨a, b, z, hz, c⟩ := h.1 t q
      exact ⟨a, b, z, List.mem_append.mpr (Or.inl hz), c⟩
    · obtain ⟨a, b, z, hz, c⟩ := h'.1 t q
      exact ⟨a, b, z, List.mem_append.mpr (Or.inr hz), c⟩
  · rcases List.mem_append.mp hz with q | q
    · obtain ⟨t, ht, c⟩ := h.2 z q hn
      exact ⟨t, List.mem_append.mpr (Or.inl ht), c⟩
    · obtain ⟨t, ht, c⟩ := h'.2 z q hn
      exact ⟨t, List.mem_append.mpr (Or.inr ht), c⟩
theorem WN_comm {W W' : List Us3} {s : List Zs} (h : WN K V Q m (W ++ W') s) : WN K V Q m (W' ++ W) s := by
  have e : ∀ t, t ∈ W' ++ W ↔ t ∈ W ++ W' := fun t => by rw [List.mem_append, List.mem_append]; exact Or.comm
  refine ⟨fun t ht => h.1 t ((e t).mp ht), fun z hz hn => ?_⟩
  obtain ⟨t, ht, c⟩ := h.2 z hz hn
  exact ⟨t, (e t).mpr ht, c⟩
theorem WN_no {k a b : Int} (h : k ≠ 2 ∧ k ≠ 3) : WN K V Q m [] [(k, a, b)] := ⟨fun t ht => (by cases ht), fun z hz hn => (by
  rw [List.mem_singleton.mp hz] at hn
  exact absurd hn (by show ¬ (k = 2 ∨ k = 3); omega))⟩
theorem WN_one {k : Int} {T : Nat} (h : k = 2 ∨ k = 3) (hk : K T = 2) : WN K V Q m [(T, m, 0)] [(k, V T, Q T)] := ⟨fun t ht => (by
  rw [List.mem_singleton.mp ht]
  exact ⟨rfl, hk, _, List.mem_singleton.mpr rfl, h, rfl, rfl⟩), fun z hz hn => ⟨_, List.mem_singleton.mpr rfl, by rw [List.mem_singleton.mp hz], by rw [List.mem_singleton.mp hz]⟩⟩
theorem WN_0 : WN K V Q m [] [] := ⟨fun t ht => (by cases ht), fun z hz => (by cases hz)⟩
/-! the loop, from a state that is known -/
variable {K V Q m}
theorem lr_neg {i u a : Nat} {A : List (Int × Int)} {S : List Fr3} {U : List Us3} {r : Nat ⊕ PSt} (h : LR K V m (i, u, a, A ++ [(5, 0)], S, U) r) : LR K V m (i, u, a + 1, A, (5, 0, 0) :: S, U) r := by
  obtain ⟨n, hn⟩ := h
  refine ⟨n, ?_⟩
  cases n with
  | zero => exact hn
  | succ n => exact hn
theorem enP_top {i u a : Nat} {A : List (Int × Int)} {S : List Fr3} {U : List Us3} (h : TopOk S) : enP (i, u, a, A, S, U) = (i, u, a, A, S, U) := by
  unfold enP
  cases S with
  | nil => rfl
  | cons z S =>
    have h1 : ¬ isHi z.1 := h.1
    have h2 : z.1 ≠ 5 := h.2
    have e : negP (z :: S) A a = (z :: S, A, a) := by rw [negP, if_neg h2]
    have e2 : hiP (z :: S) A = (z :: S, A) := by unfold hiP; exact if_neg h1
    show (i, u, (negP (z :: S) A a).2.2, (hiP (negP (z :: S) A a).1 (negP (z :: S) A a).2.1).2, (hiP (negP (z :: S) A a).1 (negP (z :: S) A a).2.1).1, U) = _
    rw [e]
    show (i, u, a, (hiP (z :: S) A).2, (hiP (z :: S) A).1, U) = _
    rw [e2]
theorem enP_hi {i u a : Nat} {k : Int} {A : List (Int × Int)} {S : List Fr3} {U : List Us3} (hk : isHi k) : enP (i, u, a, A, (k, 0, 0) :: S, U) = (i, u, a, A ++ [(actF k, 0)], S, U) := by
  have e : negP ((k, 0, 0) :: S) A a = ((k, 0, 0) :: S, A, a) := by rw [negP, if_neg (by show ¬ (k = 5); omega)]
  have e2 : hiP ((k, 0, 0) :: S) A = (S, A ++ [(actF k, 0)]) := if_pos hk
  show (i, u, (negP ((k, 0, 0) :: S) A a).2.2, (hiP (negP ((k, 0, 0) :: S) A a).1 (negP ((k, 0, 0) :: S) A a).2.1).2, (hiP (negP ((k, 0, 0) :: S) A a).1 (negP ((k, 0, 0) :: S) A a).2.1).1, U) = _
  rw [e]
  show (i, u, a, (hiP ((k, 0, 0) :: S) A).2, (hiP ((k, 0, 0) :: S) A).1, U) = _
  rw [e2]
theorem lr_hi {i u a : Nat} {k : Int} {A : List (Int × Int)} {S : List Fr3} {U : List Us3} {r : Nat ⊕ PSt} (ht : TopOk S) (hk : isHi k) (h : LR K V m (i, u, a, A ++ [(actF k, 0)], S, U) r) : LR K V m (i, u, a, A, (k, 0, 0) :: S, U) r := by
  obtain ⟨n, hn⟩ := h
  refine ⟨n, ?_⟩
  cases n with
  | zero => exact hn
  | succ n =>
    rw [lpP, enP_top ht] at hn
    rw [lpP, enP_hi hk]
    exact hn
theorem loP_no {S : List Fr3} {A : List (Int × Int)} (h : ¬ isLo (tpS S)) : loP S A = (S, A) := by
  unfold loP
  cases S with
  | nil => rfl
  | cons z S => exact if_neg h
theorem lr_lo {i u a : Nat} {k : Int} {A : List (Int × Int)} {S : List Fr3} {U : List Us3} {r : Nat ⊕ PSt} (ht : TopOk S) (hl : ¬ isLo (tpS S)) (hk : isLo k) (hi : ¬ isHi (K i)) (h : LR K V m (i, u, a, A ++ [(actF k, 0)], S, U) r) : LR K V m (i, u, a, A, (k, 0, 0) :: S, U) r := by
  obtain ⟨n, hn⟩ := h
  refine ⟨n, ?_⟩
  cases n with
  | zero => exact hn
  | succ n =>
    have e1 : loP ((k, 0, 0) :: S) A = (S, A ++ [(actF k, 0)]) := if_pos hk
    have ht2 : TopOk ((k, 0, 0) :: S) := ⟨by show ¬ isHi k; omega, by show k ≠ 5; omega⟩
    have eg : goP K V m (i, u, a, A, (k, 0, 0) :: S, U) = goP K V m (i, u, a, A ++ [(actF k, 0)], S, U) := by
      unfold goP
      simp only [e1, loP_no hl, if_neg hi]
    rw [lpP, enP_top ht] at hn
    rw [lpP, enP_top ht2, eg]
    exact hn
/-- a step of the loop -/
theorem lr_go {s : PSt} {r : Nat ⊕ PSt} {x : Nat ⊕ PSt} (he : enP s = s) (hg : goP K V m s = mapT x) (h : RR K V m x r) : LR K V m s r := by
  cases x with
  | inl e =>
    have h : r = .inl e := h
    refine ⟨1, ?_⟩
    rw [lpP, he, hg, h]
    rfl
  | inr t =>
    obtain ⟨n, hn⟩ := h
    refine ⟨n + 1, ?_⟩
    rw [lpP, he, hg]
    exact hn
theorem lr_t {s s' : PSt} {r : Nat ⊕ PSt} (he : enP s = s) (hg : goP K V m s = .inr (true, s')) (h : LR K V m s' r) : LR K V m s r := by
  obtain ⟨n, hn⟩ := h
  refine ⟨n + 1, ?_⟩
  rw [lpP, he, hg]
  exact hn
theorem lr_f {s s' : PSt} (he : enP s = s) (hg : goP K V m s = .inr (false, s')) : LR K V m s (.inr s') := ⟨1, by rw [lpP, he, hg]; rfl⟩
theorem lr_e {s : PSt} {e : Nat} (he : enP s = s) (hg : goP K V m s = .inl e) : LR K V m s (.inl e) := ⟨1, by rw [lpP, he, hg]⟩
theorem go_hi {i u a : Nat} {A : List (Int × Int)} {S : List Fr3} {U : List Us3} (h : isHi (K i)) : goP K V m (i, u, a, A, S, U) = mapT (rdU K V m 25 (i + 1) u a A ((K i, 0, 0) :: S) U) := by
  unfold goP; rw [if_pos h]
theorem go_lo {i u a : Nat} {A : List (Int × Int)} {S : List Fr3} {U : List Us3} (hl : ¬ isLo (tpS S)) (h : isLo (K i)) : goP K V m (i, u, a, A, S, U) = mapT (rdU K V m 25 (i + 1) u a A ((K i, 0, 0) :: S) U) := by
  unfold goP; rw [if_neg (by show ¬ isHi (K i); omega), if_pos h]
  show mapT (rdU K V m 25 (i + 1) u a (loP S A).2 ((K i, 0, 0) :: (loP S A).1) U) = _
  rw [loP_no hl]
theorem go_ds {i u a : Nat} {A : List (Int × Int)} {S : List Fr3} {U : List Us3} (hl : ¬ isLo (tpS S)) (h : ¬ isHi (K i) ∧ ¬ isLo (K i)) : goP K V m (i, u, a, A, S, U) = dsP K V m i u a A S U := by
  unfold goP; rw [if_neg h.1, if_neg h.2]
  show dsP K V m i u a (loP S A).2 (loP S A).1 U = _
  rw [loP_no hl]
/-- X leads to the result of the grammar -/
def Gd (K V Q : Nat → Int) (m a : Nat) (A : List (Int × Int)) (S : List Fr3) (U : List Us3) (X : Nat ⊕ PSt) (P : Nat → Prop) (res : PR) : Prop := match res with
  | .inl e => RR K V m X (.inl e)
  | .inr (i', u', s) => P i' ∧ ∃ N W, NR K V Q A.length N s ∧ WN K V Q m W s ∧ ∀ r, LR K V m (i', u', a, A ++ N, S, U ++ W) r → RR K V m X r
/-- the UNIT's, the PRODUCT's, the SUM's -/
def GU (K V Q : Nat → Int) (m δ : Nat) : Prop := ∀ (f i u a : Nat) (A : List (Int × Int)) (S : List Fr3) (U : List Us3), 25 ≤ u + f → a + δ = 11 → Gd K V Q m a A S U (rdU K V m f i u a A S U) (fun _ => True) (uF K V Q δ u i)
def GP (K V Q : Nat → Int) (m δ : Nat) : Prop := ∀ (f i u a : Nat) (A : List (Int × Int)) (S : List Fr3) (U : List Us3), 25 ≤ u + f → a + δ = 11 → TopOk S → Gd K V Q m a A S U (rdU K V m f i u a A S U) (fun i => ¬ isHi (K i)) (prodF K (uF K V Q δ) u i)
def GS (K V Q : Nat → Int) (m δ : Nat) : Prop := ∀ (f i u a : Nat) (A : List (Int × Int)) (S : List Fr3) (U : List Us3), 25 ≤ u + f → a + δ = 11 → TopOk S → ¬ isLo (tpS S) → Gd K V Q m a A S U (rdU K V m f i u a A S U) (fun i => ¬ isHi (K i) ∧ ¬ isLo (K i)) (sumF K (uF K V Q δ) u i)
theorem NR_op {b : Nat} {k : Int} (hk : isHi k ∨ isLo k) : NR K V Q b [(actF k, 0)] [(k, 0, -9)] := ⟨Or.inr (Or.inr (Or.inr (Or.inr (Or.inr (Or.inr (Or.inl ⟨by show k = 43 ∨ k = 45 ∨ k = 42 ∨ k = 47 ∨ k = 37; omega, rfl⟩)))))), trivial⟩
theorem gp_of {δ : Nat} (hU : GU K V Q m δ) : GP K V Q m δ := by
  intro f i u a A S U hf ha ht
  have hb := uF_b K V Q δ
  have loop : ∀ (c i2 u2 : Nat) (s : List Zs) (N : List (Int × Int)) (W : List Us3), 25 ≤ u2 + c → u2 ≤ 24 → NR K V Q A.length N s → WN K V Q m W s → (∀ r, LR K V m (i2, u2, a, A ++ N, S, U ++ W) r → RR K V m (rdU K V m f i u a A S U) r) → Gd K V Q m a A S U (rdU K V m f i u a A S U) (fun i => ¬ isHi (K i)) (prodL K (uF K V Q δ) c i2 u2 s) := by
    intro c
    induction c with
    | zero => intro i2 u2 s N W h1 h2; omega
    | succ c ih =>
      intro i2 u2 s N W h1 h2 hN hW hr
      unfold prodL
      by_cases hk : isHi (K i2)
      · rw [if_pos hk]
        have g := hU 25 (i2 + 1) u2 a (A ++ N) ((K i2, 0, 0) :: S) (U ++ W) (by omega) ha
        have hu := hb u2 (i2 + 1)
        have back : ∀ r, RR K V m (rdU K V m 25 (i2 + 1) u2 a (A ++ N) ((K i2, 0, 0) :: S) (U ++ W)) r → RR K V m (rdU K V m f i u a A S U) r := fun r q => hr r (lr_go (enP_top ht) (go_hi hk) q)
        cases hv : uF K V Q δ u2 (i2 + 1) with
        | inl e =>
          rw [hv] at g
          exact back _ g
        | inr t =>
          obtain ⟨i3, u3, s3⟩ := t
          rw [hv] at g hu
          obtain ⟨-, N', W', k1, k2, k3⟩ := g
          have hl := NR_len K V Q _ _ _ hN
          have k1 : NR K V Q (A.length + N.length) N' s3 := by rw [← List.length_append]; exact k1
          refine ih i3 u3 (s ++ s3 ++ [(K i2, 0, -9)]) (N ++ N' ++ [(actF (K i2), 0)]) (W ++ W') (by have := hu.1; omega) hu.2.1 (NR_app K V Q _ _ _ _ _ (NR_app K V Q _ _ _ _ _ hN k1) (NR_op (Or.inl hk))) ?_ (fun r q => back r (k3 r (lr_hi ht hk ?_)))
          · have e : W ++ W' = W ++ W' ++ [] := by rw [List.append_nil]
            rw [e]
            exact WN_app K V Q m (WN_app K V Q m hW k2) (WN_no K V Q m (by omega))
          · simpa only [List.append_assoc] using q
      · rw [if_neg hk]
        exact ⟨hk, N, W, hN, hW, hr⟩
  have g := hU f i u a A S U hf ha
  have hu := hb u i
  unfold prodF
  cases hv : uF K V Q δ u i with
  | inl e => rw [hv] at g; exact g
  | inr t =>
    obtain ⟨i2, u2, s⟩ := t
    rw [hv] at g hu
    obtain ⟨-, N, W, k1, k2, k3⟩ := g
    exact loop 900 i2 u2 s N W (by omega) hu.2.1 k1 k2 k3
theorem gs_of {δ : Nat} (hP : GP K V Q m δ) : GS K V Q m δ := by
  intro f i u a A S U hf ha ht hl
  have hb := prodF_b (K := K) (uF_b K V Q δ)
  have loop : ∀ (c i2 u2 : Nat) (s : List Zs) (N : List (Int × Int)) (W : List Us3), 25 ≤ u2 + c → u2 ≤ 24 → ¬ isHi (K i2) → NR K V Q A.length N s → WN K V Q m W s → (∀ r, LR K V m (i2, u2, a, A ++ N, S, U ++ W) r → RR K V m (rdU K V m f i u a A S U) r) → Gd K V Q m a A S U (rdU K V m f i u a A S U) (fun i => ¬ isHi (K i) ∧ ¬ isLo (K i)) (sumL K (uF K V Q δ) c i2 u2 s) := by
    intro c
    induction c with
    | zero => intro i2 u2 s N W h1 h2; omega
    | succ c ih =>
      intro i2 u2 s N W h1 h2 hnh hN hW hr
      unfold sumL
      by_cases hk : isLo (K i2)
      · rw [if_pos hk]
        have g := hP 25 (i2 + 1) u2 a (A ++ N) ((K i2, 0, 0) :: S) (U ++ W) (by omega) ha ⟨by show ¬ isHi (K i2); exact hnh, by show K i2 ≠ 5; omega⟩
        have hu := hb u2 (i2 + 1)
        have back : ∀ r, RR K V m (rdU K V m 25 (i2 + 1) u2 a (A ++ N) ((K i2, 0, 0) :: S) (U ++ W)) r → RR K V m (rdU K V m f i u a A S U) r := fun r q => hr r (lr_go (enP_top ht) (go_lo hl hk) q)
        cases hv : prodF K (uF K V Q δ) u2 (i2 + 1) with
        | inl e =>
          rw [hv] at g
          exact back _ g
        | inr t =>
          obtain ⟨i3, u3, s3⟩ := t
          rw [hv] at g hu
          obtain ⟨k0, N', W', k1, k2, k3⟩ := g
          have k1 : NR K V Q (A.length + N.length) N' s3 := by rw [← List.length_append]; exact k1
          refine ih i3 u3 (s ++ s3 ++ [(K i2, 0, -9)]) (N ++ N' ++ [(actF (K i2), 0)]) (W ++ W') (by have := hu.1; omega) hu.2.1 k0 (NR_app K V Q _ _ _ _ _ (NR_app K V Q _ _ _ _ _ hN k1) (NR_op (Or.inr hk))) ?_ (fun r q => back r (k3 r (lr_lo ht hl hk k0 ?_)))
          · have e : W ++ W' = W ++ W' ++ [] := by rw [List.append_nil]
            rw [e]
            exact WN_app K V Q m (WN_app K V Q m hW k2) (WN_no K V Q m (by omega))
          · simpa only [List.append_assoc] using q
      · rw [if_neg hk]
        exact ⟨⟨hnh, hk⟩, N, W, hN, hW, hr⟩
  have g := hP f i u a A S U hf ha ht
  have hu := hb u i
  unfold sumF
  cases hv : prodF K (uF K V Q δ) u i with
  | inl e => rw [hv] at g; exact g
  | inr t =>
    obtain ⟨i2, u2, s⟩ := t
    rw [hv] at g hu
    obtain ⟨k0, N, W, k1, k2, k3⟩ := g
    exact loop 900 i2 u2 s N W (by omega) hu.2.1 k0 k1 k2 k3
end SIM
