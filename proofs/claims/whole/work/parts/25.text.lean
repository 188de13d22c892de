/-! a whole TEXT -/
def txtF (K V Q : Nat → Int) : Nat → Nat → List TabD → Int → Nat ⊕ (List TabD × Int)
  | 0, i, _, _ => .inl i
  | c + 1, i, ds, nf => match tabF K V Q ds nf i with
    | .inl e => .inl e
    | .inr (i', D, nf') => if K i' = 0 then .inr (ds ++ [D], nf') else txtF K V Q c i' (ds ++ [D]) nf'
/-- name FAULTS of the SUMS of the first TABLES -/
def rsA (ds : List TabD) : List TabD → Int → Int
  | [], nf => nf
  | D :: r, nf => rsA ds r (rsN ds D.2.2.2.2.2 nf)
theorem rsA_app (ds a b : List TabD) (nf : Int) : rsA ds (a ++ b) nf = rsA ds b (rsA ds a nf) := by
  induction a generalizing nf with
  | nil => rfl
  | cons z r ih => exact ih _
abbrev dz : TabD := (0, 0, 0, 0, 0, [])
/-- all that the grammar gives of a TABLE -/
def DOk (D : TabD) : Prop := i64 D.1 ∧ i64 D.2.1 ∧ (D.2.2.1 = 0 ∨ D.2.2.1 = 1) ∧ (D.2.2.2.1 = 0 ∨ D.2.2.2.1 = 1) ∧ D.2.2.2.2.2.length ≤ 48 ∧ ∀ z ∈ D.2.2.2.2.2, ZOk z
theorem tB_ok {σ : Mm} {f L : Nat} (hL : L ≤ 900) (hnz : ∀ j, j < L → σ f 0 j % 256 ≠ 0) : BOk (tB σ f L) L := by
  refine ⟨hL, fun j hj => ?_, tB_end σ f L, tB_r σ f L⟩
  unfold tB
  rw [if_pos hj]
  exact hnz j hj
theorem tok_names {B : Nat → Int} {L : Nat} (h : BOk B L) (i : Nat) (hk : tK B i = 2) : i64 (tV B i) ∧ 0 ≤ tQ B i ∧ tQ B i ≤ 900 := by
  refine ⟨tkV_le hk, Int.natCast_nonneg _, ?_⟩
  rcases Nat.lt_or_ge (tq B i) L with q | q
  · have := h.1
    show ((tq B i : Nat) : Int) ≤ 900
    omega
  · exfalso
    have e := h.2.2.1 _ q
    have hk : tkK B (tq B i) = 2 := hk
    unfold tkK at hk
    rw [e] at hk
    rw [show isDg (0 : Int) = false from rfl, show isLe (0 : Int) = false from rfl, show isSg (0 : Int) = false from rfl] at hk
    simp at hk
theorem tabF_ok {B : Nat → Int} {L : Nat} (h : BOk B L) {ds : List TabD} {nf : Int} {i i' : Nat} {D : TabD} {nf' : Int} (ht : tabF (tK B) (tV B) (tQ B) ds nf i = .inr (i', D, nf')) : D.2.2.2.2.2.length ≤ 48 ∧ ∀ z ∈ D.2.2.2.2.2, ZOk z := by
  unfold tabF at ht
  split at ht
  · split at ht
    · split at ht
      · split at ht
        · cases ht
        · unfold bodyF at ht
          split at ht
          · split at ht
            · split at ht
              · split at ht
                · cases ht
                · next i5 u5 code hs =>
                  split at ht
                  · cases ht
                  · injection ht with ht
                    injection ht with h1 h2
                    injection h2 with h2 h3
                    subst h2
                    have hb : PB 0 (.inr (i5, u5, code)) := hs ▸ sumF_b (K := tK B) (uF_b (tK B) (tV B) (tQ B) 11) 0 _
                    have ho : POk (.inr (i5, u5, code)) := hs ▸ sumF_ok (K := tK B) (fun u i => uF_ok (V := tV B) (Q := tQ B) (tok_names h) 11 u i) 0 _
                    obtain ⟨b1, b2, b3⟩ := hb
                    exact ⟨by show code.length ≤ 48; omega, ho⟩
              · cases ht
            · cases ht
          · cases ht
      · cases ht
    · cases ht
  · cases ht
theorem ds_get {ds : List TabD} {D : TabD} {k : Nat} (hk : k < (ds ++ [D]).length) : (k < ds.length ∧ (ds ++ [D]).getD k dz = ds.getD k dz) ∨ (k = ds.length ∧ (ds ++ [D]).getD k dz = D) := by
  rcases Nat.lt_or_ge k ds.length with h | h
  · refine Or.inl ⟨h, ?_⟩
    rw [List.getD_eq_getElem?_getD, List.getD_eq_getElem?_getD, List.getElem?_append_left h]
  · simp only [List.length_append, List.length_cons, List.length_nil] at hk
    obtain rfl : k = ds.length := by omega
    refine Or.inr ⟨rfl, ?_⟩
    rw [List.getD_eq_getElem?_getD, List.getElem?_append_right (Nat.le_refl _), Nat.sub_self]
    rfl
/-- what reading leaves alone -/
def FrX (s : Nat) (τ σ : Mm) : Prop := ∀ f k j, ¬ (f = 3 ∨ f = 2 ∨ (f = 4 ∧ k = s) ∨ (((f = 5 ∧ j ≠ 8) ∨ f = 6 ∨ f = 13 ∨ f = 14 ∨ f = 15) ∧ 12 * s ≤ k ∧ k < 12 * s + 12)) → τ f k j = σ f k j
theorem frX_tr {s : Nat} {ρ τ σ : Mm} (h : FrX s ρ τ) (h2 : FrX s τ σ) : FrX s ρ σ := fun f k j hf => (h f k j hf).trans (h2 f k j hf)
theorem frX_M {s n : Nat} {τ σ : Mm} (h : FrM (12 * s + n) τ σ) (hn : n < 12) : FrX s τ σ := fun f k j hf => h f k j (by omega)
theorem frX_up {s f k j : Nat} {τ σ : Mm} {x : Int} (h : FrX s τ σ) (hf : f = 3 ∨ f = 2 ∨ (f = 4 ∧ k = s) ∨ (((f = 5 ∧ j ≠ 8) ∨ f = 6 ∨ f = 13 ∨ f = 14 ∨ f = 15) ∧ 12 * s ≤ k ∧ k < 12 * s + 12)) : FrX s (up3 τ f k j x) σ := by
  intro f' k' j' hn
  have e : up3 τ f k j x f' k' j' = τ f' k' j' := by
    unfold up3
    rw [if_neg (fun z => hn (by obtain ⟨rfl, rfl, rfl⟩ := z; exact hf))]
  rw [e]
  exact h f' k' j' hn
theorem frX_B {s L : Nat} {τ σ : Mm} (h : FrX s τ σ) : tB τ 11 L = tB σ 11 L := by
  funext j
  unfold tB
  rw [h 11 0 j (by omega)]
theorem frX_T {s L : Nat} {τ σ : Mm} (h : FrX s τ σ) (hT : TapeL σ L) : TapeL τ L := ⟨by rw [h 1 0 1 (by omega)]; exact hT.1, hT.2⟩
/-- the answer of the loop over TABLES -/
def XRes (σ : Mm) (L s : Nat) (res : Nat ⊕ (List TabD × Int)) (P : Int → Mm → Prop) : Prop := match res with
  | .inl e => ∃ σ', FrX s σ' σ ∧ P (tQ (tB σ 11 L) e) σ'
  | .inr (ds, nf) => ∃ σ', FrX s σ' σ ∧ Told σ' s ds ∧ (∀ k, k < ds.length → DOk (ds.getD k dz)) ∧ 0 < ds.length ∧ ds.length ≤ 12 ∧ P (rsA ds ds nf) σ'
