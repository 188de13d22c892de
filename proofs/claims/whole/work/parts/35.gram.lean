/-! the grammar never goes past the end of the tape -/
def PQ (B : Nat → Int) (L : Nat) : PR → Prop
  | .inl e => tq B e ≤ L
  | .inr (i, _, _) => tq B i ≤ L
section GRAM
variable {B : Nat → Int} {L : Nat}
theorem adv_q (h : BOk B L) {i : Nat} (hi : tq B i ≤ L) (hk : tK B i ≠ 0) : tq B (i + 1) ≤ L := (tq_next h hi hk).2.1
theorem bindR_q {r : PR} {f : Nat → Nat → List Zs → PR} (hr : PQ B L r) (hf : ∀ i u s, tq B i ≤ L → PQ B L (f i u s)) : PQ B L (bindR r f) := by
  cases r with
  | inl e => exact hr
  | inr t =>
    obtain ⟨i, u, s⟩ := t
    exact hf i u s hr
theorem needR_q (h : BOk B L) {k : Int} {i u : Nat} {s : List Zs} (hi : tq B i ≤ L) (hk : k ≠ 0) : PQ B L (needR (tK B) k i u s) := by
  unfold needR
  split
  · next hk2 => exact adv_q h hi (by omega)
  · exact hi
def PQU (B : Nat → Int) (L : Nat) (un : Nat → Nat → PR) : Prop := ∀ u i, tq B i ≤ L → PQ B L (un u i)
theorem prodL_q (h : BOk B L) {un : Nat → Nat → PR} (hu : PQU B L un) : ∀ (c i u : Nat) (s : List Zs), tq B i ≤ L → PQ B L (prodL (tK B) un c i u s) := by
  intro c
  induction c with
  | zero => intro i u s hi; exact hi
  | succ c ih =>
    intro i u s hi
    unfold prodL
    split
    · exact bindR_q (hu _ _ (adv_q h hi (by omega))) (fun i' u' s' hi' => ih _ _ _ hi')
    · exact hi
theorem prodF_q (h : BOk B L) {un : Nat → Nat → PR} (hu : PQU B L un) : PQU B L (prodF (tK B) un) := fun u i hi => bindR_q (hu u i hi) (fun i' u' s' hi' => prodL_q h hu _ _ _ _ hi')
theorem sumL_q (h : BOk B L) {un : Nat → Nat → PR} (hu : PQU B L un) : ∀ (c i u : Nat) (s : List Zs), tq B i ≤ L → PQ B L (sumL (tK B) un c i u s) := by
  intro c
  induction c with
  | zero => intro i u s hi; exact hi
  | succ c ih =>
    intro i u s hi
    unfold sumL
    split
    · exact bindR_q (prodF_q h hu _ _ (adv_q h hi (by omega))) (fun i' u' s' hi' => ih _ _ _ hi')
    · exact hi
theorem sumF_q (h : BOk B L) {un : Nat → Nat → PR} (hu : PQU B L un) : PQU B L (sumF (tK B) un) := fun u i hi => bindR_q (prodF_q h hu u i hi) (fun i' u' s' hi' => sumL_q h hu _ _ _ _ hi')
theorem uF_q (h : BOk B L) {V Q : Nat → Int} : ∀ δ, PQU B L (uF (tK B) V Q δ) := by
  intro δ
  induction δ with
  | zero => intro u i hi; exact hi
  | succ δ ih =>
    have hs := sumF_q h ih
    intro u i hi
    unfold uF
    split
    · exact hi
    split
    · exact adv_q h hi (by omega)
    split
    · exact adv_q h hi (by omega)
    split
    · exact needR_q h (adv_q h hi (by omega)) (by decide)
    split
    · have h1 := adv_q h hi (by omega)
      unfold entF
      split
      · exact bindR_q (hs _ _ (adv_q h h1 (by omega))) (fun i' u' s hi' => needR_q h hi' (by decide))
      · exact h1
    split
    · exact bindR_q (ih _ _ (adv_q h hi (by omega))) (fun i' u' s hi' => hi')
    split
    · unfold grpF
      refine bindR_q (hs _ _ (adv_q h hi (by omega))) (fun i0 u0 s0 h0 => ?_)
      split
      · exact bindR_q (hs _ _ (adv_q h h0 (by omega))) (fun i' u' s hi' => needR_q h hi' (by decide))
      split
      · unfold choiF
        refine bindR_q (bindR_q (hs _ _ (adv_q h h0 (by omega))) (fun i1 u1 s1 h1 => ?_)) (fun i2 u2 s hi2 => needR_q h hi2 (by decide))
        split
        · exact bindR_q (hs _ _ (adv_q h h1 (by omega))) (fun i2 u2 s2 hi2 => hi2)
        · exact h1
      · exact needR_q h h0 (by decide)
    · exact hi
def nfOk (nf : Int) : Prop := nf = -9 ∨ (0 ≤ nf ∧ nf ≤ 900)
theorem nfA_ok {nf x : Int} (h : nfOk nf) (hx : 0 ≤ x ∧ x ≤ 900) : nfOk (nfA nf x) := by
  unfold nfA nfOk at *
  split <;> omega
def SQ (B : Nat → Int) (L : Nat) (r : Nat ⊕ (Nat × Int × Int)) : Prop := match r with
  | .inl e => tq B e ≤ L
  | .inr (i, _, nf) => tq B i ≤ L ∧ nfOk nf
theorem szL_q (h : BOk B L) {ds : List TabD} : ∀ (c i : Nat) (acc sign nf : Int), tq B i ≤ L → nfOk nf → SQ B L (szL (tK B) (tV B) (tQ B) ds c i acc sign nf) := by
  intro c
  induction c with
  | zero => intro i acc sign nf hi _; exact hi
  | succ c ih =>
    intro i acc sign nf hi hnf
    unfold szL
    split
    · have h1 := adv_q h hi (by omega)
      split
      · next hk2 =>
        have h2 := adv_q h h1 (by omega)
        have hn2 : nfOk (if nofD ds (tV B (i + 1)) = -9 then nfA nf (tQ B (i + 1)) else nf) := by
          split
          · exact nfA_ok hnf (tok_names h _ hk2).2
          · exact hnf
        split
        · exact ih _ _ _ _ (adv_q h h2 (by omega)) hn2
        · exact ⟨h2, hn2⟩
      · exact h1
    split
    · have h1 := adv_q h hi (by omega)
      split
      · exact ih _ _ _ _ (adv_q h h1 (by omega)) hnf
      · exact ⟨h1, hnf⟩
    · exact hi
def EndQ (B : Nat → Int) (L : Nat) (r : Nat ⊕ (Nat × Int × Int)) : Prop := match r with
  | .inl e => tq B e ≤ L
  | .inr (i, _, _) => tq B i ≤ L
def TxQ (B : Nat → Int) (L : Nat) (r : Nat ⊕ (List TabD × Int)) : Prop := match r with
  | .inl e => tq B e ≤ L
  | .inr (_, nf) => nfOk nf
theorem endF_q (h : BOk B L) {i : Nat} (hi : tq B i ≤ L) : EndQ B L (endF (tK B) (tV B) i) := by
  unfold endF
  split
  · have h1 := adv_q h hi (by omega)
    split
    · have h2 : tq B (i + 2) ≤ L := adv_q h h1 (by omega)
      split
      · have h3 : tq B (i + 3) ≤ L := adv_q h h2 (by omega)
        split
        · exact adv_q h h3 (by omega)
        · exact h3
      · exact h2
    · split
      · have h2 : tq B (i + 2) ≤ L := adv_q h h1 (by omega)
        split
        · exact adv_q h h2 (by omega)
        · exact h2
      · exact h1
  · split
    · exact adv_q h hi (by omega)
    · exact hi
def TQr (B : Nat → Int) (L : Nat) (r : Nat ⊕ (Nat × TabD × Int)) : Prop := match r with
  | .inl e => tq B e ≤ L
  | .inr (i, _, nf) => tq B i ≤ L ∧ nfOk nf
theorem bodyF_q (h : BOk B L) {i4 : Nat} {nm size nf2 : Int} (hi : tq B i4 ≤ L) (hnf : nfOk nf2) : TQr B L (bodyF (tK B) (tV B) (tQ B) i4 nm size nf2) := by
  unfold bodyF
  split
  · have h1 := adv_q h hi (by omega)
    split
    · have h2 : tq B (i4 + 2) ≤ L := adv_q h h1 (by omega)
      split
      · have h3 : tq B (i4 + 3) ≤ L := adv_q h h2 (by omega)
        have hs := sumF_q h (uF_q h (V := tV B) (Q := tQ B) 11) 0 (i4 + 3) h3
        split
        · next e he => rw [he] at hs; exact hs
        · next i5 u5 code he =>
          rw [he] at hs
          have hs : tq B i5 ≤ L := hs
          have he2 := endF_q h hs
          split
          · next e he3 => rw [he3] at he2; exact he2
          · next i6 ip pr he3 => rw [he3] at he2; exact ⟨he2, hnf⟩
      · exact h2
    · exact h1
  · exact hi
theorem tabF_q (h : BOk B L) {ds : List TabD} {nf : Int} {i : Nat} (hi : tq B i ≤ L) (hnf : nfOk nf) : TQr B L (tabF (tK B) (tV B) (tQ B) ds nf i) := by
  unfold tabF
  split
  · have h1 := adv_q h hi (by omega)
    split
    · next hk2 =>
      have h2 : tq B (i + 2) ≤ L := adv_q h h1 (by omega)
      split
      · have h3 : tq B (i + 3) ≤ L := adv_q h h2 (by omega)
        have hn2 : nfOk (if nofD ds (tV B (i + 1)) ≠ -9 then nfA nf (tQ B (i + 1)) else nf) := by
          split
          · exact nfA_ok hnf (tok_names h _ hk2).2
          · exact hnf
        have hs := szL_q h (ds := ds) 8 (i + 3) 0 43 _ h3 hn2
        split
        · next e he => rw [he] at hs; exact hs
        · next i4 size nf2 he =>
          rw [he] at hs
          exact bodyF_q h hs.1 hs.2
      · exact h2
    · exact h1
  · exact hi
theorem txtF_q (h : BOk B L) : ∀ (c i : Nat) (ds : List TabD) (nf : Int), tq B i ≤ L → nfOk nf → TxQ B L (txtF (tK B) (tV B) (tQ B) c i ds nf) := by
  intro c
  induction c with
  | zero => intro i ds nf hi _; exact hi
  | succ c ih =>
    intro i ds nf hi hnf
    unfold txtF
    have ht := tabF_q h (ds := ds) hi hnf
    cases hv : tabF (tK B) (tV B) (tQ B) ds nf i with
    | inl e => rw [hv] at ht; exact ht
    | inr t =>
      obtain ⟨i', D, nf'⟩ := t
      rw [hv] at ht
      obtain ⟨h1, h2⟩ := ht
      show TxQ B L (if tK B i' = 0 then .inr (ds ++ [D], nf') else txtF (tK B) (tV B) (tQ B) c i' (ds ++ [D]) nf')
      split
      · exact h2
      · exact ih i' (ds ++ [D]) nf' h1 h2
theorem tq_0 (h : BOk B L) : tq B 0 ≤ L := (rn_le (P := isBl) rfl h.2.2.1 0).2 (Nat.zero_le _)
end GRAM
