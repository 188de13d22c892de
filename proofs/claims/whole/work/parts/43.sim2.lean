/-! the reference's UNIT against the grammar -/
section SIM2
variable {K V Q : Nat → Int} {m : Nat}
theorem rdU_bad {n i u a : Nat} {A : List (Int × Int)} {S : List Fr3} {U : List Us3} (h : ¬ (okK (K i) ∧ u < 24 ∧ a ≤ 10)) : rdU K V m n i u a A S U = .inl i := by
  cases n with
  | zero => rfl
  | succ n => rw [rdU, if_pos h]
theorem gu_0 : GU K V Q m 0 := by
  intro f i u a A S U hf ha
  show RR K V m (rdU K V m f i u a A S U) (.inl i)
  rw [rdU_bad (by omega)]
  rfl
theorem patch_at (X Y : List (Int × Int)) (x y v : Int) : patch (X ++ [(x, y)] ++ Y) X.length v = X ++ [(x, v)] ++ Y := by
  unfold patch
  have e : (X ++ [(x, y)] ++ Y).getD X.length (0, 0) = (x, y) := by
    rw [List.getD_eq_getElem?_getD, List.append_assoc, List.getElem?_append_right (Nat.le_refl _), Nat.sub_self]
    rfl
  rw [e, List.append_assoc, List.set_append_right _ _ (Nat.le_refl _), Nat.sub_self, List.append_assoc]
  rfl
/-- behind a SUM in '[' or '(' the loop closes -/
theorem top_k {k q v : Int} {S : List Fr3} (hk : k = 40 ∨ k = 91) : TopOk ((k, q, v) :: S) ∧ ¬ isLo (tpS ((k, q, v) :: S)) := ⟨⟨by show ¬ isHi k; omega, by show k ≠ 5; omega⟩, by show ¬ isLo k; omega⟩
theorem top_n : TopOk [] ∧ ¬ isLo (tpS []) := ⟨⟨by show ¬ isHi (0 : Int); decide, by show (0 : Int) ≠ 5; decide⟩, by show ¬ isLo (0 : Int); decide⟩
theorem enP_k {i u a : Nat} {k q v : Int} {A : List (Int × Int)} {S : List Fr3} {U : List Us3} (hk : k = 40 ∨ k = 91) : enP (i, u, a, A, (k, q, v) :: S, U) = (i, u, a, A, (k, q, v) :: S, U) := enP_top ⟨by show ¬ isHi k; omega, by show k ≠ 5; omega⟩
theorem go_k {i u a : Nat} {k q v : Int} {A : List (Int × Int)} {S : List Fr3} {U : List Us3} (hk : k = 40 ∨ k = 91) (h : ¬ isHi (K i) ∧ ¬ isLo (K i)) : goP K V m (i, u, a, A, (k, q, v) :: S, U) = dsP K V m i u a A ((k, q, v) :: S) U := go_ds (by show ¬ isLo k; omega) h
theorem ds_91 {i u a : Nat} {q v : Int} {A : List (Int × Int)} {S : List Fr3} {U : List Us3} : dsP K V m i u a A ((91, q, v) :: S) U = if K i = 93 then .inr (true, (i + 1, u, a - 1, A ++ [(4, v)], S, U)) else .inl i := by
  unfold dsP; dsimp only; rw [if_pos rfl]
theorem ds_40 {i u a : Nat} {q v : Int} {A : List (Int × Int)} {S : List Fr3} {U : List Us3} : dsP K V m i u a A ((40, q, v) :: S) U = (if q = 0 ∧ K i = 60 then mapT (rdU K V m 25 (i + 1) u a A ((40, 1, v) :: S) U)
    else if q = 0 ∧ K i = 63 then mapT (rdU K V m 25 (i + 1) u a (A ++ [(12, 0)]) ((40, 2, (A.length : Int)) :: S) U)
    else if q = 2 then (if K i = 58 then mapT (rdU K V m 25 (i + 1) u a (patch (A ++ [(13, 0)]) v.toNat ((A.length + 1 : Nat) : Int)) ((40, 3, (A.length : Int)) :: S) U) else .inl i)
    else if K i = 41 then .inr (true, (i + 1, u, a - 1, (if q = 1 then A ++ [(11, 0)] else if q = 3 then patch A v.toNat (A.length : Int) else A), S, U)) else .inl i) := by
  unfold dsP; dsimp only; rw [if_neg (by decide : ¬ (40 : Int) = 91)]
theorem needR_gd {a i u : Nat} {k : Int} {A : List (Int × Int)} {S : List Fr3} {U : List Us3} {X : Nat ⊕ PSt} {s : List Zs} {N : List (Int × Int)} {W : List Us3} (hN : NR K V Q A.length N s) (hW : WN K V Q m W s) (h1 : K i ≠ k → RR K V m X (.inl i)) (h2 : K i = k → ∀ r, LR K V m (i + 1, u, a, A ++ N, S, U ++ W) r → RR K V m X r) : Gd K V Q m a A S U X (fun _ => True) (needR K k i u s) := by
  unfold needR
  by_cases h : K i = k
  · rw [if_pos h]
    exact ⟨trivial, N, W, hN, hW, h2 h⟩
  · rw [if_neg h]
    exact h1 h
theorem gu_s {δ : Nat} (hU : GU K V Q m δ) (hS : GS K V Q m δ) : GU K V Q m (δ + 1) := by
  intro f i u a A S U hf ha
  by_cases hu : 24 ≤ u
  · rw [rdU_bad (by omega)]
    unfold uF
    rw [if_pos hu]
    exact rfl
  obtain ⟨n, rfl⟩ : ∃ n, f = n + 1 := ⟨f - 1, by omega⟩
  unfold uF
  rw [if_neg hu]
  by_cases hok : okK (K i)
  · have hg : okK (K i) ∧ u < 24 ∧ a ≤ 10 := ⟨hok, by omega, by omega⟩
    rw [rdU, if_neg (fun z => z hg)]
    by_cases h1 : K i = 1
    · rw [if_pos h1, if_pos h1]
      exact ⟨trivial, [(1, V i)], [], ⟨Or.inl ⟨rfl, rfl⟩, trivial⟩, WN_no K V Q m (by decide), fun r q => by rw [List.append_nil] at q; exact q⟩
    rw [if_neg h1, if_neg h1]
    by_cases h8 : K i = 8
    · rw [if_pos h8, if_pos h8]
      exact ⟨trivial, [(2, 0)], [], ⟨Or.inr (Or.inl ⟨rfl, rfl⟩), trivial⟩, WN_no K V Q m (by decide), fun r q => by rw [List.append_nil] at q; exact q⟩
    rw [if_neg h8, if_neg h8]
    by_cases h35 : K i = 35
    · rw [if_pos h35, if_pos h35]
      unfold needR
      by_cases h2 : K (i + 1) = 2
      · rw [if_pos h2, if_pos h2]
        exact ⟨trivial, [(3, ((i + 1 : Nat) : Int))], [(i + 1, m, 0)], ⟨Or.inr (Or.inr (Or.inr (Or.inl ⟨Or.inl rfl, i + 1, rfl, h2, rfl, rfl⟩))), trivial⟩, WN_one K V Q m (Or.inl rfl) h2, fun r q => q⟩
      · rw [if_neg h2, if_neg h2]
        exact rfl
    rw [if_neg h35, if_neg h35]
    by_cases h2 : K i = 2
    · rw [if_pos h2, if_pos h2]
      unfold entF
      by_cases h91 : K (i + 1) = 91
      · rw [if_pos h91, if_pos h91]
        have g := hS n (i + 2) (u + 1) (a + 1) A ((91, 0, (i : Int)) :: S) (U ++ [(i, m, 0)]) (by omega) (by omega) (top_k (Or.inr rfl)).1 (top_k (Or.inr rfl)).2
        cases hv : sumF K (uF K V Q δ) (u + 1) (i + 2) with
        | inl e => rw [hv] at g; exact g
        | inr t =>
          obtain ⟨i', u', s⟩ := t
          rw [hv] at g
          obtain ⟨k0, N, W, k1, k2, k3⟩ := g
          have hl := NR_len K V Q _ _ _ k1
          refine needR_gd (N := N ++ [(4, (i : Int))]) (W := [(i, m, 0)] ++ W) (NR_app K V Q _ _ _ _ _ k1 ⟨Or.inr (Or.inr (Or.inr (Or.inl ⟨Or.inr rfl, i, rfl, h2, rfl, rfl⟩))), trivial⟩) (WN_comm K V Q m (WN_app K V Q m k2 (WN_one K V Q m (Or.inr rfl) h2))) (fun hk => k3 _ (lr_e (enP_k (Or.inr rfl)) ?_)) (fun hk r q => k3 r (lr_t (enP_k (Or.inr rfl)) (s' := (i' + 1, u', a, A ++ N ++ [(4, (i : Int))], S, U ++ [(i, m, 0)] ++ W)) ?_ ?_))
          · rw [go_k (Or.inr rfl) k0]
            rw [ds_91, if_neg hk]
          · rw [go_k (Or.inr rfl) k0]
            rw [ds_91, if_pos hk]
            rfl
          · simpa only [List.append_assoc] using q
      · rw [if_neg h91, if_neg h91]
        exact rfl
    rw [if_neg h2, if_neg h2]
    by_cases h45 : K i = 45
    · rw [if_pos h45, if_pos h45]
      have g := hU n (i + 1) (u + 1) (a + 1) A ((5, 0, 0) :: S) U (by omega) (by omega)
      cases hv : uF K V Q δ (u + 1) (i + 1) with
      | inl e => rw [hv] at g; exact g
      | inr t =>
        obtain ⟨i', u', s⟩ := t
        rw [hv] at g
        obtain ⟨k0, N, W, k1, k2, k3⟩ := g
        refine ⟨trivial, N ++ [(5, 0)], W, NR_app K V Q _ _ _ _ _ k1 ⟨Or.inr (Or.inr (Or.inl ⟨rfl, rfl⟩)), trivial⟩, ?_, fun r q => k3 r (lr_neg (by simpa only [List.append_assoc] using q))⟩
        have e : W = W ++ [] := (List.append_nil _).symm
        rw [e]
        exact WN_app K V Q m k2 (WN_no K V Q m (by decide))
    rw [if_neg h45, if_neg h45]
    have h40 : K i = 40 := by omega
    rw [if_pos h40]
    unfold grpF
    have sub : ∀ (n i0 u0 : Nat) (A0 : List (Int × Int)) (q v : Int) (U0 : List Us3), 25 ≤ u0 + n → Gd K V Q m (a + 1) A0 ((40, q, v) :: S) U0 (rdU K V m n i0 u0 (a + 1) A0 ((40, q, v) :: S) U0) (fun i => ¬ isHi (K i) ∧ ¬ isLo (K i)) (sumF K (uF K V Q δ) u0 i0) := fun n i0 u0 A0 q v U0 h0 => hS n i0 u0 (a + 1) A0 ((40, q, v) :: S) U0 h0 (by omega) (top_k (Or.inl rfl)).1 (top_k (Or.inl rfl)).2
    have hb := sumF_b (K := K) (uF_b K V Q δ)
    have g := sub n (i + 1) (u + 1) A 0 0 U (by omega)
    have b0 := hb (u + 1) (i + 1)
    cases hv : sumF K (uF K V Q δ) (u + 1) (i + 1) with
    | inl e => rw [hv] at g; exact g
    | inr t =>
      obtain ⟨i0, u0, s0⟩ := t
      rw [hv] at g b0
      obtain ⟨k0, N0, W0, k1, k2, k3⟩ := g
      have hl0 := NR_len K V Q _ _ _ k1
      show Gd K V Q m a A S U _ _ (if K i0 = 60 then bindR (sumF K (uF K V Q δ) u0 (i0 + 1)) (fun i1 u1 s1 => needR K 41 i1 u1 (s0 ++ s1 ++ [(60, 0, -9)])) else if K i0 = 63 then bindR (choiF K (sumF K (uF K V Q δ)) u0 i0) (fun i2 u2 s => needR K 41 i2 u2 (s0 ++ s)) else needR K 41 i0 u0 s0)
      by_cases h60 : K i0 = 60
      · rw [if_pos h60]
        have g1 := sub 25 (i0 + 1) u0 (A ++ N0) 1 0 (U ++ W0) (by omega)
        have back : ∀ r, RR K V m (rdU K V m 25 (i0 + 1) u0 (a + 1) (A ++ N0) ((40, 1, 0) :: S) (U ++ W0)) r → RR K V m (rdU K V m n (i + 1) (u + 1) (a + 1) A ((40, 0, 0) :: S) U) r := fun r q => k3 r (lr_go (enP_k (Or.inl rfl)) (by
          rw [go_k (Or.inl rfl) k0, ds_40, if_pos ⟨rfl, h60⟩]) q)
        cases hv1 : sumF K (uF K V Q δ) u0 (i0 + 1) with
        | inl e => rw [hv1] at g1; exact back _ g1
        | inr t =>
          obtain ⟨i1, u1, s1⟩ := t
          rw [hv1] at g1
          obtain ⟨j0, N1, W1, j1, j2, j3⟩ := g1
          have j1 : NR K V Q (A.length + N0.length) N1 s1 := by rw [← List.length_append]; exact j1
          have hds : dsP K V m i1 u1 (a + 1) (A ++ N0 ++ N1) ((40, 1, 0) :: S) (U ++ W0 ++ W1) = if K i1 = 41 then .inr (true, (i1 + 1, u1, a, A ++ N0 ++ N1 ++ [(11, 0)], S, U ++ W0 ++ W1)) else .inl i1 := by
            rw [ds_40, if_neg (fun q => absurd q.1 (by decide)), if_neg (fun q => absurd q.1 (by decide)), if_neg (by decide), if_pos rfl]
            rfl
          refine needR_gd (N := N0 ++ N1 ++ [(11, 0)]) (W := W0 ++ W1 ++ []) (NR_app K V Q _ _ _ _ _ (NR_app K V Q _ _ _ _ _ k1 j1) ⟨Or.inr (Or.inr (Or.inr (Or.inr (Or.inr (Or.inr (Or.inr ⟨rfl, rfl⟩)))))), trivial⟩) (WN_app K V Q m (WN_app K V Q m k2 j2) (WN_no K V Q m (by decide))) (fun hk => back _ (j3 _ (lr_e (enP_k (Or.inl rfl)) ?_))) (fun hk r q => back _ (j3 r (lr_t (enP_k (Or.inl rfl)) (s' := (i1 + 1, u1, a, A ++ N0 ++ N1 ++ [(11, 0)], S, U ++ W0 ++ W1)) ?_ ?_)))
          · rw [go_k (Or.inl rfl) j0, hds, if_neg hk]
          · rw [go_k (Or.inl rfl) j0, hds, if_pos hk]
          · rw [List.append_nil] at q
            simpa only [List.append_assoc] using q
      rw [if_neg h60]
      by_cases h63 : K i0 = 63
      · rw [if_pos h63]
        unfold choiF
        have g1 := sub 25 (i0 + 1) u0 (A ++ N0 ++ [(12, 0)]) 2 ((A ++ N0).length : Int) (U ++ W0) (by omega)
        have back : ∀ r, RR K V m (rdU K V m 25 (i0 + 1) u0 (a + 1) (A ++ N0 ++ [(12, 0)]) ((40, 2, ((A ++ N0).length : Int)) :: S) (U ++ W0)) r → RR K V m (rdU K V m n (i + 1) (u + 1) (a + 1) A ((40, 0, 0) :: S) U) r := fun r q => k3 r (lr_go (enP_k (Or.inl rfl)) (by
          rw [go_k (Or.inl rfl) k0, ds_40, if_neg (fun q => h60 q.2), if_pos ⟨rfl, h63⟩]) q)
        have b1 := hb u0 (i0 + 1)
        cases hv1 : sumF K (uF K V Q δ) u0 (i0 + 1) with
        | inl e => rw [hv1] at g1; exact back _ g1
        | inr t =>
          obtain ⟨i1, u1, s1⟩ := t
          rw [hv1] at g1 b1
          obtain ⟨j0, N1, W1, j1, j2, j3⟩ := g1
          have hl1 := NR_len K V Q _ _ _ j1
          show Gd K V Q m a A S U _ _ (bindR (if K i1 = 58 then bindR (sumF K (uF K V Q δ) u1 (i1 + 1)) (fun i2 u2 s2 => .inr (i2, u2, [(6, (s1.length : Int) + 1, -9)] ++ s1 ++ [(5, (s2.length : Int), -9)] ++ s2)) else .inl i1) (fun i2 u2 s => needR K 41 i2 u2 (s0 ++ s)))
          have hds : dsP K V m i1 u1 (a + 1) (A ++ N0 ++ [(12, 0)] ++ N1) ((40, 2, ((A ++ N0).length : Int)) :: S) (U ++ W0 ++ W1) = if K i1 = 58 then mapT (rdU K V m 25 (i1 + 1) u1 (a + 1) (A ++ N0 ++ [(12, (((A ++ N0 ++ [(12, 0)] ++ N1).length + 1 : Nat) : Int))] ++ N1 ++ [(13, 0)]) ((40, 3, ((A ++ N0 ++ [(12, 0)] ++ N1).length : Int)) :: S) (U ++ W0 ++ W1)) else .inl i1 := by
            rw [ds_40, if_neg (fun q => absurd q.1 (by decide)), if_neg (fun q => absurd q.1 (by decide)), if_pos rfl, Int.toNat_natCast, List.append_assoc (A ++ N0 ++ [(12, 0)]) N1 [(13, 0)], patch_at, ← List.append_assoc]
          by_cases h58 : K i1 = 58
          · rw [if_pos h58]
            rw [if_pos h58] at hds
            have g2 := sub 25 (i1 + 1) u1 (A ++ N0 ++ [(12, (((A ++ N0 ++ [(12, 0)] ++ N1).length + 1 : Nat) : Int))] ++ N1 ++ [(13, 0)]) 3 ((A ++ N0 ++ [(12, 0)] ++ N1).length : Int) (U ++ W0 ++ W1) (by omega)
            have back2 : ∀ r, RR K V m (rdU K V m 25 (i1 + 1) u1 (a + 1) (A ++ N0 ++ [(12, (((A ++ N0 ++ [(12, 0)] ++ N1).length + 1 : Nat) : Int))] ++ N1 ++ [(13, 0)]) ((40, 3, ((A ++ N0 ++ [(12, 0)] ++ N1).length : Int)) :: S) (U ++ W0 ++ W1)) r → RR K V m (rdU K V m n (i + 1) (u + 1) (a + 1) A ((40, 0, 0) :: S) U) r := fun r q => back r (j3 r (lr_go (enP_k (Or.inl rfl)) (by rw [go_k (Or.inl rfl) j0, hds]) q))
            cases hv2 : sumF K (uF K V Q δ) u1 (i1 + 1) with
            | inl e => rw [hv2] at g2; exact back2 _ g2
            | inr t =>
              obtain ⟨i2, u2, s2⟩ := t
              rw [hv2] at g2
              obtain ⟨l0, N2, W2, l1, l2, l3⟩ := g2
              have hl2 := NR_len K V Q _ _ _ l1
              show Gd K V Q m a A S U _ _ (needR K 41 i2 u2 (s0 ++ ([(6, (s1.length : Int) + 1, -9)] ++ s1 ++ [(5, (s2.length : Int), -9)] ++ s2)))
              generalize hp : (((A ++ N0 ++ [(12, 0)] ++ N1).length + 1 : Nat) : Int) = p at l1 l3 back2 hds
              have ep : p = ((A.length + N0.length : Nat) : Int) + 1 + ((s1.length : Int) + 1) := by
                rw [← hp]; simp only [List.length_append, List.length_cons, List.length_nil]; omega
              generalize hq : ((A ++ N0 ++ [(12, p)] ++ N1 ++ [(13, 0)] ++ N2).length : Int) = q
              have eq : q = ((A.length + N0.length + 1 + N1.length : Nat) : Int) + 1 + (s2.length : Int) := by
                rw [← hq]; simp only [List.length_append, List.length_cons, List.length_nil]; omega
              have hds2 : dsP K V m i2 u2 (a + 1) (A ++ N0 ++ [(12, p)] ++ N1 ++ [(13, 0)] ++ N2) ((40, 3, ((A ++ N0 ++ [(12, 0)] ++ N1).length : Int)) :: S) (U ++ W0 ++ W1 ++ W2) = if K i2 = 41 then .inr (true, (i2 + 1, u2, a, A ++ N0 ++ [(12, p)] ++ N1 ++ [(13, q)] ++ N2, S, U ++ W0 ++ W1 ++ W2)) else .inl i2 := by
                rw [ds_40, if_neg (fun q => absurd q.1 (by decide)), if_neg (fun q => absurd q.1 (by decide)), if_neg (by decide : ¬ (3 : Int) = 2), if_neg (by decide : ¬ (3 : Int) = 1), if_pos (rfl : (3 : Int) = 3), Int.toNat_natCast, hq]
                have e2 : (A ++ N0 ++ [(12, 0)] ++ N1).length = (A ++ N0 ++ [(12, p)] ++ N1).length := by simp only [List.length_append, List.length_cons, List.length_nil]
                rw [e2, patch_at]
                rfl
              have hNR : NR K V Q A.length (N0 ++ ([(12, p)] ++ N1 ++ [(13, q)] ++ N2)) (s0 ++ ([(6, (s1.length : Int) + 1, -9)] ++ s1 ++ [(5, (s2.length : Int), -9)] ++ s2)) := by
                have w1 : NR K V Q (A.length + N0.length + 1) N1 s1 := by
                  have e : (A ++ N0 ++ [((12 : Int), (0 : Int))]).length = A.length + N0.length + 1 := by simp only [List.length_append, List.length_cons, List.length_nil]
                  rw [← e]; exact j1
                have w2 : NR K V Q (A.length + N0.length + 1 + N1.length + 1) N2 s2 := by
                  have e : (A ++ N0 ++ [((12 : Int), p)] ++ N1 ++ [((13 : Int), (0 : Int))]).length = A.length + N0.length + 1 + N1.length + 1 := by simp only [List.length_append, List.length_cons, List.length_nil]
                  rw [← e]; exact l1
                refine NR_app K V Q _ _ _ _ _ k1 ?_
                have v1 : NR K V Q (A.length + N0.length) [(12, p)] [(6, (s1.length : Int) + 1, -9)] := ⟨Or.inr (Or.inr (Or.inr (Or.inr (Or.inr (Or.inl ⟨rfl, by rw [ep]⟩))))), trivial⟩
                have v2 : NR K V Q (A.length + N0.length + 1 + N1.length) [(13, q)] [(5, (s2.length : Int), -9)] := ⟨Or.inr (Or.inr (Or.inr (Or.inr (Or.inl ⟨rfl, by rw [eq]⟩)))), trivial⟩
                have c1 := NR_app K V Q _ _ _ _ _ v1 w1
                have c2 := NR_app K V Q _ _ _ _ _ c1 (by
                  have e : A.length + N0.length + ([(12, p)] ++ N1).length = A.length + N0.length + 1 + N1.length := by simp only [List.length_append, List.length_cons, List.length_nil]; omega
                  rw [e]; exact v2)
                refine NR_app K V Q _ _ _ _ _ c2 ?_
                have e : A.length + N0.length + ([(12, p)] ++ N1 ++ [(13, q)]).length = A.length + N0.length + 1 + N1.length + 1 := by simp only [List.length_append, List.length_cons, List.length_nil]; omega
                rw [e]; exact w2
              refine needR_gd (N := N0 ++ ([(12, p)] ++ N1 ++ [(13, q)] ++ N2)) (W := W0 ++ ([] ++ W1 ++ [] ++ W2)) hNR (WN_app K V Q m k2 (WN_app K V Q m (WN_app K V Q m (WN_app K V Q m (WN_no K V Q m (by decide)) j2) (WN_no K V Q m (by decide))) l2)) (fun hk => back2 _ (l3 _ (lr_e (enP_k (Or.inl rfl)) ?_))) (fun hk r z => back2 _ (l3 r (lr_t (enP_k (Or.inl rfl)) (s' := (i2 + 1, u2, a, A ++ N0 ++ [(12, p)] ++ N1 ++ [(13, q)] ++ N2, S, U ++ W0 ++ W1 ++ W2)) ?_ ?_)))
              · rw [go_k (Or.inl rfl) l0, hds2, if_neg hk]
              · rw [go_k (Or.inl rfl) l0, hds2, if_pos hk]
              · simpa only [List.append_assoc, List.append_nil, List.nil_append] using z
          · rw [if_neg h58]
            rw [if_neg h58] at hds
            exact back _ (j3 _ (lr_e (enP_k (Or.inl rfl)) (by rw [go_k (Or.inl rfl) j0, hds])))
      · rw [if_neg h63]
        have hds : dsP K V m i0 u0 (a + 1) (A ++ N0) ((40, 0, 0) :: S) (U ++ W0) = if K i0 = 41 then .inr (true, (i0 + 1, u0, a, A ++ N0, S, U ++ W0)) else .inl i0 := by
          rw [ds_40, if_neg (fun q => h60 q.2), if_neg (fun q => h63 q.2), if_neg (by decide : ¬ (0 : Int) = 2), if_neg (by decide : ¬ (0 : Int) = 1), if_neg (by decide : ¬ (0 : Int) = 3)]
          rfl
        refine needR_gd k1 k2 (fun hk => k3 _ (lr_e (enP_k (Or.inl rfl)) ?_)) (fun hk r q => k3 r (lr_t (enP_k (Or.inl rfl)) (s' := (i0 + 1, u0, a, A ++ N0, S, U ++ W0)) ?_ q))
        · rw [go_k (Or.inl rfl) k0, hds, if_neg hk]
        · rw [go_k (Or.inl rfl) k0, hds, if_pos hk]
  · rw [rdU_bad (fun q => hok q.1), if_neg (by omega), if_neg (by omega), if_neg (by omega), if_neg (by omega), if_neg (by omega), if_neg (by omega)]
    exact rfl
theorem gu_all (K V Q : Nat → Int) (m : Nat) : ∀ δ, GU K V Q m δ := by
  intro δ
  induction δ with
  | zero => exact gu_0
  | succ δ ih => exact gu_s ih (gs_of (gp_of ih))
/-- readSum gives what the grammar gives -/
theorem rs_sim (K V Q : Nat → Int) (m i : Nat) (A : List (Int × Int)) (U : List Us3) : match sumF K (uF K V Q 11) 0 i with
    | .inl e => RR K V m (rdU K V m 25 i 0 0 A [] U) (.inl e)
    | .inr (i', u', s) => ∃ N W, NR K V Q A.length N s ∧ WN K V Q m W s ∧ RR K V m (rdU K V m 25 i 0 0 A [] U) (.inr (i', u', 0, A ++ N, [], U ++ W)) := by
  have g := gs_of (gp_of (gu_all K V Q m 11)) 25 i 0 0 A [] U (by omega) (by omega) top_n.1 top_n.2
  cases hv : sumF K (uF K V Q 11) 0 i with
  | inl e => rw [hv] at g; exact g
  | inr t =>
    obtain ⟨i', u', s⟩ := t
    rw [hv] at g
    obtain ⟨k0, N, W, k1, k2, k3⟩ := g
    refine ⟨N, W, k1, k2, k3 _ (lr_f (enP_top top_n.1) ?_)⟩
    rw [go_ds top_n.2 k0]
    rfl
end SIM2
