/-! the text loop of the reference -/
section RX
variable {B : Nat → Int} {L N : Nat}
def PF (V Q : Nat → Int) (ds : List TabD) (q : Nat → Int) (U : List Us3) (x : Int) : Prop := (∃ k, k < ds.length ∧ nofD (ds.take k) (ds.getD k dz).1 ≠ -9 ∧ x = q k) ∨ ∃ t ∈ U, t.2.2 = 1 ∧ nofD (ds.take t.2.1) (V t.1) = -9 ∧ x = Q t.1
/-- the least of a set of places, or none -/
def MN (nf : Int) (P : Int → Prop) : Prop := (nf = -9 ∧ ∀ x, ¬ P x) ∨ (P nf ∧ 0 ≤ nf ∧ ∀ x, P x → nf ≤ x)
theorem MN_add {nf x : Int} {P P' : Int → Prop} (h : MN nf P) (hx : 0 ≤ x) (he : ∀ y, P' y ↔ P y ∨ y = x) : MN (nfA nf x) P' := by
  unfold nfA
  rcases h with ⟨h1, h2⟩ | ⟨h1, h0, h2⟩
  · rw [if_pos (Or.inl h1)]
    exact Or.inr ⟨(he x).mpr (Or.inr rfl), hx, fun y hy => by
      rcases (he y).mp hy with q | q
      · exact absurd q (h2 y)
      · omega⟩
  · by_cases q : x < nf
    · rw [if_pos (Or.inr q)]
      exact Or.inr ⟨(he x).mpr (Or.inr rfl), hx, fun y hy => by
        rcases (he y).mp hy with q2 | q2
        · have := h2 y q2; omega
        · omega⟩
    · rw [if_neg (by omega)]
      exact Or.inr ⟨(he nf).mpr (Or.inl h1), h0, fun y hy => by
        rcases (he y).mp hy with q2 | q2
        · exact h2 y q2
        · omega⟩
theorem MN_ext {nf : Int} {P P' : Int → Prop} (h : MN nf P) (he : ∀ y, P' y ↔ P y) : MN nf P' := by
  rcases h with ⟨h1, h2⟩ | ⟨h1, h0, h2⟩
  · exact Or.inl ⟨h1, fun y hy => h2 y ((he y).mp hy)⟩
  · exact Or.inr ⟨(he nf).mpr h1, h0, fun y hy => h2 y ((he y).mp hy)⟩
theorem MN_eq {a b : Int} {P : Int → Prop} (h : MN a P) (h' : MN b P) : a = b := by
  rcases h with ⟨h1, h2⟩ | ⟨h1, h0, h2⟩
  · rcases h' with ⟨k1, k2⟩ | ⟨k1, k0, k2⟩
    · omega
    · exact absurd k1 (h2 _)
  · rcases h' with ⟨k1, k2⟩ | ⟨k1, k0, k2⟩
    · exact absurd h1 (k2 _)
    · have := h2 _ k1
      have := k2 _ h1
      omega
theorem MN_W {V Q : Nat → Int} {ds : List TabD} (hQ : ∀ i, 0 ≤ Q i) : ∀ (W : List Us3) (nf : Int) (P : Int → Prop), MN nf P → MN (nfW ds V Q nf W) (fun x => P x ∨ ∃ t ∈ W, nofD ds (V t.1) = -9 ∧ x = Q t.1) := by
  intro W
  induction W with
  | nil => intro nf P h; exact MN_ext h (fun y => ⟨fun z => z.elim id (fun ⟨t, ht, _⟩ => (by cases ht)), Or.inl⟩)
  | cons t W ih =>
    intro nf P h
    by_cases hn : nofD ds (V t.1) = -9
    · have h1 := ih (nfA nf (Q t.1)) (fun x => P x ∨ x = Q t.1) (MN_add h (hQ _) (fun y => Iff.rfl))
      have e : nfW ds V Q nf (t :: W) = nfW ds V Q (nfA nf (Q t.1)) W := by
        show nfW ds V Q (if nofD ds (V t.1) = -9 then nfA nf (Q t.1) else nf) W = _
        rw [if_pos hn]
      rw [e]
      refine MN_ext h1 (fun y => ⟨fun z => ?_, fun z => ?_⟩)
      · rcases z with z | ⟨t', ht, h2, h3⟩
        · exact Or.inl (Or.inl z)
        · rcases List.mem_cons.mp ht with q | q
          · subst q; exact Or.inl (Or.inr h3)
          · exact Or.inr ⟨t', q, h2, h3⟩
      · rcases z with (z | z) | ⟨t', ht, h2, h3⟩
        · exact Or.inl z
        · exact Or.inr ⟨t, List.mem_cons_self, hn, z⟩
        · exact Or.inr ⟨t', List.mem_cons_of_mem _ ht, h2, h3⟩
    · have e : nfW ds V Q nf (t :: W) = nfW ds V Q nf W := by
        show nfW ds V Q (if nofD ds (V t.1) = -9 then nfA nf (Q t.1) else nf) W = _
        rw [if_neg hn]
      rw [e]
      refine MN_ext (ih nf P h) (fun y => ⟨fun z => ?_, fun z => ?_⟩)
      · rcases z with z | ⟨t', ht, h2, h3⟩
        · exact Or.inl z
        · rcases List.mem_cons.mp ht with q | q
          · subst q; exact absurd h2 hn
          · exact Or.inr ⟨t', q, h2, h3⟩
      · rcases z with z | ⟨t', ht, h2, h3⟩
        · exact Or.inl z
        · exact Or.inr ⟨t', List.mem_cons_of_mem _ ht, h2, h3⟩
/-- what memory holds of the told TABLE k -/
def TbR (B : Nat → Int) (ds : List TabD) (A P : List (Int × Int)) (U : List Us3) (k : Nat) (σ : Mm) : Prop :=
  (σ 39 0 k = (ds.getD k dz).1 ∧ σ 41 0 k = 1 - (ds.getD k dz).2.2.1 ∧ σ 42 0 k = (ds.getD k dz).2.2.2.1 ∧ σ 43 0 k = (ds.getD k dz).2.2.2.2.1) ∧ (0 ≤ σ 40 0 k ∧ σ 40 0 k ≤ 900 ∧ i64 (ds.getD k dz).1)
  ∧ (∃ A1 N' A2, A = A1 ++ N' ++ A2 ∧ σ 44 0 k = (A1.length : Int) ∧ σ 44 0 (k + 1) = ((A1 ++ N').length : Int) ∧ NR (tK B) (tV B) (tQ B) A1.length N' (ds.getD k dz).2.2.2.2.2)
  ∧ (∃ P1 M P2, P = P1 ++ M ++ P2 ∧ σ 45 0 k = (P1.length : Int) ∧ σ 45 0 (k + 1) = ((P1 ++ M).length : Int) ∧ M.length ≤ 8 ∧ (ds.getD k dz).2.1 = szV (ds.take k) (tV B) 0 M ∧ ∀ x ∈ M, (sgz x.1 ∧ (0 ≤ x.2 → i64 x.2)) ∧ (x.2 < 0 → ∃ t ∈ U, t.2 = (k, 1) ∧ tK B t.1 = 2 ∧ x.2 = -1 - (t.1 : Int)))
def UsR (B : Nat → Int) (L : Nat) (ds : List TabD) (U : List Us3) : Prop := (∀ t ∈ U, t.2.1 < ds.length ∧ tK B t.1 = 2 ∧ (t.2.2 = 0 ∨ t.2.2 = 1) ∧ (t.2.2 = 0 → ∃ D ∈ ds, ∃ z ∈ D.2.2.2.2.2, nmZ z ∧ z.2.1 = tV B t.1 ∧ z.2.2 = tQ B t.1)) ∧ ∀ D ∈ ds, ∀ z ∈ D.2.2.2.2.2, nmZ z → ∃ t ∈ U, t.2.2 = 0 ∧ z.2.1 = tV B t.1 ∧ z.2.2 = tQ B t.1
def AOk (B : Nat → Int) (A : List (Int × Int)) : Prop := ∀ x ∈ A, (0 ≤ x.1 ∧ x.1 ≤ 20) ∧ (x.1 = 3 ∨ x.1 = 4 → ∃ T : Nat, x.2 = (T : Int) ∧ tK B T = 2)
theorem actF_r (k : Int) : 6 ≤ actF k ∧ actF k ≤ 10 := by
  unfold actF
  repeat' split
  all_goals omega
theorem aR_ok {K V Q : Nat → Int} {b : Nat} {x : Int × Int} {z : Zs} (h : aR K V Q b x z) : (0 ≤ x.1 ∧ x.1 ≤ 20) ∧ (x.1 = 3 ∨ x.1 = 4 → ∃ T : Nat, x.2 = (T : Int) ∧ K T = 2) := by
  rcases h with ⟨_, h⟩ | ⟨_, h⟩ | ⟨_, h⟩ | ⟨hn, T, h, hk, _⟩ | ⟨_, h⟩ | ⟨_, h⟩ | ⟨_, h⟩ | ⟨_, h⟩
  · have e : x.1 = 1 := congrArg Prod.fst h
    exact ⟨by omega, fun z => by omega⟩
  · have e : x.1 = 2 := congrArg Prod.fst h
    exact ⟨by omega, fun z => by omega⟩
  · have e : x.1 = 5 := congrArg Prod.fst h
    exact ⟨by omega, fun z => by omega⟩
  · rw [h]
    refine ⟨?_, fun _ => ⟨T, rfl, hk⟩⟩
    show 0 ≤ z.1 + 1 ∧ z.1 + 1 ≤ 20
    have hn : z.1 = 2 ∨ z.1 = 3 := hn
    omega
  · have e : x.1 = 13 := congrArg Prod.fst h
    exact ⟨by omega, fun z => by omega⟩
  · have e : x.1 = 12 := congrArg Prod.fst h
    exact ⟨by omega, fun z => by omega⟩
  · rw [h]
    have := actF_r z.1
    exact ⟨⟨by show 0 ≤ actF z.1; omega, by show actF z.1 ≤ 20; omega⟩, fun q => (by exfalso; have q : actF z.1 = 3 ∨ actF z.1 = 4 := q; omega)⟩
  · have e : x.1 = 11 := congrArg Prod.fst h
    exact ⟨by omega, fun z => by omega⟩
theorem NR_ok : ∀ (M : List (Int × Int)) (s : List Zs) (b : Nat), NR (tK B) (tV B) (tQ B) b M s → AOk B M := by
  intro M
  induction M with
  | nil => intro s b h x hx; cases hx
  | cons y M ih => intro s b h x hx; cases s with
    | nil => exact h.elim
    | cons z s =>
      rcases List.mem_cons.mp hx with q | q
      · rw [q]; exact aR_ok h.1
      · exact ih s _ h.2 x q
def RdT (B : Nat → Int) (L : Nat) (ds : List TabD) (nf : Int) (i : Nat) (σ : Mm) : Prop := ∃ A P U, ZR σ i A P U ∧ A.length ≤ i ∧ U.length ≤ i ∧ P.length ≤ 8 * ds.length ∧ (0 < ds.length → σ 44 0 ds.length = (A.length : Int) ∧ σ 45 0 ds.length = (P.length : Int)) ∧ (∀ k, k < ds.length → TbR B ds A P U k σ) ∧ UsR B L ds U ∧ MN nf (PF (tV B) (tQ B) ds (fun k => σ 40 0 k) U) ∧ AOk B A
theorem getD_l {α : Type} {l : List α} {x d : α} {j : Nat} (h : j < l.length) : (l ++ [x]).getD j d = l.getD j d := by
  rcases getD_app (x := x) (d := d) (l := l) (j := j) (by rw [List.length_append]; omega) with ⟨_, q⟩ | ⟨q, _⟩
  · exact q
  · omega
theorem getD_e {α : Type} {l : List α} {x d : α} : (l ++ [x]).getD l.length d = x := by
  rcases getD_app (x := x) (d := d) (l := l) (j := l.length) (by rw [List.length_append]; show l.length < l.length + 1; omega) with ⟨q, _⟩ | ⟨_, q⟩
  · omega
  · exact q
theorem take_l {α : Type} {l : List α} {x : α} {j : Nat} (h : j ≤ l.length) : (l ++ [x]).take j = l.take j := List.take_append_of_le_length h
theorem rdt_step {ds : List TabD} {nf nf' : Int} {i6 : Nat} {D : TabD} {τ σ' : Mm} {A P : List (Int × Int)} {U : List Us3} (hL : L ≤ 900) (hPl : P.length ≤ 8 * ds.length) (h44 : 0 < ds.length → τ 44 0 ds.length = (A.length : Int) ∧ τ 45 0 ds.length = (P.length : Int)) (hTb : ∀ k, k < ds.length → TbR B ds A P U k τ) (hU : UsR B L ds U) (hn : MN nf (PF (tV B) (tQ B) ds (fun k => τ 40 0 k) U)) (hAo : AOk B A) (h : TabX B L ds.length ds nf A P U τ σ' i6 D nf') : RdT B L (ds ++ [D]) nf' i6 σ' := by
  obtain ⟨x1, x2, x3, T, M, W1, N', W, x4, x5, x6, x7, x8, x9, x10, x11, x12, x13, x14, x15, x16, x17, x18, x19, x20, x21, x22, x23, x24⟩ := h
  have hlen : (ds ++ [D]).length = ds.length + 1 := by rw [List.length_append]; rfl
  have fr : ∀ f k, 39 ≤ f → f ≤ 45 → k < ds.length → σ' f 0 k = τ f 0 k := fun f k q1 q2 q3 => x2 _ _ _ (by omega)
  have fr1 : ∀ f k, f = 44 ∨ f = 45 → k < ds.length → σ' f 0 (k + 1) = τ f 0 (k + 1) := fun f k q1 q3 => by
    by_cases e : k + 1 = ds.length
    · obtain ⟨y1, y2⟩ := h44 (by omega)
      rw [e]
      rcases q1 with rfl | rfl
      · rw [y1]; exact x18
      · rw [y2]; exact x20
    · exact x2 _ _ _ (by omega)
  refine ⟨A ++ N', P ++ M, U ++ W1 ++ W, x17, x15, x16, by rw [hlen, List.length_append]; omega, fun _ => by rw [hlen]; exact ⟨x19, x21⟩, fun k hk => ?_, ⟨fun t ht => ?_, fun E hE z hz hn => ?_⟩, ?_, fun x hx => (List.mem_append.mp hx).elim (hAo x) (NR_ok N' _ _ x13 x)⟩
  · by_cases e : k = ds.length
    · subst e
      have eD : (ds ++ [D]).getD ds.length dz = D := getD_e
      have et : (ds ++ [D]).take ds.length = ds := by rw [take_l (Nat.le_refl _), List.take_length]
      unfold TbR
      rw [eD, et]
      exact ⟨⟨x6, x22, x23, x24⟩, ⟨by rw [x7]; exact Int.natCast_nonneg _, by rw [x7]; have := x4.1; show ((tq B T : Nat) : Int) ≤ 900; omega, by rw [x5]; exact tkV_le x4.2⟩, ⟨A, N', [], by rw [List.append_nil], x18, x19, x13⟩, ⟨P, M, [], by rw [List.append_nil], x20, x21, x9, x10, fun x hx => ⟨(x12 x hx).1, fun hneg => by
        obtain ⟨t, ht, e⟩ := (x12 x hx).2 hneg
        exact ⟨t, List.mem_append.mpr (Or.inl (List.mem_append.mpr (Or.inr ht))), (x11 t ht).1, (x11 t ht).2, e⟩⟩⟩⟩
    · have hk : k < ds.length := by omega
      obtain ⟨⟨a1, a2, a3, a4⟩, a5, ⟨A1, N1, A2, b1, b2, b3, b4⟩, ⟨P1, M1, P2, c1, c2, c3, c4, c5, c6⟩⟩ := hTb k hk
      unfold TbR
      rw [getD_l hk, take_l (by omega), fr 39 k (by omega) (by omega) hk, fr 40 k (by omega) (by omega) hk, fr 41 k (by omega) (by omega) hk, fr 42 k (by omega) (by omega) hk, fr 43 k (by omega) (by omega) hk, fr 44 k (by omega) (by omega) hk, fr 45 k (by omega) (by omega) hk, fr1 44 k (Or.inl rfl) hk, fr1 45 k (Or.inr rfl) hk]
      exact ⟨⟨a1, a2, a3, a4⟩, a5, ⟨A1, N1, A2 ++ N', by rw [b1, List.append_assoc (A1 ++ N1)], b2, b3, b4⟩, ⟨P1, M1, P2 ++ M, by rw [c1, List.append_assoc (P1 ++ M1)], c2, c3, c4, c5, fun x hx => ⟨(c6 x hx).1, fun hneg => by
        obtain ⟨t, ht, e⟩ := (c6 x hx).2 hneg
        exact ⟨t, List.mem_append.mpr (Or.inl (List.mem_append.mpr (Or.inl ht))), e⟩⟩⟩⟩
  · rw [hlen]
    rcases List.mem_append.mp ht with q | q
    · rcases List.mem_append.mp q with q | q
      · obtain ⟨u1, u2, u3, u4⟩ := hU.1 t q
        refine ⟨by omega, u2, u3, fun z => ?_⟩
        obtain ⟨E, hE, r⟩ := u4 z
        exact ⟨E, List.mem_append.mpr (Or.inl hE), r⟩
      · obtain ⟨u1, u2⟩ := x11 t q
        exact ⟨by rw [u1]; show ds.length < ds.length + 1; omega, u2, by rw [u1]; exact Or.inr rfl, fun z => by rw [u1] at z; cases z⟩
    · obtain ⟨u1, u2, z, hz, u3⟩ := x14.1 t q
      exact ⟨by rw [u1]; show ds.length < ds.length + 1; omega, u2, by rw [u1]; exact Or.inl rfl, fun _ => ⟨D, List.mem_append.mpr (Or.inr (List.mem_singleton.mpr rfl)), z, hz, u3⟩⟩
  · rcases List.mem_append.mp hE with q | q
    · obtain ⟨t, ht, r⟩ := hU.2 E q z hz hn
      exact ⟨t, List.mem_append.mpr (Or.inl (List.mem_append.mpr (Or.inl ht))), r⟩
    · rw [List.mem_singleton.mp q] at hz
      obtain ⟨t, ht, r⟩ := x14.2 z hz hn
      exact ⟨t, List.mem_append.mpr (Or.inr ht), by rw [(x14.1 t ht).1], r⟩
  · rw [x8]
    have hQ : ∀ i, 0 ≤ tQ B i := fun i => Int.natCast_nonneg _
    have step1 : MN (if nofD ds D.1 ≠ -9 then nfA nf (tQ B T) else nf) (fun y => PF (tV B) (tQ B) ds (fun k => τ 40 0 k) U y ∨ (nofD ds D.1 ≠ -9 ∧ y = tQ B T)) := by
      by_cases q : nofD ds D.1 ≠ -9
      · rw [if_pos q]
        exact MN_add hn (hQ _) (fun y => ⟨fun z => z.elim Or.inl (fun z => Or.inr z.2), fun z => z.elim Or.inl (fun z => Or.inr ⟨q, z⟩)⟩)
      · rw [if_neg q]
        exact MN_ext hn (fun y => ⟨fun z => z.elim id (fun z => absurd z.1 q), Or.inl⟩)
    refine MN_ext (MN_W hQ W1 _ _ step1) (fun y => ⟨fun z => ?_, fun z => ?_⟩)
    · rcases z with ⟨k, hk, k1, k2⟩ | ⟨t, ht, t1, t2, t3⟩
      · by_cases e : k = ds.length
        · subst e
          rw [getD_e, take_l (Nat.le_refl _), List.take_length] at k1
          exact Or.inl (Or.inr ⟨k1, by rw [k2]; exact x7⟩)
        · have hk : k < ds.length := by omega
          rw [getD_l hk, take_l (by omega)] at k1
          exact Or.inl (Or.inl (Or.inl ⟨k, hk, k1, by rw [k2]; exact fr 40 k (by omega) (by omega) hk⟩))
      · rcases List.mem_append.mp ht with q | q
        · rcases List.mem_append.mp q with q | q
          · have := (hU.1 t q).1
            rw [take_l (by omega)] at t2
            exact Or.inl (Or.inl (Or.inr ⟨t, q, t1, t2, t3⟩))
          · obtain ⟨u1, u2⟩ := x11 t q
            rw [u1, take_l (Nat.le_refl _), List.take_length] at t2
            exact Or.inr ⟨t, q, t2, t3⟩
        · obtain ⟨u1, u2⟩ := x14.1 t q
          rw [u1] at t1
          cases t1
    · rcases z with (z | ⟨z1, z2⟩) | ⟨t, ht, t2, t3⟩
      · rcases z with ⟨k, hk, k1, k2⟩ | ⟨t, ht, t1, t2, t3⟩
        · exact Or.inl ⟨k, by omega, by rw [getD_l hk, take_l (by omega)]; exact k1, by rw [k2]; exact (fr 40 k (by omega) (by omega) hk).symm⟩
        · have := (hU.1 t ht).1
          exact Or.inr ⟨t, List.mem_append.mpr (Or.inl (List.mem_append.mpr (Or.inl ht))), t1, by rw [take_l (by omega)]; exact t2, t3⟩
      · exact Or.inl ⟨ds.length, by omega, by rw [getD_e, take_l (Nat.le_refl _), List.take_length]; exact z1, by rw [z2]; exact x7.symm⟩
      · obtain ⟨u1, u2⟩ := x11 t ht
        exact Or.inr ⟨t, List.mem_append.mpr (Or.inl (List.mem_append.mpr (Or.inr ht))), by rw [u1], by rw [u1]; show nofD ((ds ++ [D]).take ds.length) _ = -9; rw [take_l (Nat.le_refl _), List.take_length]; exact t2, t3⟩
theorem TkM_A {m m' : Nat} {σ σ' : Mm} (h : TS B L N m σ) (hf : FrA σ' σ) (h8 : σ' 10 0 8 = m') (hm : m' ≤ 12) : TS B L N m' σ' := by
  obtain ⟨h1, h2, h3, h4, h5, h6⟩ := h
  refine ⟨fun j hj => ?_, h2, h3, h4, h8, hm⟩
  obtain ⟨a1, a2, a3⟩ := h1 j hj
  exact ⟨by rw [hf _ _ _ (by omega)]; exact a1, by rw [hf _ _ _ (by omega)]; exact a2, fun z => by rw [hf _ _ _ (by omega)]; exact a3 z⟩
/-- behind a TABLE with a FAULT -/
theorem tx_fault {e : Nat} {τ : Mm} (h33 : τ 33 0 e = tK B e) (hk : 0 ≤ tK B e ∧ tK B e ≤ 255) (h9 : e ≤ 900) (hq : 0 ≤ tQ B e) (hq9 : tQ B e ≤ 900) (hF : FA B L τ e) (C : Cx) (h : Ok C RX10 cX10_read 4 7) (hx : X C 1 75 [(0, vR 10 0)] [] NALL τ 0 0) : X C 1 54 [(0, vR 10 0)] [] NALL τ 0 0 := by
  obtain ⟨k1, k2, k3⟩ := hF
  refine x_aload_n h dX10_read_54 rfl ?_
  refine x_get h fl_10_13 lvz_10 dX10_read_55 (pvf_533 _ _) ?_
  refine x_aload_n h dX10_read_58 rfl ?_
  refine x_get (q := vI (e)) h fl_10_199 lvz_10 dX10_read_59 (congrArg vI (by first | exact k1 | simp [up3, k1])) ?_
  refine x_iald h kdf_33 lvz_33 dX10_read_62 rfl (by omega) ?_
  rw [h33]
  by_cases h0 : tK B e = 0
  · refine x_if_eq_T (tgt := 70) h (by omega) dX10_read_63 (by decide) (by omega) ?_
    refine x_iconst h dX10_read_70 ?_
    refine x_istore_n h dX10_read_71 (by decide) ?_
    refine x_goto (tgt := 37) h dX10_read_72 (by decide) ?_
    refine x_iload_n h dX10_read_37 rfl ?_
    refine x_if_eq_T (tgt := 75) h (by omega) dX10_read_38 (by decide) (by omega) ?_
    exact x_loc (ls' := [(0, vR 10 0)]) ⟨rfl, trivial⟩ hx
  · refine x_if_eq_F (tgt := 70) h (by omega) dX10_read_63 (by decide) (by omega) ?_
    refine x_iconst h dX10_read_66 ?_
    refine x_goto (tgt := 71) h dX10_read_67 (by decide) ?_
    refine x_istore_n h dX10_read_71 (by decide) ?_
    refine x_goto (tgt := 37) h dX10_read_72 (by decide) ?_
    refine x_iload_n h dX10_read_37 rfl ?_
    refine x_if_eq_F (tgt := 75) h (by omega) dX10_read_38 (by decide) (by omega) ?_
    refine x_aload_n h dX10_read_41 rfl ?_
    refine x_get (q := vI (tQ B e)) h fl_10_196 lvz_10 dX10_read_42 (congrArg vI (by first | exact k2 | simp [up3, k2])) ?_
    refine x_bipush h dX10_read_45 (by decide) ?_
    refine x_ic_ne_T (tgt := 75) h (by omega) dX10_read_47 (by decide) (by omega) ?_
    exact x_loc (ls' := [(0, vR 10 0)]) ⟨rfl, trivial⟩ hx
/-- the loop -/
theorem tx_loop : ∀ (c : Nat) (ds : List TabD) (nf : Int) (i : Nat) (τ : Mm), ds.length + c = 12 → TS B L N ds.length τ → RdT B L ds nf i τ → tq B i ≤ L → match txtF (tK B) (tV B) (tQ B) c i ds nf with
    | .inl e => ∃ σ', FrA σ' τ ∧ FA B L σ' e ∧ ∀ C : Cx, Ok C RX10 cX10_read 4 7 → X C 1 75 [(0, vR 10 0)] [] NALL σ' 0 0 → X C 1 41 [(0, vR 10 0)] [] NALL τ 0 0
    | .inr (ds', nf') => ∃ σ' i', FrA σ' τ ∧ TS B L N ds'.length σ' ∧ RdT B L ds' nf' i' σ' ∧ tq B i' ≤ L ∧ ∀ C : Cx, Ok C RX10 cX10_read 4 7 → X C 1 75 [(0, vR 10 0)] [] NALL σ' 0 0 → X C 1 41 [(0, vR 10 0)] [] NALL τ 0 0 := by
  intro c
  have flt : ∀ (i m e : Nat) (τ : Mm), TS B L N m τ → τ 10 0 7 = -9 → RF B L 0 e τ → ∃ σ', FrA σ' τ ∧ FA B L σ' e ∧ ∀ C : Cx, Ok C RX10 cX10_read 4 7 → X C 1 75 [(0, vR 10 0)] [] NALL σ' 0 0 → X C 1 41 [(0, vR 10 0)] [] NALL τ 0 0 := fun i m e τ hT k7 hR => by
    obtain ⟨σ', q1, q2, q3⟩ := hR
    obtain ⟨t1, t2, t3, t4, t5, t6, t7, t8, t9⟩ := tok_in hT q2.2.2
    have hc : Ct 6 mX10_readTable 1 [vR 10 0] NALL τ none NALL σ' 0 0 := by
      refine ct_of (by decide) (Nat.le_of_ble_eq_true rfl) (fun C h hr _ => ?_)
      have h : Ok C RX10 cX10_readTable 2 _ := h
      exact q3 C h hr
    refine ⟨σ', q1, q2, fun C h hx => ?_⟩
    refine x_aload_n h dX10_read_41 rfl ?_
    refine x_get (q := vI (-9)) h fl_10_196 lvz_10 dX10_read_42 (congrArg vI (by first | exact k7 | simp [up3, k7])) ?_
    refine x_bipush h dX10_read_45 (by decide) ?_
    refine x_ic_ne_F (tgt := 75) h (by omega) dX10_read_47 (by decide) (by omega) ?_
    refine x_aload_n h dX10_read_50 rfl ?_
    refine x_cV0 h kVX10_readTable lkX10_283 ⟨_, _, _, rfl, rfl⟩ dX10_read_51 (hc) lvz_10 rfl rfl (Nat.le_of_ble_eq_true rfl) (by omega) ?_
    exact tx_fault (by rw [q1 _ _ _ (by omega)]; exact t3) ⟨t6, t7⟩ t2 t8 t9 q2 C h hx
  induction c with
  | zero =>
    intro ds nf i τ hl hT hR hi
    have e12 : ds.length = 12 := by omega
    rw [e12] at hT
    obtain ⟨A, P, U, ⟨hP, -⟩, -⟩ := hR
    exact flt i 12 i τ hT hP.2.1 (rt0_12 hT hP.1 hP.2.1 hi)
  | succ c ih =>
    intro ds nf i τ hl hT hR hi
    obtain ⟨A, P, U, hz, r1, r2, r3, r4, r5, r6, r7, r8⟩ := hR
    have hL9 := hT.2.2.2.1.1
    have g := rt0 (ds := ds) (nf := nf) (by omega) hT hz hi r1 r2 (by omega)
    unfold txtF
    cases hv : tabF (tK B) (tV B) (tQ B) ds nf i with
    | inl e =>
      rw [hv] at g
      exact flt i _ e τ hT hz.1.2.1 g
    | inr t =>
      obtain ⟨i6, D, nf2⟩ := t
      rw [hv] at g
      obtain ⟨σ1, g1, g2⟩ := g
      have hR1 := rdt_step hL9 r3 r4 r5 r6 r7 r8 g1
      obtain ⟨x1, x2, x3, -⟩ := g1
      have f1 : FrA σ1 τ := fun f k j hf => x2 f k j (by omega)
      have hlen : (ds ++ [D]).length = ds.length + 1 := by rw [List.length_append]; rfl
      have hT1 : TS B L N (ds ++ [D]).length σ1 := by rw [hlen]; exact TkM_A hT f1 x3 (by omega)
      obtain ⟨t1, t2, t3, t4, t5, t6, t7, t8, t9⟩ := tok_in hT1 x1
      have k6 : σ1 10 0 6 = i6 := by
        obtain ⟨A', P', U', ⟨hP', -⟩, -⟩ := hR1
        exact hP'.1
      have k7 : τ 10 0 7 = -9 := hz.1.2.1
      have hc : Ct 6 mX10_readTable 1 [vR 10 0] NALL τ none NALL σ1 0 0 := by
        refine ct_of (by decide) (Nat.le_of_ble_eq_true rfl) (fun C h hr _ => ?_)
        have h : Ok C RX10 cX10_readTable 2 _ := h
        exact g2 C h hr
      show match (if tK B i6 = 0 then .inr (ds ++ [D], nf2) else txtF (tK B) (tV B) (tQ B) c i6 (ds ++ [D]) nf2 : Nat ⊕ (List TabD × Int)) with | .inl e => _ | .inr (ds', nf') => _
      by_cases h0 : tK B i6 = 0
      · rw [if_pos h0]
        refine ⟨σ1, i6, f1, hT1, hR1, x1, fun C h hx => ?_⟩
        refine x_aload_n h dX10_read_41 rfl ?_
        refine x_get (q := vI (-9)) h fl_10_196 lvz_10 dX10_read_42 (congrArg vI (by first | exact k7 | simp [up3, k7])) ?_
        refine x_bipush h dX10_read_45 (by decide) ?_
        refine x_ic_ne_F (tgt := 75) h (by omega) dX10_read_47 (by decide) (by omega) ?_
        refine x_aload_n h dX10_read_50 rfl ?_
        refine x_cV0 h kVX10_readTable lkX10_283 ⟨_, _, _, rfl, rfl⟩ dX10_read_51 (hc) lvz_10 rfl rfl (Nat.le_of_ble_eq_true rfl) (by omega) ?_
        refine x_aload_n h dX10_read_54 rfl ?_
        refine x_get h fl_10_13 lvz_10 dX10_read_55 (pvf_533 _ _) ?_
        refine x_aload_n h dX10_read_58 rfl ?_
        refine x_get (q := vI (i6)) h fl_10_199 lvz_10 dX10_read_59 (congrArg vI (by first | exact k6 | simp [up3, k6])) ?_
        refine x_iald h kdf_33 lvz_33 dX10_read_62 rfl (by omega) ?_
        rw [t3]
        refine x_if_eq_T (tgt := 70) h (by omega) dX10_read_63 (by decide) (by omega) ?_
        refine x_iconst h dX10_read_70 ?_
        refine x_istore_n h dX10_read_71 (by decide) ?_
        refine x_goto (tgt := 37) h dX10_read_72 (by decide) ?_
        refine x_iload_n h dX10_read_37 rfl ?_
        refine x_if_eq_T (tgt := 75) h (by omega) dX10_read_38 (by decide) (by omega) ?_
        exact x_loc (ls' := [(0, vR 10 0)]) ⟨rfl, trivial⟩ hx
      · rw [if_neg h0]
        have g := ih (ds ++ [D]) nf2 i6 σ1 (by omega) hT1 hR1 x1
        have walk : ∀ C : Cx, Ok C RX10 cX10_read 4 7 → X C 1 41 [(0, vR 10 0)] [] NALL σ1 0 0 → X C 1 41 [(0, vR 10 0)] [] NALL τ 0 0 := fun C h hx => by
          refine x_aload_n h dX10_read_41 rfl ?_
          refine x_get (q := vI (-9)) h fl_10_196 lvz_10 dX10_read_42 (congrArg vI (by first | exact k7 | simp [up3, k7])) ?_
          refine x_bipush h dX10_read_45 (by decide) ?_
          refine x_ic_ne_F (tgt := 75) h (by omega) dX10_read_47 (by decide) (by omega) ?_
          refine x_aload_n h dX10_read_50 rfl ?_
          refine x_cV0 h kVX10_readTable lkX10_283 ⟨_, _, _, rfl, rfl⟩ dX10_read_51 (hc) lvz_10 rfl rfl (Nat.le_of_ble_eq_true rfl) (by omega) ?_
          refine x_aload_n h dX10_read_54 rfl ?_
          refine x_get h fl_10_13 lvz_10 dX10_read_55 (pvf_533 _ _) ?_
          refine x_aload_n h dX10_read_58 rfl ?_
          refine x_get (q := vI (i6)) h fl_10_199 lvz_10 dX10_read_59 (congrArg vI (by first | exact k6 | simp [up3, k6])) ?_
          refine x_iald h kdf_33 lvz_33 dX10_read_62 rfl (by omega) ?_
          rw [t3]
          refine x_if_eq_F (tgt := 70) h (by omega) dX10_read_63 (by decide) (by omega) ?_
          refine x_iconst h dX10_read_66 ?_
          refine x_goto (tgt := 71) h dX10_read_67 (by decide) ?_
          refine x_istore_n h dX10_read_71 (by decide) ?_
          refine x_goto (tgt := 37) h dX10_read_72 (by decide) ?_
          refine x_iload_n h dX10_read_37 rfl ?_
          refine x_if_eq_F (tgt := 75) h (by omega) dX10_read_38 (by decide) (by omega) ?_
          exact x_loc (ls' := [(0, vR 10 0)]) ⟨rfl, trivial⟩ hx
        revert g
        generalize txtF (tK B) (tV B) (tQ B) c i6 (ds ++ [D]) nf2 = r
        intro g
        cases r with
        | inl e =>
          obtain ⟨σ', q1, q2, q3⟩ := g
          exact ⟨σ', FrA_tr q1 f1, q2, fun C h hx => walk C h (q3 C h hx)⟩
        | inr y =>
          obtain ⟨ds', nf'⟩ := y
          obtain ⟨σ', i', q1, q2, q3, q4, q5⟩ := g
          exact ⟨σ', i', FrA_tr q1 f1, q2, q3, q4, fun C h hx => walk C h (q5 C h hx)⟩
end RX
