/-! what the reference holds of a TEXT that was read -/
section MR
variable {B : Nat → Int} {L N m : Nat}
theorem tabF_b {K V Q : Nat → Int} {ds : List TabD} {nf : Int} {i i' : Nat} {D : TabD} {nf' : Int} (ht : tabF K V Q ds nf i = .inr (i', D, nf')) : (D.2.2.1 = 0 ∨ D.2.2.1 = 1) ∧ (D.2.2.2.1 = 0 ∨ D.2.2.2.1 = 1) := by
  unfold tabF at ht
  split at ht
  · split at ht
    · split at ht
      · split at ht
        · cases ht
        · unfold bodyF at ht
          split at ht
          · split at ht
            · split at ht
              · split at ht
                · cases ht
                · next i5 u5 code hs =>
                  split at ht
                  · cases ht
                  · next i6 ip pr he =>
                    injection ht with ht
                    injection ht with h1 h2
                    injection h2 with h2 h3
                    subst h2
                    refine ⟨?_, ?_⟩
                    · show (if _ then (1 : Int) else 0) = 0 ∨ (if _ then (1 : Int) else 0) = 1
                      split
                      · exact Or.inr rfl
                      · exact Or.inl rfl
                    · show ip = 0 ∨ ip = 1
                      unfold endF at he
                      repeat' split at he
                      all_goals (first | (cases he; done) | (injection he with he; injection he with e1 e2; injection e2 with e2 e3; omega))
              · cases ht
            · cases ht
          · cases ht
      · cases ht
    · cases ht
  · cases ht
theorem txtF_b {K V Q : Nat → Int} : ∀ (c i : Nat) (ds : List TabD) (nf : Int) (ds' : List TabD) (nf' : Int), (∀ D ∈ ds, (D.2.2.1 = 0 ∨ D.2.2.1 = 1) ∧ (D.2.2.2.1 = 0 ∨ D.2.2.2.1 = 1)) → txtF K V Q c i ds nf = .inr (ds', nf') → (∀ D ∈ ds', (D.2.2.1 = 0 ∨ D.2.2.1 = 1) ∧ (D.2.2.2.1 = 0 ∨ D.2.2.2.1 = 1)) ∧ 0 < ds'.length := by
  intro c
  induction c with
  | zero => intro i ds nf ds' nf' h0 h; cases h
  | succ c ih =>
    intro i ds nf ds' nf' h0 h
    unfold txtF at h
    split at h
    · cases h
    · next i' D nf2 ht =>
      have h1 : ∀ E ∈ ds ++ [D], (E.2.2.1 = 0 ∨ E.2.2.1 = 1) ∧ (E.2.2.2.1 = 0 ∨ E.2.2.2.1 = 1) := fun E hE => by
        rcases List.mem_append.mp hE with q | q
        · exact h0 E q
        · rw [List.mem_singleton.mp q]; exact tabF_b ht
      split at h
      · injection h with h
        injection h with h2 h3
        rw [← h2]
        exact ⟨h1, by rw [List.length_append]; show 0 < ds.length + 1; omega⟩
      · exact ih i' (ds ++ [D]) nf2 ds' nf' h1 h
/-- an act of the reference for a step, its name resolved -/
def opR (b : Nat) (o v : Int) (z : Zs) : Prop :=
  (z.1 = 0 ∧ o = 1 ∧ v = z.2.1) ∨ (z.1 = 1 ∧ o = 2 ∧ v = 0) ∨ (z.1 = 4 ∧ o = 5 ∧ v = 0) ∨ (nmZ z ∧ o = z.1 + 1 ∧ v = z.2.1)
  ∨ (z.1 = 5 ∧ o = 13 ∧ v = (b : Int) + 1 + z.2.1) ∨ (z.1 = 6 ∧ o = 12 ∧ v = (b : Int) + 1 + z.2.1)
  ∨ ((z.1 = 43 ∨ z.1 = 45 ∨ z.1 = 42 ∨ z.1 = 47 ∨ z.1 = 37) ∧ o = actF z.1 ∧ v = 0) ∨ (z.1 = 60 ∧ o = 11 ∧ v = 0)
def byV (B : Nat → Int) (ds : List TabD) (x : Int × Int) : Int := if x.1 = 3 ∨ x.1 = 4 then nofD ds (tV B x.2.toNat) else x.2
theorem aR_op {b : Nat} {ds : List TabD} {x : Int × Int} {z : Zs} (h : aR (tK B) (tV B) (tQ B) b x z) : opR b x.1 (byV B ds x) (rslv ds z) := by
  have ns : ¬ (z.1 = 2 ∨ z.1 = 3) → rslv ds z = z := fun q => by unfold rslv; rw [if_neg q]
  rcases h with ⟨h0, h⟩ | ⟨h0, h⟩ | ⟨h0, h⟩ | ⟨hn, T, h, hk, hv, _⟩ | ⟨h0, h⟩ | ⟨h0, h⟩ | ⟨h0, h⟩ | ⟨h0, h⟩
  · rw [ns (by omega), h]; exact Or.inl ⟨h0, rfl, by unfold byV; rw [if_neg (by show ¬ ((1 : Int) = 3 ∨ (1 : Int) = 4); omega)]⟩
  · rw [ns (by omega), h]; exact Or.inr (Or.inl ⟨h0, rfl, by unfold byV; rw [if_neg (by show ¬ ((2 : Int) = 3 ∨ (2 : Int) = 4); omega)]⟩)
  · rw [ns (by omega), h]; exact Or.inr (Or.inr (Or.inl ⟨h0, rfl, by unfold byV; rw [if_neg (by show ¬ ((5 : Int) = 3 ∨ (5 : Int) = 4); omega)]⟩))
  · have hn' : z.1 = 2 ∨ z.1 = 3 := hn
    have e : rslv ds z = (z.1, nofD ds z.2.1, z.2.2) := by unfold rslv; rw [if_pos hn']
    rw [e, h]
    refine Or.inr (Or.inr (Or.inr (Or.inl ⟨hn, rfl, ?_⟩)))
    unfold byV
    rw [if_pos (by show z.1 + 1 = 3 ∨ z.1 + 1 = 4; omega)]
    show nofD ds (tV B (T : Int).toNat) = nofD ds z.2.1
    rw [Int.toNat_natCast, hv]
  · rw [ns (by omega), h]; exact Or.inr (Or.inr (Or.inr (Or.inr (Or.inl ⟨h0, rfl, by unfold byV; rw [if_neg (by show ¬ ((13 : Int) = 3 ∨ (13 : Int) = 4); omega)]⟩))))
  · rw [ns (by omega), h]; exact Or.inr (Or.inr (Or.inr (Or.inr (Or.inr (Or.inl ⟨h0, rfl, by unfold byV; rw [if_neg (by show ¬ ((12 : Int) = 3 ∨ (12 : Int) = 4); omega)]⟩)))))
  · have := actF_r z.1
    rw [ns (by omega), h]; exact Or.inr (Or.inr (Or.inr (Or.inr (Or.inr (Or.inr (Or.inl ⟨h0, rfl, by unfold byV; rw [if_neg (by show ¬ (actF z.1 = 3 ∨ actF z.1 = 4); omega)]⟩))))))
  · rw [ns (by omega), h]; exact Or.inr (Or.inr (Or.inr (Or.inr (Or.inr (Or.inr (Or.inr ⟨h0, rfl, by unfold byV; rw [if_neg (by show ¬ ((11 : Int) = 3 ∨ (11 : Int) = 4); omega)]⟩))))))
theorem NR_get : ∀ (M : List (Int × Int)) (s : List Zs) (b : Nat), NR (tK B) (tV B) (tQ B) b M s → ∀ j, j < s.length → aR (tK B) (tV B) (tQ B) (b + j) (M.getD j (0, 0)) (s.getD j (0, 0, 0)) := by
  intro M
  induction M with
  | nil => intro s b h j hj; cases s with
    | nil => exact absurd hj (Nat.not_lt_zero _)
    | cons z s => exact h.elim
  | cons y M ih => intro s b h j hj; cases s with
    | nil => exact h.elim
    | cons z s =>
      cases j with
      | zero => exact h.1
      | succ j =>
        have := ih s (b + 1) h.2 j (by have : j + 1 < s.length + 1 := hj; omega)
        rw [show b + 1 + j = b + (j + 1) by omega] at this
        exact this
/-- the reference holds the TABLES S -/
def SRl (S : Sd) (n : Nat) (σ : Mm) : Prop := σ 10 0 32 = n ∧ ∀ k, k < n → (σ 63 0 k = (S k).1 ∧ σ 64 0 k = 1 - sBy S k ∧ σ 65 0 k = sIp S k ∧ σ 66 0 k = sPr S k ∧ σ 67 0 k = sSz S k) ∧ ∃ c : Nat, σ 68 0 k = (c : Int) ∧ σ 68 0 (k + 1) = ((c + (sCd S k).length : Nat) : Int) ∧ c + (sCd S k).length ≤ 900 ∧ ∀ j, j < (sCd S k).length → opR (c + j) (σ 69 0 (c + j)) (σ 70 0 (c + j)) ((sCd S k).getD j (0, 0, 0))
theorem TS_o {σ σ' : Mm} (h : TS B L N m σ) (hf : ∀ f k j, (f = 33 ∨ f = 34 ∨ f = 35 ∨ (f = 10 ∧ j = 8)) → σ' f k j = σ f k j) : TS B L N m σ' := by
  obtain ⟨h1, h2, h3, h4, h5, h6⟩ := h
  refine ⟨fun j hj => ?_, h2, h3, h4, by rw [hf _ _ _ (by omega)]; exact h5, h6⟩
  obtain ⟨a1, a2, a3⟩ := h1 j hj
  exact ⟨by rw [hf _ _ _ (by omega)]; exact a1, by rw [hf _ _ _ (by omega)]; exact a2, fun z => by rw [hf _ _ _ (by omega)]; exact a3 z⟩
/-- the first k TABLES are copied -/
def LA (ds : List TabD) (σ : Mm) (k : Nat) (τ : Mm) : Prop := (∀ f kk j, ¬ ((63 ≤ f ∧ f ≤ 68) ∨ f = 71 ∨ (f = 10 ∧ j = 32)) → τ f kk j = σ f kk j) ∧ τ 10 0 32 = ds.length ∧ ∀ j, j < k → τ 63 0 j = (ds.getD j dz).1 ∧ τ 64 0 j = 1 - (ds.getD j dz).2.2.1 ∧ τ 65 0 j = (ds.getD j dz).2.2.2.1 ∧ τ 66 0 j = (ds.getD j dz).2.2.2.2.1 ∧ τ 67 0 j = (ds.getD j dz).2.1 ∧ τ 68 0 j = σ 44 0 j ∧ τ 71 0 j = 0
theorem la_loop {ds : List TabD} {σ : Mm} {A P : List (Int × Int)} {U : List Us3} {i : Nat} (hl : ds.length = m) (hT : TS B L N m σ) (hz : ZR σ i A P U) (hPl : P.length ≤ 8 * ds.length) (hTb : ∀ k, k < ds.length → TbR B ds A P U k σ) (hb : ∀ D ∈ ds, (D.2.2.1 = 0 ∨ D.2.2.1 = 1) ∧ (D.2.2.2.1 = 0 ∨ D.2.2.2.1 = 1)) (hn : MN (-9) (PA (tV B) (tQ B) ds (fun k => σ 40 0 k) U)) : ∀ (c k : Nat) (τ : Mm), k + c = m → LA ds σ k τ → ∃ τ', LA ds σ m τ' ∧ ∀ C : Cx, Ok C RX10 cX10_read 4 7 → X C 1 207 [(0, vR 10 0)] [] NALL τ' 0 0 → X C 1 115 [(0, vR 10 0), (2, vI k)] [] NALL τ 0 0 := by
  have hm12 := hT.2.2.2.2.2
  have hm8 := hT.2.2.2.2.1
  have hno : ∀ x, ¬ PA (tV B) (tQ B) ds (fun k => σ 40 0 k) U x := by
    rcases hn with ⟨-, h⟩ | ⟨-, h, -⟩
    · exact h
    · omega
  intro c
  induction c with
  | zero =>
    intro k τ hk hLA
    obtain rfl : k = m := by omega
    have g8 : τ 10 0 8 = k := by rw [hLA.1 _ _ _ (by omega)]; exact hm8
    refine ⟨τ, hLA, fun C h hx => ?_⟩
    refine x_iload_n h dX10_read_115 rfl ?_
    refine x_aload_n h dX10_read_116 rfl ?_
    refine x_get (q := vI (k)) h fl_10_212 lvz_10 dX10_read_117 (congrArg vI (by first | exact g8 | simp [up3, g8])) ?_
    refine x_ic_ge_T (tgt := 207) h (by omega) dX10_read_120 (by decide) (by omega) ?_
    exact x_loc (ls' := [(0, vR 10 0)]) ⟨rfl, trivial⟩ hx
  | succ c ih =>
    intro k τ hk hLA
    obtain ⟨l1, l2, l3⟩ := hLA
    have hkd : k < ds.length := by omega
    obtain ⟨⟨b1, b2, b3, b4⟩, -, ⟨A1, N1, A2, b5, b6, b7, b8⟩, ⟨P1, M1, P2, c1, c2, c3, c4, c5, c6⟩⟩ := hTb k hkd
    obtain ⟨y1, y2⟩ := hb (ds.getD k dz) (by
      rw [List.getD_eq_getElem?_getD, List.getElem?_eq_getElem hkd]
      exact List.getElem_mem hkd)
    have g8 : τ 10 0 8 = m := by rw [l1 _ _ _ (by omega)]; exact hm8
    generalize hD : ds.getD k dz = D at b1 b2 b3 b4 b8 c5 y1 y2
    have f39 : τ 39 0 k = D.1 := by rw [l1 _ _ _ (by omega)]; exact b1
    have f41 : τ 41 0 k = 1 - D.2.2.1 := by rw [l1 _ _ _ (by omega)]; exact b2
    have f42 : τ 42 0 k = D.2.2.2.1 := by rw [l1 _ _ _ (by omega)]; exact b3
    have f43 : τ 43 0 k = D.2.2.2.2.1 := by rw [l1 _ _ _ (by omega)]; exact b4
    have f44 : τ 44 0 k = σ 44 0 k := l1 _ _ _ (by omega)
    obtain ⟨T1, h1⟩ : ∃ x, x = up3 τ 63 0 k D.1 := ⟨_, rfl⟩
    have r1 : ∀ f kk j, f ≠ 63 → T1 f kk j = τ f kk j := fun f kk j q => by rw [h1, up3_f _ _ q]
    obtain ⟨T2, h2⟩ : ∃ x, x = up3 T1 64 0 k (1 - D.2.2.1) := ⟨_, rfl⟩
    have r2 : ∀ f kk j, f ≠ 64 → T2 f kk j = T1 f kk j := fun f kk j q => by rw [h2, up3_f _ _ q]
    obtain ⟨T3, h3⟩ : ∃ x, x = up3 T2 65 0 k D.2.2.2.1 := ⟨_, rfl⟩
    have r3 : ∀ f kk j, f ≠ 65 → T3 f kk j = T2 f kk j := fun f kk j q => by rw [h3, up3_f _ _ q]
    obtain ⟨T4, h4⟩ : ∃ x, x = up3 T3 66 0 k D.2.2.2.2.1 := ⟨_, rfl⟩
    have r4 : ∀ f kk j, f ≠ 66 → T4 f kk j = T3 f kk j := fun f kk j q => by rw [h4, up3_f _ _ q]
    obtain ⟨T5, h5⟩ : ∃ x, x = up3 T4 68 0 k (σ 44 0 k) := ⟨_, rfl⟩
    have r5 : ∀ f kk j, f ≠ 68 → T5 f kk j = T4 f kk j := fun f kk j q => by rw [h5, up3_f _ _ q]
    obtain ⟨T6, h6⟩ : ∃ x, x = up3 T5 67 0 k D.2.1 := ⟨_, rfl⟩
    have r6 : ∀ f kk j, f ≠ 67 → T6 f kk j = T5 f kk j := fun f kk j q => by rw [h6, up3_f _ _ q]
    obtain ⟨T7, h7⟩ : ∃ x, x = up3 T6 71 0 k 0 := ⟨_, rfl⟩
    have r7 : ∀ f kk j, f ≠ 71 → T7 f kk j = T6 f kk j := fun f kk j q => by rw [h7, up3_f _ _ q]
    have q41 : T1 41 0 k = 1 - D.2.2.1 := by rw [r1 _ _ _ (by omega)]; exact f41
    have q42 : T2 42 0 k = D.2.2.2.1 := by rw [r2 _ _ _ (by omega), r1 _ _ _ (by omega)]; exact f42
    have q43 : T3 43 0 k = D.2.2.2.2.1 := by rw [r3 _ _ _ (by omega), r2 _ _ _ (by omega), r1 _ _ _ (by omega)]; exact f43
    have q44 : T4 44 0 k = σ 44 0 k := by rw [r4 _ _ _ (by omega), r3 _ _ _ (by omega), r2 _ _ _ (by omega), r1 _ _ _ (by omega)]; exact f44
    have r15 : ∀ f kk j, ¬ ((63 ≤ f ∧ f ≤ 68) ∨ f = 71 ∨ (f = 10 ∧ j = 32)) → T5 f kk j = σ f kk j := fun f kk j q => by
      rw [r5 _ _ _ (by omega), r4 _ _ _ (by omega), r3 _ _ _ (by omega), r2 _ _ _ (by omega), r1 _ _ _ (by omega)]
      exact l1 _ _ _ q
    have hsz : Ct 2 mX10_sizeOf 1 [vR 10 0, vI k] NALL T5 (some (vL D.2.1)) NALL T5 0 0 := by
      have := m_sizeOf (t := k) (ds := ds) (σ := T5) (P1 := P1) (M := M1) (P2 := P2) (P := P) hkd (by omega) (TS_o hT (fun f kk j q => r15 f kk j (by omega))) (PtR_fr hz.2 (fun f j q => r15 f 0 j (by omega))) c1 (by rw [r15 _ _ _ (by omega)]; exact c2) (by rw [r15 _ _ _ (by omega)]; exact c3) (by omega) (fun x hx => ⟨(c6 x hx).1, fun hneg => by
        obtain ⟨t, ht, t1, t2, t3⟩ := (c6 x hx).2 hneg
        refine ⟨t.1, t3, t2, fun q => hno (tQ B t.1) (Or.inr ⟨t, ht, ?_, rfl⟩)⟩
        rw [t1, if_pos rfl]
        exact q⟩) (fun j hj => by
        rw [r15 _ _ _ (by omega), (hTb j hj).1.1]
        exact ⟨rfl, (hTb j hj).2.1.2.2⟩) (fun j hj => by
        rw [r5 _ _ _ (by omega), r4 _ _ _ (by omega), r3 _ _ _ (by omega), r2 _ _ _ (by omega), r1 _ _ _ (by omega)]
        exact (l3 j hj).2.2.2.2.1)
      rw [← c5] at this
      exact this
    have hnew : LA ds σ (k + 1) T7 := by
      refine ⟨fun f kk j q => ?_, ?_, fun j hj => ?_⟩
      · rw [r7 _ _ _ (by omega), r6 _ _ _ (by omega)]
        exact r15 f kk j q
      · rw [r7 _ _ _ (by omega), r6 _ _ _ (by omega), r5 _ _ _ (by omega), r4 _ _ _ (by omega), r3 _ _ _ (by omega), r2 _ _ _ (by omega), r1 _ _ _ (by omega)]
        exact l2
      · have e63 : T7 63 0 j = T1 63 0 j := by rw [r7 _ _ _ (by omega), r6 _ _ _ (by omega), r5 _ _ _ (by omega), r4 _ _ _ (by omega), r3 _ _ _ (by omega), r2 _ _ _ (by omega)]
        have e64 : T7 64 0 j = T2 64 0 j := by rw [r7 _ _ _ (by omega), r6 _ _ _ (by omega), r5 _ _ _ (by omega), r4 _ _ _ (by omega), r3 _ _ _ (by omega)]
        have e65 : T7 65 0 j = T3 65 0 j := by rw [r7 _ _ _ (by omega), r6 _ _ _ (by omega), r5 _ _ _ (by omega), r4 _ _ _ (by omega)]
        have e66 : T7 66 0 j = T4 66 0 j := by rw [r7 _ _ _ (by omega), r6 _ _ _ (by omega), r5 _ _ _ (by omega)]
        have e68 : T7 68 0 j = T5 68 0 j := by rw [r7 _ _ _ (by omega), r6 _ _ _ (by omega)]
        have e67 : T7 67 0 j = T6 67 0 j := by rw [r7 _ _ _ (by omega)]
        rw [e63, e64, e65, e66, e68, e67]
        by_cases e : j = k
        · subst e
          rw [hD, h1, up3_s, h2, up3_s, h3, up3_s, h4, up3_s, h5, up3_s, h6, up3_s, h7, up3_s]
          exact ⟨rfl, rfl, rfl, rfl, rfl, rfl, rfl⟩
        · obtain ⟨z1, z2, z3, z4, z5, z6, z7⟩ := l3 j (by omega)
          rw [h1, up3_j _ _ e, h2, up3_j _ _ e, h3, up3_j _ _ e, h4, up3_j _ _ e, h5, up3_j _ _ e, h6, up3_j _ _ e, h7, up3_j _ _ e]
          refine ⟨z1, ?_, ?_, ?_, ?_, ?_, ?_⟩
          · rw [r1 _ _ _ (by omega)]; exact z2
          · rw [r2 _ _ _ (by omega), r1 _ _ _ (by omega)]; exact z3
          · rw [r3 _ _ _ (by omega), r2 _ _ _ (by omega), r1 _ _ _ (by omega)]; exact z4
          · rw [r5 _ _ _ (by omega), r4 _ _ _ (by omega), r3 _ _ _ (by omega), r2 _ _ _ (by omega), r1 _ _ _ (by omega)]; exact z5
          · rw [r4 _ _ _ (by omega), r3 _ _ _ (by omega), r2 _ _ _ (by omega), r1 _ _ _ (by omega)]; exact z6
          · rw [r6 _ _ _ (by omega), r5 _ _ _ (by omega), r4 _ _ _ (by omega), r3 _ _ _ (by omega), r2 _ _ _ (by omega), r1 _ _ _ (by omega)]; exact z7
    obtain ⟨τ', g1, g2⟩ := ih (k + 1) T7 (by omega) hnew
    have ek : ((k : Nat) : Int) + 1 = ((k + 1 : Nat) : Int) := by omega
    refine ⟨τ', g1, fun C h hx => ?_⟩
    have goal := g2 C h hx
    rw [← ek] at goal
    refine x_iload_n h dX10_read_115 rfl ?_
    refine x_aload_n h dX10_read_116 rfl ?_
    refine x_get (q := vI (m)) h fl_10_212 lvz_10 dX10_read_117 (congrArg vI (by first | exact g8 | simp [up3, g8])) ?_
    refine x_ic_ge_F (tgt := 207) h (by omega) dX10_read_120 (by decide) (by omega) ?_
    refine x_aload_n h dX10_read_123 rfl ?_
    refine x_get h fl_10_76 lvz_10 dX10_read_124 (pvf_563 _ _) ?_
    refine x_iload_n h dX10_read_127 rfl ?_
    refine x_aload_n h dX10_read_128 rfl ?_
    refine x_get h fl_10_24 lvz_10 dX10_read_129 (pvf_539 _ _) ?_
    refine x_iload_n h dX10_read_132 rfl ?_
    refine x_lald h kdf_39 lvz_39 dX10_read_133 rfl (by omega) ?_
    rw [f39]
    refine x_last h kdf_63 lvz_63 dX10_read_134 rfl (by omega) ?_
    rw [← h1]
    refine x_aload_n h dX10_read_135 rfl ?_
    refine x_get h fl_10_79 lvz_10 dX10_read_136 (pvf_564 _ _) ?_
    refine x_iload_n h dX10_read_139 rfl ?_
    refine x_aload_n h dX10_read_140 rfl ?_
    refine x_get h fl_10_30 lvz_10 dX10_read_141 (pvf_541 _ _) ?_
    refine x_iload_n h dX10_read_144 rfl ?_
    refine x_zald h kdf_41 lvz_41 dX10_read_145 rfl (by omega) ?_
    rw [q41]
    refine x_zast h kdf_64 lvz_64 (by omega) dX10_read_146 rfl (by omega) ?_
    rw [← h2]
    refine x_aload_n h dX10_read_147 rfl ?_
    refine x_get h fl_10_82 lvz_10 dX10_read_148 (pvf_565 _ _) ?_
    refine x_iload_n h dX10_read_151 rfl ?_
    refine x_aload_n h dX10_read_152 rfl ?_
    refine x_get h fl_10_34 lvz_10 dX10_read_153 (pvf_542 _ _) ?_
    refine x_iload_n h dX10_read_156 rfl ?_
    refine x_zald h kdf_42 lvz_42 dX10_read_157 rfl (by omega) ?_
    rw [q42]
    refine x_zast h kdf_65 lvz_65 (by omega) dX10_read_158 rfl (by omega) ?_
    rw [← h3]
    refine x_aload_n h dX10_read_159 rfl ?_
    refine x_get h fl_10_85 lvz_10 dX10_read_160 (pvf_566 _ _) ?_
    refine x_iload_n h dX10_read_163 rfl ?_
    refine x_aload_n h dX10_read_164 rfl ?_
    refine x_get h fl_10_37 lvz_10 dX10_read_165 (pvf_543 _ _) ?_
    refine x_iload_n h dX10_read_168 rfl ?_
    refine x_lald h kdf_43 lvz_43 dX10_read_169 rfl (by omega) ?_
    rw [q43]
    refine x_last h kdf_66 lvz_66 dX10_read_170 rfl (by omega) ?_
    rw [← h4]
    refine x_aload_n h dX10_read_171 rfl ?_
    refine x_get h fl_10_91 lvz_10 dX10_read_172 (pvf_568 _ _) ?_
    refine x_iload_n h dX10_read_175 rfl ?_
    refine x_aload_n h dX10_read_176 rfl ?_
    refine x_get h fl_10_40 lvz_10 dX10_read_177 (pvf_544 _ _) ?_
    refine x_iload_n h dX10_read_180 rfl ?_
    refine x_iald h kdf_44 lvz_44 dX10_read_181 rfl (by omega) ?_
    rw [q44]
    refine x_iast h kdf_68 lvz_68 dX10_read_182 rfl (by omega) ?_
    rw [← h5]
    refine x_aload_n h dX10_read_183 rfl ?_
    refine x_get h fl_10_88 lvz_10 dX10_read_184 (pvf_567 _ _) ?_
    refine x_iload_n h dX10_read_187 rfl ?_
    refine x_aload_n h dX10_read_188 rfl ?_
    refine x_iload_n h dX10_read_189 rfl ?_
    refine x_cV1 h kVX10_sizeOf lkX10_292 ⟨_, _, _, rfl, rfl⟩ dX10_read_190 (hsz) lvz_10 rfl rfl (Nat.le_of_ble_eq_true rfl) (by omega) ?_
    refine x_last h kdf_67 lvz_67 dX10_read_193 rfl (by omega) ?_
    rw [← h6]
    refine x_aload_n h dX10_read_194 rfl ?_
    refine x_get h fl_10_100 lvz_10 dX10_read_195 (pvf_571 _ _) ?_
    refine x_iload_n h dX10_read_198 rfl ?_
    refine x_iconst h dX10_read_199 ?_
    refine x_iast h kdf_71 lvz_71 dX10_read_200 rfl (by omega) ?_
    rw [← h7]
    refine x_iinc h dX10_read_201 rfl (by decide) ?_
    refine x_goto (tgt := 115) h dX10_read_204 (by decide) ?_
    exact x_loc (ls' := [(0, vR 10 0), (2, vI ((k : Int) + 1))]) ⟨rfl, rfl, trivial⟩ goal
/-- the first k acts are copied -/
def LB (B : Nat → Int) (ds : List TabD) (A : List (Int × Int)) (σ : Mm) (k : Nat) (τ : Mm) : Prop := (∀ f kk j, ¬ (f = 69 ∨ f = 70) → τ f kk j = σ f kk j) ∧ ∀ j, j < k → τ 69 0 j = (A.getD j (0, 0)).1 ∧ τ 70 0 j = byV B ds (A.getD j (0, 0))
theorem lb_loop {ds : List TabD} {σ : Mm} {A : List (Int × Int)} (hl : ds.length = m) (hT : TS B L N m σ) (hA : ActsR σ A) (hAl : A.length ≤ 900) (hAo : AOk B A) (hg : ∀ k, k < ds.length → σ 39 0 k = (ds.getD k dz).1 ∧ i64 (σ 39 0 k)) : ∀ (c k : Nat) (τ : Mm), k + c = A.length → LB B ds A σ k τ → ∃ τ', LB B ds A σ A.length τ' ∧ ∀ C : Cx, Ok C RX10 cX10_read 4 7 → X C 1 314 [(0, vR 10 0)] [] NALL τ' 0 0 → X C 1 222 [(0, vR 10 0), (2, vI k)] [] NALL τ 0 0 := by
  have hm12 := hT.2.2.2.2.2
  have hm8 := hT.2.2.2.2.1
  have hB := hT.2.2.2.1
  intro c
  induction c with
  | zero =>
    intro k τ hk hLB
    obtain rfl : k = A.length := by omega
    have g16 : τ 10 0 16 = A.length := by rw [hLB.1 _ _ _ (by omega)]; exact hA.1
    refine ⟨τ, hLB, fun C h hx => ?_⟩
    refine x_iload_n h dX10_read_222 rfl ?_
    refine x_aload_n h dX10_read_223 rfl ?_
    refine x_get (q := vI (A.length)) h fl_10_206 lvz_10 dX10_read_224 (congrArg vI (by first | exact g16 | simp [up3, g16])) ?_
    refine x_ic_ge_T (tgt := 314) h (by omega) dX10_read_227 (by decide) (by omega) ?_
    exact x_loc (ls' := [(0, vR 10 0)]) ⟨rfl, trivial⟩ hx
  | succ c ih =>
    intro k τ hk hLB
    obtain ⟨l1, l2⟩ := hLB
    have hkA : k < A.length := by omega
    have g16 : τ 10 0 16 = A.length := by rw [l1 _ _ _ (by omega)]; exact hA.1
    obtain ⟨e1, e2⟩ := hA.2 k hkA
    have hmem : A.getD k (0, 0) ∈ A := by
      rw [List.getD_eq_getElem?_getD, List.getElem?_eq_getElem hkA]
      exact List.getElem_mem hkA
    obtain ⟨⟨o1, o2⟩, o3⟩ := hAo _ hmem
    have ek : ((k : Nat) : Int) + 1 = ((k + 1 : Nat) : Int) := by omega
    generalize hx : A.getD k (0, 0) = x at e1 e2 o1 o2 o3
    obtain ⟨a, v⟩ := x
    have e1 : τ 47 0 k = a := by rw [l1 _ _ _ (by omega)]; exact e1
    have e2 : σ 48 0 k = v := e2
    have o1 : 0 ≤ a := o1
    have o2 : a ≤ 20 := o2
    have o3 : a = 3 ∨ a = 4 → ∃ T : Nat, v = (T : Int) ∧ tK B T = 2 := o3
    obtain ⟨T1, h1⟩ : ∃ x, x = up3 τ 69 0 k a := ⟨_, rfl⟩
    have r1 : ∀ f kk j, f ≠ 69 → T1 f kk j = τ f kk j := fun f kk j q => by rw [h1, up3_f _ _ q]
    have e48 : T1 48 0 k = v := by rw [r1 _ _ _ (by omega), l1 _ _ _ (by omega)]; exact e2
    have hnew : LB B ds A σ (k + 1) (up3 T1 70 0 k (byV B ds (a, v))) := by
      refine ⟨fun f kk j q => ?_, fun j hj => ?_⟩
      · rw [up3_f _ _ (by omega), r1 _ _ _ (by omega)]
        exact l1 _ _ _ q
      · rw [up3_f _ _ (by omega)]
        by_cases e : j = k
        · subst e
          rw [hx, h1, up3_s, up3_s]
          exact ⟨rfl, rfl⟩
        · rw [h1, up3_j _ _ e, up3_j _ _ e, up3_f _ _ (by omega)]
          exact l2 j (by omega)
    obtain ⟨τ', g1, g2⟩ := ih (k + 1) _ (by omega) hnew
    refine ⟨τ', g1, fun C h hx2 => ?_⟩
    have goal := g2 C h hx2
    rw [← ek] at goal
    by_cases hnm : a = 3 ∨ a = 4
    · obtain ⟨T, t0, tk2⟩ := o3 hnm
      obtain ⟨hT9, hTq, hT64⟩ := tok_k2 hB tk2
      obtain ⟨t1, t2, t3, t4, t5, t6, t7, t8, t9⟩ := tok_in hT hTq
      have t5 : T1 35 0 T = tV B T := by rw [r1 _ _ _ (by omega), l1 _ _ _ (by omega)]; exact t5 (by omega)
      have g8 : T1 10 0 8 = m := by rw [r1 _ _ _ (by omega), l1 _ _ _ (by omega)]; exact hm8
      have f39 : ∀ j, T1 39 0 j = σ 39 0 j := fun j => by rw [r1 _ _ _ (by omega), l1 _ _ _ (by omega)]
      have hct := m_tableOf (d := 0) (σ := T1) (w := tV B T) (n := m) hm12 hT64 (fun j hj => by rw [f39]; exact (hg j (by omega)).2)
      rw [nofG (ds := ds) (by omega) (fun j hj => by rw [f39]; exact (hg j hj).1), ← hl, List.take_length] at hct
      have eb : byV B ds (a, v) = nofD ds (tV B T) := by
        unfold byV
        rw [if_pos hnm]
        show nofD ds (tV B v.toNat) = _
        rw [t0, Int.toNat_natCast]
      rw [eb] at goal
      have hb : -9 ≤ nofD ds (tV B T) ∧ nofD ds (tV B T) < 13 := by
        by_cases q : nofD ds (tV B T) = -9
        · omega
        · have := nofD_r q; omega
      generalize nofD ds (tV B T) = r at hct goal hb
      have rest : X C 1 255 [(0, vR 10 0), (2, vI k)] [vI 1] NALL τ 0 0 := by
        refine x_istore_n h dX10_read_255 (by decide) ?_
        refine x_aload_n h dX10_read_256 rfl ?_
        refine x_get h fl_10_94 lvz_10 dX10_read_257 (pvf_569 _ _) ?_
        refine x_iload_n h dX10_read_260 rfl ?_
        refine x_aload_n h dX10_read_261 rfl ?_
        refine x_get h fl_10_46 lvz_10 dX10_read_262 (pvf_547 _ _) ?_
        refine x_iload_n h dX10_read_265 rfl ?_
        refine x_iald h kdf_47 lvz_47 dX10_read_266 rfl (by omega) ?_
        rw [e1]
        refine x_iast h kdf_69 lvz_69 dX10_read_267 rfl (by omega) ?_
        rw [← h1]
        refine x_aload_n h dX10_read_268 rfl ?_
        refine x_get h fl_10_97 lvz_10 dX10_read_269 (pvf_570 _ _) ?_
        refine x_iload_n h dX10_read_272 rfl ?_
        refine x_iload_n h dX10_read_273 rfl ?_
        refine x_if_eq_F (tgt := 301) h (by omega) dX10_read_274 (by decide) (by omega) ?_
        refine x_aload_n h dX10_read_277 rfl ?_
        refine x_aload_n h dX10_read_278 rfl ?_
        refine x_get h fl_10_20 lvz_10 dX10_read_279 (pvf_535 _ _) ?_
        refine x_aload_n h dX10_read_282 rfl ?_
        refine x_get h fl_10_49 lvz_10 dX10_read_283 (pvf_548 _ _) ?_
        refine x_iload_n h dX10_read_286 rfl ?_
        refine x_lald h kdf_48 lvz_48 dX10_read_287 rfl (by omega) ?_
        rw [e48]
        refine x_l2i h dX10_read_288 ?_
        refine x_lald (m := T) h kdf_35 lvz_35 dX10_read_289 (by omega) (by omega) ?_
        rw [t5]
        refine x_aload_n h dX10_read_290 rfl ?_
        refine x_get (q := vI (ds.length)) h fl_10_212 lvz_10 dX10_read_291 (congrArg vI (by first | exact (hl ▸ g8) | simp [up3, (hl ▸ g8)])) ?_
        refine x_cV1 h kVX10_tableOf lkX10_276 ⟨_, _, _, rfl, rfl⟩ dX10_read_294 (hct) lvz_10 rfl rfl (Nat.le_of_ble_eq_true rfl) (by omega) ?_
        refine x_i2l h (by omega) dX10_read_297 ?_
        refine x_goto (tgt := 307) h dX10_read_298 (by decide) ?_
        refine x_last h kdf_70 lvz_70 dX10_read_307 rfl (by omega) ?_
        refine x_iinc h dX10_read_308 rfl (by decide) ?_
        refine x_goto (tgt := 222) h dX10_read_311 (by decide) ?_
        exact x_loc (ls' := [(0, vR 10 0), (2, vI ((k : Int) + 1))]) ⟨rfl, rfl, trivial⟩ goal
      refine x_iload_n h dX10_read_222 rfl ?_
      refine x_aload_n h dX10_read_223 rfl ?_
      refine x_get (q := vI (A.length)) h fl_10_206 lvz_10 dX10_read_224 (congrArg vI (by first | exact g16 | simp [up3, g16])) ?_
      refine x_ic_ge_F (tgt := 314) h (by omega) dX10_read_227 (by decide) (by omega) ?_
      refine x_aload_n h dX10_read_230 rfl ?_
      refine x_get h fl_10_46 lvz_10 dX10_read_231 (pvf_547 _ _) ?_
      refine x_iload_n h dX10_read_234 rfl ?_
      refine x_iald h kdf_47 lvz_47 dX10_read_235 rfl (by omega) ?_
      rw [e1]
      by_cases h3 : a = 3
      · refine x_iconst h dX10_read_236 ?_
        refine x_ic_eq_T (tgt := 250) h (by omega) dX10_read_237 (by decide) (by omega) ?_
        refine x_iconst h dX10_read_250 ?_
        refine x_goto (tgt := 255) h dX10_read_251 (by decide) ?_
        exact rest
      · refine x_iconst h dX10_read_236 ?_
        refine x_ic_eq_F (tgt := 250) h (by omega) dX10_read_237 (by decide) (by omega) ?_
        refine x_aload_n h dX10_read_240 rfl ?_
        refine x_get h fl_10_46 lvz_10 dX10_read_241 (pvf_547 _ _) ?_
        refine x_iload_n h dX10_read_244 rfl ?_
        refine x_iald h kdf_47 lvz_47 dX10_read_245 rfl (by omega) ?_
        rw [e1]
        refine x_iconst h dX10_read_246 ?_
        refine x_ic_ne_F (tgt := 254) h (by omega) dX10_read_247 (by decide) (by omega) ?_
        refine x_iconst h dX10_read_250 ?_
        refine x_goto (tgt := 255) h dX10_read_251 (by decide) ?_
        exact rest
    · have eb : byV B ds (a, v) = v := by
        unfold byV
        rw [if_neg hnm]
      rw [eb] at goal
      refine x_iload_n h dX10_read_222 rfl ?_
      refine x_aload_n h dX10_read_223 rfl ?_
      refine x_get (q := vI (A.length)) h fl_10_206 lvz_10 dX10_read_224 (congrArg vI (by first | exact g16 | simp [up3, g16])) ?_
      refine x_ic_ge_F (tgt := 314) h (by omega) dX10_read_227 (by decide) (by omega) ?_
      refine x_aload_n h dX10_read_230 rfl ?_
      refine x_get h fl_10_46 lvz_10 dX10_read_231 (pvf_547 _ _) ?_
      refine x_iload_n h dX10_read_234 rfl ?_
      refine x_iald h kdf_47 lvz_47 dX10_read_235 rfl (by omega) ?_
      rw [e1]
      refine x_iconst h dX10_read_236 ?_
      refine x_ic_eq_F (tgt := 250) h (by omega) dX10_read_237 (by decide) (by omega) ?_
      refine x_aload_n h dX10_read_240 rfl ?_
      refine x_get h fl_10_46 lvz_10 dX10_read_241 (pvf_547 _ _) ?_
      refine x_iload_n h dX10_read_244 rfl ?_
      refine x_iald h kdf_47 lvz_47 dX10_read_245 rfl (by omega) ?_
      rw [e1]
      refine x_iconst h dX10_read_246 ?_
      refine x_ic_ne_T (tgt := 254) h (by omega) dX10_read_247 (by decide) (by omega) ?_
      refine x_iconst h dX10_read_254 ?_
      refine x_istore_n h dX10_read_255 (by decide) ?_
      refine x_aload_n h dX10_read_256 rfl ?_
      refine x_get h fl_10_94 lvz_10 dX10_read_257 (pvf_569 _ _) ?_
      refine x_iload_n h dX10_read_260 rfl ?_
      refine x_aload_n h dX10_read_261 rfl ?_
      refine x_get h fl_10_46 lvz_10 dX10_read_262 (pvf_547 _ _) ?_
      refine x_iload_n h dX10_read_265 rfl ?_
      refine x_iald h kdf_47 lvz_47 dX10_read_266 rfl (by omega) ?_
      rw [e1]
      refine x_iast h kdf_69 lvz_69 dX10_read_267 rfl (by omega) ?_
      rw [← h1]
      refine x_aload_n h dX10_read_268 rfl ?_
      refine x_get h fl_10_97 lvz_10 dX10_read_269 (pvf_570 _ _) ?_
      refine x_iload_n h dX10_read_272 rfl ?_
      refine x_iload_n h dX10_read_273 rfl ?_
      refine x_if_eq_T (tgt := 301) h (by omega) dX10_read_274 (by decide) (by omega) ?_
      refine x_aload_n h dX10_read_301 rfl ?_
      refine x_get h fl_10_49 lvz_10 dX10_read_302 (pvf_548 _ _) ?_
      refine x_iload_n h dX10_read_305 rfl ?_
      refine x_lald h kdf_48 lvz_48 dX10_read_306 rfl (by omega) ?_
      rw [e48]
      refine x_last h kdf_70 lvz_70 dX10_read_307 rfl (by omega) ?_
      refine x_iinc h dX10_read_308 rfl (by decide) ?_
      refine x_goto (tgt := 222) h dX10_read_311 (by decide) ?_
      exact x_loc (ls' := [(0, vR 10 0), (2, vI ((k : Int) + 1))]) ⟨rfl, rfl, trivial⟩ goal
end MR
