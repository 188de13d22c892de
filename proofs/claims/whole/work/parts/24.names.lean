/-! names resolved -/
def rslv (ds : List TabD) (z : Zs) : Zs := if z.1 = 2 ∨ z.1 = 3 then (z.1, nofD ds z.2.1, z.2.2) else z
def rsN (ds : List TabD) : List Zs → Int → Int
  | [], nf => nf
  | z :: r, nf => rsN ds r (if (z.1 = 2 ∨ z.1 = 3) ∧ nofD ds z.2.1 = -9 then nfA nf z.2.2 else nf)
theorem rsN_app (ds : List TabD) (a b : List Zs) (nf : Int) : rsN ds (a ++ b) nf = rsN ds b (rsN ds a nf) := by
  induction a generalizing nf with
  | nil => rfl
  | cons z r ih => exact ih _
/-- a step as the grammar leaves it -/
def ZOk (z : Zs) : Prop := (0 ≤ z.1 ∧ z.1 ≤ 1000) ∧ ((z.1 = 2 ∨ z.1 = 3) → i64 z.2.1 ∧ 0 ≤ z.2.2 ∧ z.2.2 ≤ 900)
def POk : PR → Prop
  | .inl _ => True
  | .inr (_, _, s) => ∀ z ∈ s, ZOk z
theorem bindR_ok {r : PR} {f : Nat → Nat → List Zs → PR} (hr : POk r) (hf : ∀ i u s, r = .inr (i, u, s) → (∀ z ∈ s, ZOk z) → POk (f i u s)) : POk (bindR r f) := by
  cases r with
  | inl e => trivial
  | inr t =>
    obtain ⟨i, u, s⟩ := t
    exact hf i u s rfl hr
theorem needR_ok {K : Nat → Int} {k : Int} {i u : Nat} {s : List Zs} (h : K i = k → ∀ z ∈ s, ZOk z) : POk (needR K k i u s) := by
  unfold needR
  split
  · next hk => exact h hk
  · trivial
theorem prodL_ok {K : Nat → Int} {un : Nat → Nat → PR} (h : ∀ u i, POk (un u i)) : ∀ (c i u : Nat) (s : List Zs), (∀ z ∈ s, ZOk z) → POk (prodL K un c i u s) := by
  intro c
  induction c with
  | zero => intro i u s hs; exact hs
  | succ c ih =>
    intro i u s hs
    unfold prodL
    split
    · next hk =>
      refine bindR_ok (h _ _) (fun i' u' s' _ hs' => ih _ _ _ (fun z hz => ?_))
      rcases List.mem_append.mp hz with hz | hz
      · rcases List.mem_append.mp hz with hz | hz
        · exact hs z hz
        · exact hs' z hz
      · rw [List.mem_singleton.mp hz]
        exact ⟨by show 0 ≤ K i ∧ K i ≤ 1000; omega, fun q => by have q : K i = 2 ∨ K i = 3 := q; omega⟩
    · exact hs
theorem prodF_ok {K : Nat → Int} {un : Nat → Nat → PR} (h : ∀ u i, POk (un u i)) (u i : Nat) : POk (prodF K un u i) := bindR_ok (h u i) (fun _ _ _ _ hs => prodL_ok h _ _ _ _ hs)
theorem sumL_ok {K : Nat → Int} {un : Nat → Nat → PR} (h : ∀ u i, POk (un u i)) : ∀ (c i u : Nat) (s : List Zs), (∀ z ∈ s, ZOk z) → POk (sumL K un c i u s) := by
  intro c
  induction c with
  | zero => intro i u s hs; exact hs
  | succ c ih =>
    intro i u s hs
    unfold sumL
    split
    · next hk =>
      refine bindR_ok (prodF_ok h _ _) (fun i' u' s' _ hs' => ih _ _ _ (fun z hz => ?_))
      rcases List.mem_append.mp hz with hz | hz
      · rcases List.mem_append.mp hz with hz | hz
        · exact hs z hz
        · exact hs' z hz
      · rw [List.mem_singleton.mp hz]
        exact ⟨by show 0 ≤ K i ∧ K i ≤ 1000; omega, fun q => by have q : K i = 2 ∨ K i = 3 := q; omega⟩
    · exact hs
theorem sumF_ok {K : Nat → Int} {un : Nat → Nat → PR} (h : ∀ u i, POk (un u i)) (u i : Nat) : POk (sumF K un u i) := bindR_ok (prodF_ok h u i) (fun _ _ _ _ hs => sumL_ok h _ _ _ _ hs)
theorem zok1 {a b c : Int} (h : (0 ≤ a ∧ a ≤ 1000) ∧ a ≠ 2 ∧ a ≠ 3) : ZOk (a, b, c) := ⟨h.1, fun q => by have q : a = 2 ∨ a = 3 := q; omega⟩
theorem uF_ok {K V Q : Nat → Int} (hV : ∀ i, K i = 2 → i64 (V i) ∧ 0 ≤ Q i ∧ Q i ≤ 900) : ∀ δ u i, POk (uF K V Q δ u i) := by
  intro δ
  induction δ with
  | zero => intro u i; trivial
  | succ δ ih =>
    have hs := fun u i => sumF_ok (K := K) ih u i
    have app : ∀ {a b : List Zs}, (∀ z ∈ a, ZOk z) → (∀ z ∈ b, ZOk z) → ∀ z ∈ a ++ b, ZOk z := fun ha hb z hz => (List.mem_append.mp hz).elim (ha z) (hb z)
    have one : ∀ {a : Zs}, ZOk a → ∀ z ∈ [a], ZOk z := fun ha z hz => by rw [List.mem_singleton.mp hz]; exact ha
    intro u i
    unfold uF
    split
    · trivial
    split
    · exact one (zok1 (by decide))
    split
    · exact one (zok1 (by decide))
    split
    · exact needR_ok (fun hk => one ⟨(by decide : (0 : Int) ≤ 2 ∧ (2 : Int) ≤ 1000), fun _ => hV _ hk⟩)
    split
    · next hk =>
      unfold entF
      split
      · exact bindR_ok (hs _ _) (fun i' u' s _ h1 => needR_ok (fun _ => app h1 (one ⟨(by decide : (0 : Int) ≤ 3 ∧ (3 : Int) ≤ 1000), fun _ => hV _ hk⟩)))
      · trivial
    split
    · exact bindR_ok (ih _ _) (fun i' u' s _ h1 => app h1 (one (zok1 (by decide))))
    split
    · unfold grpF
      refine bindR_ok (hs _ _) (fun i0 u0 s0 _ h1 => ?_)
      split
      · exact bindR_ok (hs _ _) (fun i' u' s _ h2 => needR_ok (fun _ => app (app h1 h2) (one (zok1 (by decide)))))
      split
      · unfold choiF
        refine bindR_ok (bindR_ok (hs _ _) (fun i1 u1 s1 _ h2 => ?_)) (fun i2 u2 s _ h3 => needR_ok (fun _ => app h1 h3))
        split
        · exact bindR_ok (hs _ _) (fun i2 u2 s2 _ h3 => app (app (app (one (zok1 (by decide))) h2) (one (zok1 (by decide)))) h3)
        · trivial
      · exact needR_ok (fun _ => h1)
    · trivial
/-- Formula m after its first j names -/
def RsI (σ τ : Mm) (m : Nat) (ds : List TabD) (ss : List Zs) (nf : Int) (j : Nat) : Prop := (∀ f k i, ¬ (f = 14 ∧ k = m ∧ i < ss.length) → ¬ (f = 2 ∧ k = 0 ∧ i = 4) → τ f k i = σ f k i) ∧ (∀ i, i < ss.length → τ 14 m i = if i < j then (rslv ds (ss.getD i (0, 0, 0))).2.1 else (ss.getD i (0, 0, 0)).2.1) ∧ τ 2 0 4 = rsN ds (ss.take j) nf
theorem take_succ_getD {ss : List Zs} {j : Nat} (h : j < ss.length) : ss.take (j + 1) = ss.take j ++ [ss.getD j (0, 0, 0)] := by
  rw [List.take_add_one, List.getD_eq_getElem?_getD, List.getElem?_eq_getElem h]
  rfl
theorem rsN_r {ds : List TabD} : ∀ (ss : List Zs) {nf : Int}, (∀ z ∈ ss, ZOk z) → (-2147483648 ≤ nf ∧ nf < 2147483648) → -2147483648 ≤ rsN ds ss nf ∧ rsN ds ss nf < 2147483648 := by
  intro ss
  induction ss with
  | nil => intro nf _ h; exact h
  | cons z r ih =>
    intro nf hz h
    refine ih (fun y hy => hz y (List.mem_cons_of_mem _ hy)) ?_
    split
    · next hc =>
      have := (hz z List.mem_cons_self).2 hc.1
      exact nfA_r h (by omega)
    · exact h
theorem c_resIn {σ : Mm} {m s : Nat} {ds : List TabD} {ss : List Zs} {nf : Int} (hm : m < 24) (hs : s < 2) (hT : σ 4 s 1 = ds.length) (hd : DsOk ds) (hnm : ∀ k, k < ds.length → σ 5 (12 * s + k) 3 = (ds.getD k (0, 0, 0, 0, 0, [])).1) (hF : FormOk σ m ss) (hss : ss.length ≤ 48) (hz : ∀ z ∈ ss, ZOk z) (hnf : σ 2 0 4 = nf) (hnf2 : -2147483648 ≤ nf ∧ nf < 2147483648) : ∃ σ' : Mm, RsI σ σ' m ds ss nf ss.length ∧ Ct 3 mX5_resolveNamesIn 1 [vR 2 0, vR 6 m, vR 4 s] NALL σ none NALL σ' 0 0 := by
  have loop : ∀ (c j : Nat) (τ : Mm), j + c = ss.length → RsI σ τ m ds ss nf j → ∃ σ' : Mm, RsI σ σ' m ds ss nf ss.length ∧ ∀ C : Cx, Ok C RX5 cX5_resolveNamesIn 5 3 → Rt C 1 none none NALL σ' 0 0 → ∀ ls, lsub [(0, vR 2 0), (1, vR 6 m), (2, vR 4 s), (3, vI j)] ls → X C 1 2 ls [] NALL τ 0 0 := by
    intro c
    induction c with
    | zero =>
      intro j τ hj hI
      obtain rfl : j = ss.length := by omega
      refine ⟨τ, hI, fun C h hr ls hls => x_loc hls ?_⟩
      have hl : τ 6 m 3 = ss.length := by rw [hI.1 6 m 3 (by omega) (by omega)]; exact hF.1
      refine x_iload_n h dX5_resolveNamesIn_2 rfl ?_
      refine x_aload_n h dX5_resolveNamesIn_3 rfl ?_
      refine x_get (q := vI (ss.length)) h fl_5_153 (lvm_6 (by omega)) dX5_resolveNamesIn_4 (congrArg vI (by first | exact hl | simp [up3, hl])) ?_
      refine x_ic_ge_T (tgt := 58) h (by omega) dX5_resolveNamesIn_7 (by decide) (by omega) ?_
      exact x_return h hr dX5_resolveNamesIn_58 ⟨Nat.le_refl _, Nat.le_refl _⟩
    | succ c ih =>
      intro j τ hj hI
      obtain ⟨i1, i2, i3⟩ := hI
      have hjl : j < ss.length := by omega
      have hl : τ 6 m 3 = ss.length := by rw [i1 6 m 3 (by omega) (by omega)]; exact hF.1
      have h13 : τ 13 m j = (ss.getD j (0, 0, 0)).1 := by rw [i1 13 m j (by omega) (by omega)]; exact (hF.2 j hjl).1
      have h14 : τ 14 m j = (ss.getD j (0, 0, 0)).2.1 := by rw [i2 j hjl, if_neg (by omega)]
      have h15 : τ 15 m j = (ss.getD j (0, 0, 0)).2.2 := by rw [i1 15 m j (by omega) (by omega)]; exact (hF.2 j hjl).2.2
      have hzj : ZOk (ss.getD j (0, 0, 0)) := by
        rw [List.getD_eq_getElem?_getD, List.getElem?_eq_getElem hjl]
        exact hz _ (List.getElem_mem hjl)
      have htk := take_succ_getD hjl
      have hrr := rsN_r (ds := ds) (ss.take j) (fun z hz' => hz z (List.mem_of_mem_take hz')) hnf2
      generalize ss.getD j (0, 0, 0) = z at h13 h14 h15 hzj htk
      have his := c_isNameAt (d := 0) (σ := τ) (m := m) (k := j) hm (by omega) (by rw [h13]; exact hzj.1)
      by_cases hn : z.1 = 2 ∨ z.1 = 3
      · rw [h13, if_pos (by omega)] at his
        obtain ⟨hx, hp0, hp1⟩ := hzj.2 hn
        have hwt := c_withAt (d := 0) (σ := τ) (m := m) (k := j) hm (by omega)
        rw [h14] at hwt
        have hgn : ∀ k, k < ds.length → nameG τ s k = (ds.getD k (0, 0, 0, 0, 0, [])).1 := fun k hk => by
          unfold nameG
          rw [i1 5 _ 3 (by omega) (by omega)]
          exact hnm k hk
        have hno := c_numberOf (d := 0) (σ := τ) (t := s) (n := ds.length) (x := z.2.1) hs (by rw [i1 4 s 1 (by omega) (by omega)]; exact hT) (hd.1) hx (fun k hk => by rw [hgn k hk]; exact (hd.2 k hk).1)
        rw [nof_ext hgn] at hno
        have hno : Ct 1 mX4_numberOf 1 [vR 4 s, vL z.2.1] NALL τ (some (vI (nofD ds z.2.1))) NALL τ 0 0 := hno
        have hrn : -2147483648 ≤ nofD ds z.2.1 ∧ nofD ds z.2.1 < 2147483648 := by
          have hl12 := hd.1
          rcases nof_r (fun k => (ds.getD k (0, 0, 0, 0, 0, [])).1) z.2.1 ds.length with h | ⟨k, h1, h2, -⟩ <;> unfold nofD <;> omega
        by_cases h9 : nofD ds z.2.1 = -9
        · have hpl := c_placeAt (d := 0) (σ := τ) (m := m) (k := j) hm (by omega)
          rw [h15] at hpl
          have hnote := c_note_0 (d := 0) (σ := τ) (x := z.2.2) (y := rsN ds (ss.take j) nf) i3 (by omega) hrr
          have enote : (if rsN ds (ss.take j) nf = -9 ∨ z.2.2 < rsN ds (ss.take j) nf then up3 τ 2 0 4 z.2.2 else τ) = up3 τ 2 0 4 (nfA (rsN ds (ss.take j) nf) z.2.2) := by
            unfold nfA
            split
            · rfl
            · rw [← i3, up3_id]
          rw [enote] at hnote
          have hres := c_resolve (d := 0) (σ := up3 τ 2 0 4 (nfA (rsN ds (ss.take j) nf) z.2.2)) (m := m) (k := j) (x := nofD ds z.2.1) hm (by omega) hrn
          obtain ⟨σ', hI', hx'⟩ := ih (j + 1) (up3 (up3 τ 2 0 4 (nfA (rsN ds (ss.take j) nf) z.2.2)) 14 m j (nofD ds z.2.1)) (by omega) (by
            refine ⟨fun f k i g1 g2 => ?_, fun i hi => ?_, ?_⟩
            · unfold up3
              rw [if_neg (by omega), if_neg (by omega)]
              exact i1 f k i g1 g2
            · by_cases hij : i = j
              · subst hij
                rw [up3_s, if_pos (by omega)]
                have : ss.getD i (0, 0, 0) = z := by
                  have e := htk
                  rw [take_succ_getD hjl] at e
                  simpa using e
                rw [this]
                unfold rslv
                rw [if_pos hn]
              · rw [up3_j _ _ hij, up3_f _ _ (by decide), i2 i hi]
                by_cases hlt : i < j
                · rw [if_pos hlt, if_pos (by omega)]
                · rw [if_neg hlt, if_neg (by omega)]
            · rw [up3_f _ _ (by decide), up3_s, htk, rsN_app]
              show _ = (if (z.1 = 2 ∨ z.1 = 3) ∧ nofD ds z.2.1 = -9 then nfA (rsN ds (ss.take j) nf) z.2.2 else rsN ds (ss.take j) nf)
              rw [if_pos ⟨hn, h9⟩])
          refine ⟨σ', hI', fun C h hr ls hls => x_loc hls ?_⟩
          refine x_iload_n h dX5_resolveNamesIn_2 rfl ?_
          refine x_aload_n h dX5_resolveNamesIn_3 rfl ?_
          refine x_get (q := vI (ss.length)) h fl_5_153 (lvm_6 (by omega)) dX5_resolveNamesIn_4 (congrArg vI (by first | exact hl | simp [up3, hl])) ?_
          refine x_ic_ge_F (tgt := 58) h (by omega) dX5_resolveNamesIn_7 (by decide) (by omega) ?_
          refine x_aload_n h dX5_resolveNamesIn_10 rfl ?_
          refine x_iload_n h dX5_resolveNamesIn_11 rfl ?_
          refine x_cV1 h kVX0_isNameAt lkX5_163 ⟨_, _, _, rfl, rfl⟩ dX5_resolveNamesIn_12 (his) (lvm_6 (by omega)) rfl rfl (Nat.le_of_ble_eq_true rfl) (by omega) ?_
          refine x_if_eq_F (tgt := 52) h (by omega) dX5_resolveNamesIn_15 (by decide) (by omega) ?_
          refine x_aload_n h dX5_resolveNamesIn_18 rfl ?_
          refine x_aload_n h dX5_resolveNamesIn_19 rfl ?_
          refine x_iload_n h dX5_resolveNamesIn_20 rfl ?_
          refine x_cV1 h kVX0_withAt lkX5_166 ⟨_, _, _, rfl, rfl⟩ dX5_resolveNamesIn_21 (hwt) (lvm_6 (by omega)) rfl rfl (Nat.le_of_ble_eq_true rfl) (by omega) ?_
          refine x_cV1 h kVX4_numberOf lkX5_75 ⟨_, _, _, rfl, rfl⟩ dX5_resolveNamesIn_24 (hno) (lvm_4 (by omega)) rfl rfl (Nat.le_of_ble_eq_true rfl) (by omega) ?_
          refine x_istore h dX5_resolveNamesIn_27 (by decide) ?_
          refine x_iload h dX5_resolveNamesIn_29 rfl ?_
          refine x_bipush h dX5_resolveNamesIn_31 (by decide) ?_
          refine x_ic_ne_F (tgt := 45) h (by omega) dX5_resolveNamesIn_33 (by decide) (by omega) ?_
          refine x_aload_n h dX5_resolveNamesIn_36 rfl ?_
          refine x_aload_n h dX5_resolveNamesIn_37 rfl ?_
          refine x_iload_n h dX5_resolveNamesIn_38 rfl ?_
          refine x_cV1 h kVX0_placeAt lkX5_169 ⟨_, _, _, rfl, rfl⟩ dX5_resolveNamesIn_39 (hpl) (lvm_6 (by omega)) rfl rfl (Nat.le_of_ble_eq_true rfl) (by omega) ?_
          refine x_cV0 h kVX5_noteNameFault lkX5_79 ⟨_, _, _, rfl, rfl⟩ dX5_resolveNamesIn_42 (hnote) lvz_2 rfl rfl (Nat.le_of_ble_eq_true rfl) (by omega) ?_
          refine x_aload_n h dX5_resolveNamesIn_45 rfl ?_
          refine x_iload_n h dX5_resolveNamesIn_46 rfl ?_
          refine x_iload h dX5_resolveNamesIn_47 rfl ?_
          refine x_cV0 h kVX0_resolve lkX5_173 ⟨_, _, _, rfl, rfl⟩ dX5_resolveNamesIn_49 (hres) (lvm_6 (by omega)) rfl rfl (Nat.le_of_ble_eq_true rfl) (by omega) ?_
          refine x_iinc h dX5_resolveNamesIn_52 rfl (by decide) ?_
          refine x_goto (tgt := 2) h dX5_resolveNamesIn_55 (by decide) ?_
          exact hx' C h hr _ ⟨rfl, rfl, rfl, rfl, trivial⟩
        · have hres := c_resolve (d := 0) (σ := τ) (m := m) (k := j) (x := nofD ds z.2.1) hm (by omega) hrn
          obtain ⟨σ', hI', hx'⟩ := ih (j + 1) (up3 τ 14 m j (nofD ds z.2.1)) (by omega) (by
            refine ⟨fun f k i g1 g2 => ?_, fun i hi => ?_, ?_⟩
            · unfold up3
              rw [if_neg (by omega)]
              exact i1 f k i g1 g2
            · by_cases hij : i = j
              · subst hij
                rw [up3_s, if_pos (by omega)]
                have : ss.getD i (0, 0, 0) = z := by
                  have e := htk
                  rw [take_succ_getD hjl] at e
                  simpa using e
                rw [this]
                unfold rslv
                rw [if_pos hn]
              · rw [up3_j _ _ hij, i2 i hi]
                by_cases hlt : i < j
                · rw [if_pos hlt, if_pos (by omega)]
                · rw [if_neg hlt, if_neg (by omega)]
            · rw [up3_f _ _ (by decide), i3, htk, rsN_app]
              show _ = (if (z.1 = 2 ∨ z.1 = 3) ∧ nofD ds z.2.1 = -9 then nfA (rsN ds (ss.take j) nf) z.2.2 else rsN ds (ss.take j) nf)
              rw [if_neg (fun q => h9 q.2)])
          refine ⟨σ', hI', fun C h hr ls hls => x_loc hls ?_⟩
          refine x_iload_n h dX5_resolveNamesIn_2 rfl ?_
          refine x_aload_n h dX5_resolveNamesIn_3 rfl ?_
          refine x_get (q := vI (ss.length)) h fl_5_153 (lvm_6 (by omega)) dX5_resolveNamesIn_4 (congrArg vI (by first | exact hl | simp [up3, hl])) ?_
          refine x_ic_ge_F (tgt := 58) h (by omega) dX5_resolveNamesIn_7 (by decide) (by omega) ?_
          refine x_aload_n h dX5_resolveNamesIn_10 rfl ?_
          refine x_iload_n h dX5_resolveNamesIn_11 rfl ?_
          refine x_cV1 h kVX0_isNameAt lkX5_163 ⟨_, _, _, rfl, rfl⟩ dX5_resolveNamesIn_12 (his) (lvm_6 (by omega)) rfl rfl (Nat.le_of_ble_eq_true rfl) (by omega) ?_
          refine x_if_eq_F (tgt := 52) h (by omega) dX5_resolveNamesIn_15 (by decide) (by omega) ?_
          refine x_aload_n h dX5_resolveNamesIn_18 rfl ?_
          refine x_aload_n h dX5_resolveNamesIn_19 rfl ?_
          refine x_iload_n h dX5_resolveNamesIn_20 rfl ?_
          refine x_cV1 h kVX0_withAt lkX5_166 ⟨_, _, _, rfl, rfl⟩ dX5_resolveNamesIn_21 (hwt) (lvm_6 (by omega)) rfl rfl (Nat.le_of_ble_eq_true rfl) (by omega) ?_
          refine x_cV1 h kVX4_numberOf lkX5_75 ⟨_, _, _, rfl, rfl⟩ dX5_resolveNamesIn_24 (hno) (lvm_4 (by omega)) rfl rfl (Nat.le_of_ble_eq_true rfl) (by omega) ?_
          refine x_istore h dX5_resolveNamesIn_27 (by decide) ?_
          refine x_iload h dX5_resolveNamesIn_29 rfl ?_
          refine x_bipush h dX5_resolveNamesIn_31 (by decide) ?_
          refine x_ic_ne_T (tgt := 45) h (by omega) dX5_resolveNamesIn_33 (by decide) (by omega) ?_
          refine x_aload_n h dX5_resolveNamesIn_45 rfl ?_
          refine x_iload_n h dX5_resolveNamesIn_46 rfl ?_
          refine x_iload h dX5_resolveNamesIn_47 rfl ?_
          refine x_cV0 h kVX0_resolve lkX5_173 ⟨_, _, _, rfl, rfl⟩ dX5_resolveNamesIn_49 (hres) (lvm_6 (by omega)) rfl rfl (Nat.le_of_ble_eq_true rfl) (by omega) ?_
          refine x_iinc h dX5_resolveNamesIn_52 rfl (by decide) ?_
          refine x_goto (tgt := 2) h dX5_resolveNamesIn_55 (by decide) ?_
          exact hx' C h hr _ ⟨rfl, rfl, rfl, rfl, trivial⟩
      · rw [h13, if_neg (by omega)] at his
        obtain ⟨σ', hI', hx'⟩ := ih (j + 1) τ (by omega) (by
          refine ⟨i1, fun i hi => ?_, ?_⟩
          · rw [i2 i hi]
            by_cases hij : i = j
            · subst hij
              rw [if_neg (by omega), if_pos (by omega)]
              have : ss.getD i (0, 0, 0) = z := by
                have e := htk
                rw [take_succ_getD hjl] at e
                simpa using e
              rw [this]
              unfold rslv
              rw [if_neg hn]
            · by_cases hlt : i < j
              · rw [if_pos hlt, if_pos (by omega)]
              · rw [if_neg hlt, if_neg (by omega)]
          · rw [i3, htk, rsN_app]
            show _ = (if (z.1 = 2 ∨ z.1 = 3) ∧ nofD ds z.2.1 = -9 then nfA (rsN ds (ss.take j) nf) z.2.2 else rsN ds (ss.take j) nf)
            rw [if_neg (fun q => hn q.1)])
        refine ⟨σ', hI', fun C h hr ls hls => x_loc hls ?_⟩
        refine x_iload_n h dX5_resolveNamesIn_2 rfl ?_
        refine x_aload_n h dX5_resolveNamesIn_3 rfl ?_
        refine x_get (q := vI (ss.length)) h fl_5_153 (lvm_6 (by omega)) dX5_resolveNamesIn_4 (congrArg vI (by first | exact hl | simp [up3, hl])) ?_
        refine x_ic_ge_F (tgt := 58) h (by omega) dX5_resolveNamesIn_7 (by decide) (by omega) ?_
        refine x_aload_n h dX5_resolveNamesIn_10 rfl ?_
        refine x_iload_n h dX5_resolveNamesIn_11 rfl ?_
        refine x_cV1 h kVX0_isNameAt lkX5_163 ⟨_, _, _, rfl, rfl⟩ dX5_resolveNamesIn_12 (his) (lvm_6 (by omega)) rfl rfl (Nat.le_of_ble_eq_true rfl) (by omega) ?_
        refine x_if_eq_T (tgt := 52) h (by omega) dX5_resolveNamesIn_15 (by decide) (by omega) ?_
        refine x_iinc h dX5_resolveNamesIn_52 rfl (by decide) ?_
        refine x_goto (tgt := 2) h dX5_resolveNamesIn_55 (by decide) ?_
        exact hx' C h hr _ ⟨rfl, rfl, rfl, rfl, trivial⟩
  obtain ⟨σ', hI, hx⟩ := loop ss.length 0 σ (by omega) ⟨fun _ _ _ _ _ => rfl, fun i hi => by rw [if_neg (by omega)]; exact (hF.2 i hi).2.1, hnf⟩
  refine ⟨σ', hI, ?_⟩
  refine ct_of (by decide) (Nat.le_of_ble_eq_true rfl) (fun C h hr _ => ?_)
  have h : Ok C RX5 cX5_resolveNamesIn 5 _ := h
  refine x_iconst h dX5_resolveNamesIn_0 ?_
  refine x_istore_n h dX5_resolveNamesIn_1 (by decide) ?_
  exact hx C h hr _ ⟨rfl, rfl, rfl, rfl, trivial⟩
