/-! contracts and calls -/
def rmm (d mc ms : Nat) : Room := { frames := d, cells := mc, slots := ms, locals := 64 * d }
def Pcx (D : va_G) (ca : Nat → ClassId) (bs ph : Nat) (as : List PV) (n : Nat) (σ : Mm) : Array Value → State → Prop := va_Pc (as.map (vv bs)) (fun U => U.heap.size = bs + n ∧ va_P D vwCl (wo ca bs ph n σ) U.heap ∧ KK D ca U)
def Qcx (D : va_G) (ca : Nat → ClassId) (bs ph : Nat) (r : Option PV) (n : Nat) (σ : Mm) : Array Value → State → Outcome → State → Prop := fun _ st oc t => (oc = .returned (r.map (vv bs)) ∧ t.heap.size = bs + n ∧ va_P D vwCl (wo ca bs ph n σ) t.heap) ∧ va_F (fun q => bs ≤ q) st t
/-- a method's contract: from these arguments and this memory it returns r and leaves that memory -/
def Ct (d : Nat) (M : Mt) (ph : Nat) (as : List PV) (n : Nat) (σ : Mm) (r : Option PV) (n' : Nat) (σ' : Mm) (mc ms : Nat) : Prop := ∀ (l : Launch) (D : va_G) (ca : Nat → ClassId) (bs : Nat), Met l M.1 (Cond.code M.1 M.2.1 M.2.2.1 M.2.2.2.1 :: TB) (rmm d mc ms) (Pcx D ca bs ph as n σ) (Qcx D ca bs ph r n' σ') mc ms (fun q => bs ≤ q)
/-- what a context owes at its end -/
def Rt : Cx → Nat → Option FieldType → Option PV → Nat → Mm → Nat → Nat → Prop
  | (p, l, e, R, s, m, args, below, meth, c, Q, D, ca, bs), ph, ret, r, n, σ, mc, ms => Q = MQ below (Qcx D ca bs ph r n σ) args s mc ms (fun q => bs ≤ q) ∧ meth.sig.returnType = ret ∧ meth.locks = false ∧ R.cells = mc ∧ R.slots = ms
def Ini : Cx → Prop
  | (p, l, e, R, s, m, args, below, meth, c, Q, D, ca, bs) => meth.name = "<init>"
def lpa : Nat → List PV → List (Nat × PV)
  | _, [] => []
  | i, v :: vs => (i, v) :: lpa (if pcat v = 2 then i + 2 else i + 1) vs
theorem lpa_lvs (bs : Nat) : ∀ (vs : List PV) (i : Nat), lv_args i (vs.map (vv bs)) = lvs bs (lpa i vs) := by
  intro vs
  induction vs with
  | nil => intro i; rfl
  | cons v vs ih =>
    intro i
    show (i, vv bs v) :: lv_args (if (vv bs v).category = 2 then i + 2 else i + 1) (vs.map (vv bs)) = (i, vv bs v) :: lvs bs (lpa (if pcat v = 2 then i + 2 else i + 1) vs)
    rw [vv_cat, ih]
theorem sl_len (bs : Nat) : ∀ vs : List PV, (lg_sl (vs.map (vv bs))).length = (vs.map pcat).sum := by
  intro vs
  induction vs with
  | nil => rfl
  | cons v vs ih =>
    have e : lg_sl ((v :: vs).map (vv bs)) = lg_sl [vv bs v] ++ lg_sl (vs.map (vv bs)) := by simp [lg_sl]
    rw [e, List.length_append, ih, List.map_cons, List.sum_cons]
    congr 1
    rcases v with x | x | ⟨⟨f, k⟩⟩ | _ <;> rfl
theorem ct_of {d : Nat} {M : Mt} {ph : Nat} {as : List PV} {n : Nat} {σ : Mm} {r : Option PV} {n' : Nat} {σ' : Mm} {mc ms : Nat} (hp : plainName M.1.cls = true) (hlen : (as.map pcat).sum ≤ M.2.2.1)
    (body : ∀ C : Cx, Ok C M.1.cls M.2.1 M.2.2.1 d → Rt C ph M.2.2.2.1 r n' σ' mc ms → (M.1.name = "<init>" → Ini C) → X C ph 0 (lpa 0 as) [] n σ 0 0) : Ct d M ph as n σ r n' σ' mc ms := by
  intro l D ca bs
  refine Met.ofW (cc := M.2.1) (maxL := M.2.2.1) (ret := M.2.2.2.1) hp rfl ?_
  intro p e s m args below meth c s₁ B hml hv
  obtain ⟨rfl, hsz, hP, hK⟩ := hv
  have hts := atoms_spec (ws := Cond.code M.1 M.2.1 M.2.2.1 M.2.2.2.1 :: TB) B.pre
  have hown : s.vm.findClass M.1.cls = some m.cls := findClass_of_methodNamed B.named
  have hbs : bs ≤ s.heap.size := by rw [hsz]; omega
  have hl := lv_entry (as.map (vv bs)) (n := M.2.2.1) (by rw [sl_len]; exact hlen)
  rw [lg_entry_eq]
  rw [lpa_lvs] at hl
  have hC := body (p, l, e, rmm d mc ms, s, m, (as.map (vv bs)).toArray, below, meth, c, MQ below (Qcx D ca bs ph r n' σ') (as.map (vv bs)).toArray s mc ms (fun q => bs ≤ q), D, ca, bs)
    ⟨B.exec, B.bytes, hml, hown, fun w hw => hts w (List.mem_cons_of_mem _ hw), hK, hbs, Nat.le_refl _, Nat.le_refl _⟩
    ⟨rfl, B.returns, B.notSynchronized, rfl, rfl⟩ (fun hn => (name_of_methodNamed B.named B.method).1.trans hn)
  refine hC s.heap [] _ ⟨hsz, hP, va_S.rf⟩ ?_
  rw [hml]
  exact hl
section CALLS
variable {C : Cx} {own : String} {cc : ByteArray} {nL d ph pc n nc ns : Nat} {ls : List (Nat × PV)} {st : List PV} {σ : Mm}
theorem blind {D : va_G} {ca : Nat → ClassId} {bs ph : Nat} {as : List PV} {n : Nat} {σ : Mm} : FrameBlind (Pcx D ca bs ph as n σ) := fun a U g mk q => ⟨q.1, q.2.1, q.2.2.1, KK.same (s := U) (U := U.calling g mk a) rfl q.2.2.2⟩
theorem x_end (p : Program) (l : Launch) (e : Env) (R : Room) (s : State) (m : MethodId) (args : Array Value) (below : List Frame) (meth : Method) (c : Code) (Q : State → Prop) (D : va_G) (ca : Nat → ClassId) (bs : Nat) {stk rest : List Value} {a : Array Value} {r : Option PV} {n' : Nat} {σ' : Mm} {mc ms : Nat} {H : Heap} {locs : List Loc} {lm : Array Slot}
    (hr : va_Run p l e R s m args below meth c H locs nc ns mc ms (F0 m pc lm stk) rest (Qcx D ca bs ph r n' σ' a) (fun q => bs ≤ q)) (hR : Rl D ca bs ph n σ s.heap H locs)
    (k : ∀ (H1 : Heap) (locs1 : List Loc), Rl D ca bs ph n' σ' s.heap H1 locs1 → W p l e R s m args below meth c H1 locs1 (nc + mc) (ns + ms) Q (F0 m (pc + 3) lm ((r.map (vv bs)).toList ++ rest))) : W p l e R s m args below meth c H locs nc ns Q (F0 m pc lm stk) := by
  intro T hT X
  obtain ⟨v, st₀, t, T', L, h0, X', hL, e1, e2, ⟨⟨hv, hz, hP⟩, hF1, hF2⟩, st⟩ := hr T hT X
  cases hv
  rw [h0] at hF1 hF2
  obtain ⟨t2, a1, b1⟩ := k T'.heap (locs ++ L) ⟨by rw [e1]; exact hz, by rw [e1]; exact hP, Nat.le_trans hR.2.2.1 (by rw [e1]; exact hF1), fun q h1 h2 => by
      rw [e1, hF2 q (Nat.lt_of_lt_of_le h1 hR.2.2.1) h2]; exact hR.2.2.2.1 q h1 h2, fun q hq => by
      rcases List.mem_append.mp hq with h | h
      · exact hR.2.2.2.2 q h
      · exact hL q h⟩ T' rfl X'
  exact ⟨t2, st t2 a1, b1⟩
theorem good_V {own : String} {idx : Nat} {M : Mt} (hM : MkV M) (hl : Lk own idx M) : GoodIn TB (wsV own idx M.1.cls M.1 (Cond.code M.1 M.2.1 M.2.2.1 M.2.2.2.1 :: TB)) := by
  intro w hw
  have : w ∈ TB := by
    simp only [wsV, List.cons_append, List.nil_append, List.mem_cons] at hw
    rcases hw with rfl | rfl | rfl | rfl | rfl | hw
    · exact hl
    · exact hM.2.1
    · exact hM.2.2
    · exact hM.1.2.1
    · exact hM.1.1
    · exact hw
  exact ⟨this, tb_good w this⟩
theorem good_M {M : Mt} (hM : Mk M) : GoodIn TB (Cond.code M.1 M.2.1 M.2.2.1 M.2.2.2.1 :: TB) := by
  intro w hw
  have : w ∈ TB := by
    rcases List.mem_cons.mp hw with rfl | hw
    · exact hM.1
    · exact hw
  exact ⟨this, tb_good w this⟩
theorem good_S {own : String} {idx : Nat} {M : Mt} (hM : MkS M) (hl : Lk own idx M) : GoodIn TB (va_wsS own idx M.1 (Cond.code M.1 M.2.1 M.2.2.1 M.2.2.2.1 :: TB)) := by
  intro w hw
  have : w ∈ TB := by
    simp only [va_wsS, List.cons_append, List.nil_append, List.mem_cons] at hw
    rcases hw with rfl | rfl | rfl | rfl | hw
    · exact hl
    · exact hM.2
    · exact hM.1.2.1
    · exact hM.1.1
    · exact hw
  exact ⟨this, tb_good w this⟩
/-- the receiver's class -/
def Rc (f : Nat) (M : Mt) : Prop := ∃ (ci : Nat) (T : u_T) (N : Nat), kd f = (0, ci) ∧ vwCl[ci]? = some (M.1.cls, T, N)
theorem cat_sum (bs : Nat) (st : List PV) : ((st.map (vv bs)).map fun v => v.category).sum = (st.map pcat).sum := by
  rw [List.map_map]
  congr 1
  apply List.map_congr_left
  intro v _
  exact vv_cat bs v
theorem x_callV (h : Ok C own cc nL d) {d' idx f k mc ms : Nat} {M : Mt} {As : List PV} {stk : List PV} {r : Option PV} {n' : Nat} {σ' : Mm} (hM : MkV M) (hl : Lk own idx M) (hrc : Rc f M) (hk : Lv n f k) (hc : Ct d' M ph (vR f k :: As) n σ r n' σ' mc ms) (hst : stk = As.reverse ++ vR f k :: st) (hd : decode cc pc = .ok (.invokevirtual idx, 3)) (hA : As.length = M.2.2.2.2) (hcat : (st.map pcat).sum ≤ 8) (hdd : d' + 1 ≤ d)
    (hroom : nc + mc ≤ C.2.2.2.1.cells ∧ ns + ms ≤ C.2.2.2.1.slots) (kk : X C ph (pc + 3) ls (r.toList ++ st) n' σ' (nc + mc) (ns + ms)) : X C ph pc ls stk n σ nc ns := by
  obtain ⟨p, l, e, R, s, m, args, below, meth, c, Q, D, ca, bs⟩ := C
  intro H locs lm hR hm
  subst hst
  obtain ⟨ci, T, N, hf, hcl⟩ := hrc
  have hat := wo_at (ca := ca) (bs := bs) (ph := ph) (σ := σ) hk
  rw [cel_obj hf] at hat
  have hrun := va_runV (e := e) (below := below) (meth := meth) (nL := nL) (n := M.2.2.2.2) (As := As.map (vv bs)) (b := bs + num f k) (rest := st.map (vv bs)) (g := F0 m pc lm ((As.reverse ++ vR f k :: st).map (vv bs))) (locs := locs) (cells := nc) (slots := ns)
    (⟨h.1, h.2.1, h.2.2.1, h.2.2.2.1, h.2.2.2.2.1⟩ : CallFix p m c cc nL s args TB own) (hc l D ca bs)
    (cwV (R := R) (C := M.1.cls) M.2.2.2.2 h.2.2.2.2.1 (good_V hM hl) rfl rfl rfl ⟨rfl, hM.1.2.2.1⟩ ⟨by show d' + 1 ≤ R.frames; have := h.2.2.2.2.2.2.2.1; omega, by show 8 + (M.2.2.1 + 11) + 64 * d' ≤ R.locals; have := h.2.2.2.2.2.2.2.2; have := hM.1.2.2.2; omega⟩)
    ⟨blind, va_recv h.2.2.2.2.2.1.1 hR.2.1 hcl hat, fun U hU hW => ⟨rfl, by rw [hU]; exact hR.1, by rw [hU]; exact hR.2.1, KK.warm hW h.2.2.2.2.2.1⟩⟩
    rfl (by rw [List.length_map]; exact hA) (hm.1.trans h.2.2.1) (by simp [vv]) (by show 2 * 0 + _ ≤ 8; rw [cat_sum]; omega) hd hroom
  refine x_end p l e R s m args below meth c Q D ca bs hrun hR (fun H1 locs1 hR1 => ?_)
  have hk2 := kk H1 locs1 lm hR1 hm
  cases r <;> exact hk2
theorem x_callS (h : Ok C own cc nL d) {d' idx mc ms : Nat} {M : Mt} {As : List PV} {stk : List PV} {r : Option PV} {n' : Nat} {σ' : Mm} (hM : MkS M) (hl : Lk own idx M) (hc : Ct d' M ph As n σ r n' σ' mc ms) (hst : stk = As.reverse ++ st) (hd : decode cc pc = .ok (.invokestatic idx, 3)) (hA : As.length = M.2.2.2.2) (hcat : (st.map pcat).sum ≤ 8) (hdd : d' + 1 ≤ d)
    (hroom : nc + mc ≤ C.2.2.2.1.cells ∧ ns + ms ≤ C.2.2.2.1.slots) (kk : X C ph (pc + 3) ls (r.toList ++ st) n' σ' (nc + mc) (ns + ms)) : X C ph pc ls stk n σ nc ns := by
  obtain ⟨p, l, e, R, s, m, args, below, meth, c, Q, D, ca, bs⟩ := C
  intro H locs lm hR hm
  subst hst
  have hrun := va_runS (e := e) (below := below) (meth := meth) (nL := nL) (n := M.2.2.2.2) (As := As.map (vv bs)) (rest := st.map (vv bs)) (g := F0 m pc lm ((As.reverse ++ st).map (vv bs))) (H := H) (locs := locs) (cells := nc) (slots := ns)
    (⟨h.1, h.2.1, h.2.2.1, h.2.2.2.1, h.2.2.2.2.1⟩ : CallFix p m c cc nL s args TB own) (hc l D ca bs)
    (va_cwS (R := R) M.2.2.2.2 h.2.2.2.2.1 (good_S hM hl) rfl rfl rfl hM.1.2.2.1 ⟨by show d' + 1 ≤ R.frames; have := h.2.2.2.2.2.2.2.1; omega, by show 8 + (M.2.2.1 + 11) + 64 * d' ≤ R.locals; have := h.2.2.2.2.2.2.2.2; have := hM.1.2.2.2; omega⟩)
    ⟨blind, fun U hU hW => ⟨rfl, by rw [hU]; exact hR.1, by rw [hU]; exact hR.2.1, KK.warm hW h.2.2.2.2.2.1⟩⟩
    rfl (by rw [List.length_map]; exact hA) (hm.1.trans h.2.2.1) (by simp) (by show 2 * 0 + _ ≤ 8; rw [cat_sum]; omega) hd hroom
  refine x_end p l e R s m args below meth c Q D ca bs hrun hR (fun H1 locs1 hR1 => ?_)
  have hk2 := kk H1 locs1 lm hR1 hm
  cases r <;> exact hk2
theorem x_callN (h : Ok C own cc nL d) {d' idx mc ms : Nat} {host : String} {M : Mt} {As : List PV} {stk : List PV} {r : Option PV} {n' : Nat} {σ' : Mm} (hM : MkS M) (hl : LkN own idx M host) (hc : Ct d' M ph As n σ r n' σ' mc ms) (hst : stk = As.reverse ++ st) (hd : decode cc pc = .ok (.invokestatic idx, 3)) (hA : As.length = M.2.2.2.2) (hcat : (st.map pcat).sum ≤ 8) (hdd : d' + 1 ≤ d)
    (hroom : nc + mc ≤ C.2.2.2.1.cells ∧ ns + ms ≤ C.2.2.2.1.slots) (kk : X C ph (pc + 3) ls (r.toList ++ st) n' σ' (nc + mc) (ns + ms)) : X C ph pc ls stk n σ nc ns := by
  obtain ⟨p, l, e, R, s, m, args, below, meth, c, Q, D, ca, bs⟩ := C
  intro H locs lm hR hm
  subst hst
  have hrun := va_runSN (e := e) (below := below) (meth := meth) (nL := nL) (n := M.2.2.2.2) (As := As.map (vv bs)) (rest := st.map (vv bs)) (g := F0 m pc lm ((As.reverse ++ st).map (vv bs))) (H := H) (locs := locs) (cells := nc) (slots := ns)
    (⟨h.1, h.2.1, h.2.2.1, h.2.2.2.1, h.2.2.2.2.1⟩ : CallFix p m c cc nL s args TB own) (hc l D ca bs)
    ⟨va_cnB (R := R) M.2.2.2.2 h.2.2.2.2.1 (good_M hM.1) rfl rfl rfl (h.2.2.2.2.2.1.2.2 _ hl) (h.2.2.2.2.1 _ hM.1.2.1) hM.1.2.2.1 ⟨by show d' + 1 ≤ R.frames; have := h.2.2.2.2.2.2.2.1; omega, by show 8 + (M.2.2.1 + 11) + 64 * d' ≤ R.locals; have := h.2.2.2.2.2.2.2.2; have := hM.1.2.2.2; omega⟩, h.2.2.2.2.1 _ hM.2, trivial⟩
    ⟨blind, fun U hU hW => ⟨rfl, by rw [hU]; exact hR.1, by rw [hU]; exact hR.2.1, KK.warm hW h.2.2.2.2.2.1⟩⟩
    rfl (by rw [List.length_map]; exact hA) (hm.1.trans h.2.2.1) (by simp) (by show 2 * 0 + _ ≤ 8; rw [cat_sum]; omega) hd hroom
  refine x_end p l e R s m args below meth c Q D ca bs hrun hR (fun H1 locs1 hR1 => ?_)
  have hk2 := kk H1 locs1 lm hR1 hm
  cases r <;> exact hk2
theorem x_callI (h : Ok C own cc nL d) {d' idx f k mc ms : Nat} {M : Mt} {As : List PV} {stk : List PV} {n' : Nat} {σ' : Mm} (hM : MkI M) (hl : Lk own idx M) (hc : Ct d' M ph (vR f k :: As) n σ none n' σ' mc ms) (hst : stk = As.reverse ++ vR f k :: st) (hd : decode cc pc = .ok (.invokespecial idx, 3)) (hA : As.length = M.2.2.2.2) (hcat : (st.map pcat).sum ≤ 8) (hdd : d' + 1 ≤ d)
    (hroom : nc + mc ≤ C.2.2.2.1.cells ∧ ns + ms ≤ C.2.2.2.1.slots) (kk : X C ph (pc + 3) ls st n' σ' (nc + mc) (ns + ms)) : X C ph pc ls stk n σ nc ns := by
  obtain ⟨p, l, e, R, s, m, args, below, meth, c, Q, D, ca, bs⟩ := C
  intro H locs lm hR hm
  subst hst
  obtain ⟨⟨y, cb, mL, ret, na⟩, rfl⟩ : ∃ M', M = M' := ⟨_, rfl⟩
  obtain rfl : ret = none := hM.2.2.2
  have hrun := va_runI (e := e) (below := below) (meth := meth) (nL := nL) (n := na) (As := As.map (vv bs)) (b := bs + num f k) (rest := st.map (vv bs)) (g := F0 m pc lm ((As.reverse ++ vR f k :: st).map (vv bs))) (H := H) (locs := locs) (cells := nc) (slots := ns)
    (⟨h.1, h.2.1, h.2.2.1, h.2.2.2.1, h.2.2.2.2.1⟩ : CallFix p m c cc nL s args TB own) (hc l D ca bs)
    (cwI (R := R) na h.2.2.2.2.1 (good_M hM.1) rfl rfl rfl (h.2.2.2.2.1 _ hM.1.2.1) (h.2.2.2.2.1 _ hl) (h.2.2.2.2.1 _ hM.2.1) hM.2.2.1 hM.1.2.2.1 ⟨by show d' + 1 ≤ R.frames; have := h.2.2.2.2.2.2.2.1; omega, by show 8 + (mL + 11) + 64 * d' ≤ R.locals; have := h.2.2.2.2.2.2.2.2; have : mL ≤ 40 := hM.1.2.2.2; omega⟩)
    ⟨blind, fun U hU hW => ⟨rfl, by rw [hU]; exact hR.1, by rw [hU]; exact hR.2.1, KK.warm hW h.2.2.2.2.2.1⟩⟩
    rfl (by rw [List.length_map]; exact hA) (hm.1.trans h.2.2.1) (by simp [vv]) (by show 2 * 0 + _ ≤ 8; rw [cat_sum]; omega) hd hroom
  exact x_end p l e R s m args below meth c Q D ca bs hrun hR (fun H1 locs1 hR1 => kk H1 locs1 lm hR1 hm)
theorem x_objinit (h : Ok C own cc nL d) {idx f k : Nat} (h1 : 1 ≤ d) (hl : Cond.methodLink own idx objectInit ∈ TB) (hd : decode cc pc = .ok (.invokespecial idx, 3)) (hcat : (st.map pcat).sum ≤ 8) (kk : X C ph (pc + 3) ls st n σ nc ns) : X C ph pc ls (vR f k :: st) n σ nc ns := by
  obtain ⟨p, l, e, R, s, m, args, below, meth, c, Q, D, ca, bs⟩ := C
  intro H locs lm hR hm
  have hfr := h.2.2.2.2.2.2.2.1
  have hlo := h.2.2.2.2.2.2.2.2
  refine W.objInit h.1 h.2.1 h.2.2.2.1 (h.2.2.2.2.1 _ hl) (h.2.2.2.2.1 _ oi_tb) (h.2.2.2.2.1 _ oc_tb) rfl hm.1 (a := bs + num f k) (rest := st.map (vv bs)) rfl hd (by omega) ?_ (kk H locs lm hR hm)
  show 2 * 0 + _ + 12 ≤ R.locals
  rw [cat_sum]
  omega
/-- returns -/
theorem q_end {D : va_G} {ca : Nat → ClassId} {bs ph n : Nat} {σ : Mm} {r : Option PV} {s t : State} {H : Heap} {locs : List Loc} {a : Array Value} (hR : Rl D ca bs ph n σ s.heap H locs) (ht : t.heap = H) : Qcx D ca bs ph r n σ a s (.returned (r.map (vv bs))) t := ⟨⟨rfl, by rw [ht]; exact hR.1, by rw [ht]; exact hR.2.1⟩, hR.2.2.F ht⟩
theorem x_ireturn (h : Ok C own cc nL d) {ret : Option FieldType} {x : Int} {mc ms : Nat} (hr : Rt C ph ret (some (vI x)) n σ mc ms) (hd : decode cc pc = .ok (.ireturn, 1)) (hty : ret = some .int ∨ (ret = some .boolean ∧ (x = 0 ∨ x = 1))) (hn : nc ≤ mc ∧ ns ≤ ms) : X C ph pc ls [vI x] n σ nc ns := by
  obtain ⟨p, l, e, R, s, m, args, below, meth, c, Q, D, ca, bs⟩ := C
  intro H locs lm hR hm
  obtain ⟨rfl, hret, hlk, -, -⟩ := hr
  refine W.widen hn.1 hn.2 ?_
  rcases hty with rfl | ⟨rfl, hx⟩
  · exact W.iret (v := Int32.ofInt x) h.1 h.2.1 hret (fun t ht hW => q_end (r := some (vI x)) hR ht) hR.2.2.2.2 hd hlk
  · exact W.zret (v := Int32.ofInt x) (ty := .boolean) h.1 h.2.1 hret (by rcases hx with rfl | rfl <;> decide) (fun t ht hW => q_end (r := some (vI x)) hR ht) hR.2.2.2.2 hd hlk
theorem x_lreturn (h : Ok C own cc nL d) {x : Int} {mc ms : Nat} (hr : Rt C ph (some .long) (some (vL x)) n σ mc ms) (hd : decode cc pc = .ok (.lreturn, 1)) (hn : nc ≤ mc ∧ ns ≤ ms) : X C ph pc ls [vL x] n σ nc ns := by
  obtain ⟨p, l, e, R, s, m, args, below, meth, c, Q, D, ca, bs⟩ := C
  intro H locs lm hR hm
  obtain ⟨rfl, hret, hlk, -, -⟩ := hr
  refine W.widen hn.1 hn.2 ?_
  exact W.lret (v := Int64.ofInt x) h.1 h.2.1 hret (fun t ht hW => q_end (r := some (vL x)) hR ht) hR.2.2.2.2 hd hlk
theorem x_areturn (h : Ok C own cc nL d) {v : PV} {Cn : String} {mc ms : Nat} (hr : Rt C ph (some (.object Cn)) (some v) n σ mc ms) (hd : decode cc pc = .ok (.areturn, 1)) (hv : v = vN ∨ ∃ f k, v = vR f k) (hn : nc ≤ mc ∧ ns ≤ ms) : X C ph pc ls [v] n σ nc ns := by
  obtain ⟨p, l, e, R, s, m, args, below, meth, c, Q, D, ca, bs⟩ := C
  intro H locs lm hR hm
  obtain ⟨rfl, hret, hlk, -, -⟩ := hr
  refine W.widen hn.1 hn.2 ?_
  refine W.aret (v := vv bs v) h.1 h.2.1 hret (Or.inl ⟨_, rfl⟩) ?_ (fun t ht hW => q_end (r := some v) hR ht) hR.2.2.2.2 hd hlk
  rcases hv with rfl | ⟨f, k, rfl⟩
  · exact Or.inl rfl
  · exact Or.inr ⟨_, rfl⟩
theorem x_return (h : Ok C own cc nL d) {mc ms : Nat} (hr : Rt C ph none none n σ mc ms) (hd : decode cc pc = .ok (.return_, 1)) (hn : nc ≤ mc ∧ ns ≤ ms) : X C ph pc ls [] n σ nc ns := by
  obtain ⟨p, l, e, R, s, m, args, below, meth, c, Q, D, ca, bs⟩ := C
  intro H locs lm hR hm
  obtain ⟨rfl, hret, hlk, -, -⟩ := hr
  refine W.widen hn.1 hn.2 ?_
  exact W.vret h.1 h.2.1 hret (fun t ht hW => q_end (r := none) hR ht) hR.2.2.2.2 hd hlk
/-- switches, at a known number -/
theorem x_tsIn (h : Ok C own cc nL d) {dflt lo hi : Int} {offs : Array Int} {len : Nat} {x off : Int} {tgt : Nat} (hd : decode cc pc = .ok (.tableswitch dflt lo hi offs, len)) (hr : -2147483648 ≤ x ∧ x < 2147483648) (h1 : lo ≤ x ∧ x ≤ hi) (ho : offs[(x - lo).toNat]? = some off) (ht : (pc : Int) + off = (tgt : Int)) (k : X C ph tgt ls st n σ nc ns) : X C ph pc ls (vI x :: st) n σ nc ns := by
  obtain ⟨p, l, e, R, s, m, args, below, meth, c, Q, D, ca, bs⟩ := C
  intro H locs lm hR hm
  have ex : (Int32.ofInt x).toInt = x := Int32.toInt_ofInt_of_le (by omega) (by omega)
  exact lv_tableIn h.1 h.2.1 hd (by rw [ex]; omega) (by rw [ex]; omega) (by rw [ex]; exact ho) ht (k H locs lm hR hm)
theorem x_tsOut (h : Ok C own cc nL d) {dflt lo hi : Int} {offs : Array Int} {len : Nat} {x : Int} {tgt : Nat} (hd : decode cc pc = .ok (.tableswitch dflt lo hi offs, len)) (hr : -2147483648 ≤ x ∧ x < 2147483648) (h1 : x < lo ∨ hi < x) (ht : (pc : Int) + dflt = (tgt : Int)) (k : X C ph tgt ls st n σ nc ns) : X C ph pc ls (vI x :: st) n σ nc ns := by
  obtain ⟨p, l, e, R, s, m, args, below, meth, c, Q, D, ca, bs⟩ := C
  intro H locs lm hR hm
  have ex : (Int32.ofInt x).toInt = x := Int32.toInt_ofInt_of_le (by omega) (by omega)
  exact lv_tableOut h.1 h.2.1 hd (by rw [ex]; exact h1) ht (k H locs lm hR hm)
theorem x_ls (h : Ok C own cc nL d) {dflt : Int} {ps : Array (Int × Int)} {len : Nat} {x off : Int} {tgt : Nat} (hd : decode cc pc = .ok (.lookupswitch dflt ps, len)) (hp : (ps.toList.zip (ps.toList.drop 1)).all (fun (a, next) => a.1 < next.1) = true) (hr : -2147483648 ≤ x ∧ x < 2147483648) (ho : Op.lookupswitch.offset ps.toList dflt x = off) (ht : (pc : Int) + off = (tgt : Int)) (k : X C ph tgt ls st n σ nc ns) : X C ph pc ls (vI x :: st) n σ nc ns := by
  obtain ⟨p, l, e, R, s, m, args, below, meth, c, Q, D, ca, bs⟩ := C
  intro H locs lm hR hm
  have ex : (Int32.ofInt x).toInt = x := Int32.toInt_ofInt_of_le (by omega) (by omega)
  exact lv_lookup h.1 h.2.1 hd hp (by rw [ex]; exact ho) ht (k H locs lm hR hm)
/-- calls that make nothing -/
theorem x_cV1 (h : Ok C own cc nL d) {d' idx f k : Nat} {M : Mt} {As : List PV} {stk : List PV} {v : PV} {n' : Nat} {σ' : Mm} (hM : MkV M) (hl : Lk own idx M) (hrc : Rc f M) (hd : decode cc pc = .ok (.invokevirtual idx, 3)) (hc : Ct d' M ph (vR f k :: As) n σ (some v) n' σ' 0 0) (hk : Lv n f k) (hst : stk = As.reverse ++ vR f k :: st) (hA : As.length = M.2.2.2.2) (hcat : (st.map pcat).sum ≤ 8) (hdd : d' + 1 ≤ d) (kk : X C ph (pc + 3) ls (v :: st) n' σ' 0 0) : X C ph pc ls stk n σ 0 0 := x_callV h hM hl hrc hk hc hst hd hA hcat hdd ⟨Nat.zero_le _, Nat.zero_le _⟩ kk
theorem x_cV0 (h : Ok C own cc nL d) {d' idx f k : Nat} {M : Mt} {As : List PV} {stk : List PV} {n' : Nat} {σ' : Mm} (hM : MkV M) (hl : Lk own idx M) (hrc : Rc f M) (hd : decode cc pc = .ok (.invokevirtual idx, 3)) (hc : Ct d' M ph (vR f k :: As) n σ none n' σ' 0 0) (hk : Lv n f k) (hst : stk = As.reverse ++ vR f k :: st) (hA : As.length = M.2.2.2.2) (hcat : (st.map pcat).sum ≤ 8) (hdd : d' + 1 ≤ d) (kk : X C ph (pc + 3) ls st n' σ' 0 0) : X C ph pc ls stk n σ 0 0 := x_callV h hM hl hrc hk hc hst hd hA hcat hdd ⟨Nat.zero_le _, Nat.zero_le _⟩ kk
theorem x_cS1 (h : Ok C own cc nL d) {d' idx : Nat} {M : Mt} {As : List PV} {stk : List PV} {v : PV} {n' : Nat} {σ' : Mm} (hM : MkS M) (hl : Lk own idx M) (hd : decode cc pc = .ok (.invokestatic idx, 3)) (hc : Ct d' M ph As n σ (some v) n' σ' 0 0) (hst : stk = As.reverse ++ st) (hA : As.length = M.2.2.2.2) (hcat : (st.map pcat).sum ≤ 8) (hdd : d' + 1 ≤ d) (kk : X C ph (pc + 3) ls (v :: st) n' σ' 0 0) : X C ph pc ls stk n σ 0 0 := x_callS h hM hl hc hst hd hA hcat hdd ⟨Nat.zero_le _, Nat.zero_le _⟩ kk
theorem x_cS0 (h : Ok C own cc nL d) {d' idx : Nat} {M : Mt} {As : List PV} {stk : List PV} {n' : Nat} {σ' : Mm} (hM : MkS M) (hl : Lk own idx M) (hd : decode cc pc = .ok (.invokestatic idx, 3)) (hc : Ct d' M ph As n σ none n' σ' 0 0) (hst : stk = As.reverse ++ st) (hA : As.length = M.2.2.2.2) (hcat : (st.map pcat).sum ≤ 8) (hdd : d' + 1 ≤ d) (kk : X C ph (pc + 3) ls st n' σ' 0 0) : X C ph pc ls stk n σ 0 0 := x_callS h hM hl hc hst hd hA hcat hdd ⟨Nat.zero_le _, Nat.zero_le _⟩ kk
theorem x_cN1 (h : Ok C own cc nL d) {d' idx : Nat} {host : String} {M : Mt} {As : List PV} {stk : List PV} {v : PV} {n' : Nat} {σ' : Mm} (hM : MkS M) (hl : LkN own idx M host) (hd : decode cc pc = .ok (.invokestatic idx, 3)) (hc : Ct d' M ph As n σ (some v) n' σ' 0 0) (hst : stk = As.reverse ++ st) (hA : As.length = M.2.2.2.2) (hcat : (st.map pcat).sum ≤ 8) (hdd : d' + 1 ≤ d) (kk : X C ph (pc + 3) ls (v :: st) n' σ' 0 0) : X C ph pc ls stk n σ 0 0 := x_callN h hM hl hc hst hd hA hcat hdd ⟨Nat.zero_le _, Nat.zero_le _⟩ kk
theorem x_cN0 (h : Ok C own cc nL d) {d' idx : Nat} {host : String} {M : Mt} {As : List PV} {stk : List PV} {n' : Nat} {σ' : Mm} (hM : MkS M) (hl : LkN own idx M host) (hd : decode cc pc = .ok (.invokestatic idx, 3)) (hc : Ct d' M ph As n σ none n' σ' 0 0) (hst : stk = As.reverse ++ st) (hA : As.length = M.2.2.2.2) (hcat : (st.map pcat).sum ≤ 8) (hdd : d' + 1 ≤ d) (kk : X C ph (pc + 3) ls st n' σ' 0 0) : X C ph pc ls stk n σ 0 0 := x_callN h hM hl hc hst hd hA hcat hdd ⟨Nat.zero_le _, Nat.zero_le _⟩ kk
theorem x_mathmin (h : Ok C own cc nL d) {idx : Nat} {a b : Int} (h1 : 1 ≤ d) (hl : Lk own idx mJ9_min_7cf53) (hr : (-2147483648 ≤ a ∧ a < 2147483648) ∧ (-2147483648 ≤ b ∧ b < 2147483648)) (hd : decode cc pc = .ok (.invokestatic idx, 3)) (hcat : (st.map pcat).sum ≤ 8) (hroom : nc ≤ C.2.2.2.1.cells ∧ ns ≤ C.2.2.2.1.slots) (kk : X C ph (pc + 3) ls (vI (min a b) :: st) n σ nc ns) : X C ph pc ls (vI b :: vI a :: st) n σ nc ns := by
  obtain ⟨p, l, e, R, s, m, args, below, meth, c, Q, D, ca, bs⟩ := C
  intro H locs lm hR hm
  have hfr := h.2.2.2.2.2.2.2.1
  have hlo := h.2.2.2.2.2.2.2.2
  refine va_mmin (R := R) h.1 h.2.1 hm.1.symm h.2.2.2.1 (h.2.2.2.2.1 _ hl) (h.2.2.2.2.1 _ kSJ9_min_7cf53.2) (h.2.2.2.2.1 _ kJ9_min_7cf53.2.1) (h.2.2.2.2.1 _ kJ9_min_7cf53.1) (by omega) (by rw [cat_sum]; omega) hroom.1 hroom.2 hd ?_
  have e : (if Int32.ofInt b < Int32.ofInt a then Int32.ofInt b else Int32.ofInt a) = Int32.ofInt (min a b) := by
    simp only [i32_lt hr.2 hr.1]
    split
    · rw [Int.min_eq_right (by omega)]
    · rw [Int.min_eq_left (by omega)]
  rw [e]
  exact kk H locs lm hR hm
theorem x_mathminL (h : Ok C own cc nL d) {idx : Nat} {a b : Int} (h1 : 1 ≤ d) (hl : Lk own idx mJ9_min_f86c9) (hr : (-9223372036854775808 ≤ a ∧ a < 9223372036854775808) ∧ (-9223372036854775808 ≤ b ∧ b < 9223372036854775808)) (hd : decode cc pc = .ok (.invokestatic idx, 3)) (hcat : (st.map pcat).sum ≤ 8) (hroom : nc ≤ C.2.2.2.1.cells ∧ ns ≤ C.2.2.2.1.slots) (kk : X C ph (pc + 3) ls (vL (min a b) :: st) n σ nc ns) : X C ph pc ls (vL b :: vL a :: st) n σ nc ns := by
  obtain ⟨p, l, e, R, s, m, args, below, meth, c, Q, D, ca, bs⟩ := C
  intro H locs lm hR hm
  have hfr := h.2.2.2.2.2.2.2.1
  have hlo := h.2.2.2.2.2.2.2.2
  refine va_mmin_long (R := R) h.1 h.2.1 hm.1.symm h.2.2.2.1 (h.2.2.2.2.1 _ hl) (h.2.2.2.2.1 _ kSJ9_min_f86c9.2) (h.2.2.2.2.1 _ kJ9_min_f86c9.2.1) (h.2.2.2.2.1 _ kJ9_min_f86c9.1) (by omega) (by rw [cat_sum]; omega) hroom.1 hroom.2 hd ?_
  have e : (if Int64.ofInt b < Int64.ofInt a then Int64.ofInt b else Int64.ofInt a) = Int64.ofInt (min a b) := by
    simp only [i64_lt hr.2 hr.1]
    split
    · rw [Int.min_eq_right (by omega)]
    · rw [Int.min_eq_left (by omega)]
  rw [e]
  exact kk H locs lm hR hm
theorem x_mathmaxL (h : Ok C own cc nL d) {idx : Nat} {a b : Int} (h1 : 1 ≤ d) (hl : Lk own idx mJ9_max_f86c9) (hr : (-9223372036854775808 ≤ a ∧ a < 9223372036854775808) ∧ (-9223372036854775808 ≤ b ∧ b < 9223372036854775808)) (hd : decode cc pc = .ok (.invokestatic idx, 3)) (hcat : (st.map pcat).sum ≤ 8) (hroom : nc ≤ C.2.2.2.1.cells ∧ ns ≤ C.2.2.2.1.slots) (kk : X C ph (pc + 3) ls (vL (max a b) :: st) n σ nc ns) : X C ph pc ls (vL b :: vL a :: st) n σ nc ns := by
  obtain ⟨p, l, e, R, s, m, args, below, meth, c, Q, D, ca, bs⟩ := C
  intro H locs lm hR hm
  have hfr := h.2.2.2.2.2.2.2.1
  have hlo := h.2.2.2.2.2.2.2.2
  refine va_mmax_long (R := R) h.1 h.2.1 hm.1.symm h.2.2.2.1 (h.2.2.2.2.1 _ hl) (h.2.2.2.2.1 _ kSJ9_max_f86c9.2) (h.2.2.2.2.1 _ kJ9_max_f86c9.2.1) (h.2.2.2.2.1 _ kJ9_max_f86c9.1) (by omega) (by rw [cat_sum]; omega) hroom.1 hroom.2 hd ?_
  have e : (if Int64.ofInt b < Int64.ofInt a then Int64.ofInt a else Int64.ofInt b) = Int64.ofInt (max a b) := by
    simp only [i64_lt hr.2 hr.1]
    split
    · rw [Int.max_eq_left (by omega)]
    · rw [Int.max_eq_right (by omega)]
  rw [e]
  exact kk H locs lm hR hm
end CALLS
section NULLS0
variable {C : Cx} {own : String} {cc : ByteArray} {nL d ph pc n nc ns : Nat} {ls : List (Nat × PV)} {st : List PV} {σ : Mm}
theorem x_lconst0 (h : Ok C own cc nL d) (hd : decode cc pc = .ok (.lconst 0, 1)) (k : X C ph (pc + 1) ls (vL 0 :: st) n σ nc ns) : X C ph pc ls st n σ nc ns := x_lconst h hd k
theorem x_lconst1 (h : Ok C own cc nL d) (hd : decode cc pc = .ok (.lconst 1, 1)) (k : X C ph (pc + 1) ls (vL 1 :: st) n σ nc ns) : X C ph pc ls st n σ nc ns := x_lconst h hd k
end NULLS0
section NULLS
variable {C : Cx} {own : String} {cc : ByteArray} {nL d ph pc n nc ns : Nat} {ls : List (Nat × PV)} {st : List PV} {σ : Mm}
theorem x_astoreN_n (h : Ok C own cc nL d) {i : Fin 4} (hd : decode cc pc = .ok (.astore_n i, 1)) (hi : i.val < nL) (k : X C ph (pc + 1) (lput1 i.val vN ls) st n σ nc ns) : X C ph pc ls (vN :: st) n σ nc ns := by
  obtain ⟨p, l, e, R, s, m, args, below, meth, c, Q, D, ca, bs⟩ := C
  intro H locs lm hR hm
  obtain ⟨ls', e', h'⟩ := lv_store1 (v := Value.null) hm (h.2.2.1 ▸ hi) rfl
  rw [show (Value.null) = vv bs vN from rfl, lvs_1] at h'
  intro T hT X
  obtain ⟨t, a, b⟩ := k H locs ls' hR h' T hT X
  refine ⟨t, ?_, b⟩
  have e2 : storeLocals lm i.val Value.null = some ls' := e'
  have hx := h.1
  have hb := h.2.1
  jvm_step X.here [X.here.top, ↓top_set X.here.top, hx, hb, hd, e2, vv, Value.isRef]
  exact a
theorem x_aloadN_n (h : Ok C own cc nL d) {i : Fin 4} (hd : decode cc pc = .ok (.aload_n i, 1)) (hl : lget ls i.val = some vN) (k : X C ph (pc + 1) ls (vN :: st) n σ nc ns) : X C ph pc ls st n σ nc ns := by
  obtain ⟨p, l, e, R, s, m, args, below, meth, c, Q, D, ca, bs⟩ := C
  intro H locs lm hR hm
  have hg := lv_get hm hl
  intro T hT X
  obtain ⟨t, a, b⟩ := k H locs lm hR hm T hT X
  refine ⟨t, ?_, b⟩
  have hx := h.1
  have hb := h.2.1
  have hg2 : lm[i.val]? = some (.val .null) := hg
  jvm_step X.here [X.here.top, hx, hb, hd, hg2, vv, Value.isRef]
  exact a
end NULLS
