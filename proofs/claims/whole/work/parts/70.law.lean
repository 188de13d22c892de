/-! the law's own frame: rows of Z, where all locals are known, and one of them is the script -/
def bsC (C : Cx) : Nat := C.2.2.2.2.2.2.2.2.2.2.2.2.2
def Z : Cx → Nat → Nat → Array Slot → List PV → Nat → Mm → Nat → Nat → Prop
  | (p, l, e, R, s, m, args, below, meth, c, Q, D, ca, bs), ph, pc, lm, st, n, σ, nc, ns => ∀ (H : Heap) (locs : List Jvm.Loc), Rl D ca bs ph n σ s.heap H locs → W p l e R s m args below meth c H locs nc ns Q (F0 m pc lm (st.map (vv bs)))
section ZR
variable {C : Cx} {own : String} {cc : ByteArray} {nL d ph pc n nc ns : Nat} {lm : Array Slot} {st : List PV} {σ : Mm}
theorem z_iconst (h : Ok C own cc nL d) {v : Int} (hd : decode cc pc = .ok (.iconst v, 1)) (k : Z C ph (pc + 1) lm (vI v :: st) n σ nc ns) : Z C ph pc lm st n σ nc ns := by
  obtain ⟨p, l, e, R, s, m, args, below, meth, c, Q, D, ca, bs⟩ := C
  intro H locs hR
  exact lv_iconst h.1 h.2.1 hd rfl (k H locs hR)
theorem z_bipush (h : Ok C own cc nL d) {v : Int} (hd : decode cc pc = .ok (.bipush v, 2)) (hv : (Int8.ofInt v).toInt32 = Int32.ofInt v) (k : Z C ph (pc + 2) lm (vI v :: st) n σ nc ns) : Z C ph pc lm st n σ nc ns := by
  obtain ⟨p, l, e, R, s, m, args, below, meth, c, Q, D, ca, bs⟩ := C
  intro H locs hR
  exact lv_bipush h.1 h.2.1 hd hv (k H locs hR)
theorem z_ldc2 (h : Ok C own cc nL d) {i : Nat} {v : Int64} {x : Int} (hd : decode cc pc = .ok (.ldc2_w i, 3)) (hw : Cond.constantLong own i v ∈ TB) (hv : v = Int64.ofInt x) (k : Z C ph (pc + 3) lm (vL x :: st) n σ nc ns) : Z C ph pc lm st n σ nc ns := by
  obtain ⟨p, l, e, R, s, m, args, below, meth, c, Q, D, ca, bs⟩ := C
  intro H locs hR
  subst hv
  exact lv_ldc2 h.1 h.2.1 h.2.2.2.1 (h.2.2.2.2.1 _ hw) hd (k H locs hR)
theorem z_isub (h : Ok C own cc nL d) {a b : Int} (hd : decode cc pc = .ok (.isub, 1)) (k : Z C ph (pc + 1) lm (vI (a - b) :: st) n σ nc ns) : Z C ph pc lm (vI b :: vI a :: st) n σ nc ns := by
  obtain ⟨p, l, e, R, s, m, args, below, meth, c, Q, D, ca, bs⟩ := C
  intro H locs hR
  refine lv_isub h.1 h.2.1 hd ?_
  rw [← Int32.ofInt_sub]
  exact k H locs hR
theorem z_iand (h : Ok C own cc nL d) {a b : Int} (hd : decode cc pc = .ok (.iand, 1)) (k : Z C ph (pc + 1) lm (vI (andI a b) :: st) n σ nc ns) : Z C ph pc lm (vI b :: vI a :: st) n σ nc ns := by
  obtain ⟨p, l, e, R, s, m, args, below, meth, c, Q, D, ca, bs⟩ := C
  intro H locs hR
  refine lv_iand h.1 h.2.1 hd ?_
  rw [← Int32.ofInt_toInt (Int32.ofInt a &&& Int32.ofInt b)]
  exact k H locs hR
theorem z_land (h : Ok C own cc nL d) {a b : Int} (hd : decode cc pc = .ok (.land, 1)) (k : Z C ph (pc + 1) lm (vL (andL a b) :: st) n σ nc ns) : Z C ph pc lm (vL b :: vL a :: st) n σ nc ns := by
  obtain ⟨p, l, e, R, s, m, args, below, meth, c, Q, D, ca, bs⟩ := C
  intro H locs hR
  refine lv_land h.1 h.2.1 hd ?_
  rw [← Int64.ofInt_toInt (Int64.ofInt a &&& Int64.ofInt b)]
  exact k H locs hR
theorem z_lor (h : Ok C own cc nL d) {a b : Int} (hd : decode cc pc = .ok (.lor, 1)) (k : Z C ph (pc + 1) lm (vL (orL a b) :: st) n σ nc ns) : Z C ph pc lm (vL b :: vL a :: st) n σ nc ns := by
  obtain ⟨p, l, e, R, s, m, args, below, meth, c, Q, D, ca, bs⟩ := C
  intro H locs hR
  refine lv_lor h.1 h.2.1 hd ?_
  rw [← Int64.ofInt_toInt (Int64.ofInt a ||| Int64.ofInt b)]
  exact k H locs hR
theorem z_lshl (h : Ok C own cc nL d) {a b : Int} (hd : decode cc pc = .ok (.lshl, 1)) (k : Z C ph (pc + 1) lm (vL (shlL a b) :: st) n σ nc ns) : Z C ph pc lm (vI b :: vL a :: st) n σ nc ns := by
  obtain ⟨p, l, e, R, s, m, args, below, meth, c, Q, D, ca, bs⟩ := C
  intro H locs hR
  exact lv_lshl h.1 h.2.1 hd (Int64.ofInt_toInt _).symm (k H locs hR)
theorem z_i2l (h : Ok C own cc nL d) {a : Int} (hr : -2147483648 ≤ a ∧ a < 2147483648) (hd : decode cc pc = .ok (.i2l, 1)) (k : Z C ph (pc + 1) lm (vL a :: st) n σ nc ns) : Z C ph pc lm (vI a :: st) n σ nc ns := by
  obtain ⟨p, l, e, R, s, m, args, below, meth, c, Q, D, ca, bs⟩ := C
  intro H locs hR
  refine lv_i2l h.1 h.2.1 hd ?_ (k H locs hR)
  exact Int64.toInt_inj.mp (by rw [Int32.toInt_toInt64, Int32.toInt_ofInt_of_le (by omega) (by omega), Int64.toInt_ofInt_of_le (by omega) (by omega)])
theorem z_lcmp (h : Ok C own cc nL d) {a b : Int} (hr : (-9223372036854775808 ≤ a ∧ a < 9223372036854775808) ∧ (-9223372036854775808 ≤ b ∧ b < 9223372036854775808)) (hd : decode cc pc = .ok (.lcmp, 1)) (k : Z C ph (pc + 1) lm (vI (cmpI a b) :: st) n σ nc ns) : Z C ph pc lm (vL b :: vL a :: st) n σ nc ns := by
  obtain ⟨p, l, e, R, s, m, args, below, meth, c, Q, D, ca, bs⟩ := C
  intro H locs hR
  refine W.lcmp h.1 h.2.1 hd ?_
  have e : lg_cmp (Int64.ofInt a) (Int64.ofInt b) = Int32.ofInt (cmpI a b) := by
    unfold lg_cmp cmpI
    simp only [gt_iff_lt, i64_lt hr.2 hr.1, i64_eq hr.1 hr.2]
    split
    · rfl
    · split <;> rfl
  rw [e]
  exact k H locs hR
theorem z_eqL {a b : Int} (hab : Int64.ofInt a = Int64.ofInt b) (k : Z C ph pc lm (vL b :: st) n σ nc ns) : Z C ph pc lm (vL a :: st) n σ nc ns := by
  obtain ⟨p, l, e, R, s, m, args, below, meth, c, Q, D, ca, bs⟩ := C
  intro H locs hR
  have e := k H locs hR
  simp only [List.map_cons, vv] at e ⊢
  rw [hab]
  exact e
theorem z_eqI {a b : Int} (hab : Int32.ofInt a = Int32.ofInt b) (k : Z C ph pc lm (vI b :: st) n σ nc ns) : Z C ph pc lm (vI a :: st) n σ nc ns := by
  obtain ⟨p, l, e, R, s, m, args, below, meth, c, Q, D, ca, bs⟩ := C
  intro H locs hR
  have e := k H locs hR
  simp only [List.map_cons, vv] at e ⊢
  rw [hab]
  exact e
theorem z_wL {a : Int} (k : Z C ph pc lm (vL (w64 a) :: st) n σ nc ns) : Z C ph pc lm (vL a :: st) n σ nc ns := z_eqL (of_w64 a).symm k
theorem z_dup (h : Ok C own cc nL d) {v : PV} (hd : decode cc pc = .ok (.dup, 1)) (hv : pcat v = 1) (k : Z C ph (pc + 1) lm (v :: v :: st) n σ nc ns) : Z C ph pc lm (v :: st) n σ nc ns := by
  obtain ⟨p, l, e, R, s, m, args, below, meth, c, Q, D, ca, bs⟩ := C
  intro H locs hR
  exact lv_dup h.1 h.2.1 hd ((vv_cat bs v).trans hv) (k H locs hR)
theorem z_goto (h : Ok C own cc nL d) {off : Int} {tgt : Nat} (hd : decode cc pc = .ok (.goto off, 3)) (ht : (pc : Int) + off = (tgt : Int)) (k : Z C ph tgt lm st n σ nc ns) : Z C ph pc lm st n σ nc ns := by
  obtain ⟨p, l, e, R, s, m, args, below, meth, c, Q, D, ca, bs⟩ := C
  intro H locs hR
  exact lv_goto h.1 h.2.1 hd ht (k H locs hR)
theorem z_if_eq (h : Ok C own cc nL d) {x off : Int} {tgt : Nat} (hr : -2147483648 ≤ x ∧ x < 2147483648) (hd : decode cc pc = .ok (.ifCond .eq off, 3)) (ht : (pc : Int) + off = (tgt : Int)) (kt : x = 0 → Z C ph tgt lm st n σ nc ns) (kf : ¬ (x = 0) → Z C ph (pc + 3) lm st n σ nc ns) : Z C ph pc lm (vI x :: st) n σ nc ns := by
  obtain ⟨p, l, e, R, s, m, args, below, meth, c, Q, D, ca, bs⟩ := C
  intro H locs hR
  have e1 := i32_eq hr (y := 0) (by omega)
  have e2 := i32_lt hr (y := 0) (by omega)
  have e3 := i32_le hr (y := 0) (by omega)
  have e4 := i32_lt (x := 0) (by omega) hr
  have e5 := i32_le (x := 0) (by omega) hr
  rw [← i32_0] at e1 e2 e3 e4 e5
  refine lv_if_eq h.1 h.2.1 hd ht (fun q => kt ?_ H locs hR) (fun q => kf ?_ H locs hR) <;> simp_all
theorem z_ic_eq (h : Ok C own cc nL d) {x y off : Int} {tgt : Nat} (hr : (-2147483648 ≤ x ∧ x < 2147483648) ∧ (-2147483648 ≤ y ∧ y < 2147483648)) (hd : decode cc pc = .ok (.if_icmp .eq off, 3)) (ht : (pc : Int) + off = (tgt : Int)) (kt : x = y → Z C ph tgt lm st n σ nc ns) (kf : ¬ (x = y) → Z C ph (pc + 3) lm st n σ nc ns) : Z C ph pc lm (vI y :: vI x :: st) n σ nc ns := by
  obtain ⟨p, l, e, R, s, m, args, below, meth, c, Q, D, ca, bs⟩ := C
  intro H locs hR
  have e1 := i32_eq hr.1 hr.2
  have e2 := i32_lt hr.1 hr.2
  have e3 := i32_le hr.1 hr.2
  have e4 := i32_lt hr.2 hr.1
  have e5 := i32_le hr.2 hr.1
  refine lv_icmp_eq h.1 h.2.1 hd ht (fun q => kt ?_ H locs hR) (fun q => kf ?_ H locs hR) <;> simp_all
theorem z_lc_eq (h : Ok C own cc nL d) {a b off : Int} {tgt : Nat} (hr : (-9223372036854775808 ≤ a ∧ a < 9223372036854775808) ∧ (-9223372036854775808 ≤ b ∧ b < 9223372036854775808)) (hd : decode cc pc = .ok (.lcmp, 1)) (hd2 : decode cc (pc + 1) = .ok (.ifCond .eq off, 3)) (ht : ((pc + 1 : Nat) : Int) + off = (tgt : Int)) (kt : a = b → Z C ph tgt lm st n σ nc ns) (kf : ¬ (a = b) → Z C ph (pc + 1 + 3) lm st n σ nc ns) : Z C ph pc lm (vL b :: vL a :: st) n σ nc ns := by
  refine z_lcmp h hr hd (z_if_eq h ?_ hd2 ht (fun q => kt ?_) (fun q => kf ?_))
  · unfold cmpI; split <;> (try split) <;> omega
  all_goals (revert q; unfold cmpI; split <;> (try split) <;> omega)
theorem z_ic_gt (h : Ok C own cc nL d) {x y off : Int} {tgt : Nat} (hr : (-2147483648 ≤ x ∧ x < 2147483648) ∧ (-2147483648 ≤ y ∧ y < 2147483648)) (hd : decode cc pc = .ok (.if_icmp .gt off, 3)) (ht : (pc : Int) + off = (tgt : Int)) (kt : y < x → Z C ph tgt lm st n σ nc ns) (kf : ¬ (y < x) → Z C ph (pc + 3) lm st n σ nc ns) : Z C ph pc lm (vI y :: vI x :: st) n σ nc ns := by
  obtain ⟨p, l, e, R, s, m, args, below, meth, c, Q, D, ca, bs⟩ := C
  intro H locs hR
  have e1 := i32_eq hr.1 hr.2
  have e2 := i32_lt hr.1 hr.2
  have e3 := i32_le hr.1 hr.2
  have e4 := i32_lt hr.2 hr.1
  have e5 := i32_le hr.2 hr.1
  refine lv_icmp_gt h.1 h.2.1 hd ht (fun q => kt ?_ H locs hR) (fun q => kf ?_ H locs hR) <;> simp_all
theorem z_tsIn (h : Ok C own cc nL d) {dflt lo hi : Int} {offs : Array Int} {len : Nat} {x off : Int} {tgt : Nat} (hd : decode cc pc = .ok (.tableswitch dflt lo hi offs, len)) (hr : -2147483648 ≤ x ∧ x < 2147483648) (h1 : lo ≤ x ∧ x ≤ hi) (ho : offs[(x - lo).toNat]? = some off) (ht : (pc : Int) + off = (tgt : Int)) (k : Z C ph tgt lm st n σ nc ns) : Z C ph pc lm (vI x :: st) n σ nc ns := by
  obtain ⟨p, l, e, R, s, m, args, below, meth, c, Q, D, ca, bs⟩ := C
  intro H locs hR
  have ex : (Int32.ofInt x).toInt = x := Int32.toInt_ofInt_of_le (by omega) (by omega)
  exact lv_tableIn h.1 h.2.1 hd (by rw [ex]; omega) (by rw [ex]; omega) (by rw [ex]; exact ho) ht (k H locs hR)
theorem z_tsOut (h : Ok C own cc nL d) {dflt lo hi : Int} {offs : Array Int} {len : Nat} {x : Int} {tgt : Nat} (hd : decode cc pc = .ok (.tableswitch dflt lo hi offs, len)) (hr : -2147483648 ≤ x ∧ x < 2147483648) (h1 : x < lo ∨ hi < x) (ht : (pc : Int) + dflt = (tgt : Int)) (k : Z C ph tgt lm st n σ nc ns) : Z C ph pc lm (vI x :: st) n σ nc ns := by
  obtain ⟨p, l, e, R, s, m, args, below, meth, c, Q, D, ca, bs⟩ := C
  intro H locs hR
  have ex : (Int32.ofInt x).toInt = x := Int32.toInt_ofInt_of_le (by omega) (by omega)
  exact lv_tableOut h.1 h.2.1 hd (by rw [ex]; exact h1) ht (k H locs hR)
theorem z_callV (h : Ok C own cc nL d) (hsz : lm.size = nL) {d' idx f k mc ms : Nat} {M : Mt} {As : List PV} {stk : List PV} {r : Option PV} {n' : Nat} {σ' : Mm} (hM : MkV M) (hl : Lk own idx M) (hrc : Rc f M) (hk : Lv n f k) (hc : Ct d' M ph (vR f k :: As) n σ r n' σ' mc ms) (hst : stk = As.reverse ++ vR f k :: st) (hd : decode cc pc = .ok (.invokevirtual idx, 3)) (hA : As.length = M.2.2.2.2) (hcat : (st.map pcat).sum ≤ 8) (hdd : d' + 1 ≤ d)
    (hroom : nc + mc ≤ C.2.2.2.1.cells ∧ ns + ms ≤ C.2.2.2.1.slots) (kk : Z C ph (pc + 3) lm (r.toList ++ st) n' σ' (nc + mc) (ns + ms)) : Z C ph pc lm stk n σ nc ns := by
  obtain ⟨p, l, e, R, s, m, args, below, meth, c, Q, D, ca, bs⟩ := C
  intro H locs hR
  subst hst
  obtain ⟨ci, T, N, hf, hcl⟩ := hrc
  have hat := wo_at (ca := ca) (bs := bs) (ph := ph) (σ := σ) hk
  rw [cel_obj hf] at hat
  have hrun := va_runV (e := e) (below := below) (meth := meth) (nL := nL) (n := M.2.2.2.2) (As := As.map (vv bs)) (b := bs + num f k) (rest := st.map (vv bs)) (g := F0 m pc lm ((As.reverse ++ vR f k :: st).map (vv bs))) (locs := locs) (cells := nc) (slots := ns)
    (⟨h.1, h.2.1, h.2.2.1, h.2.2.2.1, h.2.2.2.2.1⟩ : CallFix p m c cc nL s args TB own) (hc l D ca bs)
    (cwV (R := R) (C := M.1.cls) M.2.2.2.2 h.2.2.2.2.1 (good_V hM hl) rfl rfl rfl ⟨rfl, hM.1.2.2.1⟩ ⟨by show d' + 1 ≤ R.frames; have := h.2.2.2.2.2.2.2.1; omega, by show 8 + (M.2.2.1 + 11) + 64 * d' ≤ R.locals; have := h.2.2.2.2.2.2.2.2; have := hM.1.2.2.2; omega⟩)
    ⟨blind, va_recv h.2.2.2.2.2.1.1 hR.2.1 hcl hat, fun U hU hW => ⟨rfl, by rw [hU]; exact hR.1, by rw [hU]; exact hR.2.1, KK.warm hW h.2.2.2.2.2.1⟩⟩
    rfl (by rw [List.length_map]; exact hA) hsz (by simp [vv]) (by show 2 * 0 + _ ≤ 8; rw [cat_sum]; omega) hd hroom
  refine x_end p l e R s m args below meth c Q D ca bs hrun hR (fun H1 locs1 hR1 => ?_)
  have hk2 := kk H1 locs1 hR1
  cases r <;> exact hk2
theorem z_callI (h : Ok C own cc nL d) (hsz : lm.size = nL) {d' idx f k mc ms : Nat} {M : Mt} {As : List PV} {stk : List PV} {n' : Nat} {σ' : Mm} (hM : MkI M) (hl : Lk own idx M) (hc : Ct d' M ph (vR f k :: As) n σ none n' σ' mc ms) (hst : stk = As.reverse ++ vR f k :: st) (hd : decode cc pc = .ok (.invokespecial idx, 3)) (hA : As.length = M.2.2.2.2) (hcat : (st.map pcat).sum ≤ 8) (hdd : d' + 1 ≤ d)
    (hroom : nc + mc ≤ C.2.2.2.1.cells ∧ ns + ms ≤ C.2.2.2.1.slots) (kk : Z C ph (pc + 3) lm st n' σ' (nc + mc) (ns + ms)) : Z C ph pc lm stk n σ nc ns := by
  obtain ⟨p, l, e, R, s, m, args, below, meth, c, Q, D, ca, bs⟩ := C
  intro H locs hR
  subst hst
  obtain ⟨⟨y, cb, mL, ret, na⟩, rfl⟩ : ∃ M', M = M' := ⟨_, rfl⟩
  obtain rfl : ret = none := hM.2.2.2
  have hrun := va_runI (e := e) (below := below) (meth := meth) (nL := nL) (n := na) (As := As.map (vv bs)) (b := bs + num f k) (rest := st.map (vv bs)) (g := F0 m pc lm ((As.reverse ++ vR f k :: st).map (vv bs))) (H := H) (locs := locs) (cells := nc) (slots := ns)
    (⟨h.1, h.2.1, h.2.2.1, h.2.2.2.1, h.2.2.2.2.1⟩ : CallFix p m c cc nL s args TB own) (hc l D ca bs)
    (cwI (R := R) na h.2.2.2.2.1 (good_M hM.1) rfl rfl rfl (h.2.2.2.2.1 _ hM.1.2.1) (h.2.2.2.2.1 _ hl) (h.2.2.2.2.1 _ hM.2.1) hM.2.2.1 hM.1.2.2.1 ⟨by show d' + 1 ≤ R.frames; have := h.2.2.2.2.2.2.2.1; omega, by show 8 + (mL + 11) + 64 * d' ≤ R.locals; have := h.2.2.2.2.2.2.2.2; have : mL ≤ 40 := hM.1.2.2.2; omega⟩)
    ⟨blind, fun U hU hW => ⟨rfl, by rw [hU]; exact hR.1, by rw [hU]; exact hR.2.1, KK.warm hW h.2.2.2.2.2.1⟩⟩
    rfl (by rw [List.length_map]; exact hA) hsz (by simp [vv]) (by show 2 * 0 + _ ≤ 8; rw [cat_sum]; omega) hd hroom
  exact x_end p l e R s m args below meth c Q D ca bs hrun hR (fun H1 locs1 hR1 => kk H1 locs1 hR1)
theorem z_new (h : Ok C own cc nL d) {idx f k ci N : Nat} {Cn : String} {T : u_T} {ty : Nat → FieldType} (hC : Cl f ci Cn T N ty) (hcl : Cond.classLink own idx Cn ∈ TB) (hinst : Cond.instantiable Cn N ∈ TB) (hini : Cond.initialized Cn ∈ TB) (hn : ALL[n]? = some (f, k)) (hd : decode cc pc = .ok (.new idx, 3)) (hroom : nc + 1 ≤ C.2.2.2.1.cells ∧ ns + N ≤ C.2.2.2.1.slots) (kk : Z C 0 (pc + 3) lm (vR f k :: st) (n + 1) (up2 σ f k (dfl f)) (nc + 1) (ns + N)) : Z C 0 pc lm st n σ nc ns := by
  obtain ⟨p, l, e, R, s, m, args, below, meth, c, Q, D, ca, bs⟩ := C
  intro H locs hR
  obtain ⟨h1, h2, h3, h4, h5, h6, h7, h8⟩ := hC
  have hKn := h.2.2.2.2.2.1.1.1 ci _ h2
  refine W.newcK h.1 h.2.1 h.2.2.2.1 (h.2.2.2.2.1 _ hcl) (h.2.2.2.2.1 _ hinst) (h.2.2.2.2.1 _ hini) rfl hd hroom.1 hroom.2 hKn.2.1 rfl fun H1 kC hkC e1 z1 o1 => ?_
  have hk : num f k = n := (all_inv hn).1
  have eq : (H.size : Nat) = bs + num f k := by rw [hk]; exact hR.1
  have g := kk H1 locs (rl_push hR hn z1 o1 ?_)
  · rw [show (vR f k :: st).map (vv bs) = Value.ref H.size :: st.map (vv bs) by rw [eq]; rfl] at g
    exact g
  · rw [cel_obj h1]
    refine ⟨_, h2, (u_born ty h.2.2.2.2.1 h3 hKn hkC e1 h4).to (fun j hj => ?_)⟩
    unfold vp_V
    rw [List.getD_eq_getElem?_getD, fs_at (ph := 0) (bs := bs) (k := k) (g := dfl f) h6 hj rfl]
    exact dfl_ok (h7 j hj)
theorem z_aload_n (h : Ok C own cc nL d) {i : Fin 4} {f j : Nat} (hd : decode cc pc = .ok (.aload_n i, 1)) (hl : lm[i.val]? = some (.val (vv (bsC C) (vR f j)))) (k : Z C ph (pc + 1) lm (vR f j :: st) n σ nc ns) : Z C ph pc lm st n σ nc ns := by
  obtain ⟨p, l, e, R, s, m, args, below, meth, c, Q, D, ca, bs⟩ := C
  intro H locs hR
  exact lv_aload_n h.1 h.2.1 hd rfl hl (k H locs hR)
theorem z_iload_n (h : Ok C own cc nL d) {i : Fin 4} {x : Int} (hd : decode cc pc = .ok (.iload_n i, 1)) (hl : lm[i.val]? = some (.val (.int (Int32.ofInt x)))) (k : Z C ph (pc + 1) lm (vI x :: st) n σ nc ns) : Z C ph pc lm st n σ nc ns := by
  obtain ⟨p, l, e, R, s, m, args, below, meth, c, Q, D, ca, bs⟩ := C
  intro H locs hR
  exact lv_iload_n h.1 h.2.1 hd rfl hl (k H locs hR)
theorem z_astore_n (h : Ok C own cc nL d) {i : Fin 4} {f j : Nat} {L0 L1 : List (Nat × Value)} (hd : decode cc pc = .ok (.astore_n i, 1)) (hm : lv_has lm nL L0) (hi : i.val < nL) (he : (i.val, vv (bsC C) (vR f j)) :: L0.filter (fun q => !(q.1 == i.val) && !(q.1 + 1 == i.val && q.2.category == 2)) = L1) (k : ∀ lm', lv_has lm' nL L1 → Z C ph (pc + 1) lm' st n σ nc ns) : Z C ph pc lm (vR f j :: st) n σ nc ns := by
  obtain ⟨p, l, e, R, s, m, args, below, meth, c, Q, D, ca, bs⟩ := C
  intro H locs hR
  obtain rfl : c.maxLocals = nL := h.2.2.1
  exact lv_astore_n h.1 h.2.1 hd rfl hm hi he (fun ls' hl' => k ls' hl' H locs hR)
theorem z_istore_n (h : Ok C own cc nL d) {i : Fin 4} {x : Int} {L0 L1 : List (Nat × Value)} (hd : decode cc pc = .ok (.istore_n i, 1)) (hm : lv_has lm nL L0) (hi : i.val < nL) (he : (i.val, vv (bsC C) (vI x)) :: L0.filter (fun q => !(q.1 == i.val) && !(q.1 + 1 == i.val && q.2.category == 2)) = L1) (k : ∀ lm', lv_has lm' nL L1 → Z C ph (pc + 1) lm' st n σ nc ns) : Z C ph pc lm (vI x :: st) n σ nc ns := by
  obtain ⟨p, l, e, R, s, m, args, below, meth, c, Q, D, ca, bs⟩ := C
  intro H locs hR
  obtain rfl : c.maxLocals = nL := h.2.2.1
  exact lv_istore_n h.1 h.2.1 hd rfl hm hi he (fun ls' hl' => k ls' hl' H locs hR)
theorem z_iinc (h : Ok C own cc nL d) {i : Nat} {v x : Int} {L0 L1 : List (Nat × Value)} {k0 : Nat} (hd : decode cc pc = .ok (.iinc i v, 3)) (hm : lv_has lm nL L0) (hk0 : L0[k0]? = some (i, .int (Int32.ofInt x))) (hi : i < nL) (he : (i, vv (bsC C) (vI (x + v))) :: L0.filter (fun q => !(q.1 == i) && !(q.1 + 1 == i && q.2.category == 2)) = L1) (k : ∀ lm', lv_has lm' nL L1 → Z C ph (pc + 3) lm' st n σ nc ns) : Z C ph pc lm st n σ nc ns := by
  obtain ⟨p, l, e, R, s, m, args, below, meth, c, Q, D, ca, bs⟩ := C
  intro H locs hR
  obtain rfl : c.maxLocals = nL := h.2.2.1
  exact lv_iinc (x := Int32.ofInt x) h.1 h.2.1 hd hm hk0 (Int32.ofInt_add _ _).symm hi he (fun ls' hl' => k ls' hl' H locs hR)
end ZR
