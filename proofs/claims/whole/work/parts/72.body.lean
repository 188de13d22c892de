/-! THE CLAIM OUT OF ONE WALK OF THE LAW'S BODY. Your part is whole_start (and what it stands on); all else here is the same for every law, but numbers. -/
def R_law : String := "OfficeTablesLaw"
def lw_P (b : Addr) (xs : List Int32) (args : Array Value) (s : State) : Prop := args = #[.ref b] ∧ s.IntsAt b xs ∧ xs.length ≤ 2560 ∧ (Jvm.Cond.and given_1 narrow_1).before args s = true
def lw_Q (_ : Array Value) (s : State) (o : Outcome) (t : State) : Prop := o = .returned (some (.int 1)) ∧ Framed s o t [] 600000 7302250
def lw_Z (below : List Frame) (a : Array Value) (s : State) : State → Prop := fun t => ∃ o, t.status = .running ∧ Ended t below o ∧ lw_Q a s o t
/-- the law's own end, with 1 on the stack, nothing written that was there before, its room as the claim has it -/
theorem lw_ret {p : Program} {l : Launch} {e : Env} {s : State} {m : MethodId} {below : List Frame} {meth : Method} {c : Code} {b : Nat} (hx : p.tables.exec = Jvm.exec) (hb : c.code = code) (hr : meth.sig.returnType = ret) (hlocks : meth.locks = false) {pc : Nat} {H : Heap} {ls : Array Slot} (hdg : decode code pc = .ok (.ireturn, 1)) : W p l e room_1 s m #[Value.ref b] below meth c H [] 600000 7302250 (lw_Z below #[Value.ref b] s) (F0 m pc ls [.int 1]) := by
  intro T hT X
  obtain ⟨fs, hret, hrun, hended, hW, hframe⟩ := X.leave (v := some (.int 1)) (hlocks := hlocks) (fun h => by rw [hr] at h; cases h)
  have hmeth' : T.vm.method? m = some meth := X.method'
  refine ⟨T.setFrames fs, ?_, .returned (some (.int 1)), hrun, hended, rfl, ⟨_, rfl⟩, hW, hframe⟩
  jvm_step X.here [X.here.top, hx, hb, hdg, hmeth', hr, ret, narrow_b1]
  (try refine ⟨rfl, ?_⟩); (try refine ⟨rfl, ?_⟩)
  first | (intro acts; rw [hret _ acts rfl rfl rfl]) | rw [hret _ _ rfl rfl rfl]
  exact Steps.refl _
/-- what holds at the law's entry: the machine, the code, the tables' words (any of lw_tbl by 'hts w (by decide +kernel)'), the script of L ints xs at the cell b, what the Statement gives of the start (any of its parts by flat_of_before) -/
def lw_At (p : Program) (s : State) (m : MethodId) (meth : Method) (c : Code) (b L : Nat) (xs : Nat → Int32) : Prop :=
  p.tables.exec = Jvm.exec ∧ c.code = code ∧ meth.sig.returnType = ret ∧ c.maxLocals = 4 ∧ s.vm.findClass R_law = some m.cls ∧ (∀ w ∈ lw_tbl, w.before #[Value.ref b] s = true) ∧ va_X b L xs s s.heap ∧ b < s.heap.size ∧ meth.locks = false ∧ (Jvm.Cond.and given_1 narrow_1).before #[Value.ref b] s = true
/-! the law's body -/
def LC (b L : Nat) (xs : Nat → Int32) : Cx → Prop
  | (p, l, e, R, s, m, args, below, meth, c, Q, D, ca, bs) => va_X b L xs s s.heap ∧ b < s.heap.size ∧ bs = s.heap.size ∧ R = room_1 ∧ args = #[Value.ref b] ∧ Q = lw_Z below #[Value.ref b] s ∧ meth.sig.returnType = ret ∧ meth.locks = false
def LF (C : Cx) (b i : Nat) (lm : Array Slot) : Prop := lv_has lm 4 [(0, .ref b), (1, vv (bsC C) (vR 0 0)), (2, vv (bsC C) (vR 10 0)), (3, .int (Int32.ofInt (i : Int)))]
theorem lv_mono {lm : Array Slot} {nL : Nat} {l l' : List (Nat × Value)} (h : lv_has lm nL l) (hs : ∀ q ∈ l', q ∈ l) : lv_has lm nL l' := ⟨h.1, h.2.1, fun q hq => h.2.2 q (hs q hq)⟩
theorem x32_r (x : Int32) : i32 x.toInt := by
  have h1 := Int32.le_toInt x
  have h2 := Int32.toInt_lt x
  unfold i32
  omega
theorem or_r (a b : Int) : i64 (orL a b) := by
  have h1 := Int64.le_toInt (Int64.ofInt a ||| Int64.ofInt b)
  have h2 := Int64.toInt_lt (Int64.ofInt a ||| Int64.ofInt b)
  unfold i64 orL
  omega
theorem andI_31 (x : Int) : 0 ≤ andI x 31 ∧ andI x 31 ≤ 31 := by
  unfold andI
  have hb : (Int32.ofInt x &&& Int32.ofInt 31).toInt = (BitVec.ofInt 32 x &&& 31#32).toInt := rfl
  rw [hb]
  have hn : (BitVec.ofInt 32 x &&& 31#32).toNat = (BitVec.ofInt 32 x).toNat % 2 ^ 5 := by
    rw [BitVec.toNat_and, show (31#32).toNat = 2 ^ 5 - 1 from rfl, Nat.and_two_pow_sub_one_eq_mod]
  have hlt : (BitVec.ofInt 32 x).toNat % 2 ^ 5 < 2 ^ 5 := Nat.mod_lt _ (by decide)
  rw [BitVec.toInt_eq_toNat_of_lt (by rw [hn]; omega), hn]
  omega
section LROWS
variable {C : Cx} {own : String} {cc : ByteArray} {nL d ph pc n nc ns : Nat} {lm : Array Slot} {st : List PV} {σ : Mm}
theorem z_cV1 (h : Ok C own cc nL d) (hsz : lm.size = nL) {d' idx f k : Nat} {M : Mt} {As : List PV} {stk : List PV} {v : PV} {n' : Nat} {σ' : Mm} (hM : MkV M) (hl : Lk own idx M) (hrc : Rc f M) (hd : decode cc pc = .ok (.invokevirtual idx, 3)) (hc : Ct d' M ph (vR f k :: As) n σ (some v) n' σ' 0 0) (hk : Lv n f k) (hst : stk = As.reverse ++ vR f k :: st) (hA : As.length = M.2.2.2.2) (hcat : (st.map pcat).sum ≤ 8) (hdd : d' + 1 ≤ d) (hroom : nc ≤ C.2.2.2.1.cells ∧ ns ≤ C.2.2.2.1.slots) (kk : Z C ph (pc + 3) lm (v :: st) n' σ' nc ns) : Z C ph pc lm stk n σ nc ns := z_callV h hsz hM hl hrc hk hc hst hd hA hcat hdd hroom kk
theorem z_icsame (h : Ok C own cc nL d) {x off : Int} {tgt : Nat} (hd : decode cc pc = .ok (.if_icmp .eq off, 3)) (ht : (pc : Int) + off = (tgt : Int)) (k : Z C ph tgt lm st n σ nc ns) : Z C ph pc lm (vI x :: vI x :: st) n σ nc ns := by
  have hr : -2147483648 ≤ w32 x ∧ w32 x < 2147483648 := x32_r (Int32.ofInt x)
  have g := z_ic_eq (x := w32 x) (y := w32 x) h ⟨hr, hr⟩ hd ht (fun _ => k) (fun q => absurd rfl q)
  obtain ⟨p, l, e, R, s, m, args, below, meth, c, Q, D, ca, bs⟩ := C
  intro H locs hR
  have g2 := g H locs hR
  simp only [List.map_cons, vv, of_w32] at g2 ⊢
  exact g2
theorem z_lcsame (h : Ok C own cc nL d) {x off : Int} {tgt : Nat} (hd : decode cc pc = .ok (.lcmp, 1)) (hd2 : decode cc (pc + 1) = .ok (.ifCond .eq off, 3)) (ht : ((pc + 1 : Nat) : Int) + off = (tgt : Int)) (k : Z C ph tgt lm st n σ nc ns) : Z C ph pc lm (vL x :: vL x :: st) n σ nc ns := by
  have hr := w64_range x
  have g := z_lc_eq (a := w64 x) (b := w64 x) h ⟨hr, hr⟩ hd hd2 ht (fun _ => k) (fun q => absurd rfl q)
  obtain ⟨p, l, e, R, s, m, args, below, meth, c, Q, D, ca, bs⟩ := C
  intro H locs hR
  have g2 := g H locs hR
  simp only [List.map_cons, vv, of_w64] at g2 ⊢
  exact g2
theorem z_room {b L : Nat} {xs : Nat → Int32} (hC : LC b L xs C) : C.2.2.2.1 = room_1 := by
  obtain ⟨p, l, e, R, s, m, args, below, meth, c, Q, D, ca, bs⟩ := C
  exact hC.2.2.2.1
/-- a place of the script -/
theorem z_cellX (h : Ok C own cc nL d) {b L j : Nat} {xs : Nat → Int32} (hC : LC b L xs C) (hj : j < L) (hL : L ≤ 2560) (hd : decode cc pc = .ok (.iaload, 1)) (k : Z C ph (pc + 1) lm (vI (xs j).toInt :: st) n σ nc ns) : ∀ (H : Heap) (locs : List Jvm.Loc), match C with
    | (p, l, e, R, s, m, args, below, meth, c, Q, D, ca, bs) => Rl D ca bs ph n σ s.heap H locs → W p l e R s m args below meth c H locs nc ns Q (F0 m pc lm (.int (Int32.ofInt (j : Int)) :: .ref b :: st.map (vv bs))) := by
  obtain ⟨p, l, e, R, s, m, args, below, meth, c, Q, D, ca, bs⟩ := C
  intro H locs hR
  obtain ⟨h1, h2, rfl, -⟩ := hC
  obtain ⟨hin, hcl⟩ := idx_in (i := ((j : Nat) : Int)) rfl hj (by omega)
  refine va_sld h.1 h.2.1 h1 h2 (by omega) hR.2.2 hin hd ?_
  have g := k H locs hR
  rw [hcl]
  have e : Value.int (xs j) = vv s.heap.size (vI (xs j).toInt) := by
    show Value.int (xs j) = Value.int (Int32.ofInt (xs j).toInt)
    rw [Int32.ofInt_toInt]
  rw [e]
  exact g
theorem z_cell (h : Ok C own cc nL d) {b L i j t : Nat} {xs : Nat → Int32} {v : Int} (hC : LC b L xs C) (hl : LF C b i lm) (hL : L ≤ 2560) (ht : i + j = t) (hj : t < L) (hv : v = (j : Int)) (d0 : decode cc pc = .ok (.aload_n 0, 1)) (d1 : decode cc (pc + 1) = .ok (.iload_n 3, 1)) (d2 : decode cc (pc + 1 + 1) = .ok (.iconst v, 1)) (d3 : decode cc (pc + 1 + 1 + 1) = .ok (.iadd, 1)) (d4 : decode cc (pc + 1 + 1 + 1 + 1) = .ok (.iaload, 1)) (k : Z C ph (pc + 1 + 1 + 1 + 1 + 1) lm (vI (xs t).toInt :: st) n σ nc ns) : Z C ph pc lm st n σ nc ns := by
  have g := z_cellX h hC hj hL d4 k
  obtain ⟨p, l, e, R, s, m, args, below, meth, c, Q, D, ca, bs⟩ := C
  intro H locs hR
  refine lv_aload_n (i := 0) (x := b) h.1 h.2.1 d0 rfl (hl.2.2 (0, .ref b) (by simp)) ?_
  refine lv_iload_n (i := 3) (x := Int32.ofInt (i : Int)) h.1 h.2.1 d1 rfl (hl.2.2 (3, .int (Int32.ofInt (i : Int))) (by simp)) ?_
  refine lv_iconst (v := Int32.ofInt v) h.1 h.2.1 d2 rfl ?_
  refine lv_iadd h.1 h.2.1 d3 ?_
  rw [← Int32.ofInt_add, hv, show (i : Int) + (j : Int) = ((t : Nat) : Int) by omega]
  exact g H locs hR
theorem z_cell0 (h : Ok C own cc nL d) {b L i : Nat} {xs : Nat → Int32} (hC : LC b L xs C) (hl : LF C b i lm) (hL : L ≤ 2560) (hj : i < L) (d0 : decode cc pc = .ok (.aload_n 0, 1)) (d1 : decode cc (pc + 1) = .ok (.iload_n 3, 1)) (d4 : decode cc (pc + 1 + 1) = .ok (.iaload, 1)) (k : Z C ph (pc + 1 + 1 + 1) lm (vI (xs i).toInt :: st) n σ nc ns) : Z C ph pc lm st n σ nc ns := by
  have g := z_cellX h hC hj hL d4 k
  obtain ⟨p, l, e, R, s, m, args, below, meth, c, Q, D, ca, bs⟩ := C
  intro H locs hR
  refine lv_aload_n (i := 0) (x := b) h.1 h.2.1 d0 rfl (hl.2.2 (0, .ref b) (by simp)) ?_
  refine lv_iload_n (i := 3) (x := Int32.ofInt (i : Int)) h.1 h.2.1 d1 rfl (hl.2.2 (3, .int (Int32.ofInt (i : Int))) (by simp)) ?_
  exact g H locs hR
theorem z_len (h : Ok C own cc nL d) {b L i : Nat} {xs : Nat → Int32} (hC : LC b L xs C) (hl : LF C b i lm) (hL : L ≤ 2560) (d0 : decode cc pc = .ok (.aload_n 0, 1)) (d1 : decode cc (pc + 1) = .ok (.arraylength, 1)) (k : Z C ph (pc + 1 + 1) lm (vI (L : Int) :: st) n σ nc ns) : Z C ph pc lm st n σ nc ns := by
  obtain ⟨p, l, e, R, s, m, args, below, meth, c, Q, D, ca, bs⟩ := C
  intro H locs hR
  obtain ⟨h1, h2, rfl, -⟩ := hC
  refine lv_aload_n (i := 0) (x := b) h.1 h.2.1 d0 rfl (hl.2.2 (0, .ref b) (by simp)) ?_
  refine va_slen h.1 h.2.1 h1 h2 (by omega) hR.2.2 d1 ?_
  have e : Value.int (Int32.ofNat L) = vv s.heap.size (vI (L : Int)) := congrArg Value.int (Int32.ofInt_eq_ofNat).symm
  rw [e]
  exact k H locs hR
/-- the law's end -/
theorem z_law (h : Ok C RL cL_law nL d) {b L : Nat} {xs : Nat → Int32} (hC : LC b L xs C) (hd : decode cL_law pc = .ok (.ireturn, 1)) : Z C ph pc lm [vI 1] n σ 233 25760 := by
  obtain ⟨p, l, e, R, s, m, args, below, meth, c, Q, D, ca, bs⟩ := C
  intro H locs hR
  obtain ⟨h1, h2, rfl, rfl, rfl, rfl, h7, h8⟩ := hC
  refine va_forget (fun q hq => hR.2.2.2.2 q hq) ?_
  refine W.widen (show 233 ≤ 600000 by decide) (show 25760 ≤ 7302250 by decide) ?_
  exact lw_ret h.1 h.2.1 h7 h8 hd
end LROWS
section LOPS
variable {C : Cx} {b L i : Nat} {xs : Nat → Int32} {lm : Array Slot} {P : Int} {σ : Mm}
theorem lf_1 (hl : LF C b i lm) : lm[1]? = some (.val (vv (bsC C) (vR 0 0))) := hl.2.2 (1, vv (bsC C) (vR 0 0)) (by simp)
theorem lf_2 (hl : LF C b i lm) : lm[2]? = some (.val (vv (bsC C) (vR 10 0))) := hl.2.2 (2, vv (bsC C) (vR 10 0)) (by simp)
theorem lf_3 (hl : LF C b i lm) : lm[3]? = some (.val (.int (Int32.ofInt (i : Int)))) := hl.2.2 (3, .int (Int32.ofInt (i : Int))) (by simp)
theorem law_feed (h : Ok C RL cL_law 4 100) (hC : LC b L xs C) (hl : LF C b i lm) (hi : i + 5 ≤ L) (hL : L ≤ 2560) (hP : 0 ≤ P ∧ P ≤ 2146000000) (hJ : JI P σ) (kk : ∀ σ', JI (P + 361001) σ' → Z C 1 677 lm [] NALL σ' 233 25760) : Z C 1 120 lm [] NALL σ 233 25760 := by
  have hroom : 233 ≤ C.2.2.2.1.cells ∧ 25760 ≤ C.2.2.2.1.slots := by rw [z_room hC]; exact ⟨by decide, by decide⟩
  obtain ⟨x, d1, d2, σ1, σ2, hd1, hd2, c1, c2, hJ2⟩ : STP P vI mX9_feed mX10_feed [vL (orL (shlL (xs (i + 1)).toInt 32) (andL (xs (i + 2)).toInt 4294967295))] σ := s_feed hJ
  refine z_aload_n h dL_law_120 (lf_1 hl) ?_
  refine z_cell (j := 1) (t := i + 1) h hC hl hL rfl (by omega) rfl dL_law_121 dL_law_122 dL_law_123 dL_law_124 dL_law_125 ?_
  refine z_i2l h (x32_r _) dL_law_126 ?_
  refine z_bipush h dL_law_127 (by decide) ?_
  refine z_lshl h dL_law_129 ?_
  refine z_cell (j := 2) (t := i + 2) h hC hl hL rfl (by omega) rfl dL_law_130 dL_law_131 dL_law_132 dL_law_133 dL_law_134 ?_
  refine z_i2l h (x32_r _) dL_law_135 ?_
  refine z_ldc2 (x := 4294967295) h dL_law_136 klL_13 (by decide) ?_
  refine z_land h dL_law_139 ?_
  refine z_lor h dL_law_140 ?_
  refine z_cV1 h hl.1 kVX9_feed lkL_15 ⟨_, _, _, rfl, rfl⟩ dL_law_141 c1 lvz_0 rfl rfl (Nat.le_of_ble_eq_true rfl) (by omega) hroom ?_
  refine z_aload_n h dL_law_144 (lf_2 hl) ?_
  refine z_cell (j := 1) (t := i + 1) h hC hl hL rfl (by omega) rfl dL_law_145 dL_law_146 dL_law_147 dL_law_148 dL_law_149 ?_
  refine z_i2l h (x32_r _) dL_law_150 ?_
  refine z_bipush h dL_law_151 (by decide) ?_
  refine z_lshl h dL_law_153 ?_
  refine z_cell (j := 2) (t := i + 2) h hC hl hL rfl (by omega) rfl dL_law_154 dL_law_155 dL_law_156 dL_law_157 dL_law_158 ?_
  refine z_i2l h (x32_r _) dL_law_159 ?_
  refine z_ldc2 (x := 4294967295) h dL_law_160 klL_13 (by decide) ?_
  refine z_land h dL_law_163 ?_
  refine z_lor h dL_law_164 ?_
  refine z_cV1 h hl.1 kVX10_feed lkL_19 ⟨_, _, _, rfl, rfl⟩ dL_law_165 c2 lvz_10 rfl rfl (Nat.le_of_ble_eq_true rfl) (by omega) hroom ?_
  refine z_icsame (tgt := 677) h dL_law_168 (by decide) ?_
  exact kk σ2 hJ2
theorem law_read (h : Ok C RL cL_law 4 100) (hC : LC b L xs C) (hl : LF C b i lm) (hi : i + 5 ≤ L) (hL : L ≤ 2560) (hP : 0 ≤ P ∧ P ≤ 2146000000) (hJ : JI P σ) (kk : ∀ σ', JI (P + 361001) σ' → Z C 1 677 lm [] NALL σ' 233 25760) : Z C 1 173 lm [] NALL σ 233 25760 := by
  have hroom : 233 ≤ C.2.2.2.1.cells ∧ 25760 ≤ C.2.2.2.1.slots := by rw [z_room hC]; exact ⟨by decide, by decide⟩
  obtain ⟨x, d1, d2, σ1, σ2, hd1, hd2, c1, c2, hJ2⟩ : STP P vI mX9_read mX10_read [] σ := s_read hP.1 hJ
  refine z_aload_n h dL_law_173 (lf_1 hl) ?_
  refine z_cV1 h hl.1 kVX9_read lkL_20 ⟨_, _, _, rfl, rfl⟩ dL_law_174 c1 lvz_0 rfl rfl (Nat.le_of_ble_eq_true rfl) (by omega) hroom ?_
  refine z_aload_n h dL_law_177 (lf_2 hl) ?_
  refine z_cV1 h hl.1 kVX10_read lkL_24 ⟨_, _, _, rfl, rfl⟩ dL_law_178 c2 lvz_10 rfl rfl (Nat.le_of_ble_eq_true rfl) (by omega) hroom ?_
  refine z_icsame (tgt := 677) h dL_law_181 (by decide) ?_
  exact kk σ2 hJ2
theorem law_cut (h : Ok C RL cL_law 4 100) (hC : LC b L xs C) (hl : LF C b i lm) (hi : i + 5 ≤ L) (hL : L ≤ 2560) (hP : 0 ≤ P ∧ P ≤ 2146000000) (hJ : JI P σ) (kk : ∀ σ', JI (P + 361001) σ' → Z C 1 677 lm [] NALL σ' 233 25760) : Z C 1 186 lm [] NALL σ 233 25760 := by
  have hroom : 233 ≤ C.2.2.2.1.cells ∧ 25760 ≤ C.2.2.2.1.slots := by rw [z_room hC]; exact ⟨by decide, by decide⟩
  obtain ⟨x, d1, d2, σ1, σ2, hd1, hd2, c1, c2, hJ2⟩ : STP P vI mX9_cut mX10_cut [] σ := s_cut hJ
  refine z_aload_n h dL_law_186 (lf_1 hl) ?_
  refine z_cV1 h hl.1 kVX9_cut lkL_25 ⟨_, _, _, rfl, rfl⟩ dL_law_187 c1 lvz_0 rfl rfl (Nat.le_of_ble_eq_true rfl) (by omega) hroom ?_
  refine z_aload_n h dL_law_190 (lf_2 hl) ?_
  refine z_cV1 h hl.1 kVX10_cut lkL_28 ⟨_, _, _, rfl, rfl⟩ dL_law_191 c2 lvz_10 rfl rfl (Nat.le_of_ble_eq_true rfl) (by omega) hroom ?_
  refine z_icsame (tgt := 677) h dL_law_194 (by decide) ?_
  exact kk σ2 hJ2
theorem law_named (h : Ok C RL cL_law 4 100) (hC : LC b L xs C) (hl : LF C b i lm) (hi : i + 5 ≤ L) (hL : L ≤ 2560) (hP : 0 ≤ P ∧ P ≤ 2146000000) (hJ : JI P σ) (kk : ∀ σ', JI (P + 361001) σ' → Z C 1 677 lm [] NALL σ' 233 25760) : Z C 1 199 lm [] NALL σ 233 25760 := by
  have hroom : 233 ≤ C.2.2.2.1.cells ∧ 25760 ≤ C.2.2.2.1.slots := by rw [z_room hC]; exact ⟨by decide, by decide⟩
  obtain ⟨x, d1, d2, σ1, σ2, hd1, hd2, c1, c2, hJ2⟩ : STP P vI mX9_named mX10_named [vL (orL (shlL (xs (i + 1)).toInt 32) (andL (xs (i + 2)).toInt 4294967295))] σ := s_named (or_r _ _) hJ
  refine z_aload_n h dL_law_199 (lf_1 hl) ?_
  refine z_cell (j := 1) (t := i + 1) h hC hl hL rfl (by omega) rfl dL_law_200 dL_law_201 dL_law_202 dL_law_203 dL_law_204 ?_
  refine z_i2l h (x32_r _) dL_law_205 ?_
  refine z_bipush h dL_law_206 (by decide) ?_
  refine z_lshl h dL_law_208 ?_
  refine z_cell (j := 2) (t := i + 2) h hC hl hL rfl (by omega) rfl dL_law_209 dL_law_210 dL_law_211 dL_law_212 dL_law_213 ?_
  refine z_i2l h (x32_r _) dL_law_214 ?_
  refine z_ldc2 (x := 4294967295) h dL_law_215 klL_13 (by decide) ?_
  refine z_land h dL_law_218 ?_
  refine z_lor h dL_law_219 ?_
  refine z_cV1 h hl.1 kVX9_named lkL_29 ⟨_, _, _, rfl, rfl⟩ dL_law_220 c1 lvz_0 rfl rfl (Nat.le_of_ble_eq_true rfl) (by omega) hroom ?_
  refine z_aload_n h dL_law_223 (lf_2 hl) ?_
  refine z_cell (j := 1) (t := i + 1) h hC hl hL rfl (by omega) rfl dL_law_224 dL_law_225 dL_law_226 dL_law_227 dL_law_228 ?_
  refine z_i2l h (x32_r _) dL_law_229 ?_
  refine z_bipush h dL_law_230 (by decide) ?_
  refine z_lshl h dL_law_232 ?_
  refine z_cell (j := 2) (t := i + 2) h hC hl hL rfl (by omega) rfl dL_law_233 dL_law_234 dL_law_235 dL_law_236 dL_law_237 ?_
  refine z_i2l h (x32_r _) dL_law_238 ?_
  refine z_ldc2 (x := 4294967295) h dL_law_239 klL_13 (by decide) ?_
  refine z_land h dL_law_242 ?_
  refine z_lor h dL_law_243 ?_
  refine z_cV1 h hl.1 kVX10_named lkL_32 ⟨_, _, _, rfl, rfl⟩ dL_law_244 c2 lvz_10 rfl rfl (Nat.le_of_ble_eq_true rfl) (by omega) hroom ?_
  refine z_icsame (tgt := 677) h dL_law_247 (by decide) ?_
  exact kk σ2 hJ2
theorem law_size (h : Ok C RL cL_law 4 100) (hC : LC b L xs C) (hl : LF C b i lm) (hi : i + 5 ≤ L) (hL : L ≤ 2560) (hP : 0 ≤ P ∧ P ≤ 2146000000) (hJ : JI P σ) (kk : ∀ σ', JI (P + 361001) σ' → Z C 1 677 lm [] NALL σ' 233 25760) : Z C 1 252 lm [] NALL σ 233 25760 := by
  have hroom : 233 ≤ C.2.2.2.1.cells ∧ 25760 ≤ C.2.2.2.1.slots := by rw [z_room hC]; exact ⟨by decide, by decide⟩
  obtain ⟨x, d1, d2, σ1, σ2, hd1, hd2, c1, c2, hJ2⟩ : STP P vI mX9_size mX10_size [vI (xs (i + 1)).toInt] σ := s_size (x32_r _) hJ
  refine z_aload_n h dL_law_252 (lf_1 hl) ?_
  refine z_cell (j := 1) (t := i + 1) h hC hl hL rfl (by omega) rfl dL_law_253 dL_law_254 dL_law_255 dL_law_256 dL_law_257 ?_
  refine z_cV1 h hl.1 kVX9_size lkL_33 ⟨_, _, _, rfl, rfl⟩ dL_law_258 c1 lvz_0 rfl rfl (Nat.le_of_ble_eq_true rfl) (by omega) hroom ?_
  refine z_aload_n h dL_law_261 (lf_2 hl) ?_
  refine z_cell (j := 1) (t := i + 1) h hC hl hL rfl (by omega) rfl dL_law_262 dL_law_263 dL_law_264 dL_law_265 dL_law_266 ?_
  refine z_cV1 h hl.1 kVX10_size lkL_37 ⟨_, _, _, rfl, rfl⟩ dL_law_267 c2 lvz_10 rfl rfl (Nat.le_of_ble_eq_true rfl) (by omega) hroom ?_
  refine z_icsame (tgt := 677) h dL_law_270 (by decide) ?_
  exact kk σ2 hJ2
theorem law_state (h : Ok C RL cL_law 4 100) (hC : LC b L xs C) (hl : LF C b i lm) (hi : i + 5 ≤ L) (hL : L ≤ 2560) (hP : 0 ≤ P ∧ P ≤ 2146000000) (hJ : JI P σ) (kk : ∀ σ', JI (P + 361001) σ' → Z C 1 677 lm [] NALL σ' 233 25760) : Z C 1 275 lm [] NALL σ 233 25760 := by
  have hroom : 233 ≤ C.2.2.2.1.cells ∧ 25760 ≤ C.2.2.2.1.slots := by rw [z_room hC]; exact ⟨by decide, by decide⟩
  obtain ⟨x, d1, d2, σ1, σ2, hd1, hd2, c1, c2, hJ2⟩ : STP P vI mX9_state mX10_state [vI (xs (i + 1)).toInt] σ := s_state (x32_r _) hJ
  refine z_aload_n h dL_law_275 (lf_1 hl) ?_
  refine z_cell (j := 1) (t := i + 1) h hC hl hL rfl (by omega) rfl dL_law_276 dL_law_277 dL_law_278 dL_law_279 dL_law_280 ?_
  refine z_cV1 h hl.1 kVX9_state lkL_38 ⟨_, _, _, rfl, rfl⟩ dL_law_281 c1 lvz_0 rfl rfl (Nat.le_of_ble_eq_true rfl) (by omega) hroom ?_
  refine z_aload_n h dL_law_284 (lf_2 hl) ?_
  refine z_cell (j := 1) (t := i + 1) h hC hl hL rfl (by omega) rfl dL_law_285 dL_law_286 dL_law_287 dL_law_288 dL_law_289 ?_
  refine z_cV1 h hl.1 kVX10_state lkL_41 ⟨_, _, _, rfl, rfl⟩ dL_law_290 c2 lvz_10 rfl rfl (Nat.le_of_ble_eq_true rfl) (by omega) hroom ?_
  refine z_icsame (tgt := 677) h dL_law_293 (by decide) ?_
  exact kk σ2 hJ2
theorem law_row (h : Ok C RL cL_law 4 100) (hC : LC b L xs C) (hl : LF C b i lm) (hi : i + 5 ≤ L) (hL : L ≤ 2560) (hP : 0 ≤ P ∧ P ≤ 2146000000) (hJ : JI P σ) (kk : ∀ σ', JI (P + 361001) σ' → Z C 1 677 lm [] NALL σ' 233 25760) : Z C 1 298 lm [] NALL σ 233 25760 := by
  have hroom : 233 ≤ C.2.2.2.1.cells ∧ 25760 ≤ C.2.2.2.1.slots := by rw [z_room hC]; exact ⟨by decide, by decide⟩
  obtain ⟨x, d1, d2, σ1, σ2, hd1, hd2, c1, c2, hJ2⟩ : STP P vI mX9_row mX10_row [vI (xs (i + 1)).toInt, vI (xs (i + 2)).toInt] σ := s_row (x32_r _) (x32_r _) hJ
  refine z_aload_n h dL_law_298 (lf_1 hl) ?_
  refine z_cell (j := 1) (t := i + 1) h hC hl hL rfl (by omega) rfl dL_law_299 dL_law_300 dL_law_301 dL_law_302 dL_law_303 ?_
  refine z_cell (j := 2) (t := i + 2) h hC hl hL rfl (by omega) rfl dL_law_304 dL_law_305 dL_law_306 dL_law_307 dL_law_308 ?_
  refine z_cV1 h hl.1 kVX9_row lkL_42 ⟨_, _, _, rfl, rfl⟩ dL_law_309 c1 lvz_0 rfl rfl (Nat.le_of_ble_eq_true rfl) (by omega) hroom ?_
  refine z_aload_n h dL_law_312 (lf_2 hl) ?_
  refine z_cell (j := 1) (t := i + 1) h hC hl hL rfl (by omega) rfl dL_law_313 dL_law_314 dL_law_315 dL_law_316 dL_law_317 ?_
  refine z_cell (j := 2) (t := i + 2) h hC hl hL rfl (by omega) rfl dL_law_318 dL_law_319 dL_law_320 dL_law_321 dL_law_322 ?_
  refine z_cV1 h hl.1 kVX10_row lkL_46 ⟨_, _, _, rfl, rfl⟩ dL_law_323 c2 lvz_10 rfl rfl (Nat.le_of_ble_eq_true rfl) (by omega) hroom ?_
  refine z_icsame (tgt := 677) h dL_law_326 (by decide) ?_
  exact kk σ2 hJ2
theorem law_entry (h : Ok C RL cL_law 4 100) (hC : LC b L xs C) (hl : LF C b i lm) (hi : i + 5 ≤ L) (hL : L ≤ 2560) (hP : 0 ≤ P ∧ P ≤ 2146000000) (hJ : JI P σ) (kk : ∀ σ', JI (P + 361001) σ' → Z C 1 677 lm [] NALL σ' 233 25760) : Z C 1 331 lm [] NALL σ 233 25760 := by
  have hroom : 233 ≤ C.2.2.2.1.cells ∧ 25760 ≤ C.2.2.2.1.slots := by rw [z_room hC]; exact ⟨by decide, by decide⟩
  obtain ⟨x, d1, d2, σ1, σ2, hd1, hd2, c1, c2, hJ2⟩ : STP P vL mX9_entry mX10_entry [vI (xs (i + 1)).toInt, vI (xs (i + 2)).toInt] σ := s_entry (x32_r _) (x32_r _) hP.2 hJ
  refine z_aload_n h dL_law_331 (lf_1 hl) ?_
  refine z_cell (j := 1) (t := i + 1) h hC hl hL rfl (by omega) rfl dL_law_332 dL_law_333 dL_law_334 dL_law_335 dL_law_336 ?_
  refine z_cell (j := 2) (t := i + 2) h hC hl hL rfl (by omega) rfl dL_law_337 dL_law_338 dL_law_339 dL_law_340 dL_law_341 ?_
  refine z_cV1 h hl.1 kVX9_entry lkL_47 ⟨_, _, _, rfl, rfl⟩ dL_law_342 c1 lvz_0 rfl rfl (Nat.le_of_ble_eq_true rfl) (by omega) hroom ?_
  refine z_aload_n h dL_law_345 (lf_2 hl) ?_
  refine z_cell (j := 1) (t := i + 1) h hC hl hL rfl (by omega) rfl dL_law_346 dL_law_347 dL_law_348 dL_law_349 dL_law_350 ?_
  refine z_cell (j := 2) (t := i + 2) h hC hl hL rfl (by omega) rfl dL_law_351 dL_law_352 dL_law_353 dL_law_354 dL_law_355 ?_
  refine z_cV1 h hl.1 kVX10_entry lkL_51 ⟨_, _, _, rfl, rfl⟩ dL_law_356 c2 lvz_10 rfl rfl (Nat.le_of_ble_eq_true rfl) (by omega) hroom ?_
  refine z_lcsame (tgt := 677) h dL_law_359 dL_law_360 (by decide) ?_
  exact kk σ2 hJ2
theorem law_reason (h : Ok C RL cL_law 4 100) (hC : LC b L xs C) (hl : LF C b i lm) (hi : i + 5 ≤ L) (hL : L ≤ 2560) (hP : 0 ≤ P ∧ P ≤ 2146000000) (hJ : JI P σ) (kk : ∀ σ', JI (P + 361001) σ' → Z C 1 677 lm [] NALL σ' 233 25760) : Z C 1 365 lm [] NALL σ 233 25760 := by
  have hroom : 233 ≤ C.2.2.2.1.cells ∧ 25760 ≤ C.2.2.2.1.slots := by rw [z_room hC]; exact ⟨by decide, by decide⟩
  obtain ⟨x, d1, d2, σ1, σ2, hd1, hd2, c1, c2, hJ2⟩ : STP P vI mX9_reason mX10_reason [vI (xs (i + 1)).toInt] σ := s_reason (x32_r _) hJ
  refine z_aload_n h dL_law_365 (lf_1 hl) ?_
  refine z_cell (j := 1) (t := i + 1) h hC hl hL rfl (by omega) rfl dL_law_366 dL_law_367 dL_law_368 dL_law_369 dL_law_370 ?_
  refine z_cV1 h hl.1 kVX9_reason lkL_52 ⟨_, _, _, rfl, rfl⟩ dL_law_371 c1 lvz_0 rfl rfl (Nat.le_of_ble_eq_true rfl) (by omega) hroom ?_
  refine z_aload_n h dL_law_374 (lf_2 hl) ?_
  refine z_cell (j := 1) (t := i + 1) h hC hl hL rfl (by omega) rfl dL_law_375 dL_law_376 dL_law_377 dL_law_378 dL_law_379 ?_
  refine z_cV1 h hl.1 kVX10_reason lkL_55 ⟨_, _, _, rfl, rfl⟩ dL_law_380 c2 lvz_10 rfl rfl (Nat.le_of_ble_eq_true rfl) (by omega) hroom ?_
  refine z_icsame (tgt := 677) h dL_law_383 (by decide) ?_
  exact kk σ2 hJ2
theorem law_sum (h : Ok C RL cL_law 4 100) (hC : LC b L xs C) (hl : LF C b i lm) (hi : i + 5 ≤ L) (hL : L ≤ 2560) (hP : 0 ≤ P ∧ P ≤ 2146000000) (hJ : JI P σ) (kk : ∀ σ', JI (P + 361001) σ' → Z C 1 677 lm [] NALL σ' 233 25760) : Z C 1 388 lm [] NALL σ 233 25760 := by
  have hroom : 233 ≤ C.2.2.2.1.cells ∧ 25760 ≤ C.2.2.2.1.slots := by rw [z_room hC]; exact ⟨by decide, by decide⟩
  obtain ⟨x, d1, d2, σ1, σ2, hd1, hd2, c1, c2, hJ2⟩ : STP P vL mX9_sum mX10_sum [vI (xs (i + 1)).toInt, vI (xs (i + 2)).toInt, vI (xs (i + 3)).toInt, vI (xs (i + 4)).toInt] σ := s_sum (x32_r _) (x32_r _) (x32_r _) (x32_r _) hP.2 hJ
  refine z_aload_n h dL_law_388 (lf_1 hl) ?_
  refine z_cell (j := 1) (t := i + 1) h hC hl hL rfl (by omega) rfl dL_law_389 dL_law_390 dL_law_391 dL_law_392 dL_law_393 ?_
  refine z_cell (j := 2) (t := i + 2) h hC hl hL rfl (by omega) rfl dL_law_394 dL_law_395 dL_law_396 dL_law_397 dL_law_398 ?_
  refine z_cell (j := 3) (t := i + 3) h hC hl hL rfl (by omega) rfl dL_law_399 dL_law_400 dL_law_401 dL_law_402 dL_law_403 ?_
  refine z_cell (j := 4) (t := i + 4) h hC hl hL rfl (by omega) rfl dL_law_404 dL_law_405 dL_law_406 dL_law_407 dL_law_408 ?_
  refine z_cV1 h hl.1 kVX9_sum lkL_56 ⟨_, _, _, rfl, rfl⟩ dL_law_409 c1 lvz_0 rfl rfl (Nat.le_of_ble_eq_true rfl) (by omega) hroom ?_
  refine z_aload_n h dL_law_412 (lf_2 hl) ?_
  refine z_cell (j := 1) (t := i + 1) h hC hl hL rfl (by omega) rfl dL_law_413 dL_law_414 dL_law_415 dL_law_416 dL_law_417 ?_
  refine z_cell (j := 2) (t := i + 2) h hC hl hL rfl (by omega) rfl dL_law_418 dL_law_419 dL_law_420 dL_law_421 dL_law_422 ?_
  refine z_cell (j := 3) (t := i + 3) h hC hl hL rfl (by omega) rfl dL_law_423 dL_law_424 dL_law_425 dL_law_426 dL_law_427 ?_
  refine z_cell (j := 4) (t := i + 4) h hC hl hL rfl (by omega) rfl dL_law_428 dL_law_429 dL_law_430 dL_law_431 dL_law_432 ?_
  refine z_cV1 h hl.1 kVX10_sum lkL_60 ⟨_, _, _, rfl, rfl⟩ dL_law_433 c2 lvz_10 rfl rfl (Nat.le_of_ble_eq_true rfl) (by omega) hroom ?_
  refine z_lcsame (tgt := 677) h dL_law_436 dL_law_437 (by decide) ?_
  exact kk σ2 hJ2
theorem law_find (h : Ok C RL cL_law 4 100) (hC : LC b L xs C) (hl : LF C b i lm) (hi : i + 5 ≤ L) (hL : L ≤ 2560) (hP : 0 ≤ P ∧ P ≤ 2146000000) (hJ : JI P σ) (kk : ∀ σ', JI (P + 361001) σ' → Z C 1 677 lm [] NALL σ' 233 25760) : Z C 1 442 lm [] NALL σ 233 25760 := by
  have hroom : 233 ≤ C.2.2.2.1.cells ∧ 25760 ≤ C.2.2.2.1.slots := by rw [z_room hC]; exact ⟨by decide, by decide⟩
  obtain ⟨x, d1, d2, σ1, σ2, hd1, hd2, c1, c2, hJ2⟩ : STP P vI mX9_find mX10_find [vI (xs (i + 1)).toInt, vL (orL (shlL (xs (i + 2)).toInt 32) (andL (xs (i + 3)).toInt 4294967295))] σ := s_find (x32_r _) (or_r _ _) hP.2 hJ
  refine z_aload_n h dL_law_442 (lf_1 hl) ?_
  refine z_cell (j := 1) (t := i + 1) h hC hl hL rfl (by omega) rfl dL_law_443 dL_law_444 dL_law_445 dL_law_446 dL_law_447 ?_
  refine z_cell (j := 2) (t := i + 2) h hC hl hL rfl (by omega) rfl dL_law_448 dL_law_449 dL_law_450 dL_law_451 dL_law_452 ?_
  refine z_i2l h (x32_r _) dL_law_453 ?_
  refine z_bipush h dL_law_454 (by decide) ?_
  refine z_lshl h dL_law_456 ?_
  refine z_cell (j := 3) (t := i + 3) h hC hl hL rfl (by omega) rfl dL_law_457 dL_law_458 dL_law_459 dL_law_460 dL_law_461 ?_
  refine z_i2l h (x32_r _) dL_law_462 ?_
  refine z_ldc2 (x := 4294967295) h dL_law_463 klL_13 (by decide) ?_
  refine z_land h dL_law_466 ?_
  refine z_lor h dL_law_467 ?_
  refine z_cV1 h hl.1 kVX9_find lkL_61 ⟨_, _, _, rfl, rfl⟩ dL_law_468 c1 lvz_0 rfl rfl (Nat.le_of_ble_eq_true rfl) (by omega) hroom ?_
  refine z_aload_n h dL_law_471 (lf_2 hl) ?_
  refine z_cell (j := 1) (t := i + 1) h hC hl hL rfl (by omega) rfl dL_law_472 dL_law_473 dL_law_474 dL_law_475 dL_law_476 ?_
  refine z_cell (j := 2) (t := i + 2) h hC hl hL rfl (by omega) rfl dL_law_477 dL_law_478 dL_law_479 dL_law_480 dL_law_481 ?_
  refine z_i2l h (x32_r _) dL_law_482 ?_
  refine z_bipush h dL_law_483 (by decide) ?_
  refine z_lshl h dL_law_485 ?_
  refine z_cell (j := 3) (t := i + 3) h hC hl hL rfl (by omega) rfl dL_law_486 dL_law_487 dL_law_488 dL_law_489 dL_law_490 ?_
  refine z_i2l h (x32_r _) dL_law_491 ?_
  refine z_ldc2 (x := 4294967295) h dL_law_492 klL_13 (by decide) ?_
  refine z_land h dL_law_495 ?_
  refine z_lor h dL_law_496 ?_
  refine z_cV1 h hl.1 kVX10_find lkL_65 ⟨_, _, _, rfl, rfl⟩ dL_law_497 c2 lvz_10 rfl rfl (Nat.le_of_ble_eq_true rfl) (by omega) hroom ?_
  refine z_icsame (tgt := 677) h dL_law_500 (by decide) ?_
  exact kk σ2 hJ2
theorem law_drop (h : Ok C RL cL_law 4 100) (hC : LC b L xs C) (hl : LF C b i lm) (hi : i + 5 ≤ L) (hL : L ≤ 2560) (hP : 0 ≤ P ∧ P ≤ 2146000000) (hJ : JI P σ) (kk : ∀ σ', JI (P + 361001) σ' → Z C 1 677 lm [] NALL σ' 233 25760) : Z C 1 505 lm [] NALL σ 233 25760 := by
  have hroom : 233 ≤ C.2.2.2.1.cells ∧ 25760 ≤ C.2.2.2.1.slots := by rw [z_room hC]; exact ⟨by decide, by decide⟩
  obtain ⟨x, d1, d2, σ1, σ2, hd1, hd2, c1, c2, hJ2⟩ : STP P vI mX9_drop mX10_drop [vI (xs (i + 1)).toInt] σ := s_drop (x32_r _) hJ
  refine z_aload_n h dL_law_505 (lf_1 hl) ?_
  refine z_cell (j := 1) (t := i + 1) h hC hl hL rfl (by omega) rfl dL_law_506 dL_law_507 dL_law_508 dL_law_509 dL_law_510 ?_
  refine z_cV1 h hl.1 kVX9_drop lkL_66 ⟨_, _, _, rfl, rfl⟩ dL_law_511 c1 lvz_0 rfl rfl (Nat.le_of_ble_eq_true rfl) (by omega) hroom ?_
  refine z_aload_n h dL_law_514 (lf_2 hl) ?_
  refine z_cell (j := 1) (t := i + 1) h hC hl hL rfl (by omega) rfl dL_law_515 dL_law_516 dL_law_517 dL_law_518 dL_law_519 ?_
  refine z_cV1 h hl.1 kVX10_drop lkL_69 ⟨_, _, _, rfl, rfl⟩ dL_law_520 c2 lvz_10 rfl rfl (Nat.le_of_ble_eq_true rfl) (by omega) hroom ?_
  refine z_icsame (tgt := 677) h dL_law_523 (by decide) ?_
  exact kk σ2 hJ2
theorem law_builds (h : Ok C RL cL_law 4 100) (hC : LC b L xs C) (hl : LF C b i lm) (hi : i + 5 ≤ L) (hL : L ≤ 2560) (hP : 0 ≤ P ∧ P ≤ 2146000000) (hJ : JI P σ) (kk : ∀ σ', JI (P + 361001) σ' → Z C 1 677 lm [] NALL σ' 233 25760) : Z C 1 528 lm [] NALL σ 233 25760 := by
  have hroom : 233 ≤ C.2.2.2.1.cells ∧ 25760 ≤ C.2.2.2.1.slots := by rw [z_room hC]; exact ⟨by decide, by decide⟩
  obtain ⟨x, d1, d2, σ1, σ2, hd1, hd2, c1, c2, hJ2⟩ : STP P vI mX9_builds mX10_builds [] σ := s_builds hJ
  refine z_aload_n h dL_law_528 (lf_1 hl) ?_
  refine z_cV1 h hl.1 kVX9_builds lkL_70 ⟨_, _, _, rfl, rfl⟩ dL_law_529 c1 lvz_0 rfl rfl (Nat.le_of_ble_eq_true rfl) (by omega) hroom ?_
  refine z_aload_n h dL_law_532 (lf_2 hl) ?_
  refine z_cV1 h hl.1 kVX10_builds lkL_73 ⟨_, _, _, rfl, rfl⟩ dL_law_533 c2 lvz_10 rfl rfl (Nat.le_of_ble_eq_true rfl) (by omega) hroom ?_
  refine z_icsame (tgt := 677) h dL_law_536 (by decide) ?_
  exact kk σ2 hJ2
theorem law_build (h : Ok C RL cL_law 4 100) (hC : LC b L xs C) (hl : LF C b i lm) (hi : i + 5 ≤ L) (hL : L ≤ 2560) (hP : 0 ≤ P ∧ P ≤ 2146000000) (hJ : JI P σ) (kk : ∀ σ', JI (P + 361001) σ' → Z C 1 677 lm [] NALL σ' 233 25760) : Z C 1 541 lm [] NALL σ 233 25760 := by
  have hroom : 233 ≤ C.2.2.2.1.cells ∧ 25760 ≤ C.2.2.2.1.slots := by rw [z_room hC]; exact ⟨by decide, by decide⟩
  obtain ⟨x, d1, d2, σ1, σ2, hd1, hd2, c1, c2, hJ2⟩ : STP P vI mX9_build mX10_build [vI (xs (i + 1)).toInt, vI (xs (i + 2)).toInt] σ := s_build (x32_r _) (x32_r _) hP.2 hJ
  refine z_aload_n h dL_law_541 (lf_1 hl) ?_
  refine z_cell (j := 1) (t := i + 1) h hC hl hL rfl (by omega) rfl dL_law_542 dL_law_543 dL_law_544 dL_law_545 dL_law_546 ?_
  refine z_cell (j := 2) (t := i + 2) h hC hl hL rfl (by omega) rfl dL_law_547 dL_law_548 dL_law_549 dL_law_550 dL_law_551 ?_
  refine z_cV1 h hl.1 kVX9_build lkL_74 ⟨_, _, _, rfl, rfl⟩ dL_law_552 c1 lvz_0 rfl rfl (Nat.le_of_ble_eq_true rfl) (by omega) hroom ?_
  refine z_aload_n h dL_law_555 (lf_2 hl) ?_
  refine z_cell (j := 1) (t := i + 1) h hC hl hL rfl (by omega) rfl dL_law_556 dL_law_557 dL_law_558 dL_law_559 dL_law_560 ?_
  refine z_cell (j := 2) (t := i + 2) h hC hl hL rfl (by omega) rfl dL_law_561 dL_law_562 dL_law_563 dL_law_564 dL_law_565 ?_
  refine z_cV1 h hl.1 kVX10_build lkL_77 ⟨_, _, _, rfl, rfl⟩ dL_law_566 c2 lvz_10 rfl rfl (Nat.le_of_ble_eq_true rfl) (by omega) hroom ?_
  refine z_icsame (tgt := 677) h dL_law_569 (by decide) ?_
  exact kk σ2 hJ2
theorem law_halves (h : Ok C RL cL_law 4 100) (hC : LC b L xs C) (hl : LF C b i lm) (hi : i + 5 ≤ L) (hL : L ≤ 2560) (hP : 0 ≤ P ∧ P ≤ 2146000000) (hJ : JI P σ) (kk : ∀ σ', JI (P + 361001) σ' → Z C 1 677 lm [] NALL σ' 233 25760) : Z C 1 574 lm [] NALL σ 233 25760 := by
  have hroom : 233 ≤ C.2.2.2.1.cells ∧ 25760 ≤ C.2.2.2.1.slots := by rw [z_room hC]; exact ⟨by decide, by decide⟩
  obtain ⟨x, d1, d2, σ1, σ2, hd1, hd2, c1, c2, hJ2⟩ : STP P vI mX9_halves mX10_halves [] σ := s_halves hJ
  refine z_aload_n h dL_law_574 (lf_1 hl) ?_
  refine z_cV1 h hl.1 kVX9_halves lkL_78 ⟨_, _, _, rfl, rfl⟩ dL_law_575 c1 lvz_0 rfl rfl (Nat.le_of_ble_eq_true rfl) (by omega) hroom ?_
  refine z_aload_n h dL_law_578 (lf_2 hl) ?_
  refine z_cV1 h hl.1 kVX10_halves lkL_81 ⟨_, _, _, rfl, rfl⟩ dL_law_579 c2 lvz_10 rfl rfl (Nat.le_of_ble_eq_true rfl) (by omega) hroom ?_
  refine z_icsame (tgt := 677) h dL_law_582 (by decide) ?_
  exact kk σ2 hJ2
theorem law_half (h : Ok C RL cL_law 4 100) (hC : LC b L xs C) (hl : LF C b i lm) (hi : i + 5 ≤ L) (hL : L ≤ 2560) (hP : 0 ≤ P ∧ P ≤ 2146000000) (hJ : JI P σ) (kk : ∀ σ', JI (P + 361001) σ' → Z C 1 677 lm [] NALL σ' 233 25760) : Z C 1 587 lm [] NALL σ 233 25760 := by
  have hroom : 233 ≤ C.2.2.2.1.cells ∧ 25760 ≤ C.2.2.2.1.slots := by rw [z_room hC]; exact ⟨by decide, by decide⟩
  obtain ⟨x, d1, d2, σ1, σ2, hd1, hd2, c1, c2, hJ2⟩ : STP P vL mX9_half mX10_half_ [vI (xs (i + 1)).toInt, vI (xs (i + 2)).toInt] σ := s_half (x32_r _) (x32_r _) hP.2 hJ
  refine z_aload_n h dL_law_587 (lf_1 hl) ?_
  refine z_cell (j := 1) (t := i + 1) h hC hl hL rfl (by omega) rfl dL_law_588 dL_law_589 dL_law_590 dL_law_591 dL_law_592 ?_
  refine z_cell (j := 2) (t := i + 2) h hC hl hL rfl (by omega) rfl dL_law_593 dL_law_594 dL_law_595 dL_law_596 dL_law_597 ?_
  refine z_cV1 h hl.1 kVX9_half lkL_82 ⟨_, _, _, rfl, rfl⟩ dL_law_598 c1 lvz_0 rfl rfl (Nat.le_of_ble_eq_true rfl) (by omega) hroom ?_
  refine z_aload_n h dL_law_601 (lf_2 hl) ?_
  refine z_cell (j := 1) (t := i + 1) h hC hl hL rfl (by omega) rfl dL_law_602 dL_law_603 dL_law_604 dL_law_605 dL_law_606 ?_
  refine z_cell (j := 2) (t := i + 2) h hC hl hL rfl (by omega) rfl dL_law_607 dL_law_608 dL_law_609 dL_law_610 dL_law_611 ?_
  refine z_cV1 h hl.1 kVX10_half_ lkL_85 ⟨_, _, _, rfl, rfl⟩ dL_law_612 c2 lvz_10 rfl rfl (Nat.le_of_ble_eq_true rfl) (by omega) hroom ?_
  refine z_lcsame (tgt := 677) h dL_law_615 dL_law_616 (by decide) ?_
  exact kk σ2 hJ2
theorem law_reads (h : Ok C RL cL_law 4 100) (hC : LC b L xs C) (hl : LF C b i lm) (hi : i + 5 ≤ L) (hL : L ≤ 2560) (hP : 0 ≤ P ∧ P ≤ 2146000000) (hJ : JI P σ) (kk : ∀ σ', JI (P + 361001) σ' → Z C 1 677 lm [] NALL σ' 233 25760) : Z C 1 621 lm [] NALL σ 233 25760 := by
  have hroom : 233 ≤ C.2.2.2.1.cells ∧ 25760 ≤ C.2.2.2.1.slots := by rw [z_room hC]; exact ⟨by decide, by decide⟩
  obtain ⟨x, d1, d2, σ1, σ2, hd1, hd2, c1, c2, hJ2⟩ : STP P vI mX9_reads mX10_reads [vI (xs (i + 1)).toInt, vI (xs (i + 2)).toInt] σ := s_reads (x32_r _) (x32_r _) hJ
  refine z_aload_n h dL_law_621 (lf_1 hl) ?_
  refine z_cell (j := 1) (t := i + 1) h hC hl hL rfl (by omega) rfl dL_law_622 dL_law_623 dL_law_624 dL_law_625 dL_law_626 ?_
  refine z_cell (j := 2) (t := i + 2) h hC hl hL rfl (by omega) rfl dL_law_627 dL_law_628 dL_law_629 dL_law_630 dL_law_631 ?_
  refine z_cV1 h hl.1 kVX9_reads lkL_86 ⟨_, _, _, rfl, rfl⟩ dL_law_632 c1 lvz_0 rfl rfl (Nat.le_of_ble_eq_true rfl) (by omega) hroom ?_
  refine z_aload_n h dL_law_635 (lf_2 hl) ?_
  refine z_cell (j := 1) (t := i + 1) h hC hl hL rfl (by omega) rfl dL_law_636 dL_law_637 dL_law_638 dL_law_639 dL_law_640 ?_
  refine z_cell (j := 2) (t := i + 2) h hC hl hL rfl (by omega) rfl dL_law_641 dL_law_642 dL_law_643 dL_law_644 dL_law_645 ?_
  refine z_cV1 h hl.1 kVX10_reads lkL_89 ⟨_, _, _, rfl, rfl⟩ dL_law_646 c2 lvz_10 rfl rfl (Nat.le_of_ble_eq_true rfl) (by omega) hroom ?_
  refine z_icsame (tgt := 677) h dL_law_649 (by decide) ?_
  exact kk σ2 hJ2
theorem law_count (h : Ok C RL cL_law 4 100) (hC : LC b L xs C) (hl : LF C b i lm) (hi : i + 5 ≤ L) (hL : L ≤ 2560) (hP : 0 ≤ P ∧ P ≤ 2146000000) (hJ : JI P σ) (kk : ∀ σ', JI (P + 361001) σ' → Z C 1 677 lm [] NALL σ' 233 25760) : Z C 1 654 lm [] NALL σ 233 25760 := by
  have hroom : 233 ≤ C.2.2.2.1.cells ∧ 25760 ≤ C.2.2.2.1.slots := by rw [z_room hC]; exact ⟨by decide, by decide⟩
  obtain ⟨x, d1, d2, σ1, σ2, hd1, hd2, c1, c2, hJ2⟩ : STP P vI mX9_count mX10_count [vI (xs (i + 1)).toInt] σ := s_count (x32_r _) hJ
  refine z_aload_n h dL_law_654 (lf_1 hl) ?_
  refine z_cell (j := 1) (t := i + 1) h hC hl hL rfl (by omega) rfl dL_law_655 dL_law_656 dL_law_657 dL_law_658 dL_law_659 ?_
  refine z_cV1 h hl.1 kVX9_count lkL_90 ⟨_, _, _, rfl, rfl⟩ dL_law_660 c1 lvz_0 rfl rfl (Nat.le_of_ble_eq_true rfl) (by omega) hroom ?_
  refine z_aload_n h dL_law_663 (lf_2 hl) ?_
  refine z_cell (j := 1) (t := i + 1) h hC hl hL rfl (by omega) rfl dL_law_664 dL_law_665 dL_law_666 dL_law_667 dL_law_668 ?_
  refine z_cV1 h hl.1 kVX10_count lkL_93 ⟨_, _, _, rfl, rfl⟩ dL_law_669 c2 lvz_10 rfl rfl (Nat.le_of_ble_eq_true rfl) (by omega) hroom ?_
  refine z_icsame (tgt := 677) h dL_law_672 (by decide) ?_
  exact kk σ2 hJ2
theorem law_loop (h : Ok C RL cL_law 4 100) (hC : LC b L xs C) (hL : L ≤ 2560) : ∀ (c i : Nat) (lm : Array Slot) (σ : Mm), L ≤ i + c → i ≤ 2565 → LF C b i lm → JI (361001 * (i : Int)) σ → Z C 1 18 lm [] NALL σ 233 25760 := by
  intro c
  induction c with
  | zero =>
    intro i lm σ hic hi5 hl hJ
    refine z_iload_n h dL_law_18 (lf_3 hl) ?_
    refine z_len h hC hl hL dL_law_19 dL_law_20 ?_
    refine z_iconst h dL_law_21 ?_
    refine z_isub h dL_law_22 ?_
    refine z_ic_gt (tgt := 683) h (by omega) dL_law_23 (by decide) (fun _ => ?_) (fun q => absurd (by omega) q)
    refine z_iconst h dL_law_683 ?_
    exact z_law h hC dL_law_684
  | succ c ih =>
    intro i lm σ hic hi5 hl hJ
    refine z_iload_n h dL_law_18 (lf_3 hl) ?_
    refine z_len h hC hl hL dL_law_19 dL_law_20 ?_
    refine z_iconst h dL_law_21 ?_
    refine z_isub h dL_law_22 ?_
    refine z_ic_gt (tgt := 683) h (by omega) dL_law_23 (by decide) (fun _ => ?_) (fun hq => ?_)
    · refine z_iconst h dL_law_683 ?_
      exact z_law h hC dL_law_684
    have hi : i + 5 ≤ L := by omega
    have hP : (0 : Int) ≤ 361001 * (i : Int) ∧ 361001 * (i : Int) ≤ 2146000000 := by omega
    have nx : ∀ σ', JI (361001 * (i : Int) + 361001) σ' → Z C 1 677 lm [] NALL σ' 233 25760 := fun σ' hJ' => by
      refine z_iinc (k0 := 3) (L1 := [(3, vv (bsC C) (vI ((i : Int) + 5))), (0, .ref b), (1, vv (bsC C) (vR 0 0)), (2, vv (bsC C) (vR 10 0))]) h dL_law_677 hl rfl (by decide) rfl (fun lm' hl' => ?_)
      refine z_goto (tgt := 18) h dL_law_680 (by decide) ?_
      refine ih (i + 5) lm' σ' (by omega) (by omega) (lv_mono hl' (fun q hq => ?_)) (JI_mono hJ' (by omega))
      simp only [List.mem_cons, List.not_mem_nil, or_false] at hq ⊢
      rcases hq with rfl | rfl | rfl | rfl
      · exact Or.inr (Or.inl rfl)
      · exact Or.inr (Or.inr (Or.inl rfl))
      · exact Or.inr (Or.inr (Or.inr rfl))
      · exact Or.inl rfl
    refine z_cell0 h hC hl hL (by omega) dL_law_26 dL_law_27 dL_law_28 ?_
    refine z_bipush h dL_law_29 (by decide) ?_
    refine z_iand h dL_law_31 ?_
    have hr := andI_31 (xs i).toInt
    generalize andI (xs i).toInt 31 = v at hr
    by_cases hv : v ≤ 17
    · rcases (by omega : v = 0 ∨ v = 1 ∨ v = 2 ∨ v = 3 ∨ v = 4 ∨ v = 5 ∨ v = 6 ∨ v = 7 ∨ v = 8 ∨ v = 9 ∨ v = 10 ∨ v = 11 ∨ v = 12 ∨ v = 13 ∨ v = 14 ∨ v = 15 ∨ v = 16 ∨ v = 17) with rfl | rfl | rfl | rfl | rfl | rfl | rfl | rfl | rfl | rfl | rfl | rfl | rfl | rfl | rfl | rfl | rfl | rfl
      · exact z_tsIn (tgt := 120) h dL_law_32 (by omega) (by omega) rfl (by decide) (law_feed h hC hl hi hL hP hJ nx)
      · exact z_tsIn (tgt := 173) h dL_law_32 (by omega) (by omega) rfl (by decide) (law_read h hC hl hi hL hP hJ nx)
      · exact z_tsIn (tgt := 186) h dL_law_32 (by omega) (by omega) rfl (by decide) (law_cut h hC hl hi hL hP hJ nx)
      · exact z_tsIn (tgt := 199) h dL_law_32 (by omega) (by omega) rfl (by decide) (law_named h hC hl hi hL hP hJ nx)
      · exact z_tsIn (tgt := 252) h dL_law_32 (by omega) (by omega) rfl (by decide) (law_size h hC hl hi hL hP hJ nx)
      · exact z_tsIn (tgt := 275) h dL_law_32 (by omega) (by omega) rfl (by decide) (law_state h hC hl hi hL hP hJ nx)
      · exact z_tsIn (tgt := 298) h dL_law_32 (by omega) (by omega) rfl (by decide) (law_row h hC hl hi hL hP hJ nx)
      · exact z_tsIn (tgt := 331) h dL_law_32 (by omega) (by omega) rfl (by decide) (law_entry h hC hl hi hL hP hJ nx)
      · exact z_tsIn (tgt := 365) h dL_law_32 (by omega) (by omega) rfl (by decide) (law_reason h hC hl hi hL hP hJ nx)
      · exact z_tsIn (tgt := 388) h dL_law_32 (by omega) (by omega) rfl (by decide) (law_sum h hC hl hi hL hP hJ nx)
      · exact z_tsIn (tgt := 442) h dL_law_32 (by omega) (by omega) rfl (by decide) (law_find h hC hl hi hL hP hJ nx)
      · exact z_tsIn (tgt := 505) h dL_law_32 (by omega) (by omega) rfl (by decide) (law_drop h hC hl hi hL hP hJ nx)
      · exact z_tsIn (tgt := 528) h dL_law_32 (by omega) (by omega) rfl (by decide) (law_builds h hC hl hi hL hP hJ nx)
      · exact z_tsIn (tgt := 541) h dL_law_32 (by omega) (by omega) rfl (by decide) (law_build h hC hl hi hL hP hJ nx)
      · exact z_tsIn (tgt := 574) h dL_law_32 (by omega) (by omega) rfl (by decide) (law_halves h hC hl hi hL hP hJ nx)
      · exact z_tsIn (tgt := 587) h dL_law_32 (by omega) (by omega) rfl (by decide) (law_half h hC hl hi hL hP hJ nx)
      · exact z_tsIn (tgt := 621) h dL_law_32 (by omega) (by omega) rfl (by decide) (law_reads h hC hl hi hL hP hJ nx)
      · exact z_tsIn (tgt := 654) h dL_law_32 (by omega) (by omega) rfl (by decide) (law_count h hC hl hi hL hP hJ nx)
    · exact z_tsOut (tgt := 677) h dL_law_32 (by omega) (by omega) (by decide) (nx σ (JI_mono hJ (by omega)))
end LOPS
