/-! what is made: rows of X in phase 0 -/
def dfl (f j : Nat) : Int := if tyf f j < 3 then 0 else -1
theorem def_null {ty : FieldType} (h : fits ty .null = true) : defaultValue ty = .null := by
  cases ty <;> first | rfl | (exfalso; revert h; decide)
theorem dfl_ok {bs code k : Nat} {ty : FieldType} (ho : okc code ty) : defaultValue ty = vv bs (pv 0 code k (if code < 3 then 0 else -1)) := by
  rcases ho with ⟨rfl, rfl⟩ | ⟨rfl, rfl⟩ | ⟨rfl, rfl⟩ | ⟨h3, ho⟩
  · rfl
  · rfl
  · rfl
  · rw [if_neg (by omega), def_null (ho 0).2.2.2]
    unfold pv
    rw [if_neg (by omega), if_neg (by omega), if_neg (by omega)]
    split <;> rfl
theorem wo_up2 {ca : Nat → ClassId} {bs ph n f k : Nat} {σ : Mm} {g : Nat → Int} (h : ALL[n]? = some (f, k)) : wo ca bs ph n (up2 σ f k g) = wo ca bs ph n σ := by
  unfold wo
  apply List.map_congr_left
  intro q hq
  obtain ⟨i, hi⟩ := List.getElem?_of_mem hq
  rw [List.getElem?_take] at hi
  split at hi
  · have h1 := all_inv hi
    have h2 := all_inv h
    have hne : ¬ (q.1 = f ∧ q.2 = k) := fun z => by
      have e : num q.1 q.2 = num f k := by rw [z.1, z.2]
      have : num f k = n := h2.1
      omega
    simp [up2, hne]
  · cases hi
theorem lv_new {n f k : Nat} (h : ALL[n]? = some (f, k)) : Lv (n + 1) f k := by
  have := all_inv h
  exact ⟨this.2, by have : num f k = n := this.1; omega⟩
theorem rl_push {D : va_G} {ca : Nat → ClassId} {bs ph n f k : Nat} {σ : Mm} {g : Nat → Int} {H0 H H1 : Heap} {locs : List Jvm.Loc} (hR : Rl D ca bs ph n σ H0 H locs) (hn : ALL[n]? = some (f, k)) (z : H1.size = H.size + 1) (o1 : ∀ q : Nat, q < H.size → H1[q]? = H[q]?) (he : va_at D vwCl (H.size, cel ca bs ph f k g) H1) : Rl D ca bs ph (n + 1) (up2 σ f k g) H0 H1 locs := by
  obtain ⟨h1, h2, h3⟩ := hR
  have hk : num f k = n := (all_inv hn).1
  refine ⟨by omega, ?_, Nat.le_trans h3.1 (by omega), fun x x1 x2 => (o1 x (Nat.lt_of_lt_of_le x1 h3.1)).trans (h3.2.1 x x1 x2), h3.2.2⟩
  rw [wo_succ hn, wo_up2 hn]
  refine (h2.kept (fun i q hq => o1 q.1 ((h2 i q hq).lt))).app (fun i q hq => ?_)
  have hi : i < 1 := (List.getElem?_eq_some_iff.mp hq).1
  obtain rfl : i = 0 := by omega
  cases hq
  have e : up2 σ f k g f k = g := by unfold up2; rw [if_pos ⟨rfl, rfl⟩]
  rw [e, hk, ← h1]
  exact he
section AL
variable {C : Cx} {own : String} {cc : ByteArray} {nL d pc n nc ns : Nat} {ls : List (Nat × PV)} {st : List PV} {σ : Mm}
theorem x_new (h : Ok C own cc nL d) {idx f k ci N : Nat} {Cn : String} {T : u_T} {ty : Nat → FieldType} (hC : Cl f ci Cn T N ty) (hcl : Cond.classLink own idx Cn ∈ TB) (hinst : Cond.instantiable Cn N ∈ TB) (hini : Cond.initialized Cn ∈ TB) (hn : ALL[n]? = some (f, k)) (hd : decode cc pc = .ok (.new idx, 3)) (hroom : nc + 1 ≤ C.2.2.2.1.cells ∧ ns + N ≤ C.2.2.2.1.slots) (kk : X C 0 (pc + 3) ls (vR f k :: st) (n + 1) (up2 σ f k (dfl f)) (nc + 1) (ns + N)) : X C 0 pc ls st n σ nc ns := by
  obtain ⟨p, l, e, R, s, m, args, below, meth, c, Q, D, ca, bs⟩ := C
  intro H locs lm hR hm
  obtain ⟨h1, h2, h3, h4, h5, h6, h7, h8⟩ := hC
  have hKn := h.2.2.2.2.2.1.1.1 ci _ h2
  refine W.newcK h.1 h.2.1 h.2.2.2.1 (h.2.2.2.2.1 _ hcl) (h.2.2.2.2.1 _ hinst) (h.2.2.2.2.1 _ hini) rfl hd hroom.1 hroom.2 hKn.2.1 rfl fun H1 kC hkC e1 z1 o1 => ?_
  have hk : num f k = n := (all_inv hn).1
  have eq : (H.size : Nat) = bs + num f k := by rw [hk]; exact hR.1
  have g := kk H1 locs lm (rl_push hR hn z1 o1 ?_) hm
  · rw [show (vR f k :: st).map (vv bs) = Value.ref H.size :: st.map (vv bs) by rw [eq]; rfl] at g
    exact g
  · rw [cel_obj h1]
    refine ⟨_, h2, (u_born ty h.2.2.2.2.1 h3 hKn hkC e1 h4).to (fun j hj => ?_)⟩
    unfold vp_V
    rw [List.getD_eq_getElem?_getD, fs_at (ph := 0) (bs := bs) (k := k) (g := dfl f) h6 hj rfl]
    exact dfl_ok (h7 j hj)
/-- an array of numbers -/
theorem x_newa (h : Ok C own cc nL d) {atype : ArrayType} {f k ai len : Nat} {x : Int} (ht : Cond.arrayClass (newarray.typeOf atype) ∈ TB) (hkt : ∀ ca : Nat → ClassId, ∃ i : Nat, (tyl ca)[i]? = some (ca ai, newarray.typeOf atype)) (hf : kd f = (ai + 1, len)) (hcel : ∀ ca : Nat → ClassId, ∀ bs : Nat, ∀ g : Nat → Int, (∀ j, g j = 0) → ∃ a, cel ca bs 0 f k g = .inl (ca ai, a) ∧ vp_cell (ca ai) a = arrV (ca ai) len (fun _ => defaultValue (newarray.typeOf atype))) (hnm : ∀ (U : State) (cA : ClassId), va_RA U cA (newarray.typeOf atype) ↔ U.vm.findClass ("[" ++ (newarray.typeOf atype).toString) = some cA) (hn : ALL[n]? = some (f, k)) (hz : ∀ j, σ f k j = 0) (hd : decode cc pc = .ok (.newarray atype, 2)) (hx : x = (len : Int)) (hl : len ≤ 100000) (hcb : componentBytes (newarray.typeOf atype) ≤ 8) (hroom : nc + 1 ≤ C.2.2.2.1.cells ∧ ns + len ≤ C.2.2.2.1.slots) (kk : X C 0 (pc + 2) ls (vR f k :: st) (n + 1) σ (nc + 1) (ns + len)) : X C 0 pc ls (vI x :: st) n σ nc ns := by
  obtain ⟨p, l, e, R, s, m, args, below, meth, c, Q, D, ca, bs⟩ := C
  intro H locs lm hR hm
  subst hx
  have hk : num f k = n := (all_inv hn).1
  have eq : (H.size : Nat) = bs + num f k := by rw [hk]; exact hR.1
  have en : (Int32.ofInt (len : Int)).toNatClampNeg = len := by
    show (Int32.ofInt (len : Int)).toInt.toNat = len
    rw [Int32.toInt_ofInt_of_le (by omega) (by omega)]
    omega
  have hn0 : ¬ Int32.ofInt (len : Int) < 0 := by
    rw [i32_0, i32_lt ⟨by omega, by omega⟩ ⟨by omega, by omega⟩]
    omega
  refine va_newaK (N := len) (rest := st.map (vv bs)) h.1 h.2.1 (h.2.2.2.2.1 _ ht) rfl hd rfl hn0 en (Nat.le_trans (Nat.mul_le_mul hl hcb) (by decide)) hroom.1 hroom.2 rfl fun H1 cA e1 z1 o1 hAr hNm => ?_
  have hca : cA = ca ai := by
    obtain ⟨i, hi⟩ := hkt ca
    have h2 := (hnm s (ca ai)).mp (h.2.2.2.2.2.1.1.2 i _ hi).2
    exact Option.some.inj (hNm.symm.trans h2)
  subst hca
  have hup : up2 σ f k (σ f k) = σ := by
    funext f' k'
    unfold up2
    split
    · next z => obtain ⟨rfl, rfl⟩ := z; rfl
    · rfl
  obtain ⟨a, a1, a2⟩ := hcel ca bs (σ f k) hz
  have g := kk H1 locs lm (by
    have r := rl_push (g := σ f k) hR hn z1 o1 (by
      rw [a1]
      show H1[H.size]? = some (vp_cell (ca ai) a)
      rw [a2]
      exact e1)
    rw [hup] at r
    exact r) hm
  rw [show (vR f k :: st).map (vv bs) = Value.ref H.size :: st.map (vv bs) by rw [eq]; rfl] at g
  exact g
theorem x_newI (h : Ok C own cc nL d) {f k len : Nat} {x : Int} (hf : kd f = (1, len)) (hn : ALL[n]? = some (f, k)) (hz : ∀ j, σ f k j = 0) (hd : decode cc pc = .ok (.newarray .int, 2)) (hx : x = (len : Int)) (hl : len ≤ 100000) (hroom : nc + 1 ≤ C.2.2.2.1.cells ∧ ns + len ≤ C.2.2.2.1.slots) (kk : X C 0 (pc + 2) ls (vR f k :: st) (n + 1) σ (nc + 1) (ns + len)) : X C 0 pc ls (vI x :: st) n σ nc ns :=
  x_newa h (atype := .int) (ai := 0) ak_int (fun ca => ⟨0, rfl⟩) hf (fun ca bs g hg => ⟨_, cel_int hf (Or.inl rfl), by rw [vp_cell_i]; congr 1; funext j; rw [hg j]; rfl⟩) (fun U cA => Iff.rfl) hn hz hd hx hl (by decide) hroom kk
theorem x_newB (h : Ok C own cc nL d) {f k len : Nat} {x : Int} (hf : kd f = (2, len)) (hn : ALL[n]? = some (f, k)) (hz : ∀ j, σ f k j = 0) (hd : decode cc pc = .ok (.newarray .byte, 2)) (hx : x = (len : Int)) (hl : len ≤ 100000) (hroom : nc + 1 ≤ C.2.2.2.1.cells ∧ ns + len ≤ C.2.2.2.1.slots) (kk : X C 0 (pc + 2) ls (vR f k :: st) (n + 1) σ (nc + 1) (ns + len)) : X C 0 pc ls (vI x :: st) n σ nc ns :=
  x_newa h (atype := .byte) (ai := 1) ak_byte (fun ca => ⟨1, rfl⟩) hf (fun ca bs g hg => ⟨_, cel_int hf (Or.inr (Or.inl rfl)), by rw [vp_cell_i]; congr 1; funext j; rw [hg j]; rfl⟩) (fun U cA => Iff.rfl) hn hz hd hx hl (by decide) hroom kk
theorem x_newZ (h : Ok C own cc nL d) {f k len : Nat} {x : Int} (hf : kd f = (3, len)) (hn : ALL[n]? = some (f, k)) (hz : ∀ j, σ f k j = 0) (hd : decode cc pc = .ok (.newarray .boolean, 2)) (hx : x = (len : Int)) (hl : len ≤ 100000) (hroom : nc + 1 ≤ C.2.2.2.1.cells ∧ ns + len ≤ C.2.2.2.1.slots) (kk : X C 0 (pc + 2) ls (vR f k :: st) (n + 1) σ (nc + 1) (ns + len)) : X C 0 pc ls (vI x :: st) n σ nc ns :=
  x_newa h (atype := .boolean) (ai := 2) ak_boolean (fun ca => ⟨2, rfl⟩) hf (fun ca bs g hg => ⟨_, cel_int hf (Or.inr (Or.inr rfl)), by rw [vp_cell_i]; congr 1; funext j; rw [hg j]; rfl⟩) (fun U cA => Iff.rfl) hn hz hd hx hl (by decide) hroom kk
theorem x_newL (h : Ok C own cc nL d) {f k len : Nat} {x : Int} (hf : kd f = (4, len)) (hn : ALL[n]? = some (f, k)) (hz : ∀ j, σ f k j = 0) (hd : decode cc pc = .ok (.newarray .long, 2)) (hx : x = (len : Int)) (hl : len ≤ 100000) (hroom : nc + 1 ≤ C.2.2.2.1.cells ∧ ns + len ≤ C.2.2.2.1.slots) (kk : X C 0 (pc + 2) ls (vR f k :: st) (n + 1) σ (nc + 1) (ns + len)) : X C 0 pc ls (vI x :: st) n σ nc ns :=
  x_newa h (atype := .long) (ai := 3) ak_long (fun ca => ⟨3, rfl⟩) hf (fun ca bs g hg => ⟨_, cel_long hf, by rw [vp_cell_l]; congr 1; funext j; rw [hg j]; rfl⟩) (fun U cA => Iff.rfl) hn hz hd hx hl (by decide) hroom kk
/-- an array of TABLES -/
theorem x_anew (h : Ok C own cc nL d) {idx f k len : Nat} {x : Int} (hf : kd f = (5, len)) (hcl : Cond.classLink own idx RX2 ∈ TB) (hn : ALL[n]? = some (f, k)) (hd : decode cc pc = .ok (.anewarray idx, 3)) (hx : x = (len : Int)) (hl : len ≤ 100000) (hroom : nc + 1 ≤ C.2.2.2.1.cells ∧ ns + len ≤ C.2.2.2.1.slots) (kk : X C 0 (pc + 3) ls (vR f k :: st) (n + 1) (up2 σ f k (fun _ => -1)) (nc + 1) (ns + len)) : X C 0 pc ls (vI x :: st) n σ nc ns := by
  obtain ⟨p, l, e, R, s, m, args, below, meth, c, Q, D, ca, bs⟩ := C
  intro H locs lm hR hm
  subst hx
  have hk : num f k = n := (all_inv hn).1
  have eq : (H.size : Nat) = bs + num f k := by rw [hk]; exact hR.1
  have en : (Int32.ofInt (len : Int)).toNatClampNeg = len := by
    show (Int32.ofInt (len : Int)).toInt.toNat = len
    rw [Int32.toInt_ofInt_of_le (by omega) (by omega)]
    omega
  have hn0 : ¬ Int32.ofInt (len : Int) < 0 := by
    rw [i32_0, i32_lt ⟨by omega, by omega⟩ ⟨by omega, by omega⟩]
    omega
  refine W.anew h.1 h.2.1 h.2.2.2.1 (h.2.2.2.2.1 _ hcl) (va_AO.use h.2.2.2.2.2.1.2.1) rfl hd rfl hn0 (by rw [en]; omega) hroom.1 (by rw [en]; exact hroom.2) fun cA kA comp f1 f2 f3 f4 => ?_
  rw [en]
  generalize hH1 : H.push ({ cls := cA, slots := Array.replicate len .null, vm := .none } : Cell) = H1
  have z1 : H1.size = H.size + 1 := by rw [← hH1, Array.size_push]
  have e1 : H1[H.size]? = some (arrV cA len (fun _ => .null)) := by rw [← hH1, Array.getElem?_push_size, ← arrV_new]
  have o1 : ∀ q : Nat, q < H.size → H1[q]? = H[q]? := fun q hq => by rw [← hH1, Array.getElem?_push, if_neg (Nat.ne_of_lt hq)]
  have hca : cA = ca 4 := by
    obtain ⟨-, -, -, -, -, h4⟩ := (h.2.2.2.2.2.1.1.2 4 _ (rfl : (tyl ca)[4]? = some (ca 4, FieldType.object RX2))).2
    exact Option.some.inj (f1.symm.trans h4)
  subst hca
  have g := kk H1 locs lm (rl_push hR hn z1 o1 (by
    rw [cel_ref hf]
    show H1[H.size]? = some (vp_cell _ _)
    rw [vp_cell_q]
    exact e1)) hm
  rw [show (vR f k :: st).map (vv bs) = Value.ref H.size :: st.map (vv bs) by rw [eq]; rfl] at g
  exact g
/-- a final field is set -/
theorem x_putF (h : Ok C own cc nL d) {idx f j code k t : Nat} {x : Int} (hI : Ini C) (hF : Fl own idx f j code true) {ci0 N0 : Nat} {T0 : u_T} {ty0 : Nat → FieldType} (hC0 : Cl f ci0 own T0 N0 ty0) (h5 : 500 ≤ code) (hx : x = (t : Int)) (hk : Lv n f k) (hd : decode cc pc = .ok (.putfield idx, 3)) (kk : X C 0 (pc + 3) ls st n (up3 σ f k j x) nc ns) : X C 0 pc ls (vR (code % 100) t :: vR f k :: st) n σ nc ns := by
  obtain ⟨p, l, e, R, s, m, args, below, meth, c, Q, D, ca, bs⟩ := C
  intro H locs lm hR hm
  obtain ⟨ci, Cn, T, N, ty, ⟨h1, h2, h3, h4, h5', h6, h7, h8⟩, hj, hc, hw, hfin⟩ := hF
  have ho : own = Cn := by
    have e1 : ci0 = ci := congrArg Prod.snd (hC0.1.symm.trans h1)
    have e2 := hC0.2.1
    rw [e1] at e2
    exact congrArg Prod.fst (Option.some.inj (e2.symm.trans h2))
  have hq : pv 0 code k x = vR (code % 100) t := by
    unfold pv
    rw [if_neg (by omega), if_neg (by omega), if_neg (by omega), if_neg (by omega), if_pos rfl, if_neg (by omega), hx, Int.toNat_natCast]
  have hat := wo_at (ca := ca) (bs := bs) (ph := 0) (σ := σ) hk
  rw [cel_obj h1] at hat
  have hnf := pv_ok bs (hc ▸ h7 j hj) hq (fun z => by omega)
  have hap := va_apart (own := own) (D := D) h.2.2.2.2.1 h3 ty h4 h5' h.2.2.2.2.2.1.1 h2
  obtain ⟨r, g1, cell, q1, q2, q3, q4⟩ := hR.2.1 (num f k) _ hat
  have hr : r = (Cn, T, N) := Option.some.inj (g1.symm.trans h2)
  subst hr
  obtain ⟨hS, hfc, kC, hkC, hkind⟩ := h.2.2.2.2.2.1.1.1 ci _ h2
  obtain ⟨cf, kf, fi, ff, hi, hsl⟩ := hS j hj
  have hlay := h.2.2.2.2.1 _ (h3 _ (u_in_lay hj))
  unfold u_lay at hlay
  rw [if_pos hfin] at hlay
  have hst := (u_facts hfc hkC (u_lays h.2.2.2.2.1 h3 hj) hi).1
  have hcf : m.cls = cf := by
    obtain ⟨_, _, c', _, _, _, -, -, hf', -, -, -, hown2, -⟩ := Cond.laysFinal_spec hlay
    have e1 : c' = cf := by have := hi.symm.trans hf'; simp at this; exact this.1.symm
    rw [h8 j hj, ← ho] at hown2
    rw [← e1]; exact Option.some.inj (h.2.2.2.1.symm.trans hown2)
  have h6' := u_fits hfc hkC hkind (Or.inr hlay) hi (h4 j hj) hnf.1 hnf.2
  have hi2 : s.fieldFound? Cn (T j).2.1 (T j).2.2.1 = some (cf, kf, fi, ff) := by rw [← h8 j hj]; exact hi
  refine W.putFinK h.1 h.2.1 h.2.2.2.1 (h.2.2.2.2.1 _ hw) hi2 hst hcf hI (by rw [q2]; exact h6') q1 q3 (by rw [hsl]; exact k2_hasslot (q4 j hj)) rfl rfl hd fun H' e1 e2 e3 => ?_
  rw [hsl] at e1 ⊢
  refine kk H' _ lm ?_ hm
  rw [up3_up2]
  refine rl_set hR hk ?_ e2 e3
  rw [cel_obj h1]
  refine ⟨_, h2, t_OB.to (V := updV (vp_V ((tyT.getD f []).mapIdx (fun j t => vv bs (pv 0 t k (σ f k j))))) j (vv bs (vR (code % 100) t))) ⟨_, e1, q2, q3, t_set q4 hap hj _⟩ (fun i _ => ?_)⟩
  rw [← hq]
  exact fs_V h6 hj hc i
/-- a final field is read in phase 0 -/
theorem x_getF (h : Ok C own cc nL d) {idx f j code k t : Nat} {fin : Bool} (hF : Fl own idx f j code fin) (h5 : 500 ≤ code) (hk : Lv n f k) (hd : decode cc pc = .ok (.getfield idx, 3)) (hx : σ f k j = (t : Int)) (kk : X C 0 (pc + 3) ls (vR (code % 100) t :: st) n σ nc ns) : X C 0 pc ls (vR f k :: st) n σ nc ns := by
  refine x_get h hF hk hd ?_ kk
  unfold pv
  rw [if_neg (by omega), if_neg (by omega), if_neg (by omega), if_neg (by omega), if_pos rfl, hx, if_neg (by omega), Int.toNat_natCast]
/-- a TABLE goes into the array of TABLES -/
theorem x_aast (h : Ok C own cc nL d) {k i len t : Nat} {x : Int} (hf : kd 12 = (5, len)) (hk : Lv n 12 k) (ht : Lv n 5 t) (hd : decode cc pc = .ok (.aastore, 1)) (hx : x = (i : Int)) (hi : i < len) (kk : X C 0 (pc + 1) ls st n (up3 σ 12 k i (t : Int)) nc ns) : X C 0 pc ls (vR 5 t :: vI x :: vR 12 k :: st) n σ nc ns := by
  obtain ⟨p, l, e, R, s, m, args, below, meth, c, Q, D, ca, bs⟩ := C
  intro H locs lm hR hm
  obtain ⟨hin, hcl⟩ := idx_in hx hi (by have := kd_small (f := 12); rw [hf] at this; exact this)
  have hat := wo_at (ca := ca) (bs := bs) (ph := 0) (σ := σ) hk
  rw [cel_ref hf] at hat
  have hat2 := wo_at (ca := ca) (bs := bs) (ph := 0) (σ := σ) ht
  obtain ⟨c1, c2, -⟩ := cl_2
  rw [cel_obj c1] at hat2
  have hlt : (Int32.ofInt x).toNatClampNeg < len := by rw [hcl]; exact hi
  have h0 : ¬ Int32.ofInt x < 0 := fun q => hin (Or.inl q)
  obtain ⟨r', hr', cellV, g1, g2, g3, -⟩ := hR.2.1 (num 5 t) _ hat2
  have hcls := (h.2.2.2.2.2.1.1.1 2 _ c2).2
  obtain ⟨kA, comp, k1, k2, k3, -⟩ := (h.2.2.2.2.2.1.1.2 4 _ (rfl : (tyl ca)[4]? = some (ca 4, FieldType.object RX2))).2
  have hcomp : comp = D.1 2 := Option.some.inj (k3.symm.trans hcls.1)
  subst hcomp
  obtain ⟨kC, hkC, -⟩ := hcls.2
  refine W.aast h.1 h.2.1 (hR.2.1 (num 12 k) _ hat) (fun q h => by cases h) (fun h => by cases h) k1 k2 rfl hkC ⟨h0, by show _ < (arrV _ _ _).slots.size; rw [arrV_size]; exact hlt⟩ g1 (fun q h => by rw [g3] at h; cases h) (by rw [g2]; exact hkC) (by rw [g2]; exact va_assign hcls) rfl rfl hd fun H1 e z oq => ?_
  refine kk H1 _ lm ?_ hm
  rw [up3_up2]
  refine rl_set hR hk ?_ z oq
  rw [cel_ref hf]
  show H1[_]? = some (vp_cell _ _)
  rw [e, vp_cell_q, vp_cell_q, arrV_store, hcl]
  congr 2
  funext q
  by_cases hq : q = i
  · subst hq
    simp [updV, va_rf, rfo, up1]
    rw [if_neg (by omega : ¬ (t : Int) < 0)]
  · simp [updV, up1, hq]
end AL
