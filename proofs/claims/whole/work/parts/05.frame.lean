/-! the picture of memory: numbers by family, member, place; and the judgement X: from here the method ends as its context says -/
abbrev PV : Type := Int ⊕ Int ⊕ Option (Nat × Nat)
abbrev vI (x : Int) : PV := .inl x
abbrev vL (x : Int) : PV := .inr (.inl x)
abbrev vR (f k : Nat) : PV := .inr (.inr (some (f, k)))
abbrev vN : PV := .inr (.inr none)
abbrev Mm : Type := Nat → Nat → Nat → Int
def up3 (σ : Mm) (f k j : Nat) (x : Int) : Mm := fun f' k' j' => if f' = f ∧ k' = k ∧ j' = j then x else σ f' k' j'
def up2 (σ : Mm) (f k : Nat) (g : Nat → Int) : Mm := fun f' k' => if f' = f ∧ k' = k then g else σ f' k'
def up1 (g : Nat → Int) (j : Nat) (x : Int) : Nat → Int := fun j' => if j' = j then x else g j'
theorem up3_up2 (σ : Mm) (f k j : Nat) (x : Int) : up3 σ f k j x = up2 σ f k (up1 (σ f k) j x) := by
  funext f' k' j'
  unfold up3 up2 up1
  by_cases h : f' = f ∧ k' = k
  · obtain ⟨rfl, rfl⟩ := h
    by_cases h2 : j' = j <;> simp [h2]
  · have h3 : ¬ (f' = f ∧ k' = k ∧ j' = j) := fun q => h ⟨q.1, q.2.1⟩
    simp [h, h3]
/-- a place's number as a value -/
def vv (bs : Nat) : PV → Value
  | .inl x => .int (Int32.ofInt x)
  | .inr (.inl x) => .long (Int64.ofInt x)
  | .inr (.inr (some (f, k))) => .ref (bs + num f k)
  | .inr (.inr none) => .null
def pcat : PV → Nat
  | .inr (.inl _) => 2
  | _ => 1
theorem vv_cat (bs : Nat) (v : PV) : (vv bs v).category = pcat v := by
  rcases v with x | x | ⟨⟨f, k⟩⟩ | _ <;> rfl
/-- the member that a final field of member k names -/
def fmem (code k : Nat) : Nat := if 700 ≤ code then k else if 600 ≤ code then 1 else 0
/-- what a field of this code holds -/
def pv (ph code k : Nat) (x : Int) : PV :=
  if code = 0 then vI x else if code = 1 then vL x else if code = 2 then vI x
  else if code < 500 then (if x < 0 then vN else vR (code - 10) x.toNat)
  else if ph = 0 then (if x < 0 then vN else vR (code % 100) x.toNat)
  else vR (code % 100) (fmem code k)
def rfo (bs ph k j : Nat) (x : Int) : Option Nat := if ph = 0 then (if x < 0 then none else some (bs + num 5 x.toNat)) else some (bs + num 5 (12 * k + j))
def cel (ca : Nat → ClassId) (bs ph f k : Nat) (g : Nat → Int) : va_E :=
  if (kd f).1 = 0 then .inr ((kd f).2, (tyT.getD f []).mapIdx (fun j t => vv bs (pv ph t k (g j))))
  else if (kd f).1 = 4 then .inl (ca 3, (kd f).2, .inr (.inl (fun j => Int64.ofInt (g j))))
  else if (kd f).1 = 5 then .inl (ca 4, (kd f).2, .inr (.inr (.inr (.inr (fun j => rfo bs ph k j (g j))))))
  else .inl (ca ((kd f).1 - 1), (kd f).2, .inl (fun j => Int32.ofInt (g j)))
def wo (ca : Nat → ClassId) (bs ph n : Nat) (σ : Mm) : va_W := (ALL.take n).map (fun q => (bs + num q.1 q.2, cel ca bs ph q.1 q.2 (σ q.1 q.2)))
/-- a cell that is there -/
def Lv (n f k : Nat) : Prop := k < cnt f ∧ num f k < n
theorem wo_at {ca : Nat → ClassId} {bs ph n f k : Nat} {σ : Mm} (h : Lv n f k) : (wo ca bs ph n σ)[num f k]? = some (bs + num f k, cel ca bs ph f k (σ f k)) := by
  unfold wo
  rw [List.getElem?_map, List.getElem?_take, if_pos h.2, all_num h.1]
  rfl
theorem wo_set {ca : Nat → ClassId} {bs ph n f k : Nat} {σ : Mm} {g : Nat → Int} (h : Lv n f k) : (wo ca bs ph n σ).set (num f k) (bs + num f k, cel ca bs ph f k g) = wo ca bs ph n (up2 σ f k g) := by
  apply List.ext_getElem?
  intro i
  by_cases hi : i = num f k
  · subst hi
    rw [wo_at (σ := up2 σ f k g) h, List.getElem?_set_self (List.getElem?_eq_some_iff.mp (wo_at (ca := ca) (bs := bs) (ph := ph) (σ := σ) h)).1]
    simp [up2]
  · rw [List.getElem?_set_ne (Ne.symm hi)]
    unfold wo
    rw [List.getElem?_map, List.getElem?_map]
    cases hq : (ALL.take n)[i]? with
    | none => rfl
    | some q =>
      rw [List.getElem?_take] at hq
      split at hq
      · have h2 := all_inv hq
        have hne : ¬ (q.1 = f ∧ q.2 = k) := fun z => hi (by rw [← h2.1, z.1, z.2])
        simp [up2, hne]
      · cases hq
theorem wo_succ {ca : Nat → ClassId} {bs ph n f k : Nat} {σ : Mm} (h : ALL[n]? = some (f, k)) : wo ca bs ph (n + 1) σ = wo ca bs ph n σ ++ [(bs + num f k, cel ca bs ph f k (σ f k))] := by
  unfold wo
  rw [List.take_add_one, h]
  simp
theorem wo_D (ca : Nat → ClassId) (bs ph n : Nat) (σ : Mm) : va_D (fun q => bs ≤ q) (wo ca bs ph n σ) := by
  have key : ∀ (i : Nat) (p : Nat × va_E), (wo ca bs ph n σ)[i]? = some p → p.1 = bs + i := by
    intro i p hp
    unfold wo at hp
    rw [List.getElem?_map] at hp
    cases hq : (ALL.take n)[i]? with
    | none => rw [hq] at hp; cases hp
    | some q =>
      rw [hq] at hp
      rw [List.getElem?_take] at hq
      split at hq
      · cases hp
        show bs + num q.1 q.2 = bs + i
        rw [(all_inv hq).1]
      · cases hq
  refine ⟨fun i j p q hp hq hpq => ?_, fun k q hk => ?_⟩
  · have h1 := key i p hp
    have h2 := key j q hq
    omega
  · show bs ≤ q.1
    rw [key k q hk]
    omega
def tyl (ca : Nat → ClassId) : List (ClassId × FieldType) := [(ca 0, .int), (ca 1, .byte), (ca 2, .boolean), (ca 3, .long), (ca 4, .object RX2)]
/-- what the tables say at a state: classes, array classes, nest mates -/
def KK (D : va_G) (ca : Nat → ClassId) (U : State) : Prop := va_K D vwCl (tyl ca) U ∧ va_AO RX2 U ∧ ∀ w ∈ nestL, va_Nw w U
theorem nest_kind : ∀ w ∈ nestL, ∃ a i x h, w = .methodLinkNest a i x h := by
  intro w hw
  simp only [nestL, List.mem_cons, List.not_mem_nil, or_false] at hw
  rcases hw with rfl | rfl | rfl | rfl | rfl | rfl | rfl | rfl | rfl | rfl | rfl <;> exact ⟨_, _, _, _, rfl⟩
theorem KK.warm {D : va_G} {ca : Nat → ClassId} {s U : State} (hW : s.WarmedH U.vm) (h : KK D ca s) : KK D ca U := by
  refine ⟨va_K.moved hW.alike h.1, va_AO.moved hW.alike h.2.1, fun w hw => ?_⟩
  obtain ⟨a, i, x, hh, rfl⟩ := nest_kind w hw
  exact va_Nw.warmM hW (h.2.2 _ hw)
theorem KK.same {D : va_G} {ca : Nat → ClassId} {s U : State} (hv : s.vm = U.vm) (h : KK D ca s) : KK D ca U := by
  have ha : s.vm.Alike U.vm := by rw [hv]; exact Vm.Alike.refl _
  refine ⟨va_K.moved ha h.1, va_AO.moved ha h.2.1, fun w hw => ?_⟩
  obtain ⟨a, i, x, hh, rfl⟩ := nest_kind w hw
  exact va_Nw.same rfl hv (h.2.2 _ hw)
/-- memory's picture at a heap, what has not changed since the start of the method -/
def Rl (D : va_G) (ca : Nat → ClassId) (bs ph n : Nat) (σ : Mm) (H0 H : Heap) (locs : List Loc) : Prop := H.size = bs + n ∧ va_P D vwCl (wo ca bs ph n σ) H ∧ va_S (fun q => bs ≤ q) H0 H locs
abbrev Cx : Type := Program × Launch × Env × Room × State × MethodId × Array Value × List Frame × Method × Code × (State → Prop) × va_G × (Nat → ClassId) × Nat
def lvs (bs : Nat) (ls : List (Nat × PV)) : List (Nat × Value) := ls.map (fun q => (q.1, vv bs q.2))
def X : Cx → Nat → Nat → List (Nat × PV) → List PV → Nat → Mm → Nat → Nat → Prop
  | (p, l, e, R, s, m, args, below, meth, c, Q, D, ca, bs), ph, pc, ls, st, n, σ, nc, ns => ∀ (H : Heap) (locs : List Loc) (lm : Array Slot), Rl D ca bs ph n σ s.heap H locs → lv_has lm c.maxLocals (lvs bs ls) → W p l e R s m args below meth c H locs nc ns Q (F0 m pc lm (st.map (vv bs)))
/-- the context of a method: class, code, locals, depth -/
def Ok : Cx → String → ByteArray → Nat → Nat → Prop
  | (p, l, e, R, s, m, args, below, meth, c, Q, D, ca, bs), own, cc, nL, d => p.tables.exec = Jvm.exec ∧ c.code = cc ∧ c.maxLocals = nL ∧ s.vm.findClass own = some m.cls ∧ (∀ w ∈ TB, w.before args s = true) ∧ KK D ca s ∧ bs ≤ s.heap.size ∧ d ≤ R.frames ∧ 64 * d ≤ R.locals
/-- locals: read, write, fewer -/
def lget : List (Nat × PV) → Nat → Option PV
  | [], _ => none
  | (j, v) :: r, i => if j = i then some v else lget r i
def lput1 (i : Nat) (v : PV) (ls : List (Nat × PV)) : List (Nat × PV) := (i, v) :: ls.filter (fun q => !(q.1 == i) && !(q.1 + 1 == i && pcat q.2 == 2))
def lput2 (i : Nat) (v : PV) (ls : List (Nat × PV)) : List (Nat × PV) := (i, v) :: ls.filter (fun q => !(q.1 == i) && (!(q.1 == i + 1) && !(q.1 + 1 == i && pcat q.2 == 2)))
def lsub : List (Nat × PV) → List (Nat × PV) → Prop
  | [], _ => True
  | (i, v) :: r, ls => lget ls i = some v ∧ lsub r ls
theorem lget_mem : ∀ {ls : List (Nat × PV)} {i : Nat} {v : PV}, lget ls i = some v → (i, v) ∈ ls
  | [], i, v, h => by cases h
  | (j, w) :: r, i, v, h => by
    unfold lget at h
    split at h
    · next e => subst e; cases h; exact List.mem_cons_self
    · exact List.mem_cons_of_mem _ (lget_mem h)
theorem lv_get {bs nL : Nat} {lm : Array Slot} {ls : List (Nat × PV)} {i : Nat} {v : PV} (h : lv_has lm nL (lvs bs ls)) (hg : lget ls i = some v) : lm[i]? = some (.val (vv bs v)) := h.2.2 (i, vv bs v) (List.mem_map.mpr ⟨(i, v), lget_mem hg, rfl⟩)
theorem lvs_1 (bs i : Nat) (v : PV) (ls : List (Nat × PV)) : (i, vv bs v) :: (lvs bs ls).filter (fun q => !(q.1 == i) && !(q.1 + 1 == i && q.2.category == 2)) = lvs bs (lput1 i v ls) := by
  unfold lvs lput1
  rw [List.filter_map, List.map_cons]
  congr 2
  apply List.filter_congr
  intro q _
  simp [Function.comp, vv_cat]
theorem lvs_2 (bs i : Nat) (v : PV) (ls : List (Nat × PV)) : (i, vv bs v) :: (lvs bs ls).filter (fun q => !(q.1 == i) && (!(q.1 == i + 1) && !(q.1 + 1 == i && q.2.category == 2))) = lvs bs (lput2 i v ls) := by
  unfold lvs lput2
  rw [List.filter_map, List.map_cons]
  congr 2
  apply List.filter_congr
  intro q _
  simp [Function.comp, vv_cat]
theorem lsub_has {bs nL : Nat} {lm : Array Slot} : ∀ {r ls : List (Nat × PV)}, lsub r ls → lv_has lm nL (lvs bs ls) → lv_has lm nL (lvs bs r) := by
  intro r ls h hl
  refine ⟨hl.1, hl.2.1, ?_⟩
  induction r with
  | nil => intro q hq; cases hq
  | cons a r ih =>
    obtain ⟨i, v⟩ := a
    obtain ⟨h1, h2⟩ := h
    intro q hq
    rcases List.mem_cons.mp hq with rfl | hq
    · exact lv_get hl h1
    · exact ih h2 q hq
section ROWS
variable {C : Cx} {own : String} {cc : ByteArray} {nL d ph pc n nc ns : Nat} {ls : List (Nat × PV)} {st : List PV} {σ : Mm}
theorem x_loc {ls' : List (Nat × PV)} (h : lsub ls' ls) (k : X C ph pc ls' st n σ nc ns) : X C ph pc ls st n σ nc ns := by
  obtain ⟨p, l, e, R, s, m, args, below, meth, c, Q, D, ca, bs⟩ := C
  intro H locs lm hR hl
  exact k H locs lm hR (lsub_has h hl)
theorem x_mem {σ' : Mm} (h : σ = σ') (k : X C ph pc ls st n σ' nc ns) : X C ph pc ls st n σ nc ns := h ▸ k
theorem x_iload (h : Ok C own cc nL d) {i : Nat} {x : Int} (hd : decode cc pc = .ok (.iload i, 2)) (hl : lget ls i = some (vI x)) (k : X C ph (pc + 2) ls (vI x :: st) n σ nc ns) : X C ph pc ls st n σ nc ns := by
  obtain ⟨p, l, e, R, s, m, args, below, meth, c, Q, D, ca, bs⟩ := C
  intro H locs lm hR hm
  exact lv_iload h.1 h.2.1 hd (lv_get hm hl) (k H locs lm hR hm)
theorem x_iload_n (h : Ok C own cc nL d) {i : Fin 4} {x : Int} (hd : decode cc pc = .ok (.iload_n i, 1)) (hl : lget ls i.val = some (vI x)) (k : X C ph (pc + 1) ls (vI x :: st) n σ nc ns) : X C ph pc ls st n σ nc ns := by
  obtain ⟨p, l, e, R, s, m, args, below, meth, c, Q, D, ca, bs⟩ := C
  intro H locs lm hR hm
  exact lv_iload_n h.1 h.2.1 hd rfl (lv_get hm hl) (k H locs lm hR hm)
theorem x_lload (h : Ok C own cc nL d) {i : Nat} {x : Int} (hd : decode cc pc = .ok (.lload i, 2)) (hl : lget ls i = some (vL x)) (k : X C ph (pc + 2) ls (vL x :: st) n σ nc ns) : X C ph pc ls st n σ nc ns := by
  obtain ⟨p, l, e, R, s, m, args, below, meth, c, Q, D, ca, bs⟩ := C
  intro H locs lm hR hm
  exact lv_lload h.1 h.2.1 hd (lv_get hm hl) (k H locs lm hR hm)
theorem x_lload_n (h : Ok C own cc nL d) {i : Fin 4} {x : Int} (hd : decode cc pc = .ok (.lload_n i, 1)) (hl : lget ls i.val = some (vL x)) (k : X C ph (pc + 1) ls (vL x :: st) n σ nc ns) : X C ph pc ls st n σ nc ns := by
  obtain ⟨p, l, e, R, s, m, args, below, meth, c, Q, D, ca, bs⟩ := C
  intro H locs lm hR hm
  exact lv_lload_n h.1 h.2.1 hd rfl (lv_get hm hl) (k H locs lm hR hm)
theorem x_aload (h : Ok C own cc nL d) {i f j : Nat} (hd : decode cc pc = .ok (.aload i, 2)) (hl : lget ls i = some (vR f j)) (k : X C ph (pc + 2) ls (vR f j :: st) n σ nc ns) : X C ph pc ls st n σ nc ns := by
  obtain ⟨p, l, e, R, s, m, args, below, meth, c, Q, D, ca, bs⟩ := C
  intro H locs lm hR hm
  exact lv_aload h.1 h.2.1 hd (lv_get hm hl) (k H locs lm hR hm)
theorem x_aload_n (h : Ok C own cc nL d) {i : Fin 4} {f j : Nat} (hd : decode cc pc = .ok (.aload_n i, 1)) (hl : lget ls i.val = some (vR f j)) (k : X C ph (pc + 1) ls (vR f j :: st) n σ nc ns) : X C ph pc ls st n σ nc ns := by
  obtain ⟨p, l, e, R, s, m, args, below, meth, c, Q, D, ca, bs⟩ := C
  intro H locs lm hR hm
  exact lv_aload_n h.1 h.2.1 hd rfl (lv_get hm hl) (k H locs lm hR hm)
theorem x_istore (h : Ok C own cc nL d) {i : Nat} {x : Int} (hd : decode cc pc = .ok (.istore i, 2)) (hi : i < nL) (k : X C ph (pc + 2) (lput1 i (vI x) ls) st n σ nc ns) : X C ph pc ls (vI x :: st) n σ nc ns := by
  obtain ⟨p, l, e, R, s, m, args, below, meth, c, Q, D, ca, bs⟩ := C
  intro H locs lm hR hm
  exact lv_istore h.1 h.2.1 hd hm (h.2.2.1 ▸ hi) (lvs_1 bs i (vI x) ls) (fun ls' hl' => k H locs ls' hR hl')
theorem x_istore_n (h : Ok C own cc nL d) {i : Fin 4} {x : Int} (hd : decode cc pc = .ok (.istore_n i, 1)) (hi : i.val < nL) (k : X C ph (pc + 1) (lput1 i.val (vI x) ls) st n σ nc ns) : X C ph pc ls (vI x :: st) n σ nc ns := by
  obtain ⟨p, l, e, R, s, m, args, below, meth, c, Q, D, ca, bs⟩ := C
  intro H locs lm hR hm
  exact lv_istore_n h.1 h.2.1 hd rfl hm (h.2.2.1 ▸ hi) (lvs_1 bs i.val (vI x) ls) (fun ls' hl' => k H locs ls' hR hl')
theorem x_lstore (h : Ok C own cc nL d) {i : Nat} {x : Int} (hd : decode cc pc = .ok (.lstore i, 2)) (hi : i + 1 < nL) (k : X C ph (pc + 2) (lput2 i (vL x) ls) st n σ nc ns) : X C ph pc ls (vL x :: st) n σ nc ns := by
  obtain ⟨p, l, e, R, s, m, args, below, meth, c, Q, D, ca, bs⟩ := C
  intro H locs lm hR hm
  exact lv_lstore h.1 h.2.1 hd hm (h.2.2.1 ▸ hi) (lvs_2 bs i (vL x) ls) (fun ls' hl' => k H locs ls' hR hl')
theorem x_lstore_n (h : Ok C own cc nL d) {i : Fin 4} {x : Int} (hd : decode cc pc = .ok (.lstore_n i, 1)) (hi : i.val + 1 < nL) (k : X C ph (pc + 1) (lput2 i.val (vL x) ls) st n σ nc ns) : X C ph pc ls (vL x :: st) n σ nc ns := by
  obtain ⟨p, l, e, R, s, m, args, below, meth, c, Q, D, ca, bs⟩ := C
  intro H locs lm hR hm
  exact lv_lstore_n h.1 h.2.1 hd rfl hm (h.2.2.1 ▸ hi) (lvs_2 bs i.val (vL x) ls) (fun ls' hl' => k H locs ls' hR hl')
theorem x_astore (h : Ok C own cc nL d) {i f j : Nat} (hd : decode cc pc = .ok (.astore i, 2)) (hi : i < nL) (k : X C ph (pc + 2) (lput1 i (vR f j) ls) st n σ nc ns) : X C ph pc ls (vR f j :: st) n σ nc ns := by
  obtain ⟨p, l, e, R, s, m, args, below, meth, c, Q, D, ca, bs⟩ := C
  intro H locs lm hR hm
  exact lv_astore h.1 h.2.1 hd hm (h.2.2.1 ▸ hi) (lvs_1 bs i (vR f j) ls) (fun ls' hl' => k H locs ls' hR hl')
theorem x_astore_n (h : Ok C own cc nL d) {i : Fin 4} {f j : Nat} (hd : decode cc pc = .ok (.astore_n i, 1)) (hi : i.val < nL) (k : X C ph (pc + 1) (lput1 i.val (vR f j) ls) st n σ nc ns) : X C ph pc ls (vR f j :: st) n σ nc ns := by
  obtain ⟨p, l, e, R, s, m, args, below, meth, c, Q, D, ca, bs⟩ := C
  intro H locs lm hR hm
  exact lv_astore_n h.1 h.2.1 hd rfl hm (h.2.2.1 ▸ hi) (lvs_1 bs i.val (vR f j) ls) (fun ls' hl' => k H locs ls' hR hl')
theorem x_iinc (h : Ok C own cc nL d) {i : Nat} {v x : Int} (hd : decode cc pc = .ok (.iinc i v, 3)) (hl : lget ls i = some (vI x)) (hi : i < nL) (k : X C ph (pc + 3) (lput1 i (vI (x + v)) ls) st n σ nc ns) : X C ph pc ls st n σ nc ns := by
  obtain ⟨p, l, e, R, s, m, args, below, meth, c, Q, D, ca, bs⟩ := C
  intro H locs lm hR hm
  obtain ⟨k0, hk0⟩ := List.getElem?_of_mem (List.mem_map.mpr ⟨(i, vI x), lget_mem hl, rfl⟩ : (i, vv bs (vI x)) ∈ lvs bs ls)
  exact lv_iinc (x := Int32.ofInt x) h.1 h.2.1 hd hm hk0 (Int32.ofInt_add _ _).symm (h.2.2.1 ▸ hi) (lvs_1 bs i (vI (x + v)) ls) (fun ls' hl' => k H locs ls' hR hl')
theorem x_iconst (h : Ok C own cc nL d) {v : Int} (hd : decode cc pc = .ok (.iconst v, 1)) (k : X C ph (pc + 1) ls (vI v :: st) n σ nc ns) : X C ph pc ls st n σ nc ns := by
  obtain ⟨p, l, e, R, s, m, args, below, meth, c, Q, D, ca, bs⟩ := C
  intro H locs lm hR hm
  exact lv_iconst h.1 h.2.1 hd rfl (k H locs lm hR hm)
theorem x_bipush (h : Ok C own cc nL d) {v : Int} (hd : decode cc pc = .ok (.bipush v, 2)) (hv : (Int8.ofInt v).toInt32 = Int32.ofInt v) (k : X C ph (pc + 2) ls (vI v :: st) n σ nc ns) : X C ph pc ls st n σ nc ns := by
  obtain ⟨p, l, e, R, s, m, args, below, meth, c, Q, D, ca, bs⟩ := C
  intro H locs lm hR hm
  exact lv_bipush h.1 h.2.1 hd hv (k H locs lm hR hm)
theorem x_sipush (h : Ok C own cc nL d) {v : Int} (hd : decode cc pc = .ok (.sipush v, 3)) (hv : (Int16.ofInt v).toInt32 = Int32.ofInt v) (k : X C ph (pc + 3) ls (vI v :: st) n σ nc ns) : X C ph pc ls st n σ nc ns := by
  obtain ⟨p, l, e, R, s, m, args, below, meth, c, Q, D, ca, bs⟩ := C
  intro H locs lm hR hm
  exact lv_sipush h.1 h.2.1 hd hv (k H locs lm hR hm)
theorem x_lconst (h : Ok C own cc nL d) {v : Fin 2} (hd : decode cc pc = .ok (.lconst v, 1)) (k : X C ph (pc + 1) ls (vL v.val :: st) n σ nc ns) : X C ph pc ls st n σ nc ns := by
  obtain ⟨p, l, e, R, s, m, args, below, meth, c, Q, D, ca, bs⟩ := C
  intro H locs lm hR hm
  exact lv_lconst h.1 h.2.1 hd rfl (k H locs lm hR hm)
theorem x_ldc2 (h : Ok C own cc nL d) {i : Nat} {v : Int64} {x : Int} (hd : decode cc pc = .ok (.ldc2_w i, 3)) (hw : Cond.constantLong own i v ∈ TB) (hv : v = Int64.ofInt x) (k : X C ph (pc + 3) ls (vL x :: st) n σ nc ns) : X C ph pc ls st n σ nc ns := by
  obtain ⟨p, l, e, R, s, m, args, below, meth, c, Q, D, ca, bs⟩ := C
  intro H locs lm hR hm
  subst hv
  exact lv_ldc2 h.1 h.2.1 h.2.2.2.1 (h.2.2.2.2.1 _ hw) hd (k H locs lm hR hm)
end ROWS
