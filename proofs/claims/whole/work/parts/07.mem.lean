/-! rows of X: memory; calls; a method's contract -/
theorem rl_set {D : va_G} {ca : Nat → ClassId} {bs ph n f k j : Nat} {σ : Mm} {g : Nat → Int} {H0 H H1 : Heap} {locs : List Loc} (hR : Rl D ca bs ph n σ H0 H locs) (hk : Lv n f k) (he : va_at D vwCl (bs + num f k, cel ca bs ph f k g) H1) (z : H1.size = H.size) (oq : ∀ q : Nat, q ≠ bs + num f k → H1[q]? = H[q]?) : Rl D ca bs ph n (up2 σ f k g) H0 H1 (locs ++ [⟨bs + num f k, j⟩]) := by
  refine ⟨z.trans hR.1, ?_, hR.2.2.put z oq (Nat.le_add_right _ _)⟩
  rw [← wo_set hk]
  exact hR.2.1.set (wo_D ca bs ph n σ) (wo_at hk) he oq
theorem cel_obj {ca : Nat → ClassId} {bs ph f k ci : Nat} {g : Nat → Int} (h : kd f = (0, ci)) : cel ca bs ph f k g = .inr (ci, (tyT.getD f []).mapIdx (fun j t => vv bs (pv ph t k (g j)))) := by
  unfold cel
  rw [h]
  rfl
theorem cel_int {ca : Nat → ClassId} {bs ph f k m len : Nat} {g : Nat → Int} (h : kd f = (m, len)) (hm : m = 1 ∨ m = 2 ∨ m = 3) : cel ca bs ph f k g = .inl (ca (m - 1), len, .inl (fun j => Int32.ofInt (g j))) := by
  unfold cel
  rw [h]
  rcases hm with rfl | rfl | rfl <;> rfl
theorem cel_long {ca : Nat → ClassId} {bs ph f k len : Nat} {g : Nat → Int} (h : kd f = (4, len)) : cel ca bs ph f k g = .inl (ca 3, len, .inr (.inl (fun j => Int64.ofInt (g j)))) := by
  unfold cel
  rw [h]
  rfl
theorem cel_ref {ca : Nat → ClassId} {bs ph f k len : Nat} {g : Nat → Int} (h : kd f = (5, len)) : cel ca bs ph f k g = .inl (ca 4, len, .inr (.inr (.inr (.inr (fun j => rfo bs ph k j (g j)))))) := by
  unfold cel
  rw [h]
  rfl
theorem pv_ok {ph code k : Nat} {x : Int} {q : PV} {ty : FieldType} (bs : Nat) (ho : okc code ty) (hq : pv ph code k x = q) (hz : code = 2 → x = 0 ∨ x = 1) : narrow ty (vv bs q) = vv bs q ∧ fits ty (vv bs q) = true := by
  subst hq
  rcases ho with ⟨rfl, rfl⟩ | ⟨rfl, rfl⟩ | ⟨rfl, rfl⟩ | ⟨h3, ho⟩
  · exact ⟨rfl, rfl⟩
  · exact ⟨rfl, rfl⟩
  · rcases hz rfl with rfl | rfl
    · exact ⟨(by decide : narrow FieldType.boolean (.int (Int32.ofInt 0)) = .int (Int32.ofInt 0)), (by decide : fits FieldType.boolean (.int (Int32.ofInt 0)) = true)⟩
    · exact ⟨(by decide : narrow FieldType.boolean (.int (Int32.ofInt 1)) = .int (Int32.ofInt 1)), (by decide : fits FieldType.boolean (.int (Int32.ofInt 1)) = true)⟩
  · have h0 : ¬ code = 0 := by omega
    have h1 : ¬ code = 1 := by omega
    have h2 : ¬ code = 2 := by omega
    have key : pv ph code k x = vN ∨ ∃ f j, pv ph code k x = vR f j := by
      unfold pv
      rw [if_neg h0, if_neg h1, if_neg h2]
      split
      · split
        · exact Or.inl rfl
        · exact Or.inr ⟨_, _, rfl⟩
      · split
        · split
          · exact Or.inl rfl
          · exact Or.inr ⟨_, _, rfl⟩
        · exact Or.inr ⟨_, _, rfl⟩
    rcases key with e | ⟨f, j, e⟩
    · rw [e]; exact ⟨(ho 0).2.2.1, (ho 0).2.2.2⟩
    · rw [e]; exact ⟨(ho _).1, (ho _).2.1⟩
theorem fs_at {ph bs f k j code N : Nat} {g : Nat → Int} (hN : (tyT.getD f []).length = N) (hj : j < N) (hc : tyf f j = code) : ((tyT.getD f []).mapIdx (fun j t => vv bs (pv ph t k (g j))))[j]? = some (vv bs (pv ph code k (g j))) := by
  rw [List.getElem?_mapIdx]
  have h1 : (tyT.getD f [])[j]? = some code := by
    unfold tyf at hc
    rw [List.getD_eq_getElem?_getD] at hc
    rw [List.getElem?_eq_getElem (by omega)] at hc ⊢
    exact congrArg some hc
  rw [h1]
  rfl
theorem fs_V {ph bs f k j code N : Nat} {g : Nat → Int} {x : Int} (hN : (tyT.getD f []).length = N) (hj : j < N) (hc : tyf f j = code) (i : Nat) : updV (vp_V ((tyT.getD f []).mapIdx (fun j t => vv bs (pv ph t k (g j))))) j (vv bs (pv ph code k x)) i = vp_V ((tyT.getD f []).mapIdx (fun i t => vv bs (pv ph t k (up1 g j x i)))) i := by
  unfold updV vp_V
  by_cases h : i = j
  · subst h
    rw [if_pos rfl, List.getD_eq_getElem?_getD, fs_at (g := up1 g i x) hN hj hc]
    simp [up1]
  · rw [if_neg h]
    simp only [List.getD_eq_getElem?_getD, List.getElem?_mapIdx, up1, if_neg h]
section MEM
variable {C : Cx} {own : String} {cc : ByteArray} {nL d ph pc n nc ns : Nat} {ls : List (Nat × PV)} {st : List PV} {σ : Mm}
theorem x_get (h : Ok C own cc nL d) {idx f j code k : Nat} {fin : Bool} {q : PV} (hF : Fl own idx f j code fin) (hk : Lv n f k) (hd : decode cc pc = .ok (.getfield idx, 3)) (hq : pv ph code k (σ f k j) = q) (kk : X C ph (pc + 3) ls (q :: st) n σ nc ns) : X C ph pc ls (vR f k :: st) n σ nc ns := by
  obtain ⟨p, l, e, R, s, m, args, below, meth, c, Q, D, ca, bs⟩ := C
  intro H locs lm hR hm
  obtain ⟨ci, Cn, T, N, ty, ⟨h1, h2, h3, h4, h5, h6, h7, h8⟩, hj, hc, hw, hfin⟩ := hF
  have hat := wo_at (ca := ca) (bs := bs) (ph := ph) (σ := σ) hk
  rw [cel_obj h1] at hat
  refine va_get (D := D) (cl := vwCl) (ci := ci) (v := vv bs q) (C := Cn) (ref := Cn) (T := T) (N := N) h.1 h.2.1 h.2.2.2.2.1 h3 h.2.2.2.1 h.2.2.2.2.2.1.1 hR.2.1 (num f k) hat h2 j hj (h.2.2.2.2.1 _ hw) (fun x hx => by rw [h8 j hj] at hx; exact hx) ?_ hd (kk H locs lm hR hm)
  rw [fs_at h6 hj hc, hq]
theorem x_put (h : Ok C own cc nL d) {idx f j code k : Nat} {x : Int} {q : PV} (hF : Fl own idx f j code false) (hk : Lv n f k) (hd : decode cc pc = .ok (.putfield idx, 3)) (hq : pv ph code k x = q) (hz : code = 2 → x = 0 ∨ x = 1) (kk : X C ph (pc + 3) ls st n (up3 σ f k j x) nc ns) : X C ph pc ls (q :: vR f k :: st) n σ nc ns := by
  obtain ⟨p, l, e, R, s, m, args, below, meth, c, Q, D, ca, bs⟩ := C
  intro H locs lm hR hm
  obtain ⟨ci, Cn, T, N, ty, ⟨h1, h2, h3, h4, h5, h6, h7, h8⟩, hj, hc, hw, hfin⟩ := hF
  have hat := wo_at (ca := ca) (bs := bs) (ph := ph) (σ := σ) hk
  rw [cel_obj h1] at hat
  have hnf := pv_ok bs (hc ▸ h7 j hj) hq hz
  have hap := va_apart (own := own) (D := D) h.2.2.2.2.1 h3 ty h4 h5 h.2.2.2.2.2.1.1 h2
  obtain ⟨r, g1, cell, q1, q2, q3, q4⟩ := hR.2.1 (num f k) _ hat
  have hr : r = (Cn, T, N) := Option.some.inj (g1.symm.trans h2)
  subst hr
  obtain ⟨hS, hfc, kC, hkC, hkind⟩ := h.2.2.2.2.2.1.1.1 ci _ h2
  obtain ⟨cf, kf, fi, ff, hi, hsl⟩ := hS j hj
  have hlay := h.2.2.2.2.1 _ (h3 _ (u_in_lay hj))
  unfold u_lay at hlay
  rw [if_neg (by rw [hfin]; decide)] at hlay
  have hst := (u_facts hfc hkC (u_lays h.2.2.2.2.1 h3 hj) hi).1
  have h6' := u_store hfc hkC hkind hlay hi (h4 j hj) hnf.1 hnf.2
  have hi2 : s.fieldFound? Cn (T j).2.1 (T j).2.2.1 = some (cf, kf, fi, ff) := by rw [← h8 j hj]; exact hi
  refine W.putK h.1 h.2.1 (f := ff) ⟨h.2.2.2.1, h.2.2.2.2.1 _ hw, ⟨_, _, _, hi2⟩, hst⟩ (by rw [q2]; exact h6') q1 q3 (by rw [hsl]; exact k2_hasslot (q4 j hj)) rfl rfl hd fun H' e1 e2 e3 => ?_
  rw [hsl] at e1 ⊢
  refine kk H' _ lm ?_ hm
  rw [up3_up2]
  refine rl_set hR hk ?_ e2 e3
  rw [cel_obj h1]
  refine ⟨_, h2, t_OB.to (V := updV (vp_V ((tyT.getD f []).mapIdx (fun j t => vv bs (pv ph t k (σ f k j))))) j (vv bs q)) ⟨_, e1, q2, q3, t_set q4 hap hj (vv bs q)⟩ (fun i _ => ?_)⟩
  rw [← hq]
  exact fs_V h6 hj hc i
theorem idx_in {i : Int} {m len : Nat} (hm : i = (m : Int)) (hlt : m < len) (hl : len < 2147483648) : vp_in (Int32.ofInt i) len ∧ (Int32.ofInt i).toNatClampNeg = m := by
  have e : (Int32.ofInt i).toInt = (m : Int) := by rw [hm]; exact Int32.toInt_ofInt_of_le (by omega) (by omega)
  refine ⟨vp_in_iff.mpr (by omega), ?_⟩
  show (Int32.ofInt i).toInt.toNat = m
  rw [e]; rfl
theorem kdT_small : kdT.all (fun q => decide (q.2 < 2147483648)) = true := by decide +kernel
theorem kd_small {f : Nat} : (kd f).2 < 2147483648 := by
  unfold kd
  rw [List.getD_eq_getElem?_getD]
  cases h : kdT[f]? with
  | none => decide
  | some q => exact of_decide_eq_true (List.all_eq_true.mp kdT_small q (List.mem_of_getElem? h))
theorem x_iald (h : Ok C own cc nL d) {f k m len : Nat} {i : Int} (hf : kd f = (1, len)) (hk : Lv n f k) (hd : decode cc pc = .ok (.iaload, 1)) (hm : i = (m : Int)) (hlt : m < len) (kk : X C ph (pc + 1) ls (vI (σ f k m) :: st) n σ nc ns) : X C ph pc ls (vI i :: vR f k :: st) n σ nc ns := by
  obtain ⟨p, l, e, R, s, m', args, below, meth, c, Q, D, ca, bs⟩ := C
  intro H locs lm hR hl
  have hat := wo_at (ca := ca) (bs := bs) (ph := ph) (σ := σ) hk
  rw [cel_int hf (Or.inl rfl)] at hat
  obtain ⟨hin, hc⟩ := idx_in hm hlt (by have := kd_small (f := f); rw [hf] at this; exact this)
  refine va_iald (D := D) (cl := vwCl) h.1 h.2.1 h.2.2.2.2.2.1.1 hR.2.1 (num f k) 0 hat rfl hin hd ?_
  rw [hc]
  exact kk H locs lm hR hl
theorem x_lald (h : Ok C own cc nL d) {f k m len : Nat} {i : Int} (hf : kd f = (4, len)) (hk : Lv n f k) (hd : decode cc pc = .ok (.laload, 1)) (hm : i = (m : Int)) (hlt : m < len) (kk : X C ph (pc + 1) ls (vL (σ f k m) :: st) n σ nc ns) : X C ph pc ls (vI i :: vR f k :: st) n σ nc ns := by
  obtain ⟨p, l, e, R, s, m', args, below, meth, c, Q, D, ca, bs⟩ := C
  intro H locs lm hR hl
  have hat := wo_at (ca := ca) (bs := bs) (ph := ph) (σ := σ) hk
  rw [cel_long hf] at hat
  obtain ⟨hin, hc⟩ := idx_in hm hlt (by have := kd_small (f := f); rw [hf] at this; exact this)
  refine va_lald (D := D) (cl := vwCl) h.1 h.2.1 h.2.2.2.2.2.1.1 hR.2.1 (num f k) 3 hat rfl hin hd ?_
  rw [hc]
  exact kk H locs lm hR hl
theorem x_bald (h : Ok C own cc nL d) {f k m len : Nat} {i : Int} (hf : kd f = (2, len)) (hk : Lv n f k) (hd : decode cc pc = .ok (.baload, 1)) (hm : i = (m : Int)) (hlt : m < len) (kk : X C ph (pc + 1) ls (vI (σ f k m) :: st) n σ nc ns) : X C ph pc ls (vI i :: vR f k :: st) n σ nc ns := by
  obtain ⟨p, l, e, R, s, m', args, below, meth, c, Q, D, ca, bs⟩ := C
  intro H locs lm hR hl
  have hat := wo_at (ca := ca) (bs := bs) (ph := ph) (σ := σ) hk
  rw [cel_int hf (Or.inr (Or.inl rfl))] at hat
  obtain ⟨hin, hc⟩ := idx_in hm hlt (by have := kd_small (f := f); rw [hf] at this; exact this)
  refine va_bald (D := D) (cl := vwCl) h.1 h.2.1 h.2.2.2.2.2.1.1 hR.2.1 (num f k) 1 hat rfl hin hd ?_
  rw [hc]
  exact kk H locs lm hR hl
theorem x_zald (h : Ok C own cc nL d) {f k m len : Nat} {i : Int} (hf : kd f = (3, len)) (hk : Lv n f k) (hd : decode cc pc = .ok (.baload, 1)) (hm : i = (m : Int)) (hlt : m < len) (kk : X C ph (pc + 1) ls (vI (σ f k m) :: st) n σ nc ns) : X C ph pc ls (vI i :: vR f k :: st) n σ nc ns := by
  obtain ⟨p, l, e, R, s, m', args, below, meth, c, Q, D, ca, bs⟩ := C
  intro H locs lm hR hl
  have hat := wo_at (ca := ca) (bs := bs) (ph := ph) (σ := σ) hk
  rw [cel_int hf (Or.inr (Or.inr rfl))] at hat
  obtain ⟨hin, hc⟩ := idx_in hm hlt (by have := kd_small (f := f); rw [hf] at this; exact this)
  refine va_zald (D := D) (cl := vwCl) h.1 h.2.1 h.2.2.2.2.2.1.1 hR.2.1 (num f k) 2 hat rfl hin hd ?_
  rw [hc]
  exact kk H locs lm hR hl
/-- an entry of a TEXT's TABLES, behind the constructors -/
theorem x_aald (h : Ok C own cc nL d) {f k m len : Nat} {i : Int} (hf : kd f = (5, len)) (hk : Lv n f k) (hd : decode cc pc = .ok (.aaload, 1)) (hm : i = (m : Int)) (hlt : m < len) (kk : X C 1 (pc + 1) ls (vR 5 (12 * k + m) :: st) n σ nc ns) : X C 1 pc ls (vI i :: vR f k :: st) n σ nc ns := by
  obtain ⟨p, l, e, R, s, m', args, below, meth, c, Q, D, ca, bs⟩ := C
  intro H locs lm hR hl
  have hat := wo_at (ca := ca) (bs := bs) (ph := 1) (σ := σ) hk
  rw [cel_ref hf] at hat
  obtain ⟨hin, hc⟩ := idx_in hm hlt (by have := kd_small (f := f); rw [hf] at this; exact this)
  refine va_aldq (D := D) (cl := vwCl) (C := RX2) h.1 h.2.1 h.2.2.2.2.2.1.1 hR.2.1 (num f k) 4 hat rfl hin hd ?_
  rw [hc]
  exact kk H locs lm hR hl
theorem x_alen (h : Ok C own cc nL d) {f k m len : Nat} (hf : kd f = (m, len)) (hm : m = 1 ∨ m = 2 ∨ m = 3 ∨ m = 4 ∨ m = 5) (hk : Lv n f k) (hd : decode cc pc = .ok (.arraylength, 1)) (kk : X C ph (pc + 1) ls (vI (len : Int) :: st) n σ nc ns) : X C ph pc ls (vR f k :: st) n σ nc ns := by
  obtain ⟨p, l, e, R, s, m', args, below, meth, c, Q, D, ca, bs⟩ := C
  intro H locs lm hR hl
  have hat := wo_at (ca := ca) (bs := bs) (ph := ph) (σ := σ) hk
  have hv : Int32.ofNat len = Int32.ofInt (len : Int) := (Int32.ofInt_eq_ofNat).symm
  rcases hm with rfl | rfl | rfl | rfl | rfl
  · rw [cel_int hf (Or.inl rfl)] at hat
    exact va_alen (D := D) (cl := vwCl) h.1 h.2.1 h.2.2.2.2.2.1.1 hR.2.1 (num f k) 0 hat (ty := .int) rfl hv hd (kk H locs lm hR hl)
  · rw [cel_int hf (Or.inr (Or.inl rfl))] at hat
    exact va_alen (D := D) (cl := vwCl) h.1 h.2.1 h.2.2.2.2.2.1.1 hR.2.1 (num f k) 1 hat (ty := .byte) rfl hv hd (kk H locs lm hR hl)
  · rw [cel_int hf (Or.inr (Or.inr rfl))] at hat
    exact va_alen (D := D) (cl := vwCl) h.1 h.2.1 h.2.2.2.2.2.1.1 hR.2.1 (num f k) 2 hat (ty := .boolean) rfl hv hd (kk H locs lm hR hl)
  · rw [cel_long hf] at hat
    exact va_alen (D := D) (cl := vwCl) h.1 h.2.1 h.2.2.2.2.2.1.1 hR.2.1 (num f k) 3 hat (ty := .long) rfl hv hd (kk H locs lm hR hl)
  · rw [cel_ref hf] at hat
    exact va_alen (D := D) (cl := vwCl) h.1 h.2.1 h.2.2.2.2.2.1.1 hR.2.1 (num f k) 4 hat (ty := .object RX2) rfl hv hd (kk H locs lm hR hl)
theorem mm_set {cA : ClassId} {len m : Nat} {g : Nat → Int} {x : Int} (v : Int → Value) : (arrV cA len (fun j => v (g j))).setSlot m (v x) = arrV cA len (fun j => v (up1 g m x j)) := by
  rw [arrV_store]
  congr 1
  funext q
  by_cases hq : q = m
  · subst hq; simp [updV, up1]
  · simp [updV, up1, hq]
theorem x_iast (h : Ok C own cc nL d) {f k m len : Nat} {i x : Int} (hf : kd f = (1, len)) (hk : Lv n f k) (hd : decode cc pc = .ok (.iastore, 1)) (hm : i = (m : Int)) (hlt : m < len) (kk : X C ph (pc + 1) ls st n (up3 σ f k m x) nc ns) : X C ph pc ls (vI x :: vI i :: vR f k :: st) n σ nc ns := by
  obtain ⟨p, l, e, R, s, m', args, below, meth, c, Q, D, ca, bs⟩ := C
  intro H locs lm hR hl
  have hat := wo_at (ca := ca) (bs := bs) (ph := ph) (σ := σ) hk
  rw [cel_int hf (Or.inl rfl)] at hat
  obtain ⟨hin, hc⟩ := idx_in hm hlt (by have := kd_small (f := f); rw [hf] at this; exact this)
  refine W.iast h.1 h.2.1 (hR.2.1 (num f k) _ hat) ((h.2.2.2.2.2.1.1.2 0 _ rfl).1 len (fun j => .int (Int32.ofInt (σ f k j)))) (fun q => by cases q) (by show ¬ (_ < 0 ∨ (arrV _ _ _).slots.size ≤ _); rw [arrV_size]; exact hin) rfl rfl hd fun H1 e1 z oq => ?_
  rw [hc] at e1 ⊢
  refine kk H1 _ lm ?_ hl
  rw [up3_up2]
  refine rl_set hR hk ?_ z oq
  rw [cel_int hf (Or.inl rfl)]
  show H1[_]? = some (vp_cell _ _)
  rw [e1, vp_cell_i, vp_cell_i]
  exact congrArg some (mm_set (fun x => .int (Int32.ofInt x)))
theorem x_last (h : Ok C own cc nL d) {f k m len : Nat} {i x : Int} (hf : kd f = (4, len)) (hk : Lv n f k) (hd : decode cc pc = .ok (.lastore, 1)) (hm : i = (m : Int)) (hlt : m < len) (kk : X C ph (pc + 1) ls st n (up3 σ f k m x) nc ns) : X C ph pc ls (vL x :: vI i :: vR f k :: st) n σ nc ns := by
  obtain ⟨p, l, e, R, s, m', args, below, meth, c, Q, D, ca, bs⟩ := C
  intro H locs lm hR hl
  have hat := wo_at (ca := ca) (bs := bs) (ph := ph) (σ := σ) hk
  rw [cel_long hf] at hat
  obtain ⟨hin, hc⟩ := idx_in hm hlt (by have := kd_small (f := f); rw [hf] at this; exact this)
  refine W.last h.1 h.2.1 (hR.2.1 (num f k) _ hat) ((h.2.2.2.2.2.1.1.2 3 _ rfl).1 len (fun j => .long (Int64.ofInt (σ f k j)))) (fun q => by cases q) (by show ¬ (_ < 0 ∨ (arrV _ _ _).slots.size ≤ _); rw [arrV_size]; exact hin) rfl rfl hd fun H1 e1 z oq => ?_
  rw [hc] at e1 ⊢
  refine kk H1 _ lm ?_ hl
  rw [up3_up2]
  refine rl_set hR hk ?_ z oq
  rw [cel_long hf]
  show H1[_]? = some (vp_cell _ _)
  rw [e1, vp_cell_l, vp_cell_l]
  exact congrArg some (mm_set (fun x => .long (Int64.ofInt x)))
theorem nar_b {x : Int} (h : -128 ≤ x ∧ x < 128) : narrow .byte (.int (Int32.ofInt x)) = .int (Int32.ofInt x) := by
  show Value.int (Int32.ofInt x).toInt8.toInt32 = _
  congr 1
  rw [Int32.toInt8_ofInt]
  have e : (Int8.ofInt x).toInt32 = Int32.ofInt (Int8.ofInt x).toInt := (Int32.ofInt_int8ToInt _).symm
  rw [e, Int8.toInt_ofInt_of_le (by omega) (by omega)]
theorem x_bast (h : Ok C own cc nL d) {f k m len : Nat} {i x : Int} (hf : kd f = (2, len)) (hk : Lv n f k) (hx : -128 ≤ x ∧ x < 128) (hd : decode cc pc = .ok (.bastore, 1)) (hm : i = (m : Int)) (hlt : m < len) (kk : X C ph (pc + 1) ls st n (up3 σ f k m x) nc ns) : X C ph pc ls (vI x :: vI i :: vR f k :: st) n σ nc ns := by
  obtain ⟨p, l, e, R, s, m', args, below, meth, c, Q, D, ca, bs⟩ := C
  intro H locs lm hR hl
  have hat := wo_at (ca := ca) (bs := bs) (ph := ph) (σ := σ) hk
  rw [cel_int hf (Or.inr (Or.inl rfl))] at hat
  obtain ⟨hin, hc⟩ := idx_in hm hlt (by have := kd_small (f := f); rw [hf] at this; exact this)
  refine W.bast h.1 h.2.1 (hR.2.1 (num f k) _ hat) ((h.2.2.2.2.2.1.1.2 1 _ rfl).1 len (fun j => .int (Int32.ofInt (σ f k j)))) (fun q => by cases q) (by show ¬ (_ < 0 ∨ (arrV _ _ _).slots.size ≤ _); rw [arrV_size]; exact hin) rfl rfl hd fun H1 e1 z oq => ?_
  rw [hc] at e1 ⊢
  rw [nar_b hx] at e1
  refine kk H1 _ lm ?_ hl
  rw [up3_up2]
  refine rl_set hR hk ?_ z oq
  rw [cel_int hf (Or.inr (Or.inl rfl))]
  show H1[_]? = some (vp_cell _ _)
  rw [e1, vp_cell_i, vp_cell_i]
  exact congrArg some (mm_set (fun x => .int (Int32.ofInt x)))
theorem x_zast (h : Ok C own cc nL d) {f k m len : Nat} {i x : Int} (hf : kd f = (3, len)) (hk : Lv n f k) (hx : x = 0 ∨ x = 1) (hd : decode cc pc = .ok (.bastore, 1)) (hm : i = (m : Int)) (hlt : m < len) (kk : X C ph (pc + 1) ls st n (up3 σ f k m x) nc ns) : X C ph pc ls (vI x :: vI i :: vR f k :: st) n σ nc ns := by
  obtain ⟨p, l, e, R, s, m', args, below, meth, c, Q, D, ca, bs⟩ := C
  intro H locs lm hR hl
  have hat := wo_at (ca := ca) (bs := bs) (ph := ph) (σ := σ) hk
  rw [cel_int hf (Or.inr (Or.inr rfl))] at hat
  obtain ⟨hin, hc⟩ := idx_in hm hlt (by have := kd_small (f := f); rw [hf] at this; exact this)
  refine W.zast h.1 h.2.1 (hR.2.1 (num f k) _ hat) ((h.2.2.2.2.2.1.1.2 2 _ rfl).1 len (fun j => .int (Int32.ofInt (σ f k j)))) (fun q => by cases q) (by show ¬ (_ < 0 ∨ (arrV _ _ _).slots.size ≤ _); rw [arrV_size]; exact hin) rfl rfl hd fun H1 e1 z oq => ?_
  have hnz : narrow .boolean (.int (Int32.ofInt x)) = .int (Int32.ofInt x) := by rcases hx with rfl | rfl <;> decide
  rw [hc] at e1 ⊢
  rw [hnz] at e1
  refine kk H1 _ lm ?_ hl
  rw [up3_up2]
  refine rl_set hR hk ?_ z oq
  rw [cel_int hf (Or.inr (Or.inr rfl))]
  show H1[_]? = some (vp_cell _ _)
  rw [e1, vp_cell_i, vp_cell_i]
  exact congrArg some (mm_set (fun x => .int (Int32.ofInt x)))
end MEM
