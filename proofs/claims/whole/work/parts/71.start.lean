/-! the start: tables, memory as made, both sides alike; the script -/
section SS
theorem arrV_cg {cI : ClassId} {N : Nat} {f g : Nat → Value} (h : ∀ j, j < N → f j = g j) : arrV cI N f = arrV cI N g := by
  have e : (fun j : Fin N => f j.val) = fun j : Fin N => g j.val := funext fun j => h j.val j.isLt
  unfold arrV
  rw [e]
theorem pv_ph {code k : Nat} {x : Int} (h : 500 ≤ code → x = ((fmem code k : Nat) : Int)) : pv 0 code k x = pv 1 code k x := by
  unfold pv
  by_cases h0 : code = 0
  · rw [if_pos h0, if_pos h0]
  · rw [if_neg h0, if_neg h0]
    by_cases h1 : code = 1
    · rw [if_pos h1, if_pos h1]
    · rw [if_neg h1, if_neg h1]
      by_cases h2 : code = 2
      · rw [if_pos h2, if_pos h2]
      · rw [if_neg h2, if_neg h2]
        by_cases h5 : code < 500
        · rw [if_pos h5, if_pos h5]
        · have e := h (by omega)
          rw [if_neg h5, if_neg h5, if_pos rfl, e, if_neg (by omega), if_neg (by decide), Int.toNat_natCast]
theorem all_obj : ∀ q ∈ ALL, (kd q.1).1 = 0 → q.1 ≤ 10 := by decide +kernel
theorem all_arr : ∀ q ∈ ALL, (kd q.1).1 = 5 → q.1 = 12 := by decide +kernel
/-- from the making to the running -/
theorem ph_at {D : va_G} {ca : Nat → ClassId} {bs a : Nat} {H : Heap} {q : Nat × Nat} (hq : q ∈ ALL) (h : va_at D vwCl (a, cel ca bs 0 q.1 q.2 (sF q.1 q.2)) H) : va_at D vwCl (a, cel ca bs 1 q.1 q.2 (sF q.1 q.2)) H := by
  obtain ⟨f, k⟩ := q
  by_cases h0 : (kd f).1 = 0
  · have hf : f ≤ 10 := all_obj (f, k) hq h0
    have e : cel ca bs 0 f k (sF f k) = cel ca bs 1 f k (sF f k) := by
      unfold cel
      rw [if_pos h0, if_pos h0]
      congr 2
      apply List.ext_getElem?
      intro i
      rw [List.getElem?_mapIdx, List.getElem?_mapIdx]
      cases hi : (tyT.getD f [])[i]? with
      | none => rfl
      | some t =>
        show some (vv bs (pv 0 t k (sF f k i))) = some (vv bs (pv 1 t k (sF f k i)))
        have ht : tyf f i = t := by
          unfold tyf
          rw [List.getD_eq_getElem?_getD, hi]
          rfl
        rw [pv_ph]
        intro h5
        rw [sF_obj hf]
        unfold gF
        rw [ht, if_pos h5]
    exact e ▸ h
  · by_cases h5 : (kd f).1 = 5
    · have hf : f = 12 := all_arr (f, k) hq h5
      subst hf
      show va_at D vwCl (a, cel ca bs 1 12 k (sF 12 k)) H
      have h : va_at D vwCl (a, cel ca bs 0 12 k (sF 12 k)) H := h
      rw [cel_ref kdf_12] at h ⊢
      have h : H[a]? = some (vp_cell _ _) := h
      show H[a]? = some (vp_cell _ _)
      rw [h, vp_cell_q, vp_cell_q]
      refine congrArg some (arrV_cg ?_)
      intro j hj
      have e : sF 12 k j = ((12 * k + j : Nat) : Int) := by
        show (if 12 ≤ 10 then gF 12 k j else if 12 = 12 then (if j < 12 then ((12 * k + j : Nat) : Int) else -1) else 0) = _
        rw [if_neg (by omega : ¬ (12 : Nat) ≤ 10), if_pos (rfl : (12 : Nat) = 12), if_pos hj]
      unfold rfo
      rw [if_pos rfl, e, if_neg (by omega), Int.toNat_natCast, if_neg (by decide)]
    · have e : cel ca bs 0 f k (sF f k) = cel ca bs 1 f k (sF f k) := by
        unfold cel
        rw [if_neg h0, if_neg h0]
        by_cases h4 : (kd f).1 = 4
        · rw [if_pos h4, if_pos h4]
        · rw [if_neg h4, if_neg h4, if_neg h5, if_neg h5]
      exact e ▸ h
theorem z_ph {C : Cx} {pc n nc ns : Nat} {lm : Array Slot} {st : List PV} (k : Z C 1 pc lm st n sF nc ns) : Z C 0 pc lm st n sF nc ns := by
  obtain ⟨p, l, e, R, s, m, args, below, meth, c, Q, D, ca, bs⟩ := C
  intro H locs hR
  refine k H locs ⟨hR.1, fun i q hq => ?_, hR.2.2⟩
  unfold wo at hq
  rw [List.getElem?_map] at hq
  cases hx : (ALL.take n)[i]? with
  | none => rw [hx] at hq; cases hq
  | some x =>
    rw [hx] at hq
    cases hq
    refine ph_at (List.mem_of_mem_take (List.mem_of_getElem? hx)) (hR.2.1 i _ ?_)
    unfold wo
    rw [List.getElem?_map, hx]
    rfl
/-- the tables at the law's start -/
theorem kn_of {s : State} {args : Array Value} (hts : ∀ w ∈ TB, w.before args s = true) {f ci N n : Nat} {Cn : String} {T : u_T} {ty : Nat → FieldType} (hC : Cl f ci Cn T N ty) (hi : Cond.instantiable Cn n ∈ TB) : ∃ p : ClassId × (Nat → Nat), ∀ q, vwCl[ci]? = some q → u_Kn s q.1 q.2.1 q.2.2 p.1 p.2 := by
  obtain ⟨h1, h2, h3, -⟩ := hC
  obtain ⟨cC, iS, hk⟩ := u_known hts h3 (hts _ hi)
  refine ⟨(cC, iS), fun q hq => ?_⟩
  rw [h2] at hq
  cases hq
  exact hk
theorem ar_of {s : State} {args : Array Value} {ty : FieldType} (h : (Cond.arrayClass ty).before args s = true) : ∃ c : ClassId, ArrOfT s c ty ∧ s.vm.findClass ("[" ++ ty.toString) = some c := by
  obtain ⟨c, k, comp, h1, h2, h3⟩ := Cond.arrayClass_spec h
  exact ⟨c, fun N z => ⟨(fun k h => by cases h), k, h2, comp, h3⟩, h1⟩
theorem kk_start {s : State} {args : Array Value} (c0 : ClassId) (hts : ∀ w ∈ lw_tbl, w.before args s = true) : ∃ (D : va_G) (ca : Nat → ClassId), KK D ca s := by
  have htb : ∀ w ∈ TB, w.before args s = true := fun w hw => hts w (List.mem_filter.mp hw).1
  have hC : ∀ c : Nat, ∃ p : ClassId × (Nat → Nat), ∀ q, vwCl[c]? = some q → u_Kn s q.1 q.2.1 q.2.2 p.1 p.2 := by
    intro c
    by_cases hc : c < 11
    · rcases (by omega : c = 0 ∨ c = 1 ∨ c = 2 ∨ c = 3 ∨ c = 4 ∨ c = 5 ∨ c = 6 ∨ c = 7 ∨ c = 8 ∨ c = 9 ∨ c = 10) with rfl | rfl | rfl | rfl | rfl | rfl | rfl | rfl | rfl | rfl | rfl
      · exact kn_of htb cl_0 in0
      · exact kn_of htb cl_1 in1
      · exact kn_of htb cl_2 in2
      · exact kn_of htb cl_3 in3
      · exact kn_of htb cl_4 in4
      · exact kn_of htb cl_5 in5
      · exact kn_of htb cl_6 in6
      · exact kn_of htb cl_7 in7
      · exact kn_of htb cl_8 in8
      · exact kn_of htb cl_9 in9
      · exact kn_of htb cl_10 in10
    · refine ⟨(c0, fun x => x), fun q hq => ?_⟩
      have h1 := (List.getElem?_eq_some_iff.mp hq).1
      have h2 : vwCl.length = 11 := rfl
      omega
  obtain ⟨F, hF⟩ := Classical.axiomOfChoice hC
  obtain ⟨a0, b0, r0⟩ := ar_of (htb _ ak_int)
  obtain ⟨a1, b1, r1⟩ := ar_of (htb _ ak_byte)
  obtain ⟨a2, b2, r2⟩ := ar_of (htb _ ak_boolean)
  obtain ⟨a3, b3, r3⟩ := ar_of (htb _ ak_long)
  obtain ⟨comp, a4, k4, e1, -, e3, e4, e5⟩ := Cond.arrayOver_spec (hts _ ao_tb)
  refine ⟨(fun c => (F c).1, fun c => (F c).2), fun i => if i = 0 then a0 else if i = 1 then a1 else if i = 2 then a2 else if i = 3 then a3 else a4, ⟨fun c q hq => hF c q hq, fun k q hq => ?_⟩, va_AO.of (hts _ ao_tb), fun w hw => ?_⟩
  · have h1 := (List.getElem?_eq_some_iff.mp hq).1
    have h1 : k < 5 := h1
    rcases (by omega : k = 0 ∨ k = 1 ∨ k = 2 ∨ k = 3 ∨ k = 4) with rfl | rfl | rfl | rfl | rfl
    · cases hq; exact ⟨b0, r0⟩
    · cases hq; exact ⟨b1, r1⟩
    · cases hq; exact ⟨b2, r2⟩
    · cases hq; exact ⟨b3, r3⟩
    · cases hq; exact ⟨fun N z => ⟨(fun k h => by cases h), k4, e3, comp, e4⟩, k4, comp, e3, e4, e1, e5⟩
  · have hw2 := hts _ (nest_lw w hw)
    obtain ⟨a, i, x, hh, rfl⟩ := nest_kind w hw
    exact va_Nw.of rfl hw2
/-- both sides as made stand alike -/
def S0 : Sd := fun _ => (0, 0, 1, 0, 0, [])
def D0 : Mm := fun f k j => sF f (trk 0 f k) j
theorem z_58 (k : Nat) : sF 5 k 8 = 0 := sF_0 (by decide) ty_5_8 (by decide) (by decide)
theorem z_arr (f k j : Nat) (h : 10 < f ∧ f ≠ 12) : sF f k j = 0 := sF_arr h
theorem ji_start : JI 0 sF := by
  have x81 : ∀ k, sF 8 k 1 = 0 := fun k => sF_0 (by decide) ty_8_1 (by decide) (by decide)
  have d5 : ∀ k, D0 5 k 8 = 0 := fun k => z_58 _
  have da : ∀ f k j, 10 < f ∧ f ≠ 12 → D0 f k j = 0 := fun f k j h => sF_arr h
  have d8 : ∀ k, D0 8 k 1 = 0 := fun k => x81 _
  have hz : ∀ f, tB sF f 0 = fun _ => 0 := fun f => by
    funext j
    unfold tB
    rw [if_neg (Nat.not_lt_zero _)]
  refine ⟨0, 0, 0, 0, S0, D0, 0, ⟨⟨?_, ?_, ⟨by omega, ?_, ?_, fun k hk => absurd hk (Nat.not_lt_zero _)⟩, ⟨by omega, fun k hk => absurd hk (Nat.not_lt_zero _)⟩, fun k hk => absurd hk (Nat.not_lt_zero _), ⟨?_, by omega⟩, ⟨by omega, fun j hj => absurd hj (Nat.not_lt_zero _), fun j _ => by rw [hz], fun j => tB_r _ _ _ _⟩, fun k hk => ⟨by rw [z_58]; omega, fun r hr => by rw [z_arr _ _ _ (by omega)]; omega, fun p hp => by rw [z_arr _ _ _ (by omega)]; unfold i64; omega, fun _ r hr => z_arr _ _ _ (by omega)⟩, ?_⟩, fun f k j _ => rfl, ⟨fun k hk => ⟨by rw [d5]; omega, fun r hr => by rw [da _ _ _ (by omega)]; omega, fun p hp => by rw [da _ _ _ (by omega)]; unfold i64; omega, fun _ r hr => da _ _ _ (by omega)⟩, ⟨by rw [d8]; omega, by rw [d8]; omega⟩, fun j hj => ⟨by rw [da _ _ _ (by omega)]; omega, by rw [da _ _ _ (by omega)]; unfold i64; omega, fun _ => by rw [da _ _ _ (by omega)]; omega⟩⟩, fun k hk => ⟨by rw [d5]; omega, fun r hr => by rw [da _ _ _ (by omega)]; omega⟩, ⟨by omega, ?_, fun z => absurd z (by omega), fun i i1 i2 => absurd i2 (Nat.not_lt_zero _)⟩⟩, ⟨⟨?_, by omega⟩, by rw [hz, hz], ⟨?_, fun k hk => absurd hk (Nat.not_lt_zero _)⟩, ⟨fun k hk => absurd hk (Nat.not_lt_zero _), ?_, ?_, fun i hi => ⟨fun z => by rw [d8] at z; omega, fun z => by rw [d8] at z; omega⟩⟩, ?_, fun z => absurd z (by omega)⟩, by unfold cnts; rw [d8, d8]; omega⟩
  · exact sF_0 (by decide) ty_0_3 (by decide) (by decide)
  · exact sF_04 ty_0_4
  · exact sF_0 (by decide) ty_4_1 (by decide) (by decide)
  · exact sF_0 (by decide) ty_7_5 (by decide) (by decide)
  · exact sF_0 (by decide) ty_1_1 (by decide) (by decide)
  · exact sF_0 (by decide) ty_7_8 (by decide) (by decide)
  · exact sF_0 (by decide) ty_7_10 (by decide) (by decide)
  · exact sF_0 (by decide) ty_10_1 (by decide) (by decide)
  · exact sF_0 (by decide) ty_10_32 (by decide) (by decide)
  · rw [d8]; exact sF_0 (by decide) ty_10_44 (by decide) (by decide)
  · rw [d8]; exact sF_0 (by decide) ty_10_48 (by decide) (by decide)
  · exact sF_0 (by decide) ty_10_53 (by decide) (by decide)
end SS
