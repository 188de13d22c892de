/-! one call on both sides -/
section ST
theorem CI_tp {t n L L' q : Nat} {S : Sd} {D σ σ' : Mm} {why : Int} (h : CI t n L S D q why σ) (hf : ∀ f k j, f ≠ 10 ∧ f < 30 ∧ f ≠ 11 ∧ ¬ (f = 1 ∧ j = 1) → σ' f k j = σ f k j) (hT : TapeL σ' L') (hB : BOk (tB σ' 11 L') L') : CI t n L' S D q why σ' := by
  obtain ⟨⟨a1, a2, ⟨k1, k2, k3, k4⟩, a4, a5, a6, a7, a8, a9⟩, hc, hd, hnu, r1, r2, r3, r4⟩ := h
  refine ⟨⟨by rw [hf _ _ _ (by omega)]; exact a1, by rw [hf _ _ _ (by omega)]; exact a2, ⟨k1, by rw [hf _ _ _ (by omega)]; exact k2, by rw [hf _ _ _ (by omega)]; exact k3, fun k hk => ?_⟩, a4, a5, hT, hB, fun k hk => ?_, by rw [hf _ _ _ (by omega)]; exact a9⟩, fun f k j hdy => ?_, hd, hnu, r1, by rw [hf _ _ _ (by omega)]; exact r2, fun z => by rw [hf _ _ _ (by omega)]; exact r3 z, fun i i1 i2 => by rw [hf _ _ _ (by omega)]; exact r4 i i1 i2⟩
  · have hn := a4.1
    obtain ⟨⟨t1, t2, t3, t4, t5⟩, f1, f2⟩ := k4 k hk
    refine ⟨⟨by rw [hf _ _ _ (by omega)]; exact t1, by rw [hf _ _ _ (by omega)]; exact t2, by rw [hf _ _ _ (by omega)]; exact t3, by rw [hf _ _ _ (by omega)]; exact t4, fun z => by rw [hf _ _ _ (by omega)]; exact t5 z⟩, by rw [hf _ _ _ (by omega)]; exact f1, fun j hj => ?_⟩
    obtain ⟨g1, g2, g3⟩ := f2 j hj
    exact ⟨by rw [hf _ _ _ (by omega)]; exact g1, by rw [hf _ _ _ (by omega)]; exact g2, by rw [hf _ _ _ (by omega)]; exact g3⟩
  · obtain ⟨b1, b2, b3, b4⟩ := a8 k hk
    have e5 : σ' 5 (12 * (1 - t) + k) 8 = σ 5 (12 * (1 - t) + k) 8 := hf _ _ _ (by omega)
    have e17 : ∀ r, σ' 17 (12 * (1 - t) + k) r = σ 17 (12 * (1 - t) + k) r := fun r => hf _ _ _ (by omega)
    have e16 : ∀ r, σ' 16 (12 * (1 - t) + k) r = σ 16 (12 * (1 - t) + k) r := fun r => hf _ _ _ (by omega)
    rw [e5]
    exact ⟨b1, fun r hr => by rw [e17]; exact b2 r hr, fun p hp => by rw [e16]; exact b3 p hp, fun z r hr => by rw [e17]; exact b4 z r hr⟩
  · rw [← hc f k j hdy]
    refine hf _ _ _ ?_
    unfold dyn at hdy
    omega
theorem tB_eq {σ σ' : Mm} {f L : Nat} (h : ∀ j, σ' f 0 j = σ f 0 j) : tB σ' f L = tB σ f L := by
  funext j
  unfold tB
  rw [h]
/-- the class's invariant does not speak of the reference -/
theorem CI_own {t n L q : Nat} {S : Sd} {D σ σ' : Mm} {why : Int} (h : CI t n L S D q why σ) (hf : ∀ f k j, f ≠ 10 ∧ f < 30 → σ' f k j = σ f k j) : CI t n L S D q why σ' := by
  refine CI_tp h (fun f k j q => hf f k j ⟨q.1, q.2.1⟩) ⟨by rw [hf _ _ _ (by omega)]; exact h.1.2.2.2.2.2.1.1, h.1.2.2.2.2.2.1.2⟩ ?_
  rw [tB_eq (fun j => hf 11 0 j (by omega))]
  exact h.1.2.2.2.2.2.2.1
theorem RI_tp {n L L' q : Nat} {B : Nat → Int} {S : Sd} {D σ σ' : Mm} {why : Int} (h : RI n L B S D q why σ) (hf : ∀ f k j, (f = 10 ∧ (j = 32 ∨ j = 44 ∨ j = 48 ∨ j = 53 ∨ j = 54)) ∨ (63 ≤ f ∧ f ≤ 82) → σ' f k j = σ f k j) (hT : TapeM σ' L') : RI n L' (tB σ' 30 L') S D q why σ' := by
  obtain ⟨h1, h2, ⟨s1, s2⟩, ⟨g1, l1, l2, l3⟩, h5, h6⟩ := h
  refine ⟨hT, rfl, ⟨by rw [hf _ _ _ (by omega)]; exact s1, fun k hk => ?_⟩, ⟨fun k hk => ?_, by rw [hf _ _ _ (by omega)]; exact l1, by rw [hf _ _ _ (by omega)]; exact l2, fun i hi => ?_⟩, by rw [hf _ _ _ (by omega)]; exact h5, fun z => by rw [hf _ _ _ (by omega)]; exact h6 z⟩
  · obtain ⟨⟨a1, a2, a3, a4, a5⟩, c, c1, c2, c3, c4⟩ := s2 k hk
    refine ⟨⟨by rw [hf _ _ _ (by omega)]; exact a1, by rw [hf _ _ _ (by omega)]; exact a2, by rw [hf _ _ _ (by omega)]; exact a3, by rw [hf _ _ _ (by omega)]; exact a4, by rw [hf _ _ _ (by omega)]; exact a5⟩, c, by rw [hf _ _ _ (by omega)]; exact c1, by rw [hf _ _ _ (by omega)]; exact c2, c3, fun j hj => ?_⟩
    rw [hf _ _ _ (by omega), hf _ _ _ (by omega)]
    exact c4 j hj
  · obtain ⟨a1, a2⟩ := g1 k hk
    refine ⟨by rw [hf _ _ _ (by omega)]; exact a1, fun z => ?_⟩
    obtain ⟨b1, b2, b3⟩ := a2 z
    exact ⟨b1, fun y r hr => by rw [hf _ _ _ (by omega)]; exact b2 y r hr, fun p hp y => by rw [hf _ _ _ (by omega)]; exact b3 p hp y⟩
  · obtain ⟨a1, a2⟩ := l3 i hi
    exact ⟨fun z => by rw [hf _ _ _ (by omega), hf _ _ _ (by omega), hf _ _ _ (by omega)]; exact a1 z, fun z => by rw [hf _ _ _ (by omega), hf _ _ _ (by omega), hf _ _ _ (by omega), hf _ _ _ (by omega)]; exact a2 z⟩
/-- the reference's invariant does not speak of the class -/
theorem RI_own {n L q : Nat} {B : Nat → Int} {S : Sd} {D σ σ' : Mm} {why : Int} (h : RI n L B S D q why σ) (hf : ∀ f k j, (f = 10 ∨ 30 ≤ f) → σ' f k j = σ f k j) : RI n L B S D q why σ' := by
  have e : tB σ' 30 L = B := (tB_eq (fun j => hf 30 0 j (by omega))).trans h.2.1
  have g := RI_tp h (fun f k j z => hf f k j (by omega)) (⟨by rw [hf _ _ _ (by omega)]; exact h.1.1, h.1.2⟩ : TapeM σ' L)
  rw [e] at g
  exact g
def cnts (D : Mm) : Int := D 8 0 1 + D 8 1 1
theorem Psi_le (D : Mm) : Psi D ≤ cnts D + 360000 := by
  have := (tbW_r D 12).2
  unfold Psi cnts
  omega
theorem cnts_le (D : Mm) : cnts D ≤ Psi D := by
  have := (tbW_r D 12).1
  unfold Psi cnts
  omega
/-- both sides stand alike -/
def JI (P : Int) (σ : Mm) : Prop := ∃ (t n L q : Nat) (S : Sd) (D : Mm) (why : Int), CI t n L S D q why σ ∧ RI n L (tB σ 11 L) S D q why σ ∧ cnts D ≤ P
theorem JI_mono {P P' : Int} {σ : Mm} (h : JI P σ) (hp : P ≤ P') : JI P' σ := by
  obtain ⟨t, n, L, q, S, D, why, h1, h2, h3⟩ := h
  exact ⟨t, n, L, q, S, D, why, h1, h2, by omega⟩
/-- a call on both sides: the same answer, and both stand alike behind it -/
def STP (P : Int) (kk : Int → PV) (A M : Mt) (as : List PV) (σ : Mm) : Prop := ∃ (x : Int) (d1 d2 : Nat) (σ1 σ2 : Mm), d1 ≤ 80 ∧ d2 ≤ 80 ∧ Ct d1 A 1 (vR 0 0 :: as) NALL σ (some (kk x)) NALL σ1 0 0 ∧ Ct d2 M 1 (vR 10 0 :: as) NALL σ1 (some (kk x)) NALL σ2 0 0 ∧ JI (P + 361001) σ2
theorem stp_same {P x : Int} {kk : Int → PV} {A M : Mt} {as : List PV} {σ : Mm} {d1 d2 : Nat} (hJ : JI P σ) (h1 : d1 ≤ 80) (h2 : d2 ≤ 80) (c1 : Ct d1 A 1 (vR 0 0 :: as) NALL σ (some (kk x)) NALL σ 0 0) (c2 : Ct d2 M 1 (vR 10 0 :: as) NALL σ (some (kk x)) NALL σ 0 0) : STP P kk A M as σ := ⟨x, d1, d2, σ, σ, h1, h2, c1, c2, JI_mono hJ (by omega)⟩
/-- both called, the invariants behind the calls -/
theorem JI_two {t n L q q1 : Nat} {S : Sd} {D D1 σ σ1 : Mm} {why why1 P1 : Int} (hI : CI t n L S D q why σ) (hR : RI n L (tB σ 11 L) S D q why σ) (hf1 : FrC σ1 σ) (hI1 : CI t n L S D1 q1 why1 σ1) (hp : cnts D1 ≤ P1) : RI n L (tB σ 11 L) S D q why σ1 ∧ ∀ σ2, FrH σ2 σ1 → RI n L (tB σ 11 L) S D1 q1 why1 σ2 → JI P1 σ2 := by
  refine ⟨RI_own hR (fun f k j z => hf1 f k j (by omega)), fun σ2 hf2 hR2 => ⟨t, n, L, q1, S, D1, why1, CI_own hI1 (fun f k j z => hf2 f k j (by omega)), ?_, hp⟩⟩
  have e : tB σ2 11 L = tB σ 11 L := tB_eq (fun j => (hf2 11 0 j (by omega)).trans (hf1 11 0 j (by omega)))
  rw [e]
  exact hR2
theorem PsB {P : Int} {D : Mm} (hp : cnts D ≤ P) (hP : P ≤ 2146000000) : Psi D + 1001 ≤ BD ∧ Psi D + 1001 ≤ 2147483600 := by
  have := Psi_le D
  have : BD = 2147483500 := rfl
  omega
variable {P : Int} {σ : Mm}
theorem s_named {w : Int} (hw : i64 w) (hJ : JI P σ) : STP P vI mX9_named mX10_named [vL w] σ := by
  have hJ' := hJ
  obtain ⟨t, n, L, q, S, D, why, hI, hR, hp⟩ := hJ
  exact stp_same hJ' (by omega) (Nat.zero_le 80) (c9_named hI hw) (m9_named (d := 0) hI.1.2.2.2.1.1 hR hw (fun k hk => (hI.1.2.2.2.2.1 k hk).1))
theorem s_size {x : Int} (hx : i32 x) (hJ : JI P σ) : STP P vI mX9_size mX10_size [vI x] σ := by
  have hJ' := hJ
  obtain ⟨t, n, L, q, S, D, why, hI, hR, hp⟩ := hJ
  exact stp_same hJ' (by omega) (by omega) (c9_size hI hx) (m9_size (d := 0) hI.1.2.2.2.1.1 hR hx)
theorem s_state {x : Int} (hx : i32 x) (hJ : JI P σ) : STP P vI mX9_state mX10_state [vI x] σ := by
  have hJ' := hJ
  obtain ⟨t, n, L, q, S, D, why, hI, hR, hp⟩ := hJ
  exact stp_same hJ' (by omega) (by omega) (c9_state hI hx) (m9_state (d := 0) hI.1.2.2.2.1.1 hR hx)
theorem s_row {x r : Int} (hx : i32 x) (hr : i32 r) (hJ : JI P σ) : STP P vI mX9_row mX10_row [vI x, vI r] σ := by
  have hJ' := hJ
  obtain ⟨t, n, L, q, S, D, why, hI, hR, hp⟩ := hJ
  exact stp_same hJ' (by omega) (by omega) (c9_row hI hx hr) (m9_row (d := 0) hI.1.2.2.2.1 hI.2.2.1 hR hx hr)
theorem s_reason {k : Int} (hk : i32 k) (hJ : JI P σ) : STP P vI mX9_reason mX10_reason [vI k] σ := by
  have hJ' := hJ
  obtain ⟨t, n, L, q, S, D, why, hI, hR, hp⟩ := hJ
  exact stp_same hJ' (by omega) (by omega) (c9_reason hI hk) (m9_reason (d := 0) hR hI.2.2.2.2.1 hk)
theorem s_builds (hJ : JI P σ) : STP P vI mX9_builds mX10_builds [] σ := by
  have hJ' := hJ
  obtain ⟨t, n, L, q, S, D, why, hI, hR, hp⟩ := hJ
  exact stp_same hJ' (by omega) (Nat.zero_le 80) (c9_builds hI) (m9_builds (d := 0) hR)
theorem s_halves (hJ : JI P σ) : STP P vI mX9_halves mX10_halves [] σ := by
  have hJ' := hJ
  obtain ⟨t, n, L, q, S, D, why, hI, hR, hp⟩ := hJ
  exact stp_same hJ' (by omega) (Nat.zero_le 80) (c9_halves hI) (m9_halves (d := 0) hR)
theorem s_build {i w : Int} (hi : i32 i) (hw : i32 w) (hP : P ≤ 2146000000) (hJ : JI P σ) : STP P vI mX9_build mX10_build [vI i, vI w] σ := by
  have hJ' := hJ
  obtain ⟨t, n, L, q, S, D, why, hI, hR, hp⟩ := hJ
  have hb := PsB hp hP
  have h8 := hI.2.2.1.2.1
  have hc := Psi_c hI.2.2.1
  exact stp_same hJ' (by omega) (by omega) (c9_build hI (by omega) hi hw) (m9_build (d := 0) hR (by omega) hi hw)
theorem s_half {i w : Int} (hi : i32 i) (hw : i32 w) (hP : P ≤ 2146000000) (hJ : JI P σ) : STP P vL mX9_half mX10_half_ [vI i, vI w] σ := by
  have hJ' := hJ
  obtain ⟨t, n, L, q, S, D, why, hI, hR, hp⟩ := hJ
  have hb := PsB hp hP
  have h8 := hI.2.2.1.2.1
  have hc := Psi_c hI.2.2.1
  exact stp_same hJ' (by omega) (by omega) (c9_half hI (by omega) hi hw) (m9_half (d := 0) hR hI.2.2.1 (by omega) hi hw)
theorem s_reads {x y : Int} (hx : i32 x) (hy : i32 y) (hJ : JI P σ) : STP P vI mX9_reads mX10_reads [vI x, vI y] σ := by
  have hJ' := hJ
  obtain ⟨t, n, L, q, S, D, why, hI, hR, hp⟩ := hJ
  obtain ⟨r, h1, h2⟩ : ∃ r, isReads n S x y r ∧ i32 r := by
    by_cases h : isT n x ∧ isT n y
    · by_cases h3 : namesE S x.toNat y
      · exact ⟨1, ⟨fun z => absurd h z, fun _ => ⟨fun _ => rfl, fun z => absurd h3 z⟩⟩, by unfold i32; omega⟩
      · exact ⟨0, ⟨fun z => absurd h z, fun _ => ⟨fun z => absurd z h3, fun _ => rfl⟩⟩, by unfold i32; omega⟩
    · exact ⟨-1, ⟨fun _ => rfl, fun z => absurd z h⟩, by unfold i32; omega⟩
  exact stp_same hJ' (by omega) (by omega) (c9_reads hI hx hy h1) (m9_reads (d := 0) hI.1.2.2.2.1 hR hx hy h1)
theorem s_count {w : Int} (hw : i32 w) (hJ : JI P σ) : STP P vI mX9_count mX10_count [vI w] σ := by
  have hJ' := hJ
  obtain ⟨t, n, L, q, S, D, why, hI, hR, hp⟩ := hJ
  exact stp_same hJ' (by omega) (by omega) (c9_count hI hw) (m9_count hI.1.2.2.2.1 hI.2.2.1 hR hw)
theorem s_drop {x : Int} (hx : i32 x) (hJ : JI P σ) : STP P vI mX9_drop mX10_drop [vI x] σ := by
  obtain ⟨t, n, L, q, S, D, why, hI, hR, hp⟩ := hJ
  obtain ⟨σ1, f1, i1, c1⟩ := c9_drop hI hx
  have hd : cnts (dDrop n D x) ≤ P + 361001 := by
    have e : cnts (dDrop n D x) = cnts D := by
      unfold cnts dDrop
      split
      · split
        · rw [sleepT_o _ _ (by decide) (by omega), sleepT_o _ _ (by decide) (by omega)]
        · rfl
      · rfl
    omega
  obtain ⟨g1, g2⟩ := JI_two hI hR f1 i1 hd
  obtain ⟨σ2, f2, r2, c2⟩ := m9_drop (d := 0) hI.1.2.2.2.1.1 hI.2.2.1 g1 hx
  exact ⟨_, _, _, σ1, σ2, by omega, by omega, c1, c2, g2 σ2 f2 r2⟩
theorem cnt_EK {S : Sd} {c P : Int} {D : Mm} {r : ER} (h : EK S c D r) (hc : c ≤ 1001) (hp : cnts D ≤ P) : cnts (dF r) ≤ P + 361001 := by
  have h1 := Psi_le D
  have h2 := cnts_le (dF r)
  have h3 : Psi (dF r) ≤ Psi D + c := by
    cases r with
    | inl y => exact h.2.1
    | inr y => exact h.2.1
  omega
theorem s_entry {x p : Int} (hx : i32 x) (hpp : i32 p) (hP : P ≤ 2146000000) (hJ : JI P σ) : STP P vL mX9_entry mX10_entry [vI x, vI p] σ := by
  obtain ⟨t, n, L, q, S, D, why, hI, hR, hp⟩ := hJ
  have hb := PsB hp hP
  by_cases hT : isT n x
  · obtain ⟨k, rfl, hk⟩ := isT_n hT
    obtain ⟨σ1, f1, i1, c1⟩ := c9_entry hI hk hpp (by omega)
    obtain ⟨g1, g2⟩ := JI_two hI hR f1 i1 (cnt_EK (EK_of (askTop_i hI.1.2.2.2.1 p hI.2.2.1 hk)) (by omega) hp)
    obtain ⟨σ2, f2, r2, c2⟩ := m9_entry hI.1.2.2.2.1 hI.2.2.1 hI.2.2.2.1 g1 hk hpp (by omega)
    exact ⟨_, _, _, σ1, σ2, by omega, by omega, c1, c2, g2 σ2 f2 r2⟩
  · obtain ⟨f1, i1, c1⟩ := c9_entryN hI hx hT hpp
    obtain ⟨g1, g2⟩ := JI_two (P1 := P + 361001) hI hR f1 i1 (by omega)
    obtain ⟨σ2, f2, r2, c2⟩ := m9_entryN hI.1.2.2.2.1 g1 hx hT
    exact ⟨_, _, _, _, σ2, by omega, by omega, c1, c2, g2 σ2 f2 r2⟩
theorem s_sum {x a b k : Int} (hx : i32 x) (ha : i32 a) (hb : i32 b) (hk : i32 k) (hP : P ≤ 2146000000) (hJ : JI P σ) : STP P vL mX9_sum mX10_sum [vI x, vI a, vI b, vI k] σ := by
  have hJ' := hJ
  obtain ⟨t, n, L, q, S, D, why, hI, hR, hp⟩ := hJ
  have hpb := PsB hp hP
  by_cases hT : isT n x
  · obtain ⟨k0, rfl, hk0⟩ := isT_n hT
    by_cases hbad : badSum a b k
    · exact stp_same hJ' (by omega) (by omega) (c9_sumO hI hk0 ha hb hk hbad) (m9_sumO hI.1.2.2.2.1 hR hk0 ha hb hk hbad)
    · obtain ⟨σ1, f1, i1, c1⟩ := c9_sum hI hk0 ha hb hk hbad (by omega)
      have he := sumR_i hI.1.2.2.2.1 hk0 (b - a + 1).toNat a 0 D hI.2.2.1
      obtain ⟨g1, g2⟩ := JI_two hI hR f1 i1 (cnt_EK he (by unfold badSum at hbad; omega) hp)
      obtain ⟨σ2, f2, r2, c2⟩ := m9_sum hI.1.2.2.2.1 hI.2.2.1 hI.2.2.2.1 g1 hk0 ha hb hk hbad (by omega)
      exact ⟨_, _, _, σ1, σ2, by omega, by omega, c1, c2, g2 σ2 f2 r2⟩
  · exact stp_same hJ' (by omega) (by omega) (c9_sumN hI hx hT) (m9_sumN hI.1.2.2.2.1 hR hx hT)
theorem s_find {x v : Int} (hx : i32 x) (hv : i64 v) (hP : P ≤ 2146000000) (hJ : JI P σ) : STP P vI mX9_find mX10_find [vI x, vL v] σ := by
  have hJ' := hJ
  obtain ⟨t, n, L, q, S, D, why, hI, hR, hp⟩ := hJ
  have hpb := PsB hp hP
  by_cases hT : isT n x
  · obtain ⟨k0, rfl, hk0⟩ := isT_n hT
    obtain ⟨σ1, f1, i1, c1⟩ := c9_find hI hk0 hv (by omega)
    have he := findE_i hI.1.2.2.2.1 hI.2.2.1 hk0 (wanted := v)
    obtain ⟨g1, g2⟩ := JI_two hI hR f1 i1 (cnt_EK he (by omega) hp)
    obtain ⟨σ2, f2, r2, c2⟩ := m9_find hI.1.2.2.2.1 hI.2.2.1 hI.2.2.2.1 g1 hk0 hv (by omega)
    exact ⟨_, _, _, σ1, σ2, by omega, by omega, c1, c2, g2 σ2 f2 r2⟩
  · exact stp_same hJ' (by omega) (by omega) (c9_findN hI hx hT) (m9_findN hI.1.2.2.2.1 hR hx hT)
theorem s_cut (hJ : JI P σ) : STP P vI mX9_cut mX10_cut [] σ := by
  obtain ⟨t, n, L, q, S, D, why, hI, hR, hp⟩ := hJ
  have e11 : ∀ j, up3 (up3 σ 1 0 1 0) 10 0 1 0 11 0 j = σ 11 0 j := fun j => by rw [up3_f _ _ (by decide), up3_f _ _ (by decide)]
  refine ⟨_, 2, 0, up3 σ 1 0 1 0, up3 (up3 σ 1 0 1 0) 10 0 1 0, by omega, by omega, c9_cut hI.1.2.2.2.2.2.1, m_cut (d := 0) ⟨by rw [up3_f _ _ (by decide)]; exact hR.1.1, hR.1.2⟩, ⟨t, n, 0, q, S, D, why, ?_, ?_, by omega⟩⟩
  · refine CI_tp hI (fun f k j z => ?_) ⟨by rw [up3_f _ _ (by decide), up3_s]; rfl, by omega⟩ ⟨by omega, fun j hj => absurd hj (Nat.not_lt_zero _), fun j _ => ?_, fun j => tB_r _ _ _ _⟩
    · rw [up3_f _ _ z.1, up3_n _ (by omega)]
    · unfold tB; rw [if_neg (Nat.not_lt_zero _)]
  · have e : tB (up3 (up3 σ 1 0 1 0) 10 0 1 0) 11 0 = tB (up3 (up3 σ 1 0 1 0) 10 0 1 0) 30 0 := by
      funext j
      unfold tB
      rw [if_neg (Nat.not_lt_zero _), if_neg (Nat.not_lt_zero _)]
    rw [e]
    refine RI_tp hR (fun f k j z => ?_) ⟨by rw [up3_s]; rfl, by omega⟩
    rw [up3_n _ (by omega), up3_n _ (by omega)]
theorem s_feed {w : Int} (hJ : JI P σ) : STP P vI mX9_feed mX10_feed [vL w] σ := by
  obtain ⟨t, n, L, q, S, D, why, hI, hR, hp⟩ := hJ
  have hT := hI.1.2.2.2.2.2.1
  have hB := hI.1.2.2.2.2.2.2.1
  by_cases hfit : L + bin w ≤ 900
  · have c1 := c9_feed (w := w) hT
    rw [if_pos hfit, if_pos hfit] at c1
    obtain ⟨σ1, h1⟩ : ∃ x, x = up3 (apdS σ 11 w L (bin w)) 1 0 1 (L + bin w) := ⟨_, rfl⟩
    rw [← h1] at c1
    have a1 : ∀ f k j, f ≠ 11 ∧ ¬ (f = 1 ∧ j = 1) → σ1 f k j = σ f k j := fun f k j z => by
      rw [h1, up3_n _ (by omega), apdS_f _ _ _ _ z.1]
    have hT1 : TapeM σ1 L := ⟨by rw [a1 _ _ _ (by omega)]; exact hR.1.1, hR.1.2⟩
    have c2 := m_feed (d := 0) (w := w) hT1
    rw [if_pos hfit, if_pos hfit] at c2
    obtain ⟨σ2, h2⟩ : ∃ x, x = up3 (apdS σ1 30 w L (bin w)) 10 0 1 (L + bin w) := ⟨_, rfl⟩
    rw [← h2] at c2
    have a2 : ∀ f k j, f ≠ 30 ∧ ¬ (f = 10 ∧ j = 1) → σ2 f k j = σ1 f k j := fun f k j z => by
      rw [h2, up3_n _ (by omega), apdS_f _ _ _ _ z.1]
    have b11 : ∀ j, σ2 11 0 j = if L ≤ j ∧ j < L + bin w then w8 (ushrL w (8 * ((j - L : Nat) : Int))) else σ 11 0 j := fun j => by
      rw [a2 _ _ _ (by omega), h1, up3_f _ _ (by decide), apdS_in]
    have b30 : ∀ j, σ2 30 0 j = if L ≤ j ∧ j < L + bin w then w8 (ushrL w (8 * ((j - L : Nat) : Int))) else σ 30 0 j := fun j => by
      rw [h2, up3_f _ _ (by decide), apdS_in, a1 30 0 j (by omega)]
    have hw8 : ∀ x : Int, w8 x % 256 = x % 256 := fun x => by
      unfold w8
      rw [Int32.toInt_toInt8, Int32.toInt_ofInt, Int.bmod_eq_emod, Int.bmod_eq_emod]
      have e1 : Int32.size = 4294967296 := rfl
      rw [e1]
      split <;> split <;> omega
    have eB : tB σ2 11 (L + bin w) = tB σ2 30 (L + bin w) := by
      funext j
      unfold tB
      by_cases hj : j < L + bin w
      · rw [if_pos hj, if_pos hj, b11, b30]
        by_cases h3 : L ≤ j ∧ j < L + bin w
        · rw [if_pos h3, if_pos h3]
        · rw [if_neg h3, if_neg h3]
          have e := congrFun hR.2.1 j
          unfold tB at e
          rw [if_pos (by omega), if_pos (by omega)] at e
          exact e.symm
      · rw [if_neg hj, if_neg hj]
    refine ⟨_, 2, 0, σ1, σ2, by omega, by omega, c1, c2, ⟨t, n, L + bin w, q, S, D, why, ?_, ?_, by omega⟩⟩
    · refine CI_tp hI (fun f k j z => ?_) ⟨by rw [a2 _ _ _ (by omega), h1, up3_s]; rfl, hfit⟩ (tB_ok hfit (fun j hj => ?_))
      · rw [a2 _ _ _ (by omega), a1 _ _ _ (by omega)]
      · rw [b11]
        by_cases h3 : L ≤ j ∧ j < L + bin w
        · rw [if_pos h3, hw8]
          exact bin_nz w (j - L) (by omega)
        · rw [if_neg h3]
          have e := hB.2.1 j (by omega)
          unfold tB at e
          rw [if_pos (by omega)] at e
          exact e
    · rw [eB]
      refine RI_tp hR (fun f k j z => ?_) ⟨by rw [h2, up3_s]; rfl, hfit⟩
      rw [a2 _ _ _ (by omega), a1 _ _ _ (by omega)]
  · have c1 := c9_feed (w := w) hT
    have c2 := m_feed (d := 0) (w := w) hR.1
    rw [if_neg hfit, if_neg hfit] at c1 c2
    exact stp_same ⟨t, n, L, q, S, D, why, hI, hR, hp⟩ (by omega) (Nat.zero_le 80) c1 c2
theorem s_read (h0 : 0 ≤ P) (hJ : JI P σ) : STP P vI mX9_read mX10_read [] σ := by
  obtain ⟨t, n, L, q, S, D, why, hI, hR, hp⟩ := hJ
  have hB := hI.1.2.2.2.2.2.2.1
  have c := c9_read hI
  cases hv : readF (tB σ 11 L) with
  | inl e =>
    rw [hv] at c
    obtain ⟨σ1, f1, i1, c1⟩ := c
    have r1 := RI_own hR (fun f k j z => f1 f k j (by omega))
    have e1 : tB σ1 30 L = tB σ 11 L := r1.2.1
    have m := m_read r1.1 (by rw [e1]; exact hB)
    rw [e1, hv] at m
    obtain ⟨σ2, f2, c2⟩ := m
    refine ⟨_, 80, 7, σ1, σ2, by omega, by omega, c1, c2, ⟨t, n, L, q, S, D, why, CI_own i1 (fun f k j z => f2 f k j (by omega)), ?_, by omega⟩⟩
    have e2 : tB σ2 11 L = tB σ2 30 L := by
      rw [tB_eq (fun j => (f2 11 0 j (by omega)).trans (f1 11 0 j (by omega))), tB_eq (σ' := σ2) (σ := σ1) (fun j => f2 30 0 j (by omega)), e1]
    rw [e2]
    exact RI_tp r1 (fun f k j z => f2 f k j (by omega)) ⟨by rw [f2 _ _ _ (by omega)]; exact r1.1.1, r1.1.2⟩
  | inr ds =>
    rw [hv] at c
    obtain ⟨σ1, D', f1, i1, ⟨d1, d2⟩, d3, c1⟩ := c
    have r1 := RI_own hR (fun f k j z => f1 f k j (by omega))
    have e1 : tB σ1 30 L = tB σ 11 L := r1.2.1
    have m := m_read r1.1 (by rw [e1]; exact hB)
    rw [e1, hv] at m
    obtain ⟨σ2, f2, s2, z71, ⟨z44, z48, z53, z1⟩, c2⟩ := m
    refine ⟨_, 80, 7, σ1, σ2, by omega, by omega, c1, c2, ⟨1 - t, ds.length, 0, 0, Sof ds, D', 0, CI_own i1 (fun f k j z => f2 f k j (by omega)), ⟨⟨z1, by omega⟩, ?_, s2, ⟨fun k hk => ⟨by rw [z71 k hk, d3 k hk], fun z => ?_⟩, by rw [z44, d1], by rw [z48, d2], fun i hi => ⟨fun z => ?_, fun z => ?_⟩⟩, z53, fun z => absurd z (by omega)⟩, ?_⟩⟩
    · funext j
      unfold tB
      rw [if_neg (Nat.not_lt_zero _), if_neg (Nat.not_lt_zero _)]
    · rw [d3 k hk] at z; omega
    · rw [d1] at z; omega
    · rw [d2] at z; omega
    · unfold cnts; rw [d1, d2]; omega
end ST
