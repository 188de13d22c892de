/-! TOKENS of a row of bytes, and the class that goes over them -/
def isDg (b : Int) : Bool := decide (48 ≤ b) && decide (b ≤ 57)
def isLe (b : Int) : Bool := decide (97 ≤ b) && decide (b ≤ 122)
def isBl (b : Int) : Bool := decide (b = 32) || decide (b = 10)
def isSg (b : Int) : Bool := [91, 93, 40, 41, 61, 43, 45, 42, 47, 37, 60, 63, 58, 35, 59].contains b
/-- the end of the run from p on -/
def runE (P : Int → Bool) (B : Nat → Int) : Nat → Nat → Nat
  | 0, p => p
  | c + 1, p => if P (B p) then runE P B c (p + 1) else p
def rn (P : Int → Bool) (B : Nat → Int) (p : Nat) : Nat := runE P B (901 - p) p
theorem rn_go {P : Int → Bool} {B : Nat → Int} {p : Nat} (h : P (B p) = true) (hp : p < 901) : rn P B p = rn P B (p + 1) := by
  unfold rn
  rw [show 901 - p = (901 - (p + 1)) + 1 by omega, runE, if_pos h]
theorem rn_st {P : Int → Bool} {B : Nat → Int} {p : Nat} (h : P (B p) = false) : rn P B p = p := by
  unfold rn
  cases 901 - p with
  | zero => rfl
  | succ c => rw [runE, if_neg (by rw [h]; decide)]
theorem runE_le (P : Int → Bool) (B : Nat → Int) {L : Nat} (hP : P 0 = false) (hB : ∀ j, L ≤ j → B j = 0) : ∀ c p : Nat, p ≤ runE P B c p ∧ (p ≤ L → runE P B c p ≤ L) := by
  intro c
  induction c with
  | zero => intro p; exact ⟨Nat.le_refl _, fun h => h⟩
  | succ c ih =>
    intro p
    unfold runE
    split
    · next h =>
      have h2 := ih (p + 1)
      refine ⟨by omega, fun hp => h2.2 ?_⟩
      rcases Nat.lt_or_ge p L with q | q
      · omega
      · rw [hB p q, hP] at h; cases h
    · exact ⟨Nat.le_refl _, fun h => h⟩
theorem rn_le {P : Int → Bool} {B : Nat → Int} {L : Nat} (hP : P 0 = false) (hB : ∀ j, L ≤ j → B j = 0) (p : Nat) : p ≤ rn P B p ∧ (p ≤ L → rn P B p ≤ L) := runE_le P B hP hB _ _
/-- numbers and names as far as they are read -/
def numV (B : Nat → Int) (p : Nat) : Nat → Int
  | 0 => 0
  | i + 1 => numV B p i * 10 + (B (p + i) - 48)
def letV (B : Nat → Int) (p : Nat) : Nat → Int
  | 0 => 0
  | i + 1 => if i < 5 then orL (letV B p i) (shlL (B (p + i)) (8 * i)) else letV B p i
def kindW (v : Int) : Int := if v = 435610083700 then 4 else if v = 435610937463 then 5 else if v = 1937207154 then 6 else if v = 7173491 then 7 else if v = 105 then 8 else 2
/-- the TOKEN at a place that is no blank: its kind, its worth, its end -/
def tkK (B : Nat → Int) (q : Nat) : Int := if isDg (B q) then (if 6 < rn isDg B q - q then 3 else 1) else if isLe (B q) then (if 5 < rn isLe B q - q then 3 else kindW (letV B q (rn isLe B q - q))) else if isSg (B q) then B q else if B q = 0 then 0 else 3
def tkV (B : Nat → Int) (q : Nat) : Int := if isDg (B q) then numV B q (rn isDg B q - q) else if isLe (B q) then letV B q (rn isLe B q - q) else 0
def tkE (B : Nat → Int) (q : Nat) : Nat := if isDg (B q) then rn isDg B q else if isLe (B q) then rn isLe B q else q + 1
/-- the state of the class Tokens -/
def tkS (σ : Mm) (a b c v : Int) : Mm := up3 (up3 (up3 (up3 σ 3 0 1 a) 3 0 2 b) 3 0 3 c) 3 0 4 v
theorem tkS_r1 (σ : Mm) (a b c v : Int) : tkS σ a b c v 3 0 1 = a := by simp [tkS, up3]
theorem tkS_r2 (σ : Mm) (a b c v : Int) : tkS σ a b c v 3 0 2 = b := by simp [tkS, up3]
theorem tkS_r3 (σ : Mm) (a b c v : Int) : tkS σ a b c v 3 0 3 = c := by simp [tkS, up3]
theorem tkS_r4 (σ : Mm) (a b c v : Int) : tkS σ a b c v 3 0 4 = v := by simp [tkS, up3]
theorem tkS_f (σ : Mm) (a b c v : Int) {f : Nat} (h : f ≠ 3) (k j : Nat) : tkS σ a b c v f k j = σ f k j := by simp [tkS, up3, h]
theorem tkS_B (σ : Mm) (a b c v : Int) (L : Nat) : tB (tkS σ a b c v) 11 L = tB σ 11 L := rfl
theorem tkS_ext {σ : Mm} {a b c v a' b' c' v' : Int} {τ : Mm} (h0 : ∀ f k j, ¬ (f = 3 ∧ k = 0 ∧ (j = 1 ∨ j = 2 ∨ j = 3 ∨ j = 4)) → τ f k j = σ f k j) (h1 : τ 3 0 1 = a) (h2 : τ 3 0 2 = b) (h3 : τ 3 0 3 = c) (h4 : τ 3 0 4 = v) : τ = tkS σ a b c v := by
  funext f k j
  by_cases h : f = 3 ∧ k = 0 ∧ (j = 1 ∨ j = 2 ∨ j = 3 ∨ j = 4)
  · obtain ⟨rfl, rfl, rfl | rfl | rfl | rfl⟩ := h
    · rw [h1, tkS_r1]
    · rw [h2, tkS_r2]
    · rw [h3, tkS_r3]
    · rw [h4, tkS_r4]
  · rw [h0 f k j h]
    unfold tkS up3
    rw [if_neg (by omega), if_neg (by omega), if_neg (by omega), if_neg (by omega)]
theorem tkS_u1 (σ : Mm) (a b c v x : Int) : up3 (tkS σ a b c v) 3 0 1 x = tkS σ x b c v := by
  refine tkS_ext (a' := 0) (b' := 0) (c' := 0) (v' := 0) (fun f k j h => ?_) ?_ ?_ ?_ ?_
  · unfold tkS up3; rw [if_neg (by omega), if_neg (by omega), if_neg (by omega), if_neg (by omega), if_neg (by omega)]
  all_goals simp [tkS, up3]
theorem tkS_u2 (σ : Mm) (a b c v x : Int) : up3 (tkS σ a b c v) 3 0 2 x = tkS σ a x c v := by
  refine tkS_ext (a' := 0) (b' := 0) (c' := 0) (v' := 0) (fun f k j h => ?_) ?_ ?_ ?_ ?_
  · unfold tkS up3; rw [if_neg (by omega), if_neg (by omega), if_neg (by omega), if_neg (by omega), if_neg (by omega)]
  all_goals simp [tkS, up3]
theorem tkS_u3 (σ : Mm) (a b c v x : Int) : up3 (tkS σ a b c v) 3 0 3 x = tkS σ a b x v := by
  refine tkS_ext (a' := 0) (b' := 0) (c' := 0) (v' := 0) (fun f k j h => ?_) ?_ ?_ ?_ ?_
  · unfold tkS up3; rw [if_neg (by omega), if_neg (by omega), if_neg (by omega), if_neg (by omega), if_neg (by omega)]
  all_goals simp [tkS, up3]
theorem tkS_u4 (σ : Mm) (a b c v x : Int) : up3 (tkS σ a b c v) 3 0 4 x = tkS σ a b c x := by
  refine tkS_ext (a' := 0) (b' := 0) (c' := 0) (v' := 0) (fun f k j h => ?_) ?_ ?_ ?_ ?_
  · unfold tkS up3; rw [if_neg (by omega), if_neg (by omega), if_neg (by omega), if_neg (by omega), if_neg (by omega)]
  all_goals simp [tkS, up3]
theorem tkS_id (σ : Mm) : tkS σ (σ 3 0 1) (σ 3 0 2) (σ 3 0 3) (σ 3 0 4) = σ := (tkS_ext (a' := 0) (b' := 0) (c' := 0) (v' := 0) (fun _ _ _ _ => rfl) rfl rfl rfl rfl).symm
theorem c_isDigit {d : Nat} {σ : Mm} {b : Int} (hb : 0 ≤ b ∧ b ≤ 255) : Ct d mX6_isDigit 1 [vI b] NALL σ (some (vI (if isDg b then 1 else 0))) NALL σ 0 0 := by
  refine ct_of (by decide) (Nat.le_of_ble_eq_true rfl) (fun C h hr _ => ?_)
  have h : Ok C RX6 cX6_isDigit 1 _ := h
  refine x_iload_n h dX6_isDigit_0 rfl ?_
  refine x_bipush h dX6_isDigit_1 (by decide) ?_
  refine x_ic_lt (tgt := 16) h (by omega) dX6_isDigit_3 (by decide) (fun hc => ?_) (fun hc => ?_)
  · rw [if_neg (by unfold isDg; simp; omega)] at hr
    refine x_iconst h dX6_isDigit_16 ?_
    exact x_ireturn h hr dX6_isDigit_17 (Or.inr ⟨rfl, by omega⟩) ⟨Nat.le_refl _, Nat.le_refl _⟩
  · refine x_iload_n h dX6_isDigit_6 rfl ?_
    refine x_bipush h dX6_isDigit_7 (by decide) ?_
    refine x_ic_gt (tgt := 16) h (by omega) dX6_isDigit_9 (by decide) (fun hd => ?_) (fun hd => ?_)
    · rw [if_neg (by unfold isDg; simp; omega)] at hr
      refine x_iconst h dX6_isDigit_16 ?_
      exact x_ireturn h hr dX6_isDigit_17 (Or.inr ⟨rfl, by omega⟩) ⟨Nat.le_refl _, Nat.le_refl _⟩
    · rw [if_pos (by unfold isDg; simp; omega)] at hr
      refine x_iconst h dX6_isDigit_12 ?_
      refine x_goto (tgt := 17) h dX6_isDigit_13 (by decide) ?_
      exact x_ireturn h hr dX6_isDigit_17 (Or.inr ⟨rfl, by omega⟩) ⟨Nat.le_refl _, Nat.le_refl _⟩
theorem c_isLetter {d : Nat} {σ : Mm} {b : Int} (hb : 0 ≤ b ∧ b ≤ 255) : Ct d mX6_isLetter 1 [vI b] NALL σ (some (vI (if isLe b then 1 else 0))) NALL σ 0 0 := by
  refine ct_of (by decide) (Nat.le_of_ble_eq_true rfl) (fun C h hr _ => ?_)
  have h : Ok C RX6 cX6_isLetter 1 _ := h
  refine x_iload_n h dX6_isLetter_0 rfl ?_
  refine x_bipush h dX6_isLetter_1 (by decide) ?_
  refine x_ic_lt (tgt := 16) h (by omega) dX6_isLetter_3 (by decide) (fun hc => ?_) (fun hc => ?_)
  · rw [if_neg (by unfold isLe; simp; omega)] at hr
    refine x_iconst h dX6_isLetter_16 ?_
    exact x_ireturn h hr dX6_isLetter_17 (Or.inr ⟨rfl, by omega⟩) ⟨Nat.le_refl _, Nat.le_refl _⟩
  · refine x_iload_n h dX6_isLetter_6 rfl ?_
    refine x_bipush h dX6_isLetter_7 (by decide) ?_
    refine x_ic_gt (tgt := 16) h (by omega) dX6_isLetter_9 (by decide) (fun hd => ?_) (fun hd => ?_)
    · rw [if_neg (by unfold isLe; simp; omega)] at hr
      refine x_iconst h dX6_isLetter_16 ?_
      exact x_ireturn h hr dX6_isLetter_17 (Or.inr ⟨rfl, by omega⟩) ⟨Nat.le_refl _, Nat.le_refl _⟩
    · rw [if_pos (by unfold isLe; simp; omega)] at hr
      refine x_iconst h dX6_isLetter_12 ?_
      refine x_goto (tgt := 17) h dX6_isLetter_13 (by decide) ?_
      exact x_ireturn h hr dX6_isLetter_17 (Or.inr ⟨rfl, by omega⟩) ⟨Nat.le_refl _, Nat.le_refl _⟩
theorem sg_tab : ∀ j : Nat, j < 59 → (#[251, 253, 251, 253, 253, 251, 251, 251, 251, 253, 251, 253, 251, 253, 253, 253, 253, 253, 253, 253, 253, 253, 253, 251, 251, 251, 251, 253, 251, 253, 253, 253, 253, 253, 253, 253, 253, 253, 253, 253, 253, 253, 253, 253, 253, 253, 253, 253, 253, 253, 253, 253, 253, 253, 253, 253, 251, 253, 251] : Array Int)[j]? = some (if isSg ((j : Int) + 35) then 251 else 253) := by decide +kernel
theorem isSg_r {b : Int} (h : isSg b = true) : 35 ≤ b ∧ b ≤ 93 := by
  simp [isSg] at h
  omega
theorem c_isSign {d : Nat} {σ : Mm} {b : Int} (hb : 0 ≤ b ∧ b ≤ 255) : Ct d mX6_isSign 1 [vI b] NALL σ (some (vI (if isSg b then 1 else 0))) NALL σ 0 0 := by
  refine ct_of (by decide) (Nat.le_of_ble_eq_true rfl) (fun C h hr _ => ?_)
  have h : Ok C RX6 cX6_isSign 1 _ := h
  refine x_iload_n h dX6_isSign_0 rfl ?_
  by_cases hin : 35 ≤ b ∧ b ≤ 93
  · have ht := sg_tab (b - 35).toNat (by omega)
    rw [show (((b - 35).toNat : Nat) : Int) + 35 = b by omega] at ht
    cases hs : isSg b with
    | true =>
      rw [hs] at ht hr
      refine x_tsIn (tgt := 252) h dX6_isSign_1 (by omega) hin ht (by decide) ?_
      refine x_iconst h dX6_isSign_252 ?_
      exact x_ireturn h hr dX6_isSign_253 (Or.inr ⟨rfl, by omega⟩) ⟨Nat.le_refl _, Nat.le_refl _⟩
    | false =>
      rw [hs] at ht hr
      refine x_tsIn (tgt := 254) h dX6_isSign_1 (by omega) hin ht (by decide) ?_
      refine x_iconst h dX6_isSign_254 ?_
      exact x_ireturn h hr dX6_isSign_255 (Or.inr ⟨rfl, by omega⟩) ⟨Nat.le_refl _, Nat.le_refl _⟩
  · have hs : isSg b = false := by
      cases hs : isSg b with
      | true => exact absurd (isSg_r hs) hin
      | false => rfl
    rw [hs] at hr
    refine x_tsOut (tgt := 254) h dX6_isSign_1 (by omega) (by omega) (by decide) ?_
    refine x_iconst h dX6_isSign_254 ?_
    exact x_ireturn h hr dX6_isSign_255 (Or.inr ⟨rfl, by omega⟩) ⟨Nat.le_refl _, Nat.le_refl _⟩
theorem c_kindOfWord {d : Nat} {σ : Mm} {v : Int} (hv : -9223372036854775808 ≤ v ∧ v < 9223372036854775808) : Ct d mX6_kindOfWord 1 [vL v] NALL σ (some (vI (kindW v))) NALL σ 0 0 := by
  refine ct_of (by decide) (Nat.le_of_ble_eq_true rfl) (fun C h hr _ => ?_)
  have h : Ok C RX6 cX6_kindOfWord 2 _ := h
  unfold kindW at hr
  refine x_lload_n h dX6_kindOfWord_0 rfl ?_
  refine x_ldc2 (x := 435610083700) h dX6_kindOfWord_1 klX6_64 (by decide) ?_
  refine x_lc_ne (tgt := 10) h (by omega) dX6_kindOfWord_4 dX6_kindOfWord_5 (by decide) (fun h4 => ?_) (fun h4 => ?_)
  · rw [if_neg h4] at hr
    refine x_lload_n h dX6_kindOfWord_10 rfl ?_
    refine x_ldc2 (x := 435610937463) h dX6_kindOfWord_11 klX6_66 (by decide) ?_
    refine x_lc_ne (tgt := 20) h (by omega) dX6_kindOfWord_14 dX6_kindOfWord_15 (by decide) (fun h5 => ?_) (fun h5 => ?_)
    · rw [if_neg h5] at hr
      refine x_lload_n h dX6_kindOfWord_20 rfl ?_
      refine x_ldc2 (x := 1937207154) h dX6_kindOfWord_21 klX6_68 (by decide) ?_
      refine x_lc_ne (tgt := 31) h (by omega) dX6_kindOfWord_24 dX6_kindOfWord_25 (by decide) (fun h6 => ?_) (fun h6 => ?_)
      · rw [if_neg h6] at hr
        refine x_lload_n h dX6_kindOfWord_31 rfl ?_
        refine x_ldc2 (x := 7173491) h dX6_kindOfWord_32 klX6_70 (by decide) ?_
        refine x_lc_ne (tgt := 42) h (by omega) dX6_kindOfWord_35 dX6_kindOfWord_36 (by decide) (fun h7 => ?_) (fun h7 => ?_)
        · rw [if_neg h7] at hr
          refine x_lload_n h dX6_kindOfWord_42 rfl ?_
          refine x_ldc2 (x := 105) h dX6_kindOfWord_43 klX6_72 (by decide) ?_
          refine x_lc_ne (tgt := 55) h (by omega) dX6_kindOfWord_46 dX6_kindOfWord_47 (by decide) (fun h8 => ?_) (fun h8 => ?_)
          · rw [if_neg h8] at hr
            refine x_iconst h dX6_kindOfWord_55 ?_
            exact x_ireturn h hr dX6_kindOfWord_56 (Or.inl rfl) ⟨Nat.le_refl _, Nat.le_refl _⟩
          · rw [if_pos (by omega)] at hr
            refine x_bipush h dX6_kindOfWord_50 (by decide) ?_
            refine x_goto (tgt := 56) h dX6_kindOfWord_52 (by decide) ?_
            exact x_ireturn h hr dX6_kindOfWord_56 (Or.inl rfl) ⟨Nat.le_refl _, Nat.le_refl _⟩
        · rw [if_pos (by omega)] at hr
          refine x_bipush h dX6_kindOfWord_39 (by decide) ?_
          exact x_ireturn h hr dX6_kindOfWord_41 (Or.inl rfl) ⟨Nat.le_refl _, Nat.le_refl _⟩
      · rw [if_pos (by omega)] at hr
        refine x_bipush h dX6_kindOfWord_28 (by decide) ?_
        exact x_ireturn h hr dX6_kindOfWord_30 (Or.inl rfl) ⟨Nat.le_refl _, Nat.le_refl _⟩
    · rw [if_pos (by omega)] at hr
      refine x_iconst h dX6_kindOfWord_18 ?_
      exact x_ireturn h hr dX6_kindOfWord_19 (Or.inl rfl) ⟨Nat.le_refl _, Nat.le_refl _⟩
  · rw [if_pos (by omega)] at hr
    refine x_iconst h dX6_kindOfWord_8 ?_
    exact x_ireturn h hr dX6_kindOfWord_9 (Or.inl rfl) ⟨Nat.le_refl _, Nat.le_refl _⟩
/-- what Tokens goes over -/
def TapeL (σ : Mm) (L : Nat) : Prop := σ 1 0 1 = L ∧ L ≤ 900
theorem tB_end (σ : Mm) (f L : Nat) : ∀ j, L ≤ j → tB σ f L j = 0 := fun j h => by unfold tB; rw [if_neg (by omega)]
theorem c_skipBlanks {d : Nat} {σ : Mm} {L p : Nat} {b c v : Int} (hL : TapeL σ L) (hp : p ≤ L) : Ct (d + 1) mX6_skipBlanks 1 [vR 3 0] NALL (tkS σ p b c v) none NALL (tkS σ (rn isBl (tB σ 11 L) p) b c v) 0 0 := by
  refine ct_of (by decide) (Nat.le_of_ble_eq_true rfl) (fun C h hr _ => ?_)
  have h : Ok C RX6 cX6_skipBlanks 1 _ := h
  have loop : ∀ (n q : Nat) (ls : List (Nat × PV)), q + n = 901 → q ≤ L → rn isBl (tB σ 11 L) p = rn isBl (tB σ 11 L) q → lsub [(0, vR 3 0)] ls → X C 1 0 ls [] NALL (tkS σ q b c v) 0 0 := by
    intro n
    induction n with
    | zero => intro q ls hq hqL hv hls; have := hL.2; omega
    | succ n ih =>
      intro q ls hq hqL hv hls
      refine x_loc hls ?_
      have hL2 := hL.2
      have hL' : (tkS σ q b c v) 1 0 1 = L := by rw [tkS_f _ _ _ _ _ (by decide)]; exact hL.1
      have hb := tB_r σ 11 L q
      have r1 := tkS_r1 σ q b c v
      have hB : ∀ j, tB (tkS σ q b c v) 11 L j = tB σ 11 L j := fun j => rfl
      rcases Nat.lt_or_ge q 900 with hlt | hge
      · refine x_aload_n h dX6_skipBlanks_0 rfl ?_
        refine x_get (q := vI (q)) h fl_6_15 lvz_3 dX6_skipBlanks_1 (congrArg vI (by first | exact r1 | simp [up3, r1])) ?_
        refine x_sipush h dX6_skipBlanks_4 (by decide) ?_
        refine x_ic_ge_F (tgt := 55) h (by omega) dX6_skipBlanks_7 (by decide) (by omega) ?_
        refine x_aload_n h dX6_skipBlanks_10 rfl ?_
        refine x_get h fl_6_9 lvz_3 dX6_skipBlanks_11 (pvf_501 _ _) ?_
        refine x_aload_n h dX6_skipBlanks_14 rfl ?_
        refine x_get (q := vI (q)) h fl_6_15 lvz_3 dX6_skipBlanks_15 (congrArg vI (by first | exact r1 | simp [up3, r1])) ?_
        refine x_cV1 h kVX3_byteAt lkX6_35 ⟨_, _, _, rfl, rfl⟩ dX6_skipBlanks_18 (c_byteAt (d := d) (j := q) hL' hL2 (by omega)) lvz_1 rfl rfl (Nat.le_of_ble_eq_true rfl) (by omega) ?_
        rw [hB]
        refine x_bipush h dX6_skipBlanks_21 (by decide) ?_
        refine x_ic_eq (tgt := 42) h (by omega) dX6_skipBlanks_23 (by decide) (fun h32 => ?_) (fun h32 => ?_)
        · refine x_aload_n h dX6_skipBlanks_42 rfl ?_
          refine x_dup h dX6_skipBlanks_43 rfl ?_
          refine x_get (q := vI (q)) h fl_6_15 lvz_3 dX6_skipBlanks_44 (congrArg vI (by first | exact r1 | simp [up3, r1])) ?_
          refine x_iconst h dX6_skipBlanks_47 ?_
          refine x_iadd h dX6_skipBlanks_48 ?_
          refine x_put h fl_6_15 lvz_3 dX6_skipBlanks_49 rfl (fun z => absurd z (by decide)) ?_
          rw [tkS_u1]
          have hbl : isBl (tB σ 11 L q) = true := by unfold isBl; simp; omega
          have hqL2 : q < L := by
            rcases Nat.lt_or_ge q L with z | z
            · exact z
            · have := tB_end σ 11 L q z; omega
          refine x_goto (tgt := 0) h dX6_skipBlanks_52 (by decide) ?_
          exact ih (q + 1) _ (by omega) (by omega) (hv.trans (rn_go hbl (by omega))) ⟨rfl, trivial⟩
        · refine x_aload_n h dX6_skipBlanks_26 rfl ?_
          refine x_get h fl_6_9 lvz_3 dX6_skipBlanks_27 (pvf_501 _ _) ?_
          refine x_aload_n h dX6_skipBlanks_30 rfl ?_
          refine x_get (q := vI (q)) h fl_6_15 lvz_3 dX6_skipBlanks_31 (congrArg vI (by first | exact r1 | simp [up3, r1])) ?_
          refine x_cV1 h kVX3_byteAt lkX6_35 ⟨_, _, _, rfl, rfl⟩ dX6_skipBlanks_34 (c_byteAt (d := d) (j := q) hL' hL2 (by omega)) lvz_1 rfl rfl (Nat.le_of_ble_eq_true rfl) (by omega) ?_
          rw [hB]
          refine x_bipush h dX6_skipBlanks_37 (by decide) ?_
          refine x_ic_ne (tgt := 55) h (by omega) dX6_skipBlanks_39 (by decide) (fun h10 => ?_) (fun h10 => ?_)
          · have hbl : isBl (tB σ 11 L q) = false := by unfold isBl; simp; omega
            rw [hv, rn_st hbl] at hr
            exact x_return h hr dX6_skipBlanks_55 ⟨Nat.le_refl _, Nat.le_refl _⟩
          · refine x_aload_n h dX6_skipBlanks_42 rfl ?_
            refine x_dup h dX6_skipBlanks_43 rfl ?_
            refine x_get (q := vI (q)) h fl_6_15 lvz_3 dX6_skipBlanks_44 (congrArg vI (by first | exact r1 | simp [up3, r1])) ?_
            refine x_iconst h dX6_skipBlanks_47 ?_
            refine x_iadd h dX6_skipBlanks_48 ?_
            refine x_put h fl_6_15 lvz_3 dX6_skipBlanks_49 rfl (fun z => absurd z (by decide)) ?_
            rw [tkS_u1]
            have hbl : isBl (tB σ 11 L q) = true := by unfold isBl; simp; omega
            have hqL2 : q < L := by
              rcases Nat.lt_or_ge q L with z | z
              · exact z
              · have := tB_end σ 11 L q z; omega
            refine x_goto (tgt := 0) h dX6_skipBlanks_52 (by decide) ?_
            exact ih (q + 1) _ (by omega) (by omega) (hv.trans (rn_go hbl (by omega))) ⟨rfl, trivial⟩
      · have hbl : isBl (tB σ 11 L q) = false := by rw [tB_end σ 11 L q (by omega)]; rfl
        rw [hv, rn_st hbl] at hr
        refine x_aload_n h dX6_skipBlanks_0 rfl ?_
        refine x_get (q := vI (q)) h fl_6_15 lvz_3 dX6_skipBlanks_1 (congrArg vI (by first | exact r1 | simp [up3, r1])) ?_
        refine x_sipush h dX6_skipBlanks_4 (by decide) ?_
        refine x_ic_ge_T (tgt := 55) h (by omega) dX6_skipBlanks_7 (by decide) (by omega) ?_
        exact x_return h hr dX6_skipBlanks_55 ⟨Nat.le_refl _, Nat.le_refl _⟩
  have hL2 := hL.2
  exact loop (901 - p) p _ (by omega) hp rfl ⟨rfl, trivial⟩
