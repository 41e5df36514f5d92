-- rows on bits (the first of them pasted from the kit: bt to b_sshr)
def bt (x : Int32) (i : Nat) : Bool := x.toBitVec.getLsbD i
theorem b_ext {x y : Int32} (h : ∀ i, i < 32 → bt x i = bt y i) : x = y := Int32.toBitVec_inj.mp (BitVec.eq_of_getLsbD_eq (fun i hi => h i hi))
theorem b_or (x y : Int32) (i : Nat) : bt (x ||| y) i = (bt x i || bt y i) := by unfold bt; rw [Int32.toBitVec_or, BitVec.getLsbD_or]
theorem b_and (x y : Int32) (i : Nat) : bt (x &&& y) i = (bt x i && bt y i) := by unfold bt; rw [Int32.toBitVec_and, BitVec.getLsbD_and]
theorem b_xor (x y : Int32) (i : Nat) : bt (x ^^^ y) i = (bt x i ^^ bt y i) := by unfold bt; rw [Int32.toBitVec_xor, BitVec.getLsbD_xor]
theorem b_big {x : Int32} {i : Nat} (h : 32 ≤ i) : bt x i = false := BitVec.getLsbD_of_ge _ _ h
theorem b_m1 : ∀ i, i < 32 → bt (-1) i = true := by decide +kernel
theorem b_0 (i : Nat) : bt 0 i = false := BitVec.getLsbD_zero
theorem s_l : ∀ n, n < 32 → ((nI n &&& 31).toBitVec.smod 32).toNat = n := by decide +kernel
theorem s_u : ∀ n, n < 32 → (((nI n).toUInt32 &&& Int32.toUInt32 31).toBitVec % 32).toNat = n := by decide +kernel
theorem b_shl (n : Nat) (hn : n < 32) (x : Int32) {i : Nat} (hi : i < 32) : bt (x <<< (nI n &&& 31)) i = (decide (n ≤ i) && bt x (i - n)) := by
  unfold bt
  rw [Int32.toBitVec_shiftLeft]
  show (x.toBitVec <<< ((nI n &&& 31).toBitVec.smod 32).toNat).getLsbD i = _
  rw [s_l n hn, BitVec.getLsbD_shiftLeft]
  rcases Nat.lt_or_ge i n with h | h
  · simp [h, Nat.not_le.mpr h]
  · simp [hi, h, Nat.not_lt.mpr h]
theorem b_ushr (n : Nat) (hn : n < 32) (x : Int32) (i : Nat) : bt ((x.toUInt32 >>> ((nI n).toUInt32 &&& Int32.toUInt32 31)).toInt32) i = bt x (n + i) := by
  show (x.toUInt32 >>> ((nI n).toUInt32 &&& Int32.toUInt32 31)).toBitVec.getLsbD i = x.toUInt32.toBitVec.getLsbD (n + i)
  rw [UInt32.toBitVec_shiftRight]
  show (x.toUInt32.toBitVec >>> (((nI n).toUInt32 &&& Int32.toUInt32 31).toBitVec % 32).toNat).getLsbD i = _
  rw [s_u n hn, BitVec.getLsbD_ushiftRight]
theorem b_sshr (n : Nat) (hn : n < 32) (x : Int32) {i : Nat} (hi : i < 32) : bt (x >>> (nI n &&& 31)) i = if n + i < 32 then bt x (n + i) else bt x 31 := by
  unfold bt
  rw [Int32.toBitVec_shiftRight]
  show (x.toBitVec.sshiftRight ((nI n &&& 31).toBitVec.smod 32).toNat).getLsbD i = _
  rw [s_l n hn, BitVec.getLsbD_sshiftRight, BitVec.msb_eq_getLsbD_last]
  simp [hi]
theorem b_one (i : Nat) : bt 1 i = decide (i = 0) := by
  rcases Nat.lt_or_ge i 32 with h | h
  · exact (by decide +kernel : ∀ i, i < 32 → bt 1 i = decide (i = 0)) i h
  · rw [b_big h, decide_eq_false (by omega)]
theorem b_and1 (x : Int32) : (x &&& 1) = 1 ↔ bt x 0 = true := by
  constructor
  · intro h
    have e : bt (x &&& 1) 0 = bt 1 0 := by rw [h]
    rw [b_and, b_one, decide_eq_true rfl, Bool.and_true] at e
    exact e
  · intro h
    apply b_ext
    intro i _
    rw [b_and, b_one]
    by_cases hi : i = 0
    · subst hi
      rw [h, Bool.true_and]
    · rw [decide_eq_false hi, Bool.and_false]
theorem b_ush (x : Int32) {i : Nat} (h : i < 32) : (ush x (nI i) &&& 1) = 1 ↔ bt x i = true := by
  rw [b_and1]
  unfold ush
  rw [b_ushr i h, Nat.add_zero]
theorem b_shr (x : Int32) {i : Nat} (h : i < 32) : ((x >>> (nI i &&& 31)) &&& 1) = 1 ↔ bt x i = true := by
  rw [b_and1, b_sshr i h x (by decide), if_pos (show i + 0 < 32 by omega), Nat.add_zero]
theorem b_bit {i j : Nat} (hi : i < 32) (hj : j < 32) : bt ((1 : Int32) <<< (nI i &&& 31)) j = decide (j = i) := by
  rw [b_shl i hi 1 hj, b_one]
  by_cases h : j = i
  · subst h
    simp
  · rw [decide_eq_false h]
    by_cases h2 : i ≤ j
    · rw [decide_eq_false (show ¬ (j - i = 0) by omega), Bool.and_false]
    · rw [decide_eq_false h2, Bool.false_and]
theorem b_set (x : Int32) {i j : Nat} (hi : i < 32) (hj : j < 32) : bt (x ||| ((1 : Int32) <<< (nI i &&& 31))) j = (bt x j || decide (j = i)) := by
  rw [b_or, b_bit hi hj]
theorem b_not (x : Int32) {j : Nat} (hj : j < 32) : bt (x ^^^ (-1)) j = !bt x j := by
  rw [b_xor, b_m1 j hj, Bool.xor_true]
theorem b_clr (x : Int32) {i j : Nat} (hi : i < 32) (hj : j < 32) : bt (x &&& (((1 : Int32) <<< (nI i &&& 31)) ^^^ (-1))) j = (bt x j && !decide (j = i)) := by
  rw [b_and, b_not _ hj, b_bit hi hj]
theorem b_z (x : Int32) : x = 0 ↔ ∀ j, j < 32 → bt x j = false := by
  constructor
  · intro h j _
    rw [h, b_0]
  · intro h
    apply b_ext
    intro j hj
    rw [h j hj, b_0]
theorem lt12 {i : Nat} (h : i < 12) : ¬ nI i < 0 ∧ ¬ (12 : Int32) ≤ nI i := by
  refine ⟨nI_pos (by omega), ?_⟩
  rw [show (12 : Int32) = nI 12 from rfl, nI_leI (by omega) (by omega)]
  omega
theorem has_bt (x : Int32) {i : Nat} (h : i < 12) : pX2_has x (nI i) = if bt x i = true then 1 else 0 := by
  rw [pX2_has, if_neg (lt12 h).1, if_neg (lt12 h).2]
  by_cases hb : bt x i = true
  · rw [if_pos hb, if_pos ((b_ush x (by omega)).mpr hb)]
  · rw [if_neg hb, if_neg (fun e => hb ((b_ush x (by omega)).mp e))]
theorem has0 (x : Int32) {i : Nat} (h : i < 12) : pX2_has x (nI i) = 0 ↔ bt x i = false := by
  rw [has_bt x h]
  by_cases hb : bt x i = true
  · rw [if_pos hb, hb]
    exact ⟨fun e => absurd e (by decide), fun e => absurd e (by decide)⟩
  · rw [if_neg hb]
    exact ⟨fun _ => Bool.eq_false_iff.mpr hb, fun _ => rfl⟩
/-- has, at a place that is none -/
theorem has_no (x : Int32) {p : Int32} (h : ¬ vp_in p 12) : pX2_has x p = 0 := by
  rw [pX2_has]
  by_cases h1 : p < 0
  · rw [if_pos h1]
  · rw [if_neg h1]
    by_cases h2 : (12 : Int32) ≤ p
    · rw [if_pos h2]
    · exfalso
      have t1 := i_nlt (z := Int32.toInt p) (w := 0) h1 rfl (by decide)
      have t2 := i_nle (z := 12) (w := Int32.toInt p) h2 (by decide) rfl
      exact h (vp_in_iff.mpr ⟨by omega, by omega⟩)
