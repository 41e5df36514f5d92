-- the relation of a street of the class (x) to the model's row (m)
def inI (v : Int32) (a b : Int) : Prop := a ≤ Int32.toInt v ∧ Int32.toInt v ≤ b
def RP (x : SR) (m : Nat → Int32) (p : Nat) : Prop :=
  m (12 + 6 * p) = (if bt (x.1 0) p = true then 1 else 0) ∧
  m (12 + 6 * p + 3) = (if bt (x.1 2) p = true then 2 else if bt (x.1 1) p = true then 1 else 0) ∧
  (bt (x.1 1) p = true → bt (x.1 0) p = true) ∧ (bt (x.1 2) p = true → bt (x.1 0) p = true ∧ bt (x.1 1) p = false) ∧
  (bt (x.1 0) p = true → x.2 1 p = m (12 + 6 * p + 1) ∧ x.2 2 p = m (12 + 6 * p + 2) ∧ x.2 3 p = m (12 + 6 * p + 4) ∧ x.2 4 p = m (12 + 6 * p + 5) ∧ inI (x.2 1 p) 0 100 ∧ inI (x.2 2 p) 0 100) ∧
  (bt (x.1 0) p = false → m (12 + 6 * p + 5) = 0)
def RH (x : SR) (m : Nat → Int32) : Prop := (∀ j, j < 7 → x.2 0 j = m j) ∧ x.1 5 = m 7 ∧ x.1 4 = m 8 ∧ x.1 6 = m 9 ∧ x.1 7 = m 10 ∧ x.1 3 = m 11
def SOK (m : Nat → Int32) : Prop := inI (m 0) 0 12 ∧ inI (m 1) 1 50 ∧ inI (m 2) 1 20 ∧ inI (m 3) 0 20 ∧ inI (m 4) 0 50 ∧ inI (m 5) 0 100 ∧ inI (m 6) 1 20
def RK (x : SR) (m : Nat → Int32) : Prop := inI (m 11) 0 5 ∧ ∀ k : Nat, (k : Int) < Int32.toInt (m 11) → (∀ j, j < 5 → x.2 (5 + j) k = m (84 + 5 * k + j)) ∧ inI (m (84 + 5 * k)) 0 11
def RB (x : SR) : Prop := ∀ q, q < 3 → ∀ i, 12 ≤ i → bt (x.1 q) i = false
def RS (x : SR) (m : Nat → Int32) : Prop := RH x m ∧ SOK m ∧ (∀ p, p < 12 → RP x m p) ∧ RK x m ∧ RB x
-- reading the model's row
theorem pp_i {i k : Nat} (hi : i < 12) (hk : k < 6) : ix (((12 : Int32) + (6 * nI i)) + nI k) = 12 + 6 * i + k := by
  rw [pp_nI, ix_nI (by omega)]
theorem pP {i : Nat} (k : Nat) (hi : i < 12) (hk : k < 6) (y : SR) : pX3_pianoPart (nI i) (nI k) y = y.2 0 (12 + 6 * i + k) := by
  rw [pX3_pianoPart, pp_i hi hk]
theorem sP {i : Nat} (k : Nat) (hi : i < 12) (hk : k < 6) (v : Int32) (y : SR) : pX3_setPiano (nI i) (nI k) v y = (y.1, up y.2 0 (up (y.2 0) (12 + 6 * i + k) v)) := by
  rw [pX3_setPiano]
  unfold pR
  rw [pp_i hi hk]
theorem isPl3 {i : Nat} (hi : i < 12) : pX3_isPlace (nI i) = 1 := by
  have h := lt12 hi
  have h2 : ¬ (11 : Int32) < nI i := by
    rw [show (11 : Int32) = nI 11 from rfl, nI_ltI (by omega) (by omega)]
    omega
  rw [pX3_isPlace, pX3_within, if_neg h.1, if_neg h2]
theorem isPiano3 {i : Nat} (hi : i < 12) {x y : SR} (h : RP x (y.2 0) i) : pX3_isPiano (nI i) y = if bt (x.1 0) i = true then 1 else 0 := by
  rw [pX3_isPiano, isPl3 hi, if_neg (by decide), show pX3_pianoPart (nI i) 0 y = y.2 0 (12 + 6 * i) from pP 0 hi (by decide) y, h.1]
  by_cases hb : bt (x.1 0) i = true
  · rw [if_pos hb, if_pos rfl]
  · rw [if_neg hb, if_neg (by decide)]
theorem cov3 {i : Nat} (hi : i < 12) {x y : SR} (h : RP x (y.2 0) i) : pX3_pianoPart (nI i) 3 y = (if bt (x.1 2) i = true then 2 else if bt (x.1 1) i = true then 1 else 0) := by
  rw [show pX3_pianoPart (nI i) 3 y = y.2 0 (12 + 6 * i + 3) from pP 3 hi (by decide) y, h.2.1]
theorem open_bt (x : SR) {i : Nat} (hi : i < 12) : pX2_has (pX1_openOnes x) (nI i) = if (bt (x.1 0) i && !bt (x.1 2) i) = true then 1 else 0 := by
  rw [has_bt _ hi, pX1_openOnes, b_and, b_not _ (show i < 32 by omega)]
theorem isOpen3 {i : Nat} (hi : i < 12) {x y : SR} (h : RP x (y.2 0) i) : pX3_isOpen (nI i) y = pX2_has (pX1_openOnes x) (nI i) := by
  rw [open_bt x hi, pX3_isOpen, isPiano3 hi h, cov3 hi h]
  by_cases h0 : bt (x.1 0) i = true
  · rw [if_pos h0, if_neg (by decide), h0, Bool.true_and]
    by_cases h2 : bt (x.1 2) i = true
    · rw [if_pos h2, if_pos rfl, h2]
      rfl
    · rw [if_neg h2]
      have hf : bt (x.1 2) i = false := Bool.eq_false_iff.mpr h2
      rw [hf]
      by_cases h1 : bt (x.1 1) i = true
      · rw [if_pos h1]
        rfl
      · rw [if_neg h1]
        rfl
  · rw [if_neg h0, if_pos rfl]
    have hf : bt (x.1 0) i = false := Bool.eq_false_iff.mpr h0
    rw [hf]
    rfl
-- rain
theorem sh_n (e : Int32) : ∃ n : Nat, n < 32 ∧ e &&& 31 = nI n &&& 31 ∧ e.toUInt32 &&& Int32.toUInt32 31 = (nI n).toUInt32 &&& Int32.toUInt32 31 := by
  have hb : (e.toBitVec &&& 31#32).toNat < 32 := by
    rw [BitVec.toNat_and]
    exact Nat.lt_of_le_of_lt Nat.and_le_right (by decide)
  have e1 : e.toBitVec &&& 31#32 = BitVec.ofNat 32 (e.toBitVec &&& 31#32).toNat &&& 31#32 := by
    rw [BitVec.ofNat_toNat, BitVec.setWidth_eq, BitVec.and_assoc, BitVec.and_self]
  refine ⟨(e.toBitVec &&& 31#32).toNat, hb, Int32.toBitVec_inj.mp e1, ?_⟩
  exact UInt32.toBitVec_inj.mp e1
theorem sh_eq (v e : Int32) : (ush v e &&& 1) = 1 ↔ ((v >>> (e &&& 31)) &&& 1) = 1 := by
  obtain ⟨n, hn, e1, e2⟩ := sh_n e
  unfold ush
  rw [e1, e2]
  exact (b_ush v hn).trans (b_shr v hn).symm
