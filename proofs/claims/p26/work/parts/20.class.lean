-- the class alone: bits, the nearest place, one keeper in one turn, to dry and to play at once (out of whole's rows)
def bt (x : Int32) (i : Nat) : Bool := x.toBitVec.getLsbD i
theorem b_ext {x y : Int32} (h : ∀ i, i < 32 → bt x i = bt y i) : x = y := Int32.toBitVec_inj.mp (BitVec.eq_of_getLsbD_eq (fun i hi => h i hi))
theorem b_or (x y : Int32) (i : Nat) : bt (x ||| y) i = (bt x i || bt y i) := by unfold bt; rw [Int32.toBitVec_or, BitVec.getLsbD_or]
theorem b_and (x y : Int32) (i : Nat) : bt (x &&& y) i = (bt x i && bt y i) := by unfold bt; rw [Int32.toBitVec_and, BitVec.getLsbD_and]
theorem b_xor (x y : Int32) (i : Nat) : bt (x ^^^ y) i = (bt x i ^^ bt y i) := by unfold bt; rw [Int32.toBitVec_xor, BitVec.getLsbD_xor]
theorem b_big {x : Int32} {i : Nat} (h : 32 ≤ i) : bt x i = false := BitVec.getLsbD_of_ge _ _ h
theorem b_m1 : ∀ i, i < 32 → bt (-1) i = true := by decide +kernel
theorem b_0 (i : Nat) : bt 0 i = false := BitVec.getLsbD_zero
theorem s_l : ∀ n, n < 32 → ((nI n &&& 31).toBitVec.smod 32).toNat = n := by decide +kernel
theorem s_u : ∀ n, n < 32 → (((nI n).toUInt32 &&& Int32.toUInt32 31).toBitVec % 32).toNat = n := by decide +kernel
theorem b_shl (n : Nat) (hn : n < 32) (x : Int32) {i : Nat} (hi : i < 32) : bt (x <<< (nI n &&& 31)) i = (decide (n ≤ i) && bt x (i - n)) := by
  unfold bt
  rw [Int32.toBitVec_shiftLeft]
  show (x.toBitVec <<< ((nI n &&& 31).toBitVec.smod 32).toNat).getLsbD i = _
  rw [s_l n hn, BitVec.getLsbD_shiftLeft]
  rcases Nat.lt_or_ge i n with h | h
  · simp [h, Nat.not_le.mpr h]
  · simp [hi, h, Nat.not_lt.mpr h]
theorem b_ushr (n : Nat) (hn : n < 32) (x : Int32) (i : Nat) : bt ((x.toUInt32 >>> ((nI n).toUInt32 &&& Int32.toUInt32 31)).toInt32) i = bt x (n + i) := by
  show (x.toUInt32 >>> ((nI n).toUInt32 &&& Int32.toUInt32 31)).toBitVec.getLsbD i = x.toUInt32.toBitVec.getLsbD (n + i)
  rw [UInt32.toBitVec_shiftRight]
  show (x.toUInt32.toBitVec >>> (((nI n).toUInt32 &&& Int32.toUInt32 31).toBitVec % 32).toNat).getLsbD i = _
  rw [s_u n hn, BitVec.getLsbD_ushiftRight]
theorem b_sshr (n : Nat) (hn : n < 32) (x : Int32) {i : Nat} (hi : i < 32) : bt (x >>> (nI n &&& 31)) i = if n + i < 32 then bt x (n + i) else bt x 31 := by
  unfold bt
  rw [Int32.toBitVec_shiftRight]
  show (x.toBitVec.sshiftRight ((nI n &&& 31).toBitVec.smod 32).toNat).getLsbD i = _
  rw [s_l n hn, BitVec.getLsbD_sshiftRight, BitVec.msb_eq_getLsbD_last]
  simp [hi]
theorem b_one (i : Nat) : bt 1 i = decide (i = 0) := by
  rcases Nat.lt_or_ge i 32 with h | h
  · exact (by decide +kernel : ∀ i, i < 32 → bt 1 i = decide (i = 0)) i h
  · rw [b_big h, decide_eq_false (by omega)]
theorem b_and1 (x : Int32) : (x &&& 1) = 1 ↔ bt x 0 = true := by
  constructor
  · intro h
    have e : bt (x &&& 1) 0 = bt 1 0 := by rw [h]
    rw [b_and, b_one, decide_eq_true rfl, Bool.and_true] at e
    exact e
  · intro h
    apply b_ext
    intro i _
    rw [b_and, b_one]
    by_cases hi : i = 0
    · subst hi
      rw [h, Bool.true_and]
    · rw [decide_eq_false hi, Bool.and_false]
theorem b_ush (x : Int32) {i : Nat} (h : i < 32) : (ush x (nI i) &&& 1) = 1 ↔ bt x i = true := by
  rw [b_and1]
  unfold ush
  rw [b_ushr i h, Nat.add_zero]
theorem b_shr (x : Int32) {i : Nat} (h : i < 32) : ((x >>> (nI i &&& 31)) &&& 1) = 1 ↔ bt x i = true := by
  rw [b_and1, b_sshr i h x (by decide), if_pos (show i + 0 < 32 by omega), Nat.add_zero]
theorem b_bit {i j : Nat} (hi : i < 32) (hj : j < 32) : bt ((1 : Int32) <<< (nI i &&& 31)) j = decide (j = i) := by
  rw [b_shl i hi 1 hj, b_one]
  by_cases h : j = i
  · subst h
    simp
  · rw [decide_eq_false h]
    by_cases h2 : i ≤ j
    · rw [decide_eq_false (show ¬ (j - i = 0) by omega), Bool.and_false]
    · rw [decide_eq_false h2, Bool.false_and]
theorem b_set (x : Int32) {i j : Nat} (hi : i < 32) (hj : j < 32) : bt (x ||| ((1 : Int32) <<< (nI i &&& 31))) j = (bt x j || decide (j = i)) := by
  rw [b_or, b_bit hi hj]
theorem b_not (x : Int32) {j : Nat} (hj : j < 32) : bt (x ^^^ (-1)) j = !bt x j := by
  rw [b_xor, b_m1 j hj, Bool.xor_true]
theorem b_clr (x : Int32) {i j : Nat} (hi : i < 32) (hj : j < 32) : bt (x &&& (((1 : Int32) <<< (nI i &&& 31)) ^^^ (-1))) j = (bt x j && !decide (j = i)) := by
  rw [b_and, b_not _ hj, b_bit hi hj]
theorem b_z (x : Int32) : x = 0 ↔ ∀ j, j < 32 → bt x j = false := by
  constructor
  · intro h j _
    rw [h, b_0]
  · intro h
    apply b_ext
    intro j hj
    rw [h j hj, b_0]
theorem lt12 {i : Nat} (h : i < 12) : ¬ nI i < 0 ∧ ¬ (12 : Int32) ≤ nI i := by
  refine ⟨nI_pos (by omega), ?_⟩
  rw [show (12 : Int32) = nI 12 from rfl, nI_leI (by omega) (by omega)]
  omega
theorem has_bt (x : Int32) {i : Nat} (h : i < 12) : pX2_has x (nI i) = if bt x i = true then 1 else 0 := by
  rw [pX2_has, if_neg (lt12 h).1, if_neg (lt12 h).2]
  by_cases hb : bt x i = true
  · rw [if_pos hb, if_pos ((b_ush x (by omega)).mpr hb)]
  · rw [if_neg hb, if_neg (fun e => hb ((b_ush x (by omega)).mp e))]
theorem has0 (x : Int32) {i : Nat} (h : i < 12) : pX2_has x (nI i) = 0 ↔ bt x i = false := by
  rw [has_bt x h]
  by_cases hb : bt x i = true
  · rw [if_pos hb, hb]
    exact ⟨fun e => absurd e (by decide), fun e => absurd e (by decide)⟩
  · rw [if_neg hb]
    exact ⟨fun _ => Bool.eq_false_iff.mpr hb, fun _ => rfl⟩
/-- has, at a place that is none -/
theorem has_no (x : Int32) {p : Int32} (h : ¬ vp_in p 12) : pX2_has x p = 0 := by
  rw [pX2_has]
  by_cases h1 : p < 0
  · rw [if_pos h1]
  · rw [if_neg h1]
    by_cases h2 : (12 : Int32) ≤ p
    · rw [if_pos h2]
    · exfalso
      have t1 := i_nlt (z := Int32.toInt p) (w := 0) h1 rfl (by decide)
      have t2 := i_nle (z := 12) (w := Int32.toInt p) h2 (by decide) rfl
      exact h (vp_in_iff.mpr ⟨by omega, by omega⟩)

theorem open_bt (x : SR) {i : Nat} (hi : i < 12) : pX2_has (pX1_openOnes x) (nI i) = if (bt (x.1 0) i && !bt (x.1 2) i) = true then 1 else 0 := by
  rw [has_bt _ hi, pX1_openOnes, b_and, b_not _ (show i < 32 by omega)]
theorem sh_n (e : Int32) : ∃ n : Nat, n < 32 ∧ e &&& 31 = nI n &&& 31 ∧ e.toUInt32 &&& Int32.toUInt32 31 = (nI n).toUInt32 &&& Int32.toUInt32 31 := by
  have hb : (e.toBitVec &&& 31#32).toNat < 32 := by
    rw [BitVec.toNat_and]
    exact Nat.lt_of_le_of_lt Nat.and_le_right (by decide)
  have e1 : e.toBitVec &&& 31#32 = BitVec.ofNat 32 (e.toBitVec &&& 31#32).toNat &&& 31#32 := by
    rw [BitVec.ofNat_toNat, BitVec.setWidth_eq, BitVec.and_assoc, BitVec.and_self]
  refine ⟨(e.toBitVec &&& 31#32).toNat, hb, Int32.toBitVec_inj.mp e1, ?_⟩
  exact UInt32.toBitVec_inj.mp e1
theorem sh_eq (v e : Int32) : (ush v e &&& 1) = 1 ↔ ((v >>> (e &&& 31)) &&& 1) = 1 := by
  obtain ⟨n, hn, e1, e2⟩ := sh_n e
  unfold ush
  rw [e1, e2]
  exact (b_ush v hn).trans (b_shr v hn).symm

theorem rains_b (a : Int32) (x : SR) : pX1_rainsAfter a x = 0 ∨ pX1_rainsAfter a x = 1 := by
  rw [pX1_rainsAfter]
  by_cases hc : (ush (x.1 4) (((x.1 5) + a) - ((x.1 5) + a) / 24 * 24) &&& 1) = 1
  · rw [if_pos hc]
    exact Or.inr rfl
  · rw [if_neg hc]
    exact Or.inl rfl
theorem nI_ltv {v : Int32} {i : Nat} (hi : i < 2147483648) : (v < nI i) ↔ Int32.toInt v < (i : Int) := by
  rw [Int32.lt_iff_toInt_lt, nI_toInt (by omega)]
theorem nI_lev {v : Int32} {i : Nat} (hi : i < 2147483648) : (v ≤ nI i) ↔ Int32.toInt v ≤ (i : Int) := by
  rw [Int32.le_iff_toInt_le, nI_toInt (by omega)]
def nd (i a : Nat) : Nat := if i ≤ a then a - i else i - a
def NS (w : Nat → Bool) (a n : Nat) (r : Int32) : Prop := (r = -6 ∧ ∀ i, i < n → w i = false) ∨ ∃ j, j < n ∧ r = nI j ∧ w j = true ∧ ∀ i, i < n → w i = true → nd j a < nd i a ∨ (nd j a = nd i a ∧ j ≤ i)
theorem NS.uniq {w : Nat → Bool} {a n : Nat} {r r' : Int32} (h : NS w a n r) (h' : NS w a n r') : r = r' := by
  rcases h with ⟨e, z⟩ | ⟨j, hj, e, wj, z⟩ <;> rcases h' with ⟨e', z'⟩ | ⟨j', hj', e', wj', z'⟩
  · rw [e, e']
  · rw [z j' hj'] at wj'
    exact absurd wj' (by decide)
  · rw [z' j hj] at wj
    exact absurd wj (by decide)
  · have p := z j' hj' wj'
    have q := z' j hj wj
    have : j = j' := by omega
    rw [e, e', this]
theorem sub_nd : ∀ a, a < 12 → ∀ v, v < 12 → v ≤ a → nI a - nI v = nI (a - v) := by decide +kernel
theorem sub_neg : ∀ a, a < 12 → ∀ v, v < 12 → a < v → Int32.toInt (nI a - nI v) < 0 := by decide +kernel
theorem near_C {M : Int32} {a : Nat} (ha : a < 12) : ∀ (n v : Nat), v ≤ 12 → 12 - v < n → (∀ i, i < 12 → bt M i = true → v ≤ nd i a) → NS (bt M) a 12 (pX1_nearest_L9 M (nI a) n (nI v)) := by
  intro n
  induction n with
  | zero => intro v h1 h2 h3; omega
  | succ n ih =>
    intro v h1 h2 h3
    rw [pX1_nearest_L9]
    by_cases c : v = 12
    · subst c
      rw [if_pos (show (12 : Int32) ≤ nI 12 by decide)]
      refine Or.inl ⟨rfl, fun i hi => ?_⟩
      cases hb : bt M i
      · rfl
      · have := h3 i hi hb
        unfold nd at this
        split at this <;> omega
    · have hv : v < 12 := by omega
      rw [if_neg (lt12 hv).2, nI_1]
      have win : ∀ j, j < 12 → nd j a = v → bt M j = true → (∀ i, i < 12 → bt M i = true → nd i a = v → j ≤ i) → NS (bt M) a 12 (nI j) := fun j hj e wj tie => by
        refine Or.inr ⟨j, hj, rfl, wj, fun i hi wi => ?_⟩
        have q := h3 i hi wi
        by_cases e2 : nd i a = v
        · exact Or.inr ⟨by omega, tie i hi wi e2⟩
        · left
          omega
      by_cases c1 : pX2_has M (nI a - nI v) = 0
      · rw [if_pos c1]
        have f1 : ∀ i, i < 12 → bt M i = true → nd i a = v → i ≤ a → False := fun i hi wi e hle => by
          unfold nd at e
          rw [if_pos hle] at e
          rw [sub_nd a ha v hv (by omega), has0 M (show a - v < 12 by omega), show a - v = i by omega, wi] at c1
          exact absurd c1 (by decide)
        by_cases c2 : pX2_has M (nI a + nI v) = 0
        · rw [if_pos c2]
          refine ih (v + 1) (by omega) (by omega) (fun i hi wi => ?_)
          have q := h3 i hi wi
          by_cases e : nd i a = v
          · exfalso
            by_cases hle : i ≤ a
            · exact f1 i hi wi e hle
            · unfold nd at e
              rw [if_neg hle] at e
              rw [nI_add, has0 M (show a + v < 12 by omega), show a + v = i by omega, wi] at c2
              exact absurd c2 (by decide)
          · omega
        · rw [if_neg c2, nI_add]
          have hlt : a + v < 12 := by
            by_cases hl : a + v < 12
            · exact hl
            · exfalso
              apply c2
              rw [nI_add]
              apply has_no
              intro hin
              have := (vp_in_iff.mp hin).2
              rw [nI_toInt (by omega)] at this
              omega
          rw [nI_add, has0 M hlt] at c2
          have wt : bt M (a + v) = true := by
            cases hb : bt M (a + v)
            · exact absurd hb c2
            · rfl
          refine win (a + v) hlt ?_ wt (fun i hi wi e => ?_)
          · unfold nd
            split <;> omega
          · by_cases hle : i ≤ a
            · exact (f1 i hi wi e hle).elim
            · unfold nd at e
              rw [if_neg hle] at e
              omega
      · rw [if_neg c1]
        have hle : v ≤ a := by
          by_cases hl : v ≤ a
          · exact hl
          · exfalso
            apply c1
            apply has_no
            intro hin
            have p1 := (vp_in_iff.mp hin).1
            have p2 := sub_neg a ha v hv (by omega)
            omega
        rw [sub_nd a ha v hv hle] at c1 ⊢
        rw [has0 M (show a - v < 12 by omega)] at c1
        have wt : bt M (a - v) = true := by
          cases hb : bt M (a - v)
          · exact absurd hb c1
          · rfl
        refine win (a - v) (by omega) ?_ wt (fun i hi wi e => ?_)
        · unfold nd
          rw [if_pos (by omega)]
          omega
        · unfold nd at e
          split at e <;> omega
theorem bset_ne (x : Int32) {i q : Nat} (hi : i < 32) (h : q ≠ i) : bt (x ||| ((1 : Int32) <<< (nI i &&& 31))) q = bt x q := by
  by_cases hq : q < 32
  · rw [b_set x hi hq, decide_eq_false h, Bool.or_false]
  · rw [b_big (by omega), b_big (by omega)]
theorem bset_eq (x : Int32) {i : Nat} (hi : i < 32) : bt (x ||| ((1 : Int32) <<< (nI i &&& 31))) i = true := by
  rw [b_set x hi hi, decide_eq_true rfl, Bool.or_true]
theorem bclr_ne (x : Int32) {i q : Nat} (hi : i < 32) (h : q ≠ i) : bt (x &&& (((1 : Int32) <<< (nI i &&& 31)) ^^^ (-1))) q = bt x q := by
  by_cases hq : q < 32
  · rw [b_clr x hi hq, decide_eq_false h, Bool.not_false, Bool.and_true]
  · rw [b_big (by omega), b_big (by omega)]
theorem bclr_eq (x : Int32) {i : Nat} (hi : i < 32) : bt (x &&& (((1 : Int32) <<< (nI i &&& 31)) ^^^ (-1))) i = false := by
  rw [b_clr x hi hi, decide_eq_true rfl, Bool.not_true, Bool.and_false]
def OT (x : SR) (j : Nat) : Prop := bt (x.1 0) j = true ∧ bt (x.1 2) j = false ∧ ¬ x.2 0 (ix 5) ≤ x.2 1 j
theorem oot_L (x : SR) : ∀ (n i : Nat) (v : Int32) (j : Nat), i ≤ 12 → 12 - i < n → (bt (pX1_outOfTune_L4 n v (nI i) x) j = true ↔ bt v j = true ∨ (i ≤ j ∧ j < 12 ∧ OT x j)) := by
  intro n
  induction n with
  | zero => intro i v j h1 h2; omega
  | succ n ih =>
    intro i v j h1 h2
    rw [pX1_outOfTune_L4]
    by_cases c : i = 12
    · subst c
      rw [if_pos (show (12 : Int32) ≤ nI 12 by decide)]
      exact ⟨fun z => Or.inl z, fun z => z.elim id (fun w => by omega)⟩
    · have hi : i < 12 := by omega
      rw [if_neg (lt12 hi).2, nI_1, show ix (nI i) = i from ix_nI (by omega), open_bt x hi]
      have skip : ¬ OT x i → ((bt (pX1_outOfTune_L4 n v (nI (i + 1)) x) j = true) ↔ bt v j = true ∨ (i ≤ j ∧ j < 12 ∧ OT x j)) := fun hn => by
        rw [ih (i + 1) v j (by omega) (by omega)]
        refine ⟨fun z => z.imp id (fun w => ⟨by omega, w.2⟩), fun z => z.imp id (fun w => ⟨?_, w.2⟩)⟩
        by_cases e : i = j
        · subst e
          exact absurd w.2.2 hn
        · omega
      by_cases c0 : bt (x.1 0) i = true
      · by_cases c2 : bt (x.1 2) i = true
        · rw [c0, c2, Bool.not_true, Bool.and_false, if_pos (by decide)]
          exact skip (fun z => absurd (c2.symm.trans z.2.1) (by decide))
        · have f2 := Bool.eq_false_iff.mpr c2
          rw [c0, f2, Bool.not_false, Bool.and_true, if_pos rfl, if_neg (by decide)]
          by_cases cp : x.2 0 (ix 5) ≤ x.2 1 i
          · rw [if_pos cp]
            exact skip (fun z => z.2.2 cp)
          · rw [if_neg cp, ih (i + 1) _ j (by omega) (by omega)]
            by_cases e : j = i
            · subst e
              rw [bset_eq v (by omega)]
              exact ⟨fun _ => Or.inr ⟨Nat.le_refl _, hi, c0, f2, cp⟩, fun _ => Or.inl rfl⟩
            · rw [bset_ne v (by omega) e]
              exact ⟨fun z => z.imp id (fun w => ⟨by omega, w.2⟩), fun z => z.imp id (fun w => ⟨by omega, w.2⟩)⟩
      · rw [Bool.eq_false_iff.mpr c0, Bool.false_and, if_pos (by decide)]
        exact skip (fun z => c0 z.1)
theorem oot_bt (x : SR) (j : Nat) : bt (pX1_outOfTune x) j = true ↔ j < 12 ∧ OT x j := by
  rw [pX1_outOfTune, show pX1_outOfTune_L4 13 0 0 x = pX1_outOfTune_L4 13 0 (nI 0) x from rfl, oot_L x 13 0 0 j (by decide) (by decide), b_0]
  exact ⟨fun z => z.elim (fun w => absurd w (by decide)) (fun w => w.2), fun z => Or.inr ⟨Nat.zero_le _, z⟩⟩
theorem near_NS (M : Int32) {a : Nat} (ha : a < 12) : NS (bt M) a 12 (pX1_nearest M (nI a)) := by
  rw [pX1_nearest]
  by_cases z : M = 0
  · rw [if_pos z]
    exact Or.inl ⟨rfl, fun i hi => by rw [z, b_0]⟩
  · rw [if_neg z]
    have h2 := near_C (M := M) ha 13 0 (by decide) (by decide) (fun i _ _ => Nat.zero_le _)
    rw [nI_0] at h2
    exact h2
theorem near_j {M : Int32} {a : Nat} (ha : a < 12) (h : ¬ pX1_nearest M (nI a) = -6) : ∃ j, j < 12 ∧ pX1_nearest M (nI a) = nI j ∧ bt M j = true := by
  rcases near_NS M ha with ⟨e, -⟩ | ⟨j, hj, e, w, -⟩
  · exact absurd e h
  · exact ⟨j, hj, e, w⟩
def cAt (act : Int32 → Int32 → SR → SR) (k c v : Int32) (x : SR) : Int32 × SR := (v ||| (1 <<< (c &&& 31)), if (x.2 5 (ix k)) = c then act k c x else pX1_goTowards k c x)
def cGo (b v k : Int32) (x : SR) : Int32 × SR := if b = 0 then if (pX1_nearest ((x.1 2) &&& (v ^^^ (-1))) (x.2 5 (ix k))) = (-6) then if (pX1_nearest ((pX1_outOfTune x) &&& (v ^^^ (-1))) (x.2 5 (ix k))) = (-6) then (v, x)
    else cAt pX1_tune k (pX1_nearest ((pX1_outOfTune x) &&& (v ^^^ (-1))) (x.2 5 (ix k))) v x
  else cAt pX1_takeCoverOff k (pX1_nearest ((x.1 2) &&& (v ^^^ (-1))) (x.2 5 (ix k))) v x
  else if (pX1_nearest ((x.1 1) &&& (v ^^^ (-1))) (x.2 5 (ix k))) = (-6) then if (pX1_nearest ((pX1_outOfTune x) &&& (v ^^^ (-1))) (x.2 5 (ix k))) = (-6) then (v, x)
    else cAt pX1_tune k (pX1_nearest ((pX1_outOfTune x) &&& (v ^^^ (-1))) (x.2 5 (ix k))) v x
  else cAt pX1_putCoverOn k (pX1_nearest ((x.1 1) &&& (v ^^^ (-1))) (x.2 5 (ix k))) v x
theorem acts_step (n : Nat) (b v k : Int32) (x : SR) : pX1_letKeepersAct_L9 (n + 1) b v k x = if (x.1 3) ≤ k then x else if 4 < k then x else pX1_letKeepersAct_L9 n b (cGo b v k x).1 (k + 1) (cGo b v k x).2 := by
  rw [pX1_letKeepersAct_L9]
  unfold cGo cAt
  by_cases c1 : x.1 3 ≤ k
  · rw [if_pos c1, if_pos c1]
  · rw [if_neg c1, if_neg c1]
    by_cases c2 : 4 < k
    · rw [if_pos c2, if_pos c2]
    · rw [if_neg c2, if_neg c2]
      by_cases c3 : b = 0
      · rw [if_pos c3, if_pos c3]
        by_cases c4 : (pX1_nearest ((x.1 2) &&& (v ^^^ (-1))) (x.2 5 (ix k))) = (-6)
        · rw [if_pos c4, if_pos c4]
          by_cases c5 : (pX1_nearest ((pX1_outOfTune x) &&& (v ^^^ (-1))) (x.2 5 (ix k))) = (-6)
          · rw [if_pos c5, if_pos c5]
          · rw [if_neg c5, if_neg c5]
            dsimp only
            by_cases c6 : (x.2 5 (ix k)) = (pX1_nearest ((pX1_outOfTune x) &&& (v ^^^ (-1))) (x.2 5 (ix k)))
            · rw [if_pos c6, if_pos c6]
            · rw [if_neg c6, if_neg c6]
        · rw [if_neg c4, if_neg c4]
          dsimp only
          by_cases c6 : (x.2 5 (ix k)) = (pX1_nearest ((x.1 2) &&& (v ^^^ (-1))) (x.2 5 (ix k)))
          · rw [if_pos c6, if_pos c6]
          · rw [if_neg c6, if_neg c6]
      · rw [if_neg c3, if_neg c3]
        by_cases c4 : (pX1_nearest ((x.1 1) &&& (v ^^^ (-1))) (x.2 5 (ix k))) = (-6)
        · rw [if_pos c4, if_pos c4]
          by_cases c5 : (pX1_nearest ((pX1_outOfTune x) &&& (v ^^^ (-1))) (x.2 5 (ix k))) = (-6)
          · rw [if_pos c5, if_pos c5]
          · rw [if_neg c5, if_neg c5]
            dsimp only
            by_cases c6 : (x.2 5 (ix k)) = (pX1_nearest ((pX1_outOfTune x) &&& (v ^^^ (-1))) (x.2 5 (ix k)))
            · rw [if_pos c6, if_pos c6]
            · rw [if_neg c6, if_neg c6]
        · rw [if_neg c4, if_neg c4]
          dsimp only
          by_cases c6 : (x.2 5 (ix k)) = (pX1_nearest ((x.1 1) &&& (v ^^^ (-1))) (x.2 5 (ix k)))
          · rw [if_pos c6, if_pos c6]
          · rw [if_neg c6, if_neg c6]
/-- what a turn of a keeper leaves as it was -/
def Kf (x x' : SR) : Prop := (∀ i, 3 ≤ i → x'.1 i = x.1 i) ∧ x'.1 0 = x.1 0 ∧ x'.2 0 = x.2 0
theorem Kf.trans {x y z : SR} (h : Kf x y) (g : Kf y z) : Kf x z := ⟨fun i hi => (g.1 i hi).trans (h.1 i hi), g.2.1.trans h.2.1, g.2.2.trans h.2.2⟩
theorem Kf_R (x : SR) (r : Nat) (k v : Int32) (h : 0 ≠ r) : Kf x (pR x r k v) := ⟨fun _ _ => rfl, rfl, pR_or h⟩
theorem Kf_S (x : SR) (q : Nat) (v : Int32) (h : q = 1 ∨ q = 2) : Kf x (pS x q v) := ⟨fun i hi => up_ne _ _ (by omega), up_ne _ _ (by omega), rfl⟩
theorem Kf_go (k c : Int32) (x : SR) : Kf x (pX1_goTowards k c x) := by
  rw [pX1_goTowards]
  by_cases h : c ≤ x.2 5 (ix k)
  · rw [if_pos h]
    exact (Kf_R _ _ _ _ (by decide)).trans (Kf_R _ _ _ _ (by decide))
  · rw [if_neg h]
    exact (Kf_R _ _ _ _ (by decide)).trans (Kf_R _ _ _ _ (by decide))
theorem Kf_tune (k c : Int32) (x : SR) : Kf x (pX1_tune k c x) := (Kf_R _ _ _ _ (by decide)).trans (Kf_R _ _ _ _ (by decide))
theorem Kf_put (k c : Int32) (x : SR) : Kf x (pX1_putCoverOn k c x) := ((Kf_S _ _ _ (by decide)).trans (Kf_S _ _ _ (by decide))).trans (Kf_R _ _ _ _ (by decide))
theorem Kf_off (k c : Int32) (x : SR) : Kf x (pX1_takeCoverOff k c x) := ((Kf_S _ _ _ (by decide)).trans (Kf_S _ _ _ (by decide))).trans (Kf_R _ _ _ _ (by decide))
theorem Kf_at (act : Int32 → Int32 → SR → SR) (ha : ∀ k c x, Kf x (act k c x)) (k c v : Int32) (x : SR) : Kf x (cAt act k c v x).2 := by
  show Kf x (if (x.2 5 (ix k)) = c then act k c x else pX1_goTowards k c x)
  by_cases h : (x.2 5 (ix k)) = c
  · rw [if_pos h]
    exact ha k c x
  · rw [if_neg h]
    exact Kf_go k c x
theorem Kf_cGo (b v k : Int32) (x : SR) : Kf x (cGo b v k x).2 := by
  unfold cGo
  by_cases c3 : b = 0
  · rw [if_pos c3]
    by_cases c4 : (pX1_nearest ((x.1 2) &&& (v ^^^ (-1))) (x.2 5 (ix k))) = (-6)
    · rw [if_pos c4]
      by_cases c5 : (pX1_nearest ((pX1_outOfTune x) &&& (v ^^^ (-1))) (x.2 5 (ix k))) = (-6)
      · rw [if_pos c5]
        exact ⟨fun _ _ => rfl, rfl, rfl⟩
      · rw [if_neg c5]
        exact Kf_at _ Kf_tune _ _ _ _
    · rw [if_neg c4]
      exact Kf_at _ Kf_off _ _ _ _
  · rw [if_neg c3]
    by_cases c4 : (pX1_nearest ((x.1 1) &&& (v ^^^ (-1))) (x.2 5 (ix k))) = (-6)
    · rw [if_pos c4]
      by_cases c5 : (pX1_nearest ((pX1_outOfTune x) &&& (v ^^^ (-1))) (x.2 5 (ix k))) = (-6)
      · rw [if_pos c5]
        exact ⟨fun _ _ => rfl, rfl, rfl⟩
      · rw [if_neg c5]
        exact Kf_at _ Kf_tune _ _ _ _
    · rw [if_neg c4]
      exact Kf_at _ Kf_put _ _ _ _
theorem Kf_acts : ∀ (n : Nat) (b v k : Int32) (x : SR), Kf x (pX1_letKeepersAct_L9 n b v k x) := by
  intro n
  induction n with
  | zero => intro b v k x; exact ⟨fun _ _ => rfl, rfl, rfl⟩
  | succ n ih =>
    intro b v k x
    rw [acts_step]
    by_cases c1 : x.1 3 ≤ k
    · rw [if_pos c1]
      exact ⟨fun _ _ => rfl, rfl, rfl⟩
    · rw [if_neg c1]
      by_cases c2 : 4 < k
      · rw [if_pos c2]
        exact ⟨fun _ _ => rfl, rfl, rfl⟩
      · rw [if_neg c2]
        exact (Kf_cGo b v k x).trans (ih _ _ _ _)
theorem acts_Kf (x : SR) : Kf x (pX1_letKeepersAct x) := Kf_acts _ _ _ _ _

def rnA (x : SR) (v : Int32) : SR := pR (pR (pR x 2 v (mn 100 ((x.2 2 (ix v)) + (x.2 0 (ix 1))))) 1 v (mx 0 ((x.2 1 (ix v)) - (x.2 0 (ix 3))))) 4 v ((x.2 4 (ix v)) + 1)
def dryA (x : SR) (v : Int32) : SR := pR x 2 v (mx 0 ((x.2 2 (ix v)) - (x.2 0 (ix 2))))
def plA (x : SR) (v : Int32) : SR := pR (pS (pR x 3 v ((x.2 3 (ix v)) + (((x.2 0 (ix 4)) * (x.2 1 (ix v))) / 100))) 6 ((x.1 6) + (((x.2 0 (ix 4)) * (x.2 1 (ix v))) / 100))) 1 v (mx 0 ((x.2 1 (ix v)) - 1))
theorem inI_le {v : Int32} {a b c d : Int} (h : inI v a b) (h1 : c ≤ a) (h2 : b ≤ d) : inI v c d := ⟨by have := h.1; omega, by have := h.2; omega⟩
theorem coin_in {a b : Int32} (ha : inI a 0 50) (hb : inI b 0 100) : inI ((a * b) / 100) 0 50 := by
  obtain ⟨a1, a2⟩ := ha
  obtain ⟨b1, b2⟩ := hb
  have m1 : 0 ≤ Int32.toInt a * Int32.toInt b := Int.mul_nonneg a1 b1
  have m2 : Int32.toInt a * Int32.toInt b ≤ 50 * 100 := Int.mul_le_mul a2 b2 b1 (by decide)
  have e : Int32.toInt (a * b) = Int32.toInt a * Int32.toInt b := by
    rw [Int32.toInt_mul, Int.bmod_eq_of_le] <;> omega
  unfold inI
  rw [Int32.toInt_div_of_ne_right _ _ (by decide), e, show Int32.toInt 100 = 100 from rfl, Int.tdiv_eq_ediv_of_nonneg m1]
  omega
theorem up_id {α : Type} (f : Nat → α) (k : Nat) : up f k (f k) = f := by
  funext j
  by_cases h : j = k
  · rw [h, up_same]
  · rw [up_ne _ _ h]
theorem up_up {α : Type} (f : Nat → α) (k : Nat) (a b : α) : up (up f k a) k b = up f k b := by
  funext j
  by_cases h : j = k
  · rw [h, up_same, up_same]
  · rw [up_ne _ _ h, up_ne _ _ h, up_ne _ _ h]
theorem up_cm {α : Type} (f : Nat → α) {k l : Nat} (a b : α) (h : k ≠ l) : up (up f k a) l b = up (up f l b) k a := by
  funext j
  by_cases h1 : j = k
  · subst h1
    rw [up_same, up_ne _ _ h, up_same]
  · by_cases h2 : j = l
    · subst h2
      rw [up_same, up_ne _ _ h1, up_same]
    · rw [up_ne _ _ h2, up_ne _ _ h1, up_ne _ _ h1, up_ne _ _ h2]
def opn (x : SR) (p : Nat) : Bool := bt (x.1 0) p && !bt (x.1 2) p
theorem has_opn (x : SR) {i : Nat} (hi : i < 12) : pX2_has (pX1_openOnes x) (nI i) = if opn x i = true then 1 else 0 := open_bt x hi
def dD (i : Nat) (x : SR) (p : Nat) : Int32 := if i ≤ p ∧ p < 12 ∧ opn x p = true then mx 0 (x.2 2 p - x.2 0 2) else x.2 2 p
def dA (i : Nat) (x : SR) : SR := (x.1, up x.2 2 (dD i x))
theorem dA_id {i : Nat} {x : SR} (h : dD i x = x.2 2) : dA i x = x := by
  unfold dA
  rw [h, up_id]
theorem dA_12 (x : SR) : dA 12 x = x := dA_id (funext fun p => if_neg (fun z => by omega))
theorem dA_no {i : Nat} {x : SR} (h : ¬ opn x i = true) : dA i x = dA (i + 1) x := by
  unfold dA
  have e : dD i x = dD (i + 1) x := by
    funext p
    unfold dD
    by_cases c : i + 1 ≤ p ∧ p < 12 ∧ opn x p = true
    · rw [if_pos c, if_pos ⟨by omega, c.2⟩]
    · rw [if_neg c, if_neg]
      intro z
      apply c
      refine ⟨?_, z.2⟩
      by_cases e : i = p
      · subst e
        exact absurd z.2.2 h
      · omega
  rw [e]
theorem dA_yes {i : Nat} {x : SR} (hi : i < 12) (h : opn x i = true) : dA i x = dA (i + 1) (dryA x (nI i)) := by
  unfold dA
  have hx : (dryA x (nI i)).2 = up x.2 2 (up (x.2 2) i (mx 0 (x.2 2 i - x.2 0 2))) := by
    unfold dryA pR
    rw [show ix (nI i) = i from ix_nI (by omega), show ix 2 = 2 from rfl]
  have e : dD i x = dD (i + 1) (dryA x (nI i)) := by
    funext p
    unfold dD
    have ho : opn (dryA x (nI i)) p = opn x p := rfl
    rw [ho, hx, up_same, up_ne _ _ (show 0 ≠ 2 by decide)]
    by_cases ep : p = i
    · subst ep
      rw [if_pos ⟨Nat.le_refl _, hi, h⟩, if_neg (fun z => by omega), up_same]
    · rw [up_ne _ _ ep]
      by_cases c : i + 1 ≤ p ∧ p < 12 ∧ opn x p = true
      · rw [if_pos c, if_pos ⟨by omega, c.2⟩]
      · rw [if_neg c, if_neg]
        intro z
        exact c ⟨by omega, z.2⟩
  rw [e, hx, up_up]
  rfl
theorem dry_eq : ∀ (n i : Nat) (x : SR), i ≤ 12 → 12 - i < n → pX1_letPianosDry_L2 n (nI i) x = dA i x := by
  intro n
  induction n with
  | zero => intro i x h1 h2; omega
  | succ n ih =>
    intro i x h1 h2
    rw [pX1_letPianosDry_L2]
    by_cases c : i = 12
    · subst c
      rw [if_pos (show (12 : Int32) ≤ nI 12 by decide), dA_12]
    · have hi : i < 12 := by omega
      rw [if_neg (lt12 hi).2, has_opn x hi, nI_1]
      by_cases ho : opn x i = true
      · rw [if_pos ho, if_neg (by decide), ih (i + 1) _ (by omega) (by omega), dA_yes hi ho]
        rfl
      · rw [if_neg ho, if_pos rfl, ih (i + 1) _ (by omega) (by omega), dA_no ho]
theorem pl_dA (i : Nat) (x : SR) : plA (dA (i + 1) x) (nI i) = dA (i + 1) (plA x (nI i)) := by
  have e : dD (i + 1) (plA x (nI i)) = dD (i + 1) x := by
    funext p
    unfold dD
    have ho : opn (plA x (nI i)) p = opn x p := rfl
    have h2 : (plA x (nI i)).2 2 = x.2 2 := rfl
    have h0 : (plA x (nI i)).2 0 = x.2 0 := rfl
    rw [ho, h2, h0]
  unfold dA
  rw [e]
  refine Prod.ext rfl ?_
  show up (up (up x.2 2 _) 3 _) 1 _ = up (up (up x.2 3 _) 1 _) 2 _
  rw [up_cm (up x.2 3 _) (k := 1) (l := 2) _ _ (by decide), up_cm x.2 (k := 3) (l := 2) _ _ (by decide)]
  rfl
def fz (pl : Bool) : Nat → Nat → SR → SR
  | 0, _, x => x
  | n + 1, i, x => if 12 ≤ i then x else if opn x i = true then if pl = true ∧ ¬ 50 ≤ (dryA x (nI i)).2 2 i then fz pl n (i + 1) (plA (dryA x (nI i)) (nI i)) else fz pl n (i + 1) (dryA x (nI i)) else fz pl n (i + 1) x
theorem fz_dry : ∀ (n i : Nat) (x : SR), i ≤ 12 → 12 - i < n → dA i x = fz false n i x := by
  intro n
  induction n with
  | zero => intro i x h1 h2; omega
  | succ n ih =>
    intro i x h1 h2
    rw [fz]
    by_cases c : 12 ≤ i
    · rw [if_pos c, show i = 12 by omega, dA_12]
    · rw [if_neg c]
      by_cases ho : opn x i = true
      · rw [if_pos ho, if_neg (fun z => absurd z.1 (by decide)), ← ih (i + 1) _ (by omega) (by omega), dA_yes (by omega) ho]
      · rw [if_neg ho, ← ih (i + 1) _ (by omega) (by omega), dA_no ho]
theorem fz_play (v1 : Int32) : ∀ (n i : Nat) (x : SR), i ≤ 12 → 12 - i < n → pX1_letPianosBePlayed_L23 n v1 (nI i) (dA i x) = fz true n i x := by
  intro n
  induction n with
  | zero => intro i x h1 h2; omega
  | succ n ih =>
    intro i x h1 h2
    rw [fz, pX1_letPianosBePlayed_L23]
    by_cases c : i = 12
    · subst c
      rw [if_pos (show (12 : Int32) ≤ nI 12 by decide), if_pos (by omega), dA_12]
    · have hi : i < 12 := by omega
      rw [if_neg (lt12 hi).2, if_neg (show ¬ 12 ≤ i by omega), has_opn _ hi, show opn (dA i x) i = opn x i from rfl, nI_1]
      by_cases ho : opn x i = true
      · rw [if_pos ho, if_pos ho, if_neg (by decide), dA_yes hi ho]
        have hix : ix (nI i) = i := ix_nI (by omega)
        have e2 : (dA (i + 1) (dryA x (nI i))).2 2 i = (dryA x (nI i)).2 2 i := by
          show up (dryA x (nI i)).2 2 (dD (i + 1) (dryA x (nI i))) 2 i = _
          rw [up_same]
          exact if_neg (fun z => by omega)
        rw [hix, e2]
        by_cases c5 : 50 ≤ (dryA x (nI i)).2 2 i
        · rw [if_pos c5, if_neg (fun z => z.2 c5)]
          exact ih (i + 1) _ (by omega) (by omega)
        · rw [if_neg c5, if_pos ⟨rfl, c5⟩]
          have hp := pl_dA i (dryA x (nI i))
          unfold plA at hp
          rw [hix] at hp
          rw [hp]
          have q := ih (i + 1) (plA (dryA x (nI i)) (nI i)) (by omega) (by omega)
          unfold plA at q ⊢
          rw [hix] at q ⊢
          exact q
      · rw [if_neg ho, if_neg ho, if_pos rfl, dA_no ho]
        exact ih (i + 1) _ (by omega) (by omega)
theorem fz_h (pl : Bool) : ∀ (n i : Nat) (x : SR), (fz pl n i x).1 5 = x.1 5 ∧ (fz pl n i x).2 0 = x.2 0 := by
  intro n
  induction n with
  | zero => intro i x; exact ⟨rfl, rfl⟩
  | succ n ih =>
    intro i x
    rw [fz]
    by_cases c : 12 ≤ i
    · rw [if_pos c]
      exact ⟨rfl, rfl⟩
    · rw [if_neg c]
      by_cases ho : opn x i = true
      · rw [if_pos ho]
        by_cases c2 : pl = true ∧ ¬ 50 ≤ (dryA x (nI i)).2 2 i
        · rw [if_pos c2]
          exact ih (i + 1) _
        · rw [if_neg c2]
          exact ih (i + 1) _
      · rw [if_neg ho]
        exact ih (i + 1) _

def fzS (pl : Bool) (x : SR) (i : Nat) : SR := if pl = true ∧ ¬ 50 ≤ (dryA x (nI i)).2 2 i then plA (dryA x (nI i)) (nI i) else dryA x (nI i)
theorem fz_yes (pl : Bool) (n i : Nat) (x : SR) (hi : i < 12) (ho : opn x i = true) : fz pl (n + 1) i x = fz pl n (i + 1) (fzS pl x i) := by
  rw [fz, if_neg (show ¬ 12 ≤ i by omega), if_pos ho]
  unfold fzS
  by_cases c : pl = true ∧ ¬ 50 ≤ (dryA x (nI i)).2 2 i
  · rw [if_pos c, if_pos c]
  · rw [if_neg c, if_neg c]
theorem opn_b0 {x : SR} {i : Nat} (ho : opn x i = true) : bt (x.1 0) i = true := by
  unfold opn at ho
  cases h : bt (x.1 0) i
  · rw [h, Bool.false_and] at ho
    exact absurd ho (by decide)
  · rfl
theorem L46_k : ∀ (n : Nat) (a s b v : Int32) (x : SR), (∀ i, i ≠ 1 → i ≠ 7 → (pX1_letThievesCome_L46 n a s b v x).1 i = x.1 i) := by
  intro n
  induction n with
  | zero => intro a s b v x i _ _; rfl
  | succ n ih =>
    intro a s b v x i h1 h7
    rw [pX1_letThievesCome_L46]
    by_cases c : (12 : Int32) ≤ v
    · rw [if_pos c]
    · rw [if_neg c]
      by_cases cm : (((7 * (x.1 5)) + (3 * v)) - ((7 * (x.1 5)) + (3 * v)) / s * s) = 0
      · rw [if_pos cm]
        by_cases c1 : pX2_has (x.1 1) v = 0
        · rw [if_pos c1]
          exact ih _ _ _ _ _ i h1 h7
        · rw [if_neg c1]
          by_cases ck : pX1_keepersAt v x = 0
          · rw [if_pos ck, ih _ _ _ _ _ i h1 h7]
            show up (up x.1 1 _) 7 _ i = _
            rw [up_ne _ _ h7, up_ne _ _ h1]
          · rw [if_neg ck]
            exact ih _ _ _ _ _ i h1 h7
      · rw [if_neg cm]
        exact ih _ _ _ _ _ i h1 h7
theorem thv_k (x : SR) (i : Nat) (h1 : i ≠ 1) (h7 : i ≠ 7) : (pX1_letThievesCome x).1 i = x.1 i := by
  rw [pX1_letThievesCome]
  by_cases c22 : 22 ≤ ((x.1 5) - (x.1 5) / 24 * 24)
  · rw [if_pos c22]
    by_cases c1 : 1 ≤ (x.2 0 (ix 6))
    · rw [if_pos c1]
      exact L46_k _ _ _ _ _ _ i h1 h7
    · rw [if_neg c1]
  · rw [if_neg c22]
    by_cases c5 : 5 < ((x.1 5) - (x.1 5) / 24 * 24)
    · rw [if_pos c5]
    · rw [if_neg c5]
      by_cases c1 : 1 ≤ (x.2 0 (ix 6))
      · rw [if_pos c1]
        exact L46_k _ _ _ _ _ _ i h1 h7
      · rw [if_neg c1]
def hEnd (z : SR) : SR := pS (pX1_letThievesCome z) 5 (((pX1_letThievesCome z).1 5) + 1)
theorem hEnd_k (z : SR) (i : Nat) (h1 : i ≠ 1) (h5 : i ≠ 5) (h7 : i ≠ 7) : (hEnd z).1 i = z.1 i := by
  show up (pX1_letThievesCome z).1 5 _ i = _
  rw [up_ne _ _ h5, thv_k z i h1 h7]
def cHour (x : SR) : SR := if (pX1_rainsAfter 0 (pX1_letKeepersAct x)) = 0 then hEnd (pX1_letPianosBePlayed (pX1_letPianosDry (pX1_letKeepersAct x))) else hEnd (pX1_letRainFall (pX1_letKeepersAct x))
def inPl (v1 : Int32) : Bool := if v1 < 8 then false else if v1 ≤ 21 then true else false
theorem play_dry (x : SR) : pX1_letPianosBePlayed (pX1_letPianosDry x) = fz (inPl ((x.1 5) - (x.1 5) / 24 * 24)) 13 0 x := by
  have ed : pX1_letPianosDry x = dA 0 x := by
    rw [pX1_letPianosDry, ← nI_0]
    exact dry_eq 13 0 x (by decide) (by decide)
  have e5 : (dA 0 x).1 5 = x.1 5 := rfl
  rw [ed, pX1_letPianosBePlayed, e5]
  unfold inPl
  by_cases c : ((x.1 5) - (x.1 5) / 24 * 24) < 8
  · rw [if_pos c, if_pos c]
    exact fz_dry 13 0 x (by decide) (by decide)
  · rw [if_neg c, if_neg c]
    by_cases d : ((x.1 5) - (x.1 5) / 24 * 24) ≤ 21
    · rw [if_pos d, if_pos d, ← nI_0]
      exact fz_play _ 13 0 x (by decide) (by decide)
    · rw [if_neg d, if_neg d]
      exact fz_dry 13 0 x (by decide) (by decide)
theorem pass_step (a : Int32) (n : Nat) (v2 v3 : Int32) (x : SR) : pX1_passHours_L7 a (n + 1) v2 v3 x = if a ≤ v3 then (((x.1 6) - v2), x) else pX1_passHours_L7 a n v2 (v3 + 1) (cHour x) := by
  rw [pX1_passHours_L7]
  unfold cHour hEnd
  by_cases c : a ≤ v3
  · rw [if_pos c, if_pos c]
  · rw [if_neg c, if_neg c]
    by_cases d : pX1_rainsAfter 0 (pX1_letKeepersAct x) = 0
    · rw [if_pos d, if_pos d]
    · rw [if_neg d, if_neg d]
theorem fz_3 (pl : Bool) : ∀ (n i : Nat) (x : SR), (fz pl n i x).1 3 = x.1 3 := by
  intro n
  induction n with
  | zero => intro i x; rfl
  | succ n ih =>
    intro i x
    rw [fz]
    by_cases c : 12 ≤ i
    · rw [if_pos c]
    · rw [if_neg c]
      by_cases ho : opn x i = true
      · rw [if_pos ho]
        by_cases c2 : pl = true ∧ ¬ 50 ≤ (dryA x (nI i)).2 2 i
        · rw [if_pos c2]
          exact ih (i + 1) _
        · rw [if_neg c2]
          exact ih (i + 1) _
      · rw [if_neg ho]
        exact ih (i + 1) _
theorem rain_1 : ∀ (n : Nat) (v : Int32) (x : SR), (pX1_letRainFall_L2 n v x).1 = x.1 := by
  intro n
  induction n with
  | zero => intro v x; rfl
  | succ n ih =>
    intro v x
    rw [pX1_letRainFall_L2]
    by_cases c : (12 : Int32) ≤ v
    · rw [if_pos c]
    · rw [if_neg c]
      by_cases d : pX2_has (pX1_openOnes x) v = 0
      · rw [if_pos d]
        exact ih _ _
      · rw [if_neg d]
        exact ih _ _
theorem hour_3 (x : SR) : (cHour x).1 3 = x.1 3 := by
  have kf := (acts_Kf x).1 3 (by decide)
  unfold cHour
  by_cases c : pX1_rainsAfter 0 (pX1_letKeepersAct x) = 0
  · rw [if_pos c, play_dry]
    rw [hEnd_k _ 3 (by decide) (by decide) (by decide), fz_3, kf]
  · rw [if_neg c]
    rw [hEnd_k _ 3 (by decide) (by decide) (by decide), pX1_letRainFall, rain_1, kf]
theorem pass_3 (a : Int32) : ∀ (n : Nat) (v2 v3 : Int32) (x : SR), (pX1_passHours_L7 a n v2 v3 x).2.1 3 = x.1 3 := by
  intro n
  induction n with
  | zero => intro v2 v3 x; rfl
  | succ n ih =>
    intro v2 v3 x
    rw [pass_step]
    by_cases c : a ≤ v3
    · rw [if_pos c]
    · rw [if_neg c, ih, hour_3]

def cs (b : Nat → Bool) : Nat → Nat → Nat
  | 0, _ => 0
  | n + 1, i => (if b i = true then 1 else 0) + cs b n (i + 1)
theorem cs_cong {b c : Nat → Bool} : ∀ (n i : Nat), (∀ j, i ≤ j → j < i + n → b j = c j) → cs b n i = cs c n i
  | 0, _, _ => rfl
  | n + 1, i, h => by
    rw [cs, cs, h i (by omega) (by omega), cs_cong n (i + 1) (fun j h1 h2 => h j (by omega) (by omega))]
theorem bc_all0 : ∀ n, n < 1024 → pJ6_bitCount_0f7a4 (nI n) = nI (cs (fun i => n / 2 ^ i % 2 == 1) 12 0) := by decide +kernel
theorem bc_all1 : ∀ n, n < 1024 → pJ6_bitCount_0f7a4 (nI (n + 1024)) = nI (cs (fun i => (n + 1024) / 2 ^ i % 2 == 1) 12 0) := by decide +kernel
theorem bc_all2 : ∀ n, n < 1024 → pJ6_bitCount_0f7a4 (nI (n + 2048)) = nI (cs (fun i => (n + 2048) / 2 ^ i % 2 == 1) 12 0) := by decide +kernel
theorem bc_all3 : ∀ n, n < 1024 → pJ6_bitCount_0f7a4 (nI (n + 3072)) = nI (cs (fun i => (n + 3072) / 2 ^ i % 2 == 1) 12 0) := by decide +kernel
theorem bc_all (n : Nat) (h : n < 4096) : pJ6_bitCount_0f7a4 (nI n) = nI (cs (fun i => n / 2 ^ i % 2 == 1) 12 0) := by
  rcases Nat.lt_or_ge n 1024 with h0 | h0
  · exact bc_all0 n h0
  · rcases Nat.lt_or_ge n 2048 with h1 | h1
    · have := bc_all1 (n - 1024) (by omega)
      rw [show n - 1024 + 1024 = n by omega] at this
      exact this
    · rcases Nat.lt_or_ge n 3072 with h2 | h2
      · have := bc_all2 (n - 2048) (by omega)
        rw [show n - 2048 + 2048 = n by omega] at this
        exact this
      · have := bc_all3 (n - 3072) (by omega)
        rw [show n - 3072 + 3072 = n by omega] at this
        exact this
theorem bc_cs {v : Int32} (h : ∀ i, 12 ≤ i → bt v i = false) : pJ6_bitCount_0f7a4 v = nI (cs (bt v) 12 0) := by
  have hb : ∀ i, bt v i = v.toBitVec.toNat.testBit i := fun i => rfl
  have hn : v.toBitVec.toNat < 2 ^ 12 := Nat.lt_pow_two_of_testBit _ (fun i hi => by rw [← hb]; exact h i hi)
  have e : v = nI v.toBitVec.toNat := by
    apply Int32.toBitVec_inj.mp
    show v.toBitVec = BitVec.ofNat 32 v.toBitVec.toNat
    rw [BitVec.ofNat_toNat, BitVec.setWidth_eq]
  have r := bc_all v.toBitVec.toNat (by omega)
  rw [← e] at r
  rw [r]
  congr 1
  apply cs_cong
  intro j _ _
  rw [hb, Nat.testBit_eq_decide_div_mod_eq]
  rfl
theorem pl_cases (a : Int32) : (∃ i, i < 12 ∧ a = nI i) ∨ ¬ vp_in a 12 := by
  by_cases h : vp_in a 12
  · exact Or.inl (vp_in_of h (by decide))
  · exact Or.inr h
/-- a piano that is there -/
theorem pi_there {x : SR} {a : Int32} (h : ¬ pX2_has (x.1 0) a = 0) : ∃ i, i < 12 ∧ a = nI i ∧ bt (x.1 0) i = true := by
  rcases pl_cases a with ⟨i, hi, rfl⟩ | hn
  · refine ⟨i, hi, rfl, ?_⟩
    rw [has_bt _ hi] at h
    by_cases c : bt (x.1 0) i = true
    · exact c
    · rw [if_neg c] at h
      exact absurd rfl h
  · exact absurd (has_no _ hn) h
def SA (x z : SR) : Prop := (∀ i, i < 8 → z.1 i = x.1 i) ∧ (∀ j, j < 7 → z.2 0 j = x.2 0 j) ∧ (∀ r, 1 ≤ r → r < 5 → ∀ j, j < 12 → z.2 r j = x.2 r j) ∧ (∀ r, 5 ≤ r → r < 10 → ∀ j, j < 5 → z.2 r j = x.2 r j)
theorem cpy_in {f g : Nat → Int32} {n j : Nat} (h : j < n) : va_cpy f g 0 0 n j = f j := by
  rw [va_cpy, if_pos ⟨Nat.zero_le _, by omega⟩, Nat.zero_add, Nat.sub_zero]
theorem SA_copy (x y : SR) : SA x (pX2_copy x y) := by
  refine ⟨fun i hi => ?_, fun j hj => ?_, fun r h1 h2 j hj => ?_, fun r h1 h2 j hj => ?_⟩
  · rcases (show i = 0 ∨ i = 1 ∨ i = 2 ∨ i = 3 ∨ i = 4 ∨ i = 5 ∨ i = 6 ∨ i = 7 by omega) with rfl | rfl | rfl | rfl | rfl | rfl | rfl | rfl <;> rfl
  · exact cpy_in (f := x.2 0) (g := y.2 0) hj
  · rcases (show r = 1 ∨ r = 2 ∨ r = 3 ∨ r = 4 by omega) with rfl | rfl | rfl | rfl
    · exact cpy_in (f := x.2 1) (g := y.2 1) hj
    · exact cpy_in (f := x.2 2) (g := y.2 2) hj
    · exact cpy_in (f := x.2 3) (g := y.2 3) hj
    · exact cpy_in (f := x.2 4) (g := y.2 4) hj
  · rcases (show r = 5 ∨ r = 6 ∨ r = 7 ∨ r = 8 ∨ r = 9 by omega) with rfl | rfl | rfl | rfl | rfl
    · exact cpy_in (f := x.2 5) (g := y.2 5) hj
    · exact cpy_in (f := x.2 6) (g := y.2 6) hj
    · exact cpy_in (f := x.2 7) (g := y.2 7) hj
    · exact cpy_in (f := x.2 8) (g := y.2 8) hj
    · exact cpy_in (f := x.2 9) (g := y.2 9) hj
/-- what a trial leaves of the model: its rows but the first two, its numbers but the chosen ones; the first row as it was -/
def TR (y z : SR) : Prop := (∀ q, q ≠ 2 → z.1 q = y.1 q) ∧ (∀ q, 2 ≤ q → z.2 q = y.2 q) ∧ (∀ j, j < 109 → z.2 0 j = y.2 0 j)
/-- in a trial: the second row holds what was -/
def TI (y z : SR) : Prop := (∀ q, q ≠ 2 → z.1 q = y.1 q) ∧ (∀ q, 2 ≤ q → z.2 q = y.2 q) ∧ (∀ j, j < 109 → z.2 1 j = y.2 0 j)
theorem TR.rf (y : SR) : TR y y := ⟨fun _ _ => rfl, fun _ _ => rfl, fun _ _ => rfl⟩
theorem tQ_tQ (t : TV) (j : Nat) (a b : SR) : tQ (tQ t j a) j b = tQ t j b := by
  unfold tQ
  rw [up_up]
theorem tQ_at (t : TV) (j : Nat) (a : SR) : (tQ t j a).1 j = a := up_same _ _ _
theorem tQ_of (t : TV) {j k : Nat} (a : SR) (h : k ≠ j) : (tQ t j a).1 k = t.1 k := up_ne _ _ h
theorem pass1 (x : SR) : (pX1_passHours 1 x).2 = cHour x := by
  rw [pX1_passHours, pass_step, if_neg (by decide), pass_step, if_pos (by decide)]
theorem has_there {M a : Int32} (h : ¬ pX2_has M a = 0) : ∃ i, i < 12 ∧ a = nI i ∧ bt M i = true := by
  rcases pl_cases a with ⟨i, hi, rfl⟩ | hn
  · refine ⟨i, hi, rfl, ?_⟩
    rw [has_bt _ hi] at h
    by_cases c : bt M i = true
    · exact c
    · rw [if_neg c] at h
      exact absurd rfl h
  · exact absurd (has_no _ hn) h
theorem k4_go (k c : Int32) (x : SR) : (pX1_goTowards k c x).2 4 = x.2 4 := by
  rw [pX1_goTowards]
  by_cases h : c ≤ x.2 5 (ix k)
  · rw [if_pos h]
    rfl
  · rw [if_neg h]
    rfl
theorem k4_at (act : Int32 → Int32 → SR → SR) (ha : ∀ k c x, (act k c x).2 4 = x.2 4) (k c v : Int32) (x : SR) : (cAt act k c v x).2.2 4 = x.2 4 := by
  show (if (x.2 5 (ix k)) = c then act k c x else pX1_goTowards k c x).2 4 = x.2 4
  by_cases h : (x.2 5 (ix k)) = c
  · rw [if_pos h]
    exact ha k c x
  · rw [if_neg h]
    exact k4_go k c x
theorem k4_cGo (b v k : Int32) (x : SR) : (cGo b v k x).2.2 4 = x.2 4 := by
  unfold cGo
  by_cases c3 : b = 0
  · rw [if_pos c3]
    by_cases c4 : (pX1_nearest ((x.1 2) &&& (v ^^^ (-1))) (x.2 5 (ix k))) = (-6)
    · rw [if_pos c4]
      by_cases c5 : (pX1_nearest ((pX1_outOfTune x) &&& (v ^^^ (-1))) (x.2 5 (ix k))) = (-6)
      · rw [if_pos c5]
      · rw [if_neg c5]
        exact k4_at pX1_tune (fun _ _ _ => rfl) _ _ _ _
    · rw [if_neg c4]
      exact k4_at pX1_takeCoverOff (fun _ _ _ => rfl) _ _ _ _
  · rw [if_neg c3]
    by_cases c4 : (pX1_nearest ((x.1 1) &&& (v ^^^ (-1))) (x.2 5 (ix k))) = (-6)
    · rw [if_pos c4]
      by_cases c5 : (pX1_nearest ((pX1_outOfTune x) &&& (v ^^^ (-1))) (x.2 5 (ix k))) = (-6)
      · rw [if_pos c5]
      · rw [if_neg c5]
        exact k4_at pX1_tune (fun _ _ _ => rfl) _ _ _ _
    · rw [if_neg c4]
      exact k4_at pX1_putCoverOn (fun _ _ _ => rfl) _ _ _ _
theorem k4_acts : ∀ (n : Nat) (b v k : Int32) (x : SR), (pX1_letKeepersAct_L9 n b v k x).2 4 = x.2 4 := by
  intro n
  induction n with
  | zero => intro b v k x; rfl
  | succ n ih =>
    intro b v k x
    rw [acts_step]
    by_cases c1 : x.1 3 ≤ k
    · rw [if_pos c1]
    · rw [if_neg c1]
      by_cases c2 : 4 < k
      · rw [if_pos c2]
      · rw [if_neg c2, ih, k4_cGo]
theorem fz_4 (pl : Bool) : ∀ (n i : Nat) (x : SR), (fz pl n i x).2 4 = x.2 4 ∧ (fz pl n i x).1 0 = x.1 0 := by
  intro n
  induction n with
  | zero => intro i x; exact ⟨rfl, rfl⟩
  | succ n ih =>
    intro i x
    rw [fz]
    by_cases c : 12 ≤ i
    · rw [if_pos c]
      exact ⟨rfl, rfl⟩
    · rw [if_neg c]
      by_cases ho : opn x i = true
      · rw [if_pos ho]
        by_cases c2 : pl = true ∧ ¬ 50 ≤ (dryA x (nI i)).2 2 i
        · rw [if_pos c2]
          exact ih (i + 1) _
        · rw [if_neg c2]
          exact ih (i + 1) _
      · rw [if_neg ho]
        exact ih (i + 1) _
theorem rain_4 {p : Nat} : ∀ (n : Nat) (v : Int32) (x : SR), bt (x.1 0) p = false → (pX1_letRainFall_L2 n v x).2 4 p = x.2 4 p := by
  intro n
  induction n with
  | zero => intro v x _; rfl
  | succ n ih =>
    intro v x hp
    rw [pX1_letRainFall_L2]
    by_cases c : (12 : Int32) ≤ v
    · rw [if_pos c]
    · rw [if_neg c]
      by_cases d : pX2_has (pX1_openOnes x) v = 0
      · rw [if_pos d]
        exact ih _ _ hp
      · rw [if_neg d]
        refine (ih (v + 1) (rnA x v) hp).trans ?_
        obtain ⟨i, hi, rfl, hb⟩ := has_there d
        rw [pX1_openOnes, b_and] at hb
        have ne : p ≠ i := fun e => by
          subst e
          rw [hp, Bool.false_and] at hb
          exact absurd hb (by decide)
        unfold rnA
        rw [pR_off (Or.inr (by rw [ix_nI (by omega)]; exact ne)), pR_or (by decide), pR_or (by decide)]
theorem L46_2 : ∀ (n : Nat) (a s b v : Int32) (x : SR), (pX1_letThievesCome_L46 n a s b v x).2 = x.2 := by
  intro n
  induction n with
  | zero => intro a s b v x; rfl
  | succ n ih =>
    intro a s b v x
    rw [pX1_letThievesCome_L46]
    by_cases c : (12 : Int32) ≤ v
    · rw [if_pos c]
    · rw [if_neg c]
      by_cases cm : (((7 * (x.1 5)) + (3 * v)) - ((7 * (x.1 5)) + (3 * v)) / s * s) = 0
      · rw [if_pos cm]
        by_cases c1 : pX2_has (x.1 1) v = 0
        · rw [if_pos c1]
          exact ih _ _ _ _ _
        · rw [if_neg c1]
          by_cases ck : pX1_keepersAt v x = 0
          · rw [if_pos ck, ih]
            rfl
          · rw [if_neg ck]
            exact ih _ _ _ _ _
      · rw [if_neg cm]
        exact ih _ _ _ _ _
theorem thv_2 (x : SR) : (pX1_letThievesCome x).2 = x.2 := by
  rw [pX1_letThievesCome]
  by_cases c22 : 22 ≤ ((x.1 5) - (x.1 5) / 24 * 24)
  · rw [if_pos c22]
    by_cases c1 : 1 ≤ (x.2 0 (ix 6))
    · rw [if_pos c1]
      exact L46_2 _ _ _ _ _ _
    · rw [if_neg c1]
  · rw [if_neg c22]
    by_cases c5 : 5 < ((x.1 5) - (x.1 5) / 24 * 24)
    · rw [if_pos c5]
    · rw [if_neg c5]
      by_cases c1 : 1 ≤ (x.2 0 (ix 6))
      · rw [if_pos c1]
        exact L46_2 _ _ _ _ _ _
      · rw [if_neg c1]
theorem hEnd_2 (z : SR) : (hEnd z).2 = z.2 := thv_2 z
theorem hour_4 {p : Nat} (x : SR) (hp : bt (x.1 0) p = false) : (cHour x).2 4 p = x.2 4 p ∧ (cHour x).1 0 = x.1 0 := by
  have k0 : (pX1_letKeepersAct x).1 0 = x.1 0 := (acts_Kf x).2.1
  have k4 : (pX1_letKeepersAct x).2 4 = x.2 4 := k4_acts _ _ _ _ _
  unfold cHour
  by_cases c : pX1_rainsAfter 0 (pX1_letKeepersAct x) = 0
  · rw [if_pos c, play_dry, hEnd_2, hEnd_k _ 0 (by decide) (by decide) (by decide), (fz_4 _ _ _ _).1, (fz_4 _ _ _ _).2, k0, k4]
    exact ⟨rfl, rfl⟩
  · rw [if_neg c, hEnd_2, hEnd_k _ 0 (by decide) (by decide) (by decide), pX1_letRainFall, rain_4 _ _ _ (by rw [k0]; exact hp), rain_1, k0, k4]
    exact ⟨rfl, rfl⟩
theorem pass_4 (a : Int32) {p : Nat} : ∀ (n : Nat) (v2 v3 : Int32) (x : SR), bt (x.1 0) p = false → (pX1_passHours_L7 a n v2 v3 x).2.2 4 p = x.2 4 p := by
  intro n
  induction n with
  | zero => intro v2 v3 x _; rfl
  | succ n ih =>
    intro v2 v3 x hp
    rw [pass_step]
    by_cases c : a ≤ v3
    · rw [if_pos c]
    · obtain ⟨g1, g2⟩ := hour_4 x hp
      rw [if_neg c, ih _ _ _ (by rw [g2]; exact hp), g1]
theorem pass_b0 (a : Int32) : ∀ (n : Nat) (v2 v3 : Int32) (x : SR), (pX1_passHours_L7 a n v2 v3 x).2.1 0 = x.1 0 := by
  intro n
  induction n with
  | zero => intro v2 v3 x; rfl
  | succ n ih =>
    intro v2 v3 x
    rw [pass_step]
    by_cases c : a ≤ v3
    · rw [if_pos c]
    · have g : (cHour x).1 0 = x.1 0 := (hour_4 (p := 32) x (b_big (by decide))).2
      rw [if_neg c, ih, g]
