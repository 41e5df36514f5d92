-- which pianos a keeper wants
theorem want_1 {x y : SR} (h : RS x (y.2 0)) {i : Nat} (hi : i < 12) : pX3_isWanted (nI i) 1 y = 0 ↔ bt ((x.1 1) &&& ((y.1 2) ^^^ (-1))) i = false := by
  obtain ⟨-, -, b1, b2, -⟩ := h.2.2.1 i hi
  rw [pX3_isWanted, isPiano3 hi (h.2.2.1 i hi), cov3 hi (h.2.2.1 i hi), b_and, b_not _ (show i < 32 by omega)]
  have hc := b_shr (y.1 2) (show i < 32 by omega)
  by_cases c0 : bt (x.1 0) i = true
  · rw [if_pos c0, if_neg (by decide)]
    by_cases cc : bt (y.1 2) i = true
    · rw [if_pos (hc.mpr cc), cc, Bool.not_true, Bool.and_false]
      exact ⟨fun _ => rfl, fun _ => rfl⟩
    · rw [if_neg (fun z => cc (hc.mp z)), if_neg (by decide), Bool.eq_false_iff.mpr cc, Bool.not_false, Bool.and_true]
      by_cases c2 : bt (x.1 2) i = true
      · rw [if_pos c2, if_neg (by decide), (b2 c2).2]
        exact ⟨fun _ => rfl, fun _ => rfl⟩
      · rw [if_neg c2]
        by_cases c1 : bt (x.1 1) i = true
        · rw [if_pos c1, if_pos rfl, c1]
          exact ⟨fun q => absurd q (by decide), fun q => absurd q (by decide)⟩
        · rw [if_neg c1, if_neg (by decide), Bool.eq_false_iff.mpr c1]
          exact ⟨fun _ => rfl, fun _ => rfl⟩
  · rw [if_neg c0, if_pos rfl, show bt (x.1 1) i = false from Bool.eq_false_iff.mpr (fun z => c0 (b1 z)), Bool.false_and]
    exact ⟨fun _ => rfl, fun _ => rfl⟩
theorem want_2 {x y : SR} (h : RS x (y.2 0)) {i : Nat} (hi : i < 12) : pX3_isWanted (nI i) 2 y = 0 ↔ bt ((x.1 2) &&& ((y.1 2) ^^^ (-1))) i = false := by
  obtain ⟨-, -, b1, b2, -⟩ := h.2.2.1 i hi
  rw [pX3_isWanted, isPiano3 hi (h.2.2.1 i hi), cov3 hi (h.2.2.1 i hi), b_and, b_not _ (show i < 32 by omega)]
  have hc := b_shr (y.1 2) (show i < 32 by omega)
  by_cases c0 : bt (x.1 0) i = true
  · rw [if_pos c0, if_neg (by decide)]
    by_cases cc : bt (y.1 2) i = true
    · rw [if_pos (hc.mpr cc), cc, Bool.not_true, Bool.and_false]
      exact ⟨fun _ => rfl, fun _ => rfl⟩
    · rw [if_neg (fun z => cc (hc.mp z)), if_neg (by decide), Bool.eq_false_iff.mpr cc, Bool.not_false, Bool.and_true]
      by_cases c2 : bt (x.1 2) i = true
      · rw [if_pos c2, if_pos rfl, c2]
        exact ⟨fun q => absurd q (by decide), fun q => absurd q (by decide)⟩
      · rw [if_neg c2, Bool.eq_false_iff.mpr c2]
        by_cases c1 : bt (x.1 1) i = true
        · rw [if_pos c1, if_neg (by decide)]
          exact ⟨fun _ => rfl, fun _ => rfl⟩
        · rw [if_neg c1, if_neg (by decide)]
          exact ⟨fun _ => rfl, fun _ => rfl⟩
  · rw [if_neg c0, if_pos rfl, show bt (x.1 2) i = false from Bool.eq_false_iff.mpr (fun z => c0 (b2 z).1), Bool.false_and]
    exact ⟨fun _ => rfl, fun _ => rfl⟩
def OT (x : SR) (j : Nat) : Prop := bt (x.1 0) j = true ∧ bt (x.1 2) j = false ∧ ¬ x.2 0 (ix 5) ≤ x.2 1 j
theorem oot_L (x : SR) : ∀ (n i : Nat) (v : Int32) (j : Nat), i ≤ 12 → 12 - i < n → (bt (pX1_outOfTune_L4 n v (nI i) x) j = true ↔ bt v j = true ∨ (i ≤ j ∧ j < 12 ∧ OT x j)) := by
  intro n
  induction n with
  | zero => intro i v j h1 h2; omega
  | succ n ih =>
    intro i v j h1 h2
    rw [pX1_outOfTune_L4]
    by_cases c : i = 12
    · subst c
      rw [if_pos (show (12 : Int32) ≤ nI 12 by decide)]
      exact ⟨fun z => Or.inl z, fun z => z.elim id (fun w => by omega)⟩
    · have hi : i < 12 := by omega
      rw [if_neg (lt12 hi).2, nI_1, show ix (nI i) = i from ix_nI (by omega), open_bt x hi]
      have skip : ¬ OT x i → ((bt (pX1_outOfTune_L4 n v (nI (i + 1)) x) j = true) ↔ bt v j = true ∨ (i ≤ j ∧ j < 12 ∧ OT x j)) := fun hn => by
        rw [ih (i + 1) v j (by omega) (by omega)]
        refine ⟨fun z => z.imp id (fun w => ⟨by omega, w.2⟩), fun z => z.imp id (fun w => ⟨?_, w.2⟩)⟩
        by_cases e : i = j
        · subst e
          exact absurd w.2.2 hn
        · omega
      by_cases c0 : bt (x.1 0) i = true
      · by_cases c2 : bt (x.1 2) i = true
        · rw [c0, c2, Bool.not_true, Bool.and_false, if_pos (by decide)]
          exact skip (fun z => absurd (c2.symm.trans z.2.1) (by decide))
        · have f2 := Bool.eq_false_iff.mpr c2
          rw [c0, f2, Bool.not_false, Bool.and_true, if_pos rfl, if_neg (by decide)]
          by_cases cp : x.2 0 (ix 5) ≤ x.2 1 i
          · rw [if_pos cp]
            exact skip (fun z => z.2.2 cp)
          · rw [if_neg cp, ih (i + 1) _ j (by omega) (by omega)]
            by_cases e : j = i
            · subst e
              rw [bset_eq v (by omega)]
              exact ⟨fun _ => Or.inr ⟨Nat.le_refl _, hi, c0, f2, cp⟩, fun _ => Or.inl rfl⟩
            · rw [bset_ne v (by omega) e]
              exact ⟨fun z => z.imp id (fun w => ⟨by omega, w.2⟩), fun z => z.imp id (fun w => ⟨by omega, w.2⟩)⟩
      · rw [Bool.eq_false_iff.mpr c0, Bool.false_and, if_pos (by decide)]
        exact skip (fun z => c0 z.1)
theorem oot_bt (x : SR) (j : Nat) : bt (pX1_outOfTune x) j = true ↔ j < 12 ∧ OT x j := by
  rw [pX1_outOfTune, show pX1_outOfTune_L4 13 0 0 x = pX1_outOfTune_L4 13 0 (nI 0) x from rfl, oot_L x 13 0 0 j (by decide) (by decide), b_0]
  exact ⟨fun z => z.elim (fun w => absurd w (by decide)) (fun w => w.2), fun z => Or.inr ⟨Nat.zero_le _, z⟩⟩
theorem want_3 {x y : SR} (h : RS x (y.2 0)) {i : Nat} (hi : i < 12) : pX3_isWanted (nI i) 3 y = 0 ↔ bt ((pX1_outOfTune x) &&& ((y.1 2) ^^^ (-1))) i = false := by
  have hP := h.2.2.1 i hi
  rw [pX3_isWanted, isPiano3 hi hP, isOpen3 hi hP, open_bt x hi, b_and, b_not _ (show i < 32 by omega), h.1.e5, show pX3_pianoPart (nI i) 1 y = y.2 0 (12 + 6 * i + 1) from pP 1 hi (by decide) y]
  have hc := b_shr (y.1 2) (show i < 32 by omega)
  have ho := oot_bt x i
  have nof : ¬ OT x i → bt (pX1_outOfTune x) i = false := fun z => Bool.eq_false_iff.mpr (fun w => z (ho.mp w).2)
  by_cases c0 : bt (x.1 0) i = true
  · rw [if_pos c0, if_neg (by decide), ← (hP.2.2.2.2.1 c0).1]
    by_cases cc : bt (y.1 2) i = true
    · rw [if_pos (hc.mpr cc), cc, Bool.not_true, Bool.and_false]
      exact ⟨fun _ => rfl, fun _ => rfl⟩
    · rw [if_neg (fun z => cc (hc.mp z)), if_pos (by decide), Bool.eq_false_iff.mpr cc, Bool.not_false, Bool.and_true]
      by_cases c2 : bt (x.1 2) i = true
      · rw [c0, c2, Bool.not_true, Bool.and_false, if_pos (by decide), nof (fun z => absurd (c2.symm.trans z.2.1) (by decide))]
        exact ⟨fun _ => rfl, fun _ => rfl⟩
      · have f2 := Bool.eq_false_iff.mpr c2
        rw [c0, f2, Bool.not_false, Bool.and_true, if_pos rfl, if_neg (by decide)]
        by_cases cp : x.2 0 (ix 5) ≤ x.2 1 i
        · rw [if_pos cp, nof (fun z => z.2.2 cp)]
          exact ⟨fun _ => rfl, fun _ => rfl⟩
        · rw [if_neg cp, ho.mpr ⟨hi, c0, f2, cp⟩]
          exact ⟨fun q => absurd q (by decide), fun q => absurd q (by decide)⟩
  · rw [if_neg c0, if_pos rfl, nof (fun z => c0 z.1), Bool.false_and]
    exact ⟨fun _ => rfl, fun _ => rfl⟩
theorem near_NS (M : Int32) {a : Nat} (ha : a < 12) : NS (bt M) a 12 (pX1_nearest M (nI a)) := by
  rw [pX1_nearest]
  by_cases z : M = 0
  · rw [if_pos z]
    exact Or.inl ⟨rfl, fun i hi => by rw [z, b_0]⟩
  · rw [if_neg z]
    have h2 := near_C (M := M) ha 13 0 (by decide) (by decide) (fun i _ _ => Nat.zero_le _)
    rw [nI_0] at h2
    exact h2
theorem near_j {M : Int32} {a : Nat} (ha : a < 12) (h : ¬ pX1_nearest M (nI a) = -6) : ∃ j, j < 12 ∧ pX1_nearest M (nI a) = nI j ∧ bt M j = true := by
  rcases near_NS M ha with ⟨e, -⟩ | ⟨j, hj, e, w, -⟩
  · exact absurd e h
  · exact ⟨j, hj, e, w⟩
/-- one branch of what a keeper does -/
theorem br {x y : SR} (h : RS x (y.2 0)) {k : Nat} (hk : (k : Int) < Int32.toInt (y.2 0 11)) (what A : Int32) (act : Int32 → Int32 → SR → SR) (hA : ∀ i, 12 ≤ i → bt A i = false) (hw : ∀ i, i < 12 → (pX3_isWanted (nI i) what y = 0 ↔ bt (A &&& ((y.1 2) ^^^ (-1))) i = false)) (hact : ∀ (z : SR) (j : Nat), z.2 = y.2 → j < 12 → bt A j = true → x.2 5 (ix (nI k)) = nI j → RS (act (nI k) (nI j) x) ((pX3_does (nI k) (nI j) what z).2 0) ∧ (pX3_does (nI k) (nI j) what z).1 = z.1 ∧ F2 z (pX3_does (nI k) (nI j) what z)) : pX3_nearest (nI k) what y = pX1_nearest (A &&& ((y.1 2) ^^^ (-1))) (x.2 5 (ix (nI k))) ∧ (∀ c, pX1_nearest (A &&& ((y.1 2) ^^^ (-1))) (x.2 5 (ix (nI k))) = c → ¬ c = -6 → (x.2 5 (ix (nI k)) = c → RS (act (nI k) c x) ((pX3_does (nI k) c what (pS y 2 ((y.1 2) ||| (1 <<< (c &&& 31))))).2 0) ∧ (pX3_does (nI k) c what (pS y 2 ((y.1 2) ||| (1 <<< (c &&& 31))))).1 2 = ((y.1 2) ||| (1 <<< (c &&& 31))) ∧ F2 y (pX3_does (nI k) c what (pS y 2 ((y.1 2) ||| (1 <<< (c &&& 31)))))) ∧ (¬ x.2 5 (ix (nI k)) = c → RS (pX1_goTowards (nI k) c x) ((pX3_does (nI k) c what (pS y 2 ((y.1 2) ||| (1 <<< (c &&& 31))))).2 0) ∧ (pX3_does (nI k) c what (pS y 2 ((y.1 2) ||| (1 <<< (c &&& 31))))).1 2 = ((y.1 2) ||| (1 <<< (c &&& 31))) ∧ F2 y (pX3_does (nI k) c what (pS y 2 ((y.1 2) ||| (1 <<< (c &&& 31))))))) := by
  obtain ⟨a, ha, ea⟩ := h.pl hk
  have hM : ∀ i, 12 ≤ i → bt (A &&& ((y.1 2) ^^^ (-1))) i = false := fun i hi => by
    rw [b_and, hA i hi, Bool.false_and]
  refine ⟨?_, ?_⟩
  · rw [ea]
    exact near_eq ha ((kpart h hk).trans ea) hw hM
  · intro c ec hc
    have hc2 := hc
    rw [← ec, ea] at hc2
    obtain ⟨j, hj, ej, wj⟩ := near_j ha hc2
    have ecj : c = nI j := by rw [← ec, ea, ej]
    subst ecj
    rw [b_and] at wj
    have wA : bt A j = true := by
      cases hb : bt A j
      · rw [hb, Bool.false_and] at wj
        exact absurd wj (by decide)
      · rfl
    have hy : RS x ((pS y 2 ((y.1 2) ||| (1 <<< (nI j &&& 31)))).2 0) := h
    refine ⟨fun e => ?_, fun e => ?_⟩
    · obtain ⟨r1, r2, r3⟩ := hact (pS y 2 ((y.1 2) ||| (1 <<< (nI j &&& 31)))) j rfl hj wA e
      refine ⟨r1, ?_, (F2_pS y _).trans r3⟩
      rw [r2]
      show up y.1 2 _ 2 = _
      exact up_same y.1 2 _
    · obtain ⟨r1, r2, r3⟩ := does_go hy hk hj what e
      refine ⟨r1, ?_, (F2_pS y _).trans r3⟩
      rw [r2]
      show up y.1 2 _ 2 = _
      exact up_same y.1 2 _
