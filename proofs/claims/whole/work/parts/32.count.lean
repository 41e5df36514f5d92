-- how many bits are set
def cs (b : Nat → Bool) : Nat → Nat → Nat
  | 0, _ => 0
  | n + 1, i => (if b i = true then 1 else 0) + cs b n (i + 1)
theorem cs_cong {b c : Nat → Bool} : ∀ (n i : Nat), (∀ j, i ≤ j → j < i + n → b j = c j) → cs b n i = cs c n i
  | 0, _, _ => rfl
  | n + 1, i, h => by
    rw [cs, cs, h i (by omega) (by omega), cs_cong n (i + 1) (fun j h1 h2 => h j (by omega) (by omega))]
theorem bc_all0 : ∀ n, n < 1024 → pJ6_bitCount_0f7a4 (nI n) = nI (cs (fun i => n / 2 ^ i % 2 == 1) 12 0) := by decide +kernel
theorem bc_all1 : ∀ n, n < 1024 → pJ6_bitCount_0f7a4 (nI (n + 1024)) = nI (cs (fun i => (n + 1024) / 2 ^ i % 2 == 1) 12 0) := by decide +kernel
theorem bc_all2 : ∀ n, n < 1024 → pJ6_bitCount_0f7a4 (nI (n + 2048)) = nI (cs (fun i => (n + 2048) / 2 ^ i % 2 == 1) 12 0) := by decide +kernel
theorem bc_all3 : ∀ n, n < 1024 → pJ6_bitCount_0f7a4 (nI (n + 3072)) = nI (cs (fun i => (n + 3072) / 2 ^ i % 2 == 1) 12 0) := by decide +kernel
theorem bc_all (n : Nat) (h : n < 4096) : pJ6_bitCount_0f7a4 (nI n) = nI (cs (fun i => n / 2 ^ i % 2 == 1) 12 0) := by
  rcases Nat.lt_or_ge n 1024 with h0 | h0
  · exact bc_all0 n h0
  · rcases Nat.lt_or_ge n 2048 with h1 | h1
    · have := bc_all1 (n - 1024) (by omega)
      rw [show n - 1024 + 1024 = n by omega] at this
      exact this
    · rcases Nat.lt_or_ge n 3072 with h2 | h2
      · have := bc_all2 (n - 2048) (by omega)
        rw [show n - 2048 + 2048 = n by omega] at this
        exact this
      · have := bc_all3 (n - 3072) (by omega)
        rw [show n - 3072 + 3072 = n by omega] at this
        exact this
theorem bc_cs {v : Int32} (h : ∀ i, 12 ≤ i → bt v i = false) : pJ6_bitCount_0f7a4 v = nI (cs (bt v) 12 0) := by
  have hb : ∀ i, bt v i = v.toBitVec.toNat.testBit i := fun i => rfl
  have hn : v.toBitVec.toNat < 2 ^ 12 := Nat.lt_pow_two_of_testBit _ (fun i hi => by rw [← hb]; exact h i hi)
  have e : v = nI v.toBitVec.toNat := by
    apply Int32.toBitVec_inj.mp
    show v.toBitVec = BitVec.ofNat 32 v.toBitVec.toNat
    rw [BitVec.ofNat_toNat, BitVec.setWidth_eq]
  have r := bc_all v.toBitVec.toNat (by omega)
  rw [← e] at r
  rw [r]
  congr 1
  apply cs_cong
  intro j _ _
  rw [hb, Nat.testBit_eq_decide_div_mod_eq]
  rfl
theorem there_L {x y : SR} (h : RS x (y.2 0)) : ∀ (k i n : Nat) (v : Int32), i + k = 12 → k < n → pX3_pianosThere_L4 n v (nI i) y = v + nI (cs (bt (x.1 0)) k i) := by
  intro k
  induction k with
  | zero =>
    intro i n v h1 h2
    cases n with
    | zero => omega
    | succ n =>
      rw [pX3_pianosThere_L4, show i = 12 by omega, if_pos (show (12 : Int32) ≤ nI 12 by decide), cs]
      exact (Int32.add_zero v).symm
  | succ k ih =>
    intro i n v h1 h2
    cases n with
    | zero => omega
    | succ n =>
      have hi : i < 12 := by omega
      rw [pX3_pianosThere_L4, if_neg (lt12 hi).2, nI_1, ih (i + 1) n _ (by omega) (by omega), show pX3_pianoPart (nI i) 0 y = y.2 0 (12 + 6 * i) from pP 0 hi (by decide) y, (h.2.2.1 i hi).1, cs, Int32.add_assoc, ← nI_add]
      by_cases c : bt (x.1 0) i = true
      · rw [if_pos c, if_pos c]
        rfl
      · rw [if_neg c, if_neg c]
        rfl
theorem there_eq {x y : SR} (h : RS x (y.2 0)) : pX3_pianosThere y = pJ6_bitCount_0f7a4 (x.1 0) := by
  have r := there_L h 12 0 13 0 (by decide) (by decide)
  rw [nI_0, Int32.zero_add] at r
  rw [pX3_pianosThere, r, bc_cs (h.2.2.2.2 0 (by decide))]
theorem withC_L {x y : SR} (h : RS x (y.2 0)) : ∀ (k i n : Nat) (v : Int32), i + k = 12 → k < n → pX3_withCovers_L4 n v (nI i) y = v + nI (cs (bt ((x.1 1) ||| (x.1 2))) k i) := by
  intro k
  induction k with
  | zero =>
    intro i n v h1 h2
    cases n with
    | zero => omega
    | succ n =>
      rw [pX3_withCovers_L4, show i = 12 by omega, if_pos (show (12 : Int32) ≤ nI 12 by decide), cs]
      exact (Int32.add_zero v).symm
  | succ k ih =>
    intro i n v h1 h2
    cases n with
    | zero => omega
    | succ n =>
      have hi : i < 12 := by omega
      have hP := h.2.2.1 i hi
      rw [pX3_withCovers_L4, if_neg (lt12 hi).2, nI_1, ih (i + 1) n _ (by omega) (by omega), ih (i + 1) n _ (by omega) (by omega), isPiano3 hi hP, cov3 hi hP, cs, b_or, ← nI_add]
      by_cases c0 : bt (x.1 0) i = true
      · rw [if_pos c0, if_neg (show ¬ (1 : Int32) = 0 by decide)]
        by_cases c2 : bt (x.1 2) i = true
        · rw [if_pos c2, if_neg (show ¬ (2 : Int32) = 0 by decide), c2, Bool.or_true, if_pos rfl, Int32.add_assoc]
          rfl
        · rw [if_neg c2, Bool.eq_false_iff.mpr c2, Bool.or_false]
          by_cases c1 : bt (x.1 1) i = true
          · rw [if_pos c1, if_neg (show ¬ (1 : Int32) = 0 by decide), if_pos c1, Int32.add_assoc]
            rfl
          · rw [if_neg c1, if_pos rfl, if_neg c1, Int32.add_assoc]
            rfl
      · have c1 : bt (x.1 1) i = false := Bool.eq_false_iff.mpr (fun z => c0 (hP.2.2.1 z))
        have c2 : bt (x.1 2) i = false := Bool.eq_false_iff.mpr (fun z => c0 (hP.2.2.2.1 z).1)
        rw [if_neg c0, if_pos rfl, c1, c2, Bool.or_false, if_neg (show ¬ false = true by decide), Int32.add_assoc]
        rfl
theorem withC_eq {x y : SR} (h : RS x (y.2 0)) : pX3_withCovers y = pJ6_bitCount_0f7a4 ((x.1 1) ||| (x.1 2)) := by
  have r := withC_L h 12 0 13 0 (by decide) (by decide)
  rw [nI_0, Int32.zero_add] at r
  rw [pX3_withCovers, r, bc_cs (fun i hi => by rw [b_or, h.2.2.2.2 1 (by decide) i hi, h.2.2.2.2 2 (by decide) i hi]; rfl)]
theorem withA_L {x y : SR} (h : RS x (y.2 0)) (a : Int32) (w : Nat → Bool) (hw : ∀ i, i < 12 → (w i = true ↔ bt (x.1 0) i = true ∧ (a = 0 ∨ pX3_pianoPart (nI i) 3 y = a))) : ∀ (n i : Nat) (v : Int32) (j : Nat), i ≤ 12 → 12 - i < n → (bt (pX3_pianosWith_L4 a n v (nI i) y) j = true ↔ bt v j = true ∨ (i ≤ j ∧ j < 12 ∧ w j = true)) := by
  intro n
  induction n with
  | zero => intro i v j h1 h2; omega
  | succ n ih =>
    intro i v j h1 h2
    rw [pX3_pianosWith_L4]
    by_cases c : i = 12
    · subst c
      rw [if_pos (show (12 : Int32) ≤ nI 12 by decide)]
      exact ⟨fun z => Or.inl z, fun z => z.elim id (fun q => by omega)⟩
    · have hi : i < 12 := by omega
      rw [if_neg (lt12 hi).2, isPiano3 hi (h.2.2.1 i hi), nI_1, Int32.or_zero]
      have skip : ¬ w i = true → ((bt (pX3_pianosWith_L4 a n v (nI (i + 1)) y) j = true) ↔ bt v j = true ∨ (i ≤ j ∧ j < 12 ∧ w j = true)) := fun hn => by
        rw [ih (i + 1) v j (by omega) (by omega)]
        refine ⟨fun z => z.imp id (fun q => ⟨by omega, q.2⟩), fun z => z.imp id (fun q => ⟨?_, q.2⟩)⟩
        by_cases e : i = j
        · subst e
          exact absurd q.2.2 hn
        · omega
      have take : w i = true → ((bt (pX3_pianosWith_L4 a n (v ||| (1 <<< (nI i &&& 31))) (nI (i + 1)) y) j = true) ↔ bt v j = true ∨ (i ≤ j ∧ j < 12 ∧ w j = true)) := fun hn => by
        rw [ih (i + 1) _ j (by omega) (by omega)]
        by_cases e : j = i
        · subst e
          rw [bset_eq v (by omega)]
          exact ⟨fun _ => Or.inr ⟨Nat.le_refl _, hi, hn⟩, fun _ => Or.inl rfl⟩
        · rw [bset_ne v (by omega) e]
          exact ⟨fun z => z.imp id (fun q => ⟨by omega, q.2⟩), fun z => z.imp id (fun q => ⟨by omega, q.2⟩)⟩
      by_cases c0 : bt (x.1 0) i = true
      · rw [if_pos c0, if_neg (show ¬ (1 : Int32) = 0 by decide)]
        by_cases ca : a = 0
        · rw [if_pos ca]
          exact take ((hw i hi).mpr ⟨c0, Or.inl ca⟩)
        · rw [if_neg ca]
          by_cases cp : pX3_pianoPart (nI i) 3 y = a
          · rw [if_pos cp]
            exact take ((hw i hi).mpr ⟨c0, Or.inr cp⟩)
          · rw [if_neg cp]
            exact skip (fun z => ((hw i hi).mp z).2.elim ca cp)
      · rw [if_neg c0, if_pos rfl]
        exact skip (fun z => c0 ((hw i hi).mp z).1)
theorem withA_eq {x y : SR} (h : RS x (y.2 0)) (a : Int32) (M : Int32) (hM : ∀ i, 12 ≤ i → bt M i = false) (hw : ∀ i, i < 12 → (bt M i = true ↔ bt (x.1 0) i = true ∧ (a = 0 ∨ pX3_pianoPart (nI i) 3 y = a))) : pX3_pianosWith a y = M := by
  rw [pX3_pianosWith]
  apply b_ext
  intro j hj
  have r := withA_L h a (bt M) hw 13 0 0 j (by decide) (by decide)
  rw [nI_0, b_0] at r
  rw [Bool.eq_iff_iff, r]
  refine ⟨fun z => z.elim (fun q => absurd q (by decide)) (fun q => q.2.2), fun z => Or.inr ⟨Nat.zero_le _, ?_, z⟩⟩
  rcases Nat.lt_or_ge j 12 with q | q
  · exact q
  · rw [hM j q] at z
    exact absurd z (by decide)
theorem with0 {x y : SR} (h : RS x (y.2 0)) : pX3_pianosWith 0 y = x.1 0 := withA_eq h 0 _ (h.2.2.2.2 0 (by decide)) (fun i hi => ⟨fun z => ⟨z, Or.inl rfl⟩, fun z => z.1⟩)
theorem with1 {x y : SR} (h : RS x (y.2 0)) : pX3_pianosWith 1 y = x.1 1 := withA_eq h 1 _ (h.2.2.2.2 1 (by decide)) (fun i hi => by
  have hP := h.2.2.1 i hi
  rw [cov3 hi hP]
  refine ⟨fun z => ⟨hP.2.2.1 z, Or.inr ?_⟩, fun z => ?_⟩
  · rw [if_neg (fun q => absurd (z.symm.trans (hP.2.2.2.1 q).2) (by decide)), if_pos z]
  · rcases z.2 with q | q
    · exact absurd q (by decide)
    · by_cases c2 : bt (x.1 2) i = true
      · rw [if_pos c2] at q
        exact absurd q (by decide)
      · rw [if_neg c2] at q
        by_cases c1 : bt (x.1 1) i = true
        · exact c1
        · rw [if_neg c1] at q
          exact absurd q (by decide))
theorem with2 {x y : SR} (h : RS x (y.2 0)) : pX3_pianosWith 2 y = x.1 2 := withA_eq h 2 _ (h.2.2.2.2 2 (by decide)) (fun i hi => by
  have hP := h.2.2.1 i hi
  rw [cov3 hi hP]
  refine ⟨fun z => ⟨(hP.2.2.2.1 z).1, Or.inr (if_pos z)⟩, fun z => ?_⟩
  rcases z.2 with q | q
  · exact absurd q (by decide)
  · by_cases c2 : bt (x.1 2) i = true
    · exact c2
    · rw [if_neg c2] at q
      by_cases c1 : bt (x.1 1) i = true
      · rw [if_pos c1] at q
        exact absurd q (by decide)
      · rw [if_neg c1] at q
        exact absurd q (by decide))
