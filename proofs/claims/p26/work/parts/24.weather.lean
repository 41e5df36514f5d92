-- weather, then thieves, of the class: place by place
def wz (st : SR → Nat → SR) : Nat → Nat → SR → SR
  | 0, _, x => x
  | n + 1, i, x => if 12 ≤ i then x else if opn x i = true then wz st n (i + 1) (st x i) else wz st n (i + 1) x
def rnS (x : SR) (i : Nat) : SR := rnA x (nI i)
theorem fz_wz (pl : Bool) : ∀ (n i : Nat) (x : SR), fz pl n i x = wz (fzS pl) n i x := by
  intro n
  induction n with
  | zero => intro i x; rfl
  | succ n ih =>
    intro i x
    rw [fz, wz]
    by_cases c : 12 ≤ i
    · rw [if_pos c, if_pos c]
    · rw [if_neg c, if_neg c]
      by_cases o : opn x i = true
      · rw [if_pos o, if_pos o]
        unfold fzS
        by_cases q : pl = true ∧ ¬ 50 ≤ (dryA x (nI i)).2 2 i
        · rw [if_pos q, if_pos q]
          exact ih _ _
        · rw [if_neg q, if_neg q]
          exact ih _ _
      · rw [if_neg o, if_neg o]
        exact ih _ _
theorem rain_wz : ∀ (n i : Nat) (x : SR), i ≤ 12 → pX1_letRainFall_L2 n (nI i) x = wz rnS n i x := by
  intro n
  induction n with
  | zero => intro i x h1; rfl
  | succ n ih =>
    intro i x h1
    rw [pX1_letRainFall_L2, wz]
    by_cases c : i = 12
    · subst c
      rw [if_pos (show (12 : Int32) ≤ nI 12 by decide), if_pos (Nat.le_refl 12)]
    · have hi : i < 12 := by omega
      rw [if_neg (lt12 hi).2, if_neg (show ¬ 12 ≤ i by omega), has_opn x hi, nI_1]
      by_cases o : opn x i = true
      · rw [if_pos o, if_neg (by decide), if_pos o]
        exact ih (i + 1) _ (by omega)
      · rw [if_neg o, if_pos rfl, if_neg o]
        exact ih (i + 1) _ (by omega)
def thC (x : SR) (p : Nat) : SR := pS (pS x 1 ((x.1 1) &&& ((1 <<< (nI p &&& 31)) ^^^ (-1)))) 7 ((x.1 7) + 1)
def tS (s : Int32) (x : SR) (p : Nat) : SR := if (((7 * (x.1 5)) + (3 * nI p)) - ((7 * (x.1 5)) + (3 * nI p)) / s * s) = 0 then if bt (x.1 1) p = true then if pX1_keepersAt (nI p) x = 0 then thC x p else x else x else x
def tz (s : Int32) : Nat → Nat → SR → SR
  | 0, _, x => x
  | n + 1, i, x => if 12 ≤ i then x else tz s n (i + 1) (tS s x i)
theorem L46_tz (a s b : Int32) : ∀ (n i : Nat) (x : SR), i ≤ 12 → pX1_letThievesCome_L46 n a s b (nI i) x = tz s n i x := by
  intro n
  induction n with
  | zero => intro i x h1; rfl
  | succ n ih =>
    intro i x h1
    rw [pX1_letThievesCome_L46, tz]
    by_cases c : i = 12
    · subst c
      rw [if_pos (show (12 : Int32) ≤ nI 12 by decide), if_pos (Nat.le_refl 12)]
    · have hi : i < 12 := by omega
      rw [if_neg (lt12 hi).2, if_neg (show ¬ 12 ≤ i by omega), has_bt _ hi, nI_1]
      unfold tS
      by_cases cm : (((7 * (x.1 5)) + (3 * nI i)) - ((7 * (x.1 5)) + (3 * nI i)) / s * s) = 0
      · rw [if_pos cm, if_pos cm]
        by_cases c1 : bt (x.1 1) i = true
        · rw [if_pos c1, if_neg (show ¬ (1 : Int32) = 0 by decide), if_pos c1]
          by_cases ck : pX1_keepersAt (nI i) x = 0
          · rw [if_pos ck, if_pos ck]
            exact ih (i + 1) _ (by omega)
          · rw [if_neg ck, if_neg ck]
            exact ih (i + 1) _ (by omega)
        · rw [if_neg c1, if_pos rfl, if_neg c1]
          exact ih (i + 1) _ (by omega)
      · rw [if_neg cm, if_neg cm]
        exact ih (i + 1) _ (by omega)
theorem keepersAt_cg {x x' : SR} (h3 : x'.1 3 = x.1 3) (h5 : x'.2 5 = x.2 5) (a : Int32) : pX1_keepersAt a x' = pX1_keepersAt a x := by
  have key : ∀ (n : Nat) (v i : Int32), pX1_keepersAt_L4 a n v i x' = pX1_keepersAt_L4 a n v i x := by
    intro n
    induction n with
    | zero => intro v i; rfl
    | succ n ih =>
      intro v i
      rw [pX1_keepersAt_L4, pX1_keepersAt_L4, h3, h5, ih, ih]
  rw [pX1_keepersAt, pX1_keepersAt]
  exact key _ _ _
/-- what a step of weather leaves as it was -/
def Wt (st : SR → Nat → SR) : Prop := ∀ x i, (∀ q, q ≠ 6 → (st x i).1 q = x.1 q) ∧ (st x i).2 0 = x.2 0 ∧ (∀ r, 5 ≤ r → (st x i).2 r = x.2 r) ∧ ∀ p, st (thC x p) i = thC (st x i) p
theorem Wt_rn : Wt rnS := fun x i => by
  refine ⟨fun q hq => rfl, ?_, fun r hr => ?_, fun p => rfl⟩
  · unfold rnS rnA
    rw [pR_or (by decide), pR_or (by decide), pR_or (by decide)]
  · unfold rnS rnA
    rw [pR_or (by omega), pR_or (by omega), pR_or (by omega)]
theorem plA_th (x : SR) (p : Nat) (v : Int32) : plA (thC x p) v = thC (plA x v) p := by
  refine Prod.ext ?_ rfl
  show up (up (up x.1 1 ((x.1 1) &&& ((1 <<< (nI p &&& 31)) ^^^ (-1)))) 7 ((x.1 7) + 1)) 6 ((x.1 6) + (((x.2 0 (ix 4)) * (x.2 1 (ix v))) / 100)) = up (up (up x.1 6 ((x.1 6) + (((x.2 0 (ix 4)) * (x.2 1 (ix v))) / 100))) 1 ((x.1 1) &&& ((1 <<< (nI p &&& 31)) ^^^ (-1)))) 7 ((x.1 7) + 1)
  rw [up_cm (up x.1 1 _) (k := 7) (l := 6) _ _ (by decide), up_cm x.1 (k := 1) (l := 6) _ _ (by decide)]
theorem Wt_fz (pl : Bool) : Wt (fzS pl) := fun x i => by
  have e2 : ∀ p, (dryA (thC x p) (nI i)).2 2 i = (dryA x (nI i)).2 2 i := fun _ => rfl
  have ed : ∀ p, dryA (thC x p) (nI i) = thC (dryA x (nI i)) p := fun _ => rfl
  refine ⟨fun q hq => ?_, ?_, fun r hr => ?_, fun p => ?_⟩
  · unfold fzS
    by_cases c : pl = true ∧ ¬ 50 ≤ (dryA x (nI i)).2 2 i
    · rw [if_pos c]
      show up (dryA x (nI i)).1 6 _ q = _
      rw [up_ne _ _ hq]
      rfl
    · rw [if_neg c]
      rfl
  · unfold fzS
    by_cases c : pl = true ∧ ¬ 50 ≤ (dryA x (nI i)).2 2 i
    · rw [if_pos c]
      rfl
    · rw [if_neg c]
      rfl
  · unfold fzS
    by_cases c : pl = true ∧ ¬ 50 ≤ (dryA x (nI i)).2 2 i
    · rw [if_pos c]
      show (pR (pS (pR (pR x 2 (nI i) _) 3 (nI i) _) 6 _) 1 (nI i) _).2 r = _
      rw [pR_or (by omega)]
      show (pR (pR x 2 (nI i) _) 3 (nI i) _).2 r = _
      rw [pR_or (by omega), pR_or (by omega)]
    · rw [if_neg c]
      exact pR_or (by omega)
  · unfold fzS
    rw [e2]
    by_cases c : pl = true ∧ ¬ 50 ≤ (dryA x (nI i)).2 2 i
    · rw [if_pos c, if_pos c, ed, plA_th]
    · rw [if_neg c, if_neg c, ed]
theorem tS_st {st : SR → Nat → SR} (hW : Wt st) (s : Int32) (x : SR) (i p : Nat) : tS s (st x i) p = st (tS s x p) i := by
  obtain ⟨w1, w2, w3, w4⟩ := hW x i
  unfold tS
  rw [w1 5 (by decide), w1 1 (by decide), keepersAt_cg (w1 3 (by decide)) (w3 5 (by decide))]
  by_cases c1 : (((7 * (x.1 5)) + (3 * nI p)) - ((7 * (x.1 5)) + (3 * nI p)) / s * s) = 0
  · rw [if_pos c1, if_pos c1]
    by_cases c2 : bt (x.1 1) p = true
    · rw [if_pos c2, if_pos c2]
      by_cases c3 : pX1_keepersAt (nI p) x = 0
      · rw [if_pos c3, if_pos c3, w4]
      · rw [if_neg c3, if_neg c3]
    · rw [if_neg c2, if_neg c2]
  · rw [if_neg c1, if_neg c1]
theorem opn_tS (s : Int32) (x : SR) (p i : Nat) : opn (tS s x p) i = opn x i := by
  unfold tS
  by_cases c1 : (((7 * (x.1 5)) + (3 * nI p)) - ((7 * (x.1 5)) + (3 * nI p)) / s * s) = 0
  · rw [if_pos c1]
    by_cases c2 : bt (x.1 1) p = true
    · rw [if_pos c2]
      by_cases c3 : pX1_keepersAt (nI p) x = 0
      · rw [if_pos c3]
        rfl
      · rw [if_neg c3]
    · rw [if_neg c2]
  · rw [if_neg c1]
theorem tS_wz {st : SR → Nat → SR} (hW : Wt st) (s : Int32) : ∀ (n j : Nat) (x : SR) (p : Nat), tS s (wz st n j x) p = wz st n j (tS s x p) := by
  intro n
  induction n with
  | zero => intro j x p; rfl
  | succ n ih =>
    intro j x p
    rw [wz, wz, opn_tS]
    by_cases c : 12 ≤ j
    · rw [if_pos c, if_pos c]
    · rw [if_neg c, if_neg c]
      by_cases o : opn x j = true
      · rw [if_pos o, if_pos o, ih, tS_st hW]
      · rw [if_neg o, if_neg o, ih]
def mz (st th : SR → Nat → SR) : Nat → Nat → SR → SR
  | 0, _, x => x
  | n + 1, i, x => if 12 ≤ i then x else mz st th n (i + 1) (th (if opn x i = true then st x i else x) i)
theorem tz_wz {st : SR → Nat → SR} (hW : Wt st) (s : Int32) : ∀ (n i : Nat) (x : SR), tz s n i (wz st n i x) = mz st (tS s) n i x := by
  intro n
  induction n with
  | zero => intro i x; rfl
  | succ n ih =>
    intro i x
    rw [tz, wz, mz]
    by_cases c : 12 ≤ i
    · rw [if_pos c, if_pos c, if_pos c]
    · rw [if_neg c, if_neg c, if_neg c]
      by_cases o : opn x i = true
      · rw [if_pos o, if_pos o, tS_wz hW, ih]
      · rw [if_neg o, if_neg o, tS_wz hW, ih]
theorem wz_mz (st : SR → Nat → SR) : ∀ (n i : Nat) (x : SR), wz st n i x = mz st (fun x _ => x) n i x := by
  intro n
  induction n with
  | zero => intro i x; rfl
  | succ n ih =>
    intro i x
    rw [wz, mz]
    by_cases c : 12 ≤ i
    · rw [if_pos c, if_pos c]
    · rw [if_neg c, if_neg c]
      by_cases o : opn x i = true
      · rw [if_pos o, if_pos o, ih]
      · rw [if_neg o, if_neg o, ih]
theorem wz_k {st : SR → Nat → SR} (hW : Wt st) : ∀ (n i : Nat) (x : SR), (wz st n i x).1 5 = x.1 5 ∧ (wz st n i x).2 0 = x.2 0 := by
  intro n
  induction n with
  | zero => intro i x; exact ⟨rfl, rfl⟩
  | succ n ih =>
    intro i x
    rw [wz]
    by_cases c : 12 ≤ i
    · rw [if_pos c]
      exact ⟨rfl, rfl⟩
    · rw [if_neg c]
      by_cases o : opn x i = true
      · rw [if_pos o]
        obtain ⟨a, b⟩ := ih (i + 1) (st x i)
        exact ⟨a.trans ((hW x i).1 5 (by decide)), b.trans (hW x i).2.1⟩
      · rw [if_neg o]
        exact ih _ _
/-- thieves come by night -/
def thN (v1 s : Int32) (x : SR) (i : Nat) : SR := if v1 < 6 then tS s x i else if v1 ≤ 21 then x else tS s x i
theorem thieves_mz {st : SR → Nat → SR} (hW : Wt st) (x : SR) (hs : 1 ≤ x.2 0 (ix 6)) : pX1_letThievesCome (wz st 13 0 x) = mz st (thN ((x.1 5) - (x.1 5) / 24 * 24) (x.2 0 (ix 6))) 13 0 x := by
  obtain ⟨k1, k2⟩ := wz_k hW 13 0 x
  rw [pX1_letThievesCome, k1, k2]
  generalize (x.1 5) - (x.1 5) / 24 * 24 = v
  have e21 : Int32.toInt 21 = 21 := rfl
  have e22 : Int32.toInt 22 = 22 := rfl
  have e5 : Int32.toInt 5 = 5 := rfl
  have e6 : Int32.toInt 6 = 6 := rfl
  have tt : (v < 6 ∨ ¬ v ≤ 21) → thN v (x.2 0 (ix 6)) = tS (x.2 0 (ix 6)) := fun z => by
    funext X i
    unfold thN
    by_cases c : v < 6
    · rw [if_pos c]
    · rw [if_neg c, if_neg (z.resolve_left c)]
  by_cases c22 : 22 ≤ v
  · have n21 : ¬ v ≤ 21 := by
      rw [Int32.le_iff_toInt_le, e22] at c22
      rw [Int32.le_iff_toInt_le, e21]
      omega
    rw [if_pos c22, if_pos hs, tt (Or.inr n21), ← nI_0, L46_tz _ _ _ _ _ _ (by decide), tz_wz hW]
  · rw [if_neg c22]
    by_cases c5 : 5 < v
    · have n6 : ¬ v < 6 := by
        rw [Int32.lt_iff_toInt_lt, e5] at c5
        rw [Int32.lt_iff_toInt_lt, e6]
        omega
      have n21 : v ≤ 21 := by
        rw [Int32.le_iff_toInt_le, e22] at c22
        rw [Int32.le_iff_toInt_le, e21]
        omega
      have tt2 : thN v (x.2 0 (ix 6)) = fun X _ => X := by
        funext X i
        unfold thN
        rw [if_neg n6, if_pos n21]
      rw [if_pos c5, tt2, wz_mz]
    · have n6 : v < 6 := by
        rw [Int32.lt_iff_toInt_lt, e5] at c5
        rw [Int32.lt_iff_toInt_lt, e6]
        omega
      rw [if_neg c5, if_pos hs, tt (Or.inl n6), ← nI_0, L46_tz _ _ _ _ _ _ (by decide), tz_wz hW]
