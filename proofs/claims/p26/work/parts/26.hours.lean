-- hours in a row
def cH : Nat → SR → SR
  | 0, x => x
  | k + 1, x => cH k (cHour x)
def lH : Nat → SR → SR
  | 0, y => y
  | k + 1, y => lH k (pL_hour y).2
def lC : Nat → Int32 → SR → Int32
  | 0, v, _ => v
  | k + 1, v, y => lC k (v + (pL_hour y).1) (pL_hour y).2
theorem pass_cH (K : Nat) (hK : K < 1000) : ∀ (n i : Nat) (x : SR) (v2 : Int32), i ≤ K → K - i < n → pX1_passHours_L7 (nI K) n v2 (nI i) x = ((cH (K - i) x).1 6 - v2, cH (K - i) x) := by
  intro n
  induction n with
  | zero => intro i x v2 h1 h2; omega
  | succ n ih =>
    intro i x v2 h1 h2
    rw [pass_step]
    by_cases c : i = K
    · subst c
      rw [if_pos (Int32.le_refl _), Nat.sub_self, cH]
    · rw [if_neg (show ¬ nI K ≤ nI i by rw [nI_leI (by omega) (by omega)]; omega), nI_1, ih (i + 1) _ _ (by omega) (by omega), show K - i = (K - (i + 1)) + 1 by omega, cH]
theorem passHours_cH {K : Nat} (hK : K ≤ 99) (x : SR) : pX1_passHours (nI K) x = ((cH K x).1 6 - x.1 6, cH K x) := by
  rw [pX1_passHours, ← nI_0, pass_cH K (by omega) 100 0 x _ (Nat.zero_le _) (by omega), Nat.sub_zero]
theorem L683_lH (K : Nat) (hK : K < 1000) : ∀ (n i : Nat) (v : Int32) (y : SR), i ≤ K → K - i < n → pL_law_L683 (nI K) n v (nI i) y = (lC (K - i) v y, lH (K - i) y) := by
  intro n
  induction n with
  | zero => intro i v y h1 h2; omega
  | succ n ih =>
    intro i v y h1 h2
    rw [pL_law_L683]
    by_cases c : i = K
    · subst c
      rw [if_pos (Int32.le_refl _), Nat.sub_self, lC, lH]
    · rw [if_neg (show ¬ nI K ≤ nI i by rw [nI_leI (by omega) (by omega)]; omega), nI_1, ih (i + 1) _ _ (by omega) (by omega), show K - i = (K - (i + 1)) + 1 by omega, lC, lH]
theorem L277_lH (K : Nat) (hK : K < 1000) : ∀ (n i : Nat) (v : Int32) (y : SR), i ≤ K → K - i < n → pL_would_L277 (nI K) n v (nI i) y = (lC (K - i) v y, lH (K - i) y) := by
  intro n
  induction n with
  | zero => intro i v y h1 h2; omega
  | succ n ih =>
    intro i v y h1 h2
    rw [pL_would_L277]
    by_cases c : i = K
    · subst c
      rw [if_pos (Int32.le_refl _), Nat.sub_self, lC, lH]
    · rw [if_neg (show ¬ nI K ≤ nI i by rw [nI_leI (by omega) (by omega)]; omega), nI_1, ih (i + 1) _ _ (by omega) (by omega), show K - i = (K - (i + 1)) + 1 by omega, lC, lH]
theorem L29_lH (K : Nat) (hK : K < 1000) : ∀ (n i : Nat) (y : SR), i ≤ K → K - i < n → pL_would_L29 (nI K) n (nI i) y = lH (K - i) y := by
  intro n
  induction n with
  | zero => intro i y h1 h2; omega
  | succ n ih =>
    intro i y h1 h2
    rw [pL_would_L29]
    by_cases c : i = K
    · subst c
      rw [if_pos (Int32.le_refl _), Nat.sub_self, lH]
    · rw [if_neg (show ¬ nI K ≤ nI i by rw [nI_leI (by omega) (by omega)]; omega), nI_1, ih (i + 1) _ (by omega) (by omega), show K - i = (K - (i + 1)) + 1 by omega, lH]
theorem hoursL : ∀ (k : Nat) (B : Int) (x y : SR), RQ B 0 x y → B + k ≤ 1000000 → RQ (B + k) 0 (cH k x) (lH k y) ∧ ∃ D : Nat, D ≤ 600 * k ∧ (cH k x).1 6 = x.1 6 + nI D ∧ ∀ v, lC k v y = v + nI D := by
  intro k
  induction k with
  | zero =>
    intro B x y h hB
    refine ⟨?_, 0, by omega, (Int32.add_zero _).symm, fun v => (Int32.add_zero v).symm⟩
    rw [show B + ((0 : Nat) : Int) = B by omega]
    exact h
  | succ k ih =>
    intro B x y h hB
    obtain ⟨a1, a2, D, hD, a3⟩ := hourL h (by omega)
    obtain ⟨b1, D2, hD2, b2, b3⟩ := ih (B + 1) _ _ a1 (by omega)
    rw [show B + 1 + (k : Int) = B + ((k + 1 : Nat) : Int) by omega] at b1
    refine ⟨b1, D + D2, by omega, ?_, fun v => ?_⟩
    · rw [cH, b2, a2, a3, Int32.add_assoc, nI_add]
    · rw [lC, b3, a3, Int32.add_assoc, nI_add]
-- what q and the relation give the law's bounds
theorem RQ.hq {B : Int} {d : Int32} {x y : SR} (h : RQ B d x y) : HQ B y := by
  obtain ⟨a, b⟩ := h.2.2.2.1
  have s := h.2.1
  have i7 := h.1.2.2.2.2.2.2
  rw [← h.e7] at i7
  exact ⟨a, s.2.2.2.2.2.2, s.1, i7, fun k hk => (b k hk).1⟩
-- copies
theorem RQ.sa {B : Int} {d : Int32} {x z y : SR} (h : RQ B d x y) (g : SA x z) : RQ B d z y := by
  obtain ⟨g1, g2, g3, g4⟩ := g
  exact ⟨h.1.cg g2 (fun i h1 h2 => g1 i h2) (fun _ _ => rfl), h.2.1, fun p hp => (h.2.2.1 p hp).cg (fun q hq => by rw [g1 q (by omega)]) (fun r h1 h2 => g3 r h1 h2 p hp) (fun _ _ => rfl), h.2.2.2.1.cg g4 rfl (fun _ _ => rfl), h.2.2.2.2.cg (fun q hq => g1 q (by omega))⟩
theorem RQ.ya {B : Int} {d : Int32} {x y y' : SR} (h : RQ B d x y) (g0 : ∀ j, j < 12 → y'.2 0 j = y.2 0 j) (g1 : ∀ j, j < 60 → y'.2 1 j = y.2 1 j) (g2 : ∀ j, j < 25 → y'.2 2 j = y.2 2 j) : RQ B d x y' :=
  ⟨h.1.cg (fun _ _ => rfl) (fun _ _ _ => rfl) g0, h.2.1.cg (fun j hj => g0 j (by omega)), fun p hp => (h.2.2.1 p hp).cg (fun _ _ => rfl) (fun _ _ _ => rfl) (fun j hj => g1 _ (by omega)), h.2.2.2.1.cg (fun _ _ _ _ _ => rfl) (g0 11 (by decide)) g2, h.2.2.2.2⟩
theorem RQ.cp {B : Int} {d : Int32} {x y : SR} (h : RQ B d x y) (x' y' : SR) : RQ B d (pX2_copy x x') (pL_copy y y') := (h.sa (SA_copy x x')).ya (fun j hj => copy_0 y y' hj) (fun j hj => copy_1 y y' hj) (fun j hj => copy_2 y y' hj)
-- where no piano stands, the law counts no rain
theorem L38_4 {B : Int} (w3 : Int32) {p : Nat} (hp : p < 12) : ∀ (n : Nat) (v6 v9 : Int32) (x : SR), HQ B x → 0 ≤ Int32.toInt v9 → Int32.toInt v9 ≤ 5 → (pL_hour_L38 w3 n v6 v9 x).2 1 (5 * p + 4) = x.2 1 (5 * p + 4) := by
  intro n
  induction n with
  | zero => intro v6 v9 x h h0 h1; rw [pL_hour_L38]
  | succ n ih =>
    intro v6 v9 x h h0 h1
    rw [pL_hour_L38]
    by_cases c1 : (x.2 0 (ix 11)) ≤ v9
    · rw [if_pos c1]
    · rw [if_neg c1]
      rw [Int32.le_iff_toInt_le] at c1
      have h11 := h.1.2
      have ai := i_add1 (a := v9) (by omega) (by omega)
      have hk := hk9 h.2.2.2.2 (v := v9) (by omega) (by omega)
      have hn := near_hi (M := pL_hour_J179s0 w3 v6 x) hk
      have go : ∀ (v6 : Int32) (y : SR), HQ B y → y.2 1 (5 * p + 4) = x.2 1 (5 * p + 4) → (pL_hour_L38 w3 n v6 (v9 + 1) y).2 1 (5 * p + 4) = x.2 1 (5 * p + 4) := fun v6 y hy ey => (ih v6 (v9 + 1) y hy (by omega) (by omega)).trans ey
      by_cases c2 : (pL_near (pL_hour_J179s0 w3 v6 x) (x.2 2 (ix (5 * v9)))) < 0
      · rw [if_pos c2]
        exact go _ _ h rfl
      · rw [if_neg c2]
        rw [Int32.lt_iff_toInt_lt, show Int32.toInt 0 = 0 from rfl] at c2
        obtain ⟨j, hj, ej⟩ := nI_v (v := pL_near (pL_hour_J179s0 w3 v6 x) (x.2 2 (ix (5 * v9)))) (n := 12) (by omega) (by omega) (by decide)
        by_cases c3 : (pL_near (pL_hour_J179s0 w3 v6 x) (x.2 2 (ix (5 * v9)))) = (x.2 2 (ix (5 * v9)))
        · rw [if_pos c3]
          by_cases c4 : ((pL_hour_E62 w3 v6 x).1) = 0
          · rw [if_pos c4]
            refine go _ _ (HQ.kj (HQ.pp h) (by omega) (by omega) (by decide) (by decide)) ?_
            rw [pR_or (by decide), pR_off (Or.inr (by rw [ej, ix5 (by omega)]; omega))]
          · rw [if_neg c4]
            refine go _ _ (HQ.kJ (HQ.pp h) (by omega) (by omega) (by rw [pL_hour_J281s0]; split <;> exact ⟨by decide, by decide⟩)) ?_
            rw [pR_or (by decide), pR_off (Or.inr (by rw [ej, show ix (5 * nI j + 2) = 5 * j + 2 from ix5a (j := 2) (by omega) (by decide)]; omega))]
        · rw [if_neg c3]
          refine go _ _ (HQ.kj (HQ.k1 h (by omega) (by omega) (by rw [pL_hour_J232s0]; exact go_in hk (by omega) hn.2 c3)) (by omega) (by omega) (by decide) (by decide)) ?_
          rw [pR_or (by decide), pR_or (by decide)]
theorem J591_at {w4 w5 : Int32} {i q : Nat} {y : SR} (hi : i < 12) (hq : q < 5 * i ∨ 5 * i + 5 ≤ q) : (pL_hour_J591xq w4 w5 (nI i) y).2 1 q = y.2 1 q := by
  have q0 : ix (5 * nI i) = 5 * i := ix5 (by omega)
  have q1 : ix ((5 * nI i) + 1) = 5 * i + 1 := ix5a (j := 1) (by omega) (by decide)
  have q3 : ix ((5 * nI i) + 3) = 5 * i + 3 := ix5a (j := 3) (by omega) (by decide)
  have q4 : ix ((5 * nI i) + 4) = 5 * i + 4 := ix5a (j := 4) (by omega) (by decide)
  have o0 : ∀ (z : SR) (v : Int32), (pR z 1 (5 * nI i) v).2 1 q = z.2 1 q := fun z v => pR_off (Or.inr (by rw [q0]; omega))
  have o1 : ∀ (z : SR) (v : Int32), (pR z 1 ((5 * nI i) + 1) v).2 1 q = z.2 1 q := fun z v => pR_off (Or.inr (by rw [q1]; omega))
  have o3 : ∀ (z : SR) (v : Int32), (pR z 1 ((5 * nI i) + 3) v).2 1 q = z.2 1 q := fun z v => pR_off (Or.inr (by rw [q3]; omega))
  have o4 : ∀ (z : SR) (v : Int32), (pR z 1 ((5 * nI i) + 4) v).2 1 q = z.2 1 q := fun z v => pR_off (Or.inr (by rw [q4]; omega))
  rw [pL_hour_J591xq]
  by_cases c1 : w4 = 0
  · rw [if_pos c1]
    by_cases c2 : w5 < 8
    · rw [if_pos c2, o1]
    · rw [if_neg c2]
      by_cases c3 : 22 ≤ w5
      · rw [if_pos c3, o1]
      · rw [if_neg c3]
        by_cases c4 : 50 ≤ ((pR y 1 ((5 * nI i) + 1) (pL_hour_J515s0 (nI i) y)).2 1 (ix ((5 * nI i) + 1)))
        · rw [if_pos c4, o1]
        · rw [if_neg c4, o0, o3, o1]
  · rw [if_neg c1, o4, o0, o1]
theorem L371_at {w4 w5 w8 : Int32} {p : Nat} (hp : p < 12) : ∀ (n i : Nat) (v7 : Int32) (y : SR), y.2 1 (5 * p) = -1 → i ≤ 12 → (pL_hour_L371 w4 w5 w8 n v7 (nI i) y).2.2 1 (5 * p + 4) = y.2 1 (5 * p + 4) := by
  intro n
  induction n with
  | zero => intro i v7 y h1 h2; rw [pL_hour_L371]
  | succ n ih =>
    intro i v7 y h1 h2
    rw [pL_hour_L371]
    by_cases c : i = 12
    · subst c
      rw [if_pos (show (12 : Int32) ≤ nI 12 by decide)]
    · have hi : i < 12 := by omega
      rw [if_neg (lt12 hi).2, nI_1, show ix (5 * nI i) = 5 * i from ix5 (by omega)]
      by_cases e : i = p
      · subst e
        rw [h1, if_pos (by decide)]
        exact ih (i + 1) v7 y h1 (by omega)
      · by_cases c2 : (y.2 1 (5 * i)) < 0
        · rw [if_pos c2]
          exact ih (i + 1) v7 y h1 (by omega)
        · rw [if_neg c2]
          by_cases c3 : (y.2 1 (ix ((5 * nI i) + 2))) = 2
          · rw [if_pos c3]
            exact ih (i + 1) v7 y h1 (by omega)
          · rw [if_neg c3]
            have at_ : ∀ q, (q = 5 * p ∨ q = 5 * p + 4) → (pL_hour_J660xq w4 w5 w8 (nI i) y).2 1 q = y.2 1 q := fun q hq => by
              have a := J591_at (w4 := w4) (w5 := w5) (y := y) hi (q := q) (by omega)
              rcases J660_or w4 w5 w8 (nI i) y with r | r
              · rw [r]
                exact a
              · rw [r]
                unfold thf
                rw [pR_or (by decide), pR_off (Or.inr (by rw [show ix (5 * nI i + 2) = 5 * i + 2 from ix5a (j := 2) (by omega) (by decide)]; omega))]
                exact a
            rw [ih (i + 1) _ _ ((at_ _ (Or.inl rfl)).trans h1) (by omega)]
            exact at_ _ (Or.inr rfl)
theorem hour_n4 {B : Int} {x y : SR} (h : RQ B 0 x y) (hB : B ≤ 1000000) {p : Nat} (hp : p < 12) (hb : bt (x.1 0) p = false) : (pL_hour y).2.2 1 (5 * p + 4) = y.2 1 (5 * p + 4) := by
  have hA := actsL h hB
  have b0 : bt ((pX1_letKeepersAct x).1 0) p = false := by rw [(acts_Kf x).2.1]; exact hb
  rw [pL_hour]
  dsimp only
  rw [pR_or (by decide), pR_or (by decide), pL_hour_E371, ← nI_0, L371_at hp _ _ _ _ ((hA.2.2.1 p hp).2.1 b0) (by decide), pL_hour_E38]
  exact L38_4 _ hp _ _ _ _ h.hq (by decide) (by decide)
theorem cH_0 : ∀ (k : Nat) (x : SR), (cH k x).1 0 = x.1 0 := by
  intro k
  induction k with
  | zero => intro x; rfl
  | succ k ih =>
    intro x
    rw [cH, ih]
    exact (hour_4 (p := 32) x (b_big (by decide))).2
theorem cH_4 {p : Nat} : ∀ (k : Nat) (x : SR), bt (x.1 0) p = false → (cH k x).2 4 p = x.2 4 p := by
  intro k
  induction k with
  | zero => intro x _; rfl
  | succ k ih =>
    intro x hb
    obtain ⟨g1, g2⟩ := hour_4 x hb
    rw [cH, ih _ (by rw [g2]; exact hb), g1]
theorem lH_4 {p : Nat} (hp : p < 12) : ∀ (k : Nat) (B : Int) (x y : SR), RQ B 0 x y → B + k ≤ 1000000 → bt (x.1 0) p = false → (lH k y).2 1 (5 * p + 4) = y.2 1 (5 * p + 4) := by
  intro k
  induction k with
  | zero => intro B x y _ _ _; rfl
  | succ k ih =>
    intro B x y h hB hb
    have a := hourL h (by omega)
    rw [lH, ih (B + 1) _ _ a.1 (by omega) (by rw [(hour_4 x hb).2]; exact hb)]
    exact hour_n4 h (by omega) hp hb
