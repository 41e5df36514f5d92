-- what is told of the street: both sides
section RLS
variable {B : Int} {d : Int32} {x y : SR}
theorem cntL_L (h : RQ B d x y) (a : Int32) : ∀ (n i : Nat) (v : Int32), i ≤ 5 → 5 - i < n → pL_same_L65 a n v (nI i) y = pX1_keepersAt_L4 a n v (nI i) x := by
  intro n
  induction n with
  | zero => intro i v h1 h2; omega
  | succ n ih =>
    intro i v h1 h2
    rw [pL_same_L65, pX1_keepersAt_L4, h.e11]
    by_cases c : x.1 3 ≤ nI i
    · rw [if_pos c, if_pos c]
    · rw [if_neg c, if_neg c]
      rw [nI_lev (by omega), ← h.e11] at c
      have h5 := h.2.2.2.1.1.2
      have hk : (i : Int) < Int32.toInt (y.2 0 11) := by
        have e : y.2 0 (ix 11) = y.2 0 11 := rfl
        rw [e] at c
        omega
      rw [if_neg (show ¬ (4 : Int32) < nI i by
        rw [show (4 : Int32) = nI 4 from rfl, nI_ltI (by omega) (by omega)]
        omega), pL_same_J92s0, ix5 (by omega), show y.2 2 (5 * i) = x.2 5 i from h.kv hk (j := 0) (by decide), show ix (nI i) = i from ix_nI (by omega), nI_1]
      by_cases q : x.2 5 i = a
      · rw [if_pos q, if_pos q]
        exact ih (i + 1) _ (by omega) (by omega)
      · rw [if_neg q, if_neg q, Int32.add_zero]
        exact ih (i + 1) _ (by omega) (by omega)
theorem cntL (h : RQ B d x y) (a : Int32) : pL_same_E65 a y = pX1_keepersAt a x := by
  rw [pL_same_E65, pX1_keepersAt]
  exact cntL_L h a 6 0 0 (by decide) (by decide)
theorem covL (h : RQ B d x y) {p : Nat} (hp : p < 12) (hb : bt (x.1 0) p = true) : pX1_coverAt (nI p) x = y.2 1 (5 * p + 2) := by
  rw [pX1_coverAt, ((h.2.2.1 p hp).1 hb).2.2.1, has_bt _ hp, has_bt _ hp]
  by_cases c : bt (x.1 2) p = true
  · rw [if_pos c, if_pos c, if_neg (by decide)]
  · rw [if_neg c, if_neg c, if_pos rfl]
    by_cases c1 : bt (x.1 1) p = true
    · rw [if_pos c1, if_neg (by decide)]
    · rw [if_neg c1, if_pos rfl]
theorem has_t {M : Int32} {p : Nat} (hp : p < 12) (hb : bt M p = true) : ¬ pX2_has M (nI p) = 0 := fun q => absurd (((has0 _ hp).mp q).symm.trans hb) (by decide)
theorem ofL (h : RQ B d x y) {t : TV} (ht : t.1 0 = x) {p : Nat} (hp : p < 12) (hb : bt (x.1 0) p = true) : ∀ j, j < 5 → pX2_of (nI p) (nI j) t = y.2 1 (5 * p + j) := by
  intro j hj
  have hz := has_t hp hb
  obtain ⟨a0, a1, a2, a3, a4, _⟩ := (h.2.2.1 p hp).1 hb
  have ip : ix (nI p) = p := ix_nI (by omega)
  rcases (show j = 0 ∨ j = 1 ∨ j = 2 ∨ j = 3 ∨ j = 4 by omega) with rfl | rfl | rfl | rfl | rfl
  · rw [pX2_of, ht, if_neg hz, if_pos (by decide), ip]
    exact a0.symm
  · rw [pX2_of, ht, if_neg hz, if_neg (by decide), if_pos (by decide), ip]
    exact a1.symm
  · rw [pX2_of, ht, if_neg hz, if_neg (by decide), if_neg (by decide), if_pos (by decide)]
    exact covL h hp hb
  · rw [pX2_of, ht, if_neg hz, if_neg (by decide), if_neg (by decide), if_neg (by decide), if_pos (by decide), ip]
    exact a3.symm
  · rw [pX2_of, ht, if_neg hz, if_neg (by decide), if_neg (by decide), if_neg (by decide), if_neg (by decide), if_pos (by decide), ip]
    exact a4.symm
theorem of5 (h : RQ B d x y) {t : TV} (ht : t.1 0 = x) {p : Nat} (hp : p < 12) (hb : bt (x.1 0) p = true) : pX2_of (nI p) 5 t = pL_same_E65 (nI p) y := by
  rw [pX2_of, ht, if_neg (has_t hp hb), if_neg (by decide), if_neg (by decide), if_neg (by decide), if_neg (by decide), if_neg (by decide), if_pos (by decide), cntL h]
theorem of_no {t : TV} (ht : t.1 0 = x) {p : Nat} (hp : p < 12) (hb : bt (x.1 0) p = false) : pX2_of (nI p) 0 t = -1 ∧ pX2_why (nI p) t = -1 := by
  rw [pX2_of, pX2_why, ht, if_pos ((has0 _ hp).mpr hb), if_pos ((has0 _ hp).mpr hb)]
  exact ⟨rfl, rfl⟩
theorem L165_1 {w8 w9 : Int32} {t : TV} (he : ∀ j, j < 5 → pX2_of w8 (nI j) t = y.2 1 (ix (w9 + nI j))) : ∀ (n i : Nat), i ≤ 5 → 5 - i < n → pL_same_L165 w8 w9 n (nI i) t y = 1 := by
  intro n
  induction n with
  | zero => intro i h1 h2; omega
  | succ n ih =>
    intro i h1 h2
    rw [pL_same_L165]
    by_cases c : i = 5
    · subst c
      rw [if_pos (by decide)]
    · rw [if_neg (show ¬ (5 : Int32) ≤ nI i by
        rw [show (5 : Int32) = nI 5 from rfl, nI_leI (by omega) (by omega)]
        omega), if_pos (he i (by omega)), nI_1]
      exact ih (i + 1) (by omega) (by omega)
theorem E165_1 (h : RQ B d x y) {t : TV} (ht : t.1 0 = x) {p : Nat} (hp : p < 12) (hb : bt (x.1 0) p = true) : pL_same_E165 (nI p) t y = 1 := by
  rw [pL_same_E165]
  exact L165_1 (fun j hj => by rw [ix5a (by omega) hj]; exact ofL h ht hp hb j hj) 6 0 (by decide) (by decide)
theorem cov_1 (h : RQ B d x y) {p : Nat} (hp : p < 12) (hb : bt (x.1 0) p = true) : (y.2 1 (5 * p + 2) = 1) ↔ bt (x.1 1) p = true := by
  obtain ⟨a, _, _, g⟩ := h.2.2.1 p hp
  rw [(a hb).2.2.1]
  by_cases c : bt (x.1 2) p = true
  · rw [if_pos c, (g c).2]
    exact ⟨fun q => absurd q (by decide), fun q => absurd q (by decide)⟩
  · rw [if_neg c]
    by_cases c1 : bt (x.1 1) p = true
    · rw [if_pos c1]
      exact ⟨fun _ => c1, fun _ => rfl⟩
    · rw [if_neg c1]
      exact ⟨fun q => absurd q (by decide), fun q => absurd q c1⟩
theorem whyL (h : RQ B d x y) (hB : B ≤ 1000000) {t : TV} (ht : t.1 0 = x) {p : Nat} (hp : p < 12) (hb : bt (x.1 0) p = true) : pX2_why (nI p) t = pL_same_J160s0 (nI p) y := by
  have c2 := cov_2 h hp hb
  have c1 := cov_1 h hp hb
  have eC := ((h.2.2.1 p hp).1 hb).2.2.1
  rw [pX2_why, pL_same_J160s0, ht, if_neg (has_t hp hb), show ix (5 * nI p + 2) = 5 * p + 2 from ix5a (j := 2) (by omega) (by decide)]
  by_cases b2 : bt (x.1 2) p = true
  · rw [if_neg (has_t hp b2), if_pos (c2.mpr b2)]
  · rw [if_pos ((has0 _ hp).mpr (nt_f b2)), if_neg (fun q => b2 (c2.mp q))]
    rw [if_neg b2] at eC
    by_cases b1 : bt (x.1 1) p = true
    · rw [if_pos b1] at eC
      rw [if_neg (has_t hp b1), eC, if_neg (show ¬ (1 : Int32) = 0 by decide), aheadL h hB, h.e11, cntL h]
    · rw [if_neg b1] at eC
      rw [if_pos ((has0 _ hp).mpr (nt_f b1)), if_pos eC]
end RLS
def Pm (v m : Int32) (i : Nat) : Prop := ∀ j, j < 32 → bt v j = (bt m j && decide (j < i))
theorem Pm_t {v m : Int32} {i : Nat} (h : Pm v m i) (hi : i < 12) (hb : bt m i = true) : Pm (v ||| (1 <<< (nI i &&& 31))) m (i + 1) := fun j hj => by
  rw [b_set _ (by omega) hj, h j hj]
  by_cases e : j = i
  · subst e
    rw [hb, decide_eq_true (show j = j from rfl), decide_eq_true (show j < j + 1 by omega), Bool.or_true, Bool.and_true]
  · rw [decide_eq_false e, Bool.or_false]
    by_cases l : j < i
    · rw [decide_eq_true l, decide_eq_true (show j < i + 1 by omega)]
    · rw [decide_eq_false l, decide_eq_false (show ¬ j < i + 1 by omega)]
theorem Pm_f {v m : Int32} {i : Nat} (h : Pm v m i) (hb : bt m i = false) : Pm v m (i + 1) := fun j hj => by
  rw [h j hj]
  by_cases e : j = i
  · subst e
    rw [hb, Bool.false_and, Bool.false_and]
  · by_cases l : j < i
    · rw [decide_eq_true l, decide_eq_true (show j < i + 1 by omega)]
    · rw [decide_eq_false l, decide_eq_false (show ¬ j < i + 1 by omega)]
theorem Pm_0 (m : Int32) : Pm 0 m 0 := fun j _ => by rw [b_0, decide_eq_false (Nat.not_lt_zero j), Bool.and_false]
theorem Pm_e {v m : Int32} (h : Pm v m 12) (hm : ∀ j, 12 ≤ j → bt m j = false) : v = m := b_ext (fun j hj => by
  rw [h j hj]
  by_cases l : j < 12
  · rw [decide_eq_true l, Bool.and_true]
  · rw [hm j (by omega), Bool.false_and])
theorem L16_eq {B : Int} {d : Int32} {x y : SR} (h : RQ B d x y) (hB : B ≤ 1000000) {t : TV} (ht : t.1 0 = x) : ∀ (n i : Nat) (v1 v2 v4 v5 v6 : Int32), i ≤ 12 → 12 - i < n → Pm v4 (x.1 0) i → Pm v5 (x.1 2) i → Pm v6 (x.1 1) i → (v1 = -6 ∨ ∃ b, b < 12 ∧ bt (x.1 0) b = true ∧ v1 = nI b ∧ v2 = x.2 1 b - x.2 2 b) → pL_same_L16 n v4 v5 v6 v1 (nI i) t y = (1, x.1 0, x.1 2, x.1 1, pX2_worst_L7 n v1 v2 (nI i) t) := by
  intro n
  induction n with
  | zero => intro i v1 v2 v4 v5 v6 h1 h2; omega
  | succ n ih =>
    intro i v1 v2 v4 v5 v6 h1 h2 m0 m2 m1 hv
    rw [pL_same_L16, pX2_worst_L7]
    by_cases e : i = 12
    · subst e
      rw [if_pos (show (12 : Int32) ≤ nI 12 by decide), if_pos (show (12 : Int32) ≤ nI 12 by decide), Pm_e m0 (h.2.2.2.2 0 (by decide)), Pm_e m2 (h.2.2.2.2 2 (by decide)), Pm_e m1 (h.2.2.2.2 1 (by decide))]
    · have hi : i < 12 := by omega
      obtain ⟨l0, l1⟩ := at_ok h hi
      obtain ⟨pa, pn, p1, p2⟩ := h.2.2.1 i hi
      rw [if_neg (lt12 hi).2, if_neg (lt12 hi).2, ix5 (show i < 1000 by omega), ht]
      by_cases hb : bt (x.1 0) i = true
      · have c2 := cov_2 h hi hb
        have c1 := cov_1 h hi hb
        have ii : ix (nI i) = i := ix_nI (by omega)
        rw [if_pos (l1.mpr hb), if_neg (by rw [E165_1 h ht hi hb]; decide), if_pos (of5 h ht hi hb), if_pos (whyL h hB ht hi hb), if_neg (has_t hi hb), ii, nI_1, pL_same_J251s0, pL_same_J274s0, show ix (5 * nI i + 2) = 5 * i + 2 from ix5a (j := 2) (by omega) (by decide)]
        have n2 : Pm (v5 ||| (if y.2 1 (5 * i + 2) = 2 then (1 <<< (nI i &&& 31)) else 0)) (x.1 2) (i + 1) := by
          by_cases b2 : bt (x.1 2) i = true
          · rw [if_pos (c2.mpr b2)]
            exact Pm_t m2 hi b2
          · rw [if_neg (fun q => b2 (c2.mp q)), show v5 ||| 0 = v5 from b_ext (fun j _ => or_z v5 j)]
            exact Pm_f m2 (nt_f b2)
        have n1 : Pm (v6 ||| (if y.2 1 (5 * i + 2) = 1 then (1 <<< (nI i &&& 31)) else 0)) (x.1 1) (i + 1) := by
          by_cases b1 : bt (x.1 1) i = true
          · rw [if_pos (c1.mpr b1)]
            exact Pm_t m1 hi b1
          · rw [if_neg (fun q => b1 (c1.mp q)), show v6 ||| 0 = v6 from b_ext (fun j _ => or_z v6 j)]
            exact Pm_f m1 (nt_f b1)
        have dif : ∀ b, b < 12 → bt (x.1 0) b = true → y.2 1 (ix (5 * nI b)) - y.2 1 (ix (5 * nI b + 1)) = x.2 1 b - x.2 2 b := fun b hb12 hbb => by
          rw [ix5 (by omega), show ix (5 * nI b + 1) = 5 * b + 1 from ix5a (j := 1) (by omega) (by decide), ((h.2.2.1 b hb12).1 hbb).1, ((h.2.2.1 b hb12).1 hbb).2.1]
        rcases hv with rfl | ⟨b, hb12, hbb, rfl, rfl⟩
        · rw [if_pos rfl, pL_same_J318s0, if_pos (show (-6 : Int32) < 0 by decide)]
          exact ih (i + 1) _ _ _ _ _ (by omega) (by omega) (Pm_t m0 hi hb) n2 n1 (Or.inr ⟨i, hi, hb, rfl, rfl⟩)
        · rw [if_neg (ne6 hb12), pL_same_J318s0, if_neg (lt12 hb12).1, dif b hb12 hbb, dif i hi hb]
          by_cases l : x.2 1 b - x.2 2 b ≤ x.2 1 i - x.2 2 i
          · rw [if_pos l, if_pos l]
            exact ih (i + 1) _ _ _ _ _ (by omega) (by omega) (Pm_t m0 hi hb) n2 n1 (Or.inr ⟨b, hb12, hbb, rfl, rfl⟩)
          · rw [if_neg l, if_neg l]
            exact ih (i + 1) _ _ _ _ _ (by omega) (by omega) (Pm_t m0 hi hb) n2 n1 (Or.inr ⟨i, hi, hb, rfl, rfl⟩)
      · have hb0 := nt_f hb
        obtain ⟨o1, o2⟩ := of_no (t := t) ht hi hb0
        rw [if_neg (fun q => hb (l1.mp q)), if_pos o1, if_pos o2, if_pos ((has0 _ hi).mpr hb0), nI_1]
        exact ih (i + 1) _ _ _ _ _ (by omega) (by omega) (Pm_f m0 hb0) (Pm_f m2 (nt_f (fun q => hb (p2 q).1))) (Pm_f m1 (nt_f (fun q => hb (p1 q)))) hv
theorem rainIn_L {B : Int} {d : Int32} {x y : SR} (h : RQ B d x y) : ∀ (n i : Nat), i ≤ 24 → i < n → pL_same_L423 n (pX1_hoursUntilRain_L2 (25 - i) (nI i) x) (nI i + (-1)) y = pX1_hoursUntilRain x := by
  intro n
  induction n with
  | zero => intro i h1 h2; omega
  | succ n ih =>
    intro i h1 h2
    rw [pL_same_L423]
    cases i with
    | zero =>
      rw [if_pos (by decide)]
      rfl
    | succ i =>
      have n0 : ¬ nI i < 0 := by
        rw [← nI_0, nI_ltI (by omega) (by omega)]
        omega
      have n24 : ¬ (24 : Int32) ≤ nI i := by
        rw [show (24 : Int32) = nI 24 from rfl, nI_leI (by omega) (by omega)]
        omega
      rw [pred_nI, if_neg n0, pL_same_J449s0, h.e7, rainsL h]
      have e : (if pX1_rainsAfter (nI i) x = 0 then pX1_hoursUntilRain_L2 (25 - (i + 1)) (nI (i + 1)) x else nI i) = pX1_hoursUntilRain_L2 (25 - i) (nI i) x := by
        rw [show 25 - i = (25 - (i + 1)) + 1 by omega, pX1_hoursUntilRain_L2, if_neg n24, nI_1]
      rw [e]
      exact ih i (by omega) (by omega)
theorem rainInL {B : Int} {d : Int32} {x y : SR} (h : RQ B d x y) : pL_same_E423 y = pX1_hoursUntilRain x := by
  rw [pL_same_E423]
  exact rainIn_L h 25 24 (by decide) (by decide)
theorem keeperL {B : Int} {d : Int32} {x y : SR} (h : RQ B d x y) (h4 : Int32.toInt (y.2 0 11) ≤ 4) {t : TV} (ht : t.1 0 = x) {k : Nat} (hk : (k : Int) < Int32.toInt (y.2 0 11)) : ∀ j, j < 5 → pX2_ofKeeper (nI k) (nI j) t = y.2 2 (5 * k + j) := by
  intro j hj
  have e11 : x.1 3 = y.2 0 11 := h.e11.symm
  have k0 : ¬ nI k < 0 := (lt12 (by omega)).1
  have k1 : ¬ y.2 0 11 ≤ nI k := by
    rw [nI_lev (by omega)]
    omega
  have k4 : nI k < 4 := by
    rw [show (4 : Int32) = nI 4 from rfl, nI_ltI (by omega) (by omega)]
    omega
  have ik : ix (nI k) = k := ix_nI (by omega)
  rw [h.kv hk hj, pX2_ofKeeper, ht, if_neg k0, e11, if_neg k1, if_pos k4, ik]
  rcases (show j = 0 ∨ j = 1 ∨ j = 2 ∨ j = 3 ∨ j = 4 by omega) with rfl | rfl | rfl | rfl | rfl
  · rw [if_pos (by decide)]
  · rw [if_neg (by decide), if_pos (by decide)]
  · rw [if_neg (by decide), if_neg (by decide), if_pos (by decide)]
  · rw [if_neg (by decide), if_neg (by decide), if_neg (by decide), if_pos (by decide)]
  · rw [if_neg (by decide), if_neg (by decide), if_neg (by decide), if_neg (by decide), if_pos (by decide)]
theorem L341_1 {w8 : Int32} {t : TV} {y : SR} (he : ∀ j, j < 5 → pX2_ofKeeper w8 (nI j) t = y.2 2 (ix ((5 * w8) + nI j))) : ∀ (n i : Nat), i ≤ 5 → 5 - i < n → pL_same_L341 w8 n (nI i) t y = 1 := by
  intro n
  induction n with
  | zero => intro i h1 h2; omega
  | succ n ih =>
    intro i h1 h2
    rw [pL_same_L341]
    by_cases c : i = 5
    · subst c
      rw [if_pos (by decide)]
    · rw [if_neg (show ¬ (5 : Int32) ≤ nI i by
        rw [show (5 : Int32) = nI 5 from rfl, nI_leI (by omega) (by omega)]
        omega), if_pos (he i (by omega)), nI_1]
      exact ih (i + 1) (by omega) (by omega)
theorem L329_1 {B : Int} {d : Int32} {x y : SR} (h : RQ B d x y) (h4 : Int32.toInt (y.2 0 11) ≤ 4) {t : TV} (ht : t.1 0 = x) : ∀ (n i : Nat), i ≤ 5 → 5 - i < n → pL_same_L329 n (nI i) t y = 1 := by
  intro n
  induction n with
  | zero => intro i h1 h2; omega
  | succ n ih =>
    intro i h1 h2
    rw [pL_same_L329]
    by_cases c : (y.2 0 (ix 11)) ≤ nI i
    · rw [if_pos c]
    · rw [if_neg c]
      rw [nI_lev (by omega)] at c
      have hk : (i : Int) < Int32.toInt (y.2 0 11) := by
        have e : y.2 0 (ix 11) = y.2 0 11 := rfl
        rw [e] at c
        omega
      have e1 : pL_same_E341 (nI i) t y = 1 := by
        rw [pL_same_E341]
        exact L341_1 (fun j hj => by rw [ix5a (by omega) hj]; exact keeperL h h4 ht hk j hj) 6 0 (by decide) (by decide)
      rw [if_neg (by rw [e1]; decide), nI_1]
      exact ih (i + 1) (by omega) (by omega)
theorem setL {B : Int} {d : Int32} {x y : SR} (h : RQ B d x y) {t : TV} (ht : t.1 0 = x) {j : Nat} (hj : j < 7) : pX2_count (10 + nI j) t = y.2 0 (ix (nI j)) := by
  have a := h.1.1 j hj
  rw [ix_nI (by omega), ← a, show (10 : Int32) + nI j = nI (10 + j) from nI_add 10 j, pX2_count, ht, if_neg (show ¬ nI (10 + j) < 10 by rw [show (10 : Int32) = nI 10 from rfl, nI_ltI (by omega) (by omega)]; omega), if_neg (show ¬ (17 : Int32) ≤ nI (10 + j) by rw [show (17 : Int32) = nI 17 from rfl, nI_leI (by omega) (by omega)]; omega)]
  rcases (show j = 0 ∨ j = 1 ∨ j = 2 ∨ j = 3 ∨ j = 4 ∨ j = 5 ∨ j = 6 by omega) with rfl | rfl | rfl | rfl | rfl | rfl | rfl <;> rfl
theorem L384_1 {B : Int} {d : Int32} {x y : SR} (h : RQ B d x y) {t : TV} (ht : t.1 0 = x) : ∀ (n i : Nat), i ≤ 7 → 7 - i < n → pL_same_L384 n (nI i) t y = 1 := by
  intro n
  induction n with
  | zero => intro i h1 h2; omega
  | succ n ih =>
    intro i h1 h2
    rw [pL_same_L384]
    by_cases c : i = 7
    · subst c
      rw [if_pos (by decide)]
    · rw [if_neg (show ¬ (7 : Int32) ≤ nI i by
        rw [show (7 : Int32) = nI 7 from rfl, nI_leI (by omega) (by omega)]
        omega), if_pos (setL h ht (by omega)), nI_1]
      exact ih (i + 1) (by omega) (by omega)
theorem sameL {B : Int} {x y : SR} (h : RQ B 0 x y) (h4 : Int32.toInt (y.2 0 11) ≤ 4) (hB : B ≤ 1000000) {t : TV} (ht : t.1 0 = x) : pL_same t y = 1 := by
  have e16 : pL_same_E16 t y = (1, x.1 0, x.1 2, x.1 1, pX2_worst t) := by
    rw [pL_same_E16, pX2_worst]
    exact L16_eq h hB ht 13 0 (-6) 0 0 0 0 (by decide) (by decide) (Pm_0 _) (Pm_0 _) (Pm_0 _) (Or.inl rfl)
  have k1 : ¬ pL_same_E329 t y = 0 := by
    rw [pL_same_E329, ← nI_0, L329_1 h h4 ht 6 0 (by decide) (by decide)]
    decide
  have k2 : ¬ pL_same_E384 t y = 0 := by
    rw [pL_same_E384, ← nI_0, L384_1 h ht 8 0 (by decide) (by decide)]
    decide
  have e9 : y.2 0 (ix 9) = x.1 6 := (h.1.2.2.2.1.trans (Int32.add_zero _)).symm
  have e10 : y.2 0 (ix 10) = x.1 7 := h.1.2.2.2.2.1.symm
  have kl : pX2_ofKeeper (y.2 0 (ix 11)) 0 t = -1 := by
    have i := h.2.2.2.1.1.1
    rw [pX2_ofKeeper, ht, if_neg (show ¬ y.2 0 (ix 11) < 0 by
      rw [Int32.lt_iff_toInt_lt, show Int32.toInt 0 = 0 from rfl, show y.2 0 (ix 11) = y.2 0 11 from rfl]
      omega), h.e11, if_pos (Int32.le_refl _)]
  rw [pL_same, e16]
  dsimp only
  rw [if_neg (by decide), if_neg k1, if_neg k2]
  rw [if_pos (by rw [pX2_count, ht, if_pos (by decide), if_pos rfl, h.e7])]
  rw [if_pos (by rw [pX2_count, ht, if_pos (by decide), if_neg (by decide), if_pos rfl])]
  rw [if_pos (by rw [pX2_count, ht, if_pos (by decide), if_neg (by decide), if_neg (by decide), if_pos rfl])]
  rw [if_pos (by rw [pX2_count, ht, if_pos (by decide), if_neg (by decide), if_neg (by decide), if_neg (by decide), if_pos rfl])]
  rw [if_pos (by rw [pX2_count, ht, if_pos (by decide), if_neg (by decide), if_neg (by decide), if_neg (by decide), if_neg (by decide), if_pos rfl, h.e11])]
  rw [if_pos (by rw [pX2_count, ht, if_pos (by decide), if_neg (by decide), if_neg (by decide), if_neg (by decide), if_neg (by decide), if_neg (by decide), if_pos rfl, e9])]
  rw [if_pos (by rw [pX2_count, ht, if_pos (by decide), if_neg (by decide), if_neg (by decide), if_neg (by decide), if_neg (by decide), if_neg (by decide), if_neg (by decide), if_pos rfl, e10])]
  rw [if_pos (by rw [pX2_count, ht, if_pos (by decide), if_neg (by decide), if_neg (by decide), if_neg (by decide), if_neg (by decide), if_neg (by decide), if_neg (by decide), if_neg (by decide), if_pos rfl, h.e8])]
  rw [if_pos (by rw [pX2_count, ht, if_pos (by decide), if_neg (by decide), if_neg (by decide), if_neg (by decide), if_neg (by decide), if_neg (by decide), if_neg (by decide), if_neg (by decide), if_neg (by decide), if_pos rfl, pL_same_J567s0, aheadL h hB])]
  rw [if_pos (by rw [pX2_count, ht, if_pos (by decide), if_neg (by decide), if_neg (by decide), if_neg (by decide), if_neg (by decide), if_neg (by decide), if_neg (by decide), if_neg (by decide), if_neg (by decide), if_neg (by decide), if_pos rfl, pL_same_J592s0, rains0L h])]
  rw [if_pos rfl, if_pos (by rw [pX2_rainIn, ht, rainInL h]), if_pos kl]
