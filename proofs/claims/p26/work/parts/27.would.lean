-- a keeper more
theorem nt_f {b : Bool} (h : ¬ b = true) : b = false := by
  cases b
  · rfl
  · exact absurd rfl h
def addK (m p : Nat) (x : SR) : SR := pS (pR (pR (pR (pR (pR x 5 (nI m) (nI p)) 6 (nI m) 0) 7 (nI m) 0) 8 (nI m) 0) 9 (nI m) 0) 3 (nI m + 1)
def hireY (m p : Nat) (y : SR) : SR := pR (pR y 2 (5 * nI m) (nI p)) 0 11 (nI m + 1)
theorem addK_r (m p : Nat) (x : SR) {r : Nat} (h : r < 5) : (addK m p x).2 r = x.2 r := by
  show (pR (pR (pR (pR (pR x 5 (nI m) (nI p)) 6 (nI m) 0) 7 (nI m) 0) 8 (nI m) 0) 9 (nI m) 0).2 r = _
  rw [pR_or (by omega), pR_or (by omega), pR_or (by omega), pR_or (by omega), pR_or (by omega)]
theorem addK_k {m : Nat} (hm : m < 5) (p : Nat) (x : SR) {k : Nat} (h : k ≠ m) (r : Nat) : (addK m p x).2 r k = x.2 r k := by
  have e : k ≠ ix (nI m) := by rw [ix_nI (by omega)]; exact h
  show (pR (pR (pR (pR (pR x 5 (nI m) (nI p)) 6 (nI m) 0) 7 (nI m) 0) 8 (nI m) 0) 9 (nI m) 0).2 r k = _
  rw [pR_off (Or.inr e), pR_off (Or.inr e), pR_off (Or.inr e), pR_off (Or.inr e), pR_off (Or.inr e)]
theorem addK_5 {m : Nat} (hm : m < 5) (p : Nat) (x : SR) : (addK m p x).2 5 m = nI p := by
  show (pR (pR (pR (pR (pR x 5 (nI m) (nI p)) 6 (nI m) 0) 7 (nI m) 0) 8 (nI m) 0) 9 (nI m) 0).2 5 m = _
  rw [pR_or (by decide), pR_or (by decide), pR_or (by decide), pR_or (by decide), pR_sm, ix_nI (by omega), up_same]
theorem addK_6 {m : Nat} (hm : m < 5) (p : Nat) (x : SR) {j : Nat} (h1 : 1 ≤ j) (h5 : j < 5) : (addK m p x).2 (5 + j) m = 0 := by
  show (pR (pR (pR (pR (pR x 5 (nI m) (nI p)) 6 (nI m) 0) 7 (nI m) 0) 8 (nI m) 0) 9 (nI m) 0).2 (5 + j) m = _
  rcases (show j = 1 ∨ j = 2 ∨ j = 3 ∨ j = 4 by omega) with rfl | rfl | rfl | rfl
  · rw [pR_or (by decide), pR_or (by decide), pR_or (by decide), pR_sm, ix_nI (by omega), up_same]
  · rw [pR_or (by decide), pR_or (by decide), pR_sm, ix_nI (by omega), up_same]
  · rw [pR_or (by decide), pR_sm, ix_nI (by omega), up_same]
  · rw [pR_sm, ix_nI (by omega), up_same]
theorem addK_s (m p : Nat) (x : SR) {q : Nat} (h : q ≠ 3) : (addK m p x).1 q = x.1 q := up_ne _ _ h
theorem addK_3 (m p : Nat) (x : SR) : (addK m p x).1 3 = nI (m + 1) := by
  show up (pR (pR (pR (pR (pR x 5 (nI m) (nI p)) 6 (nI m) 0) 7 (nI m) 0) 8 (nI m) 0) 9 (nI m) 0).1 3 (nI m + 1) 3 = _
  rw [up_same, nI_1]
theorem hireY_0 (m p : Nat) (y : SR) {j : Nat} (h : j ≠ 11) : (hireY m p y).2 0 j = y.2 0 j := by
  unfold hireY
  rw [pR_off (Or.inr h), pR_or (by decide)]
theorem hireY_11 (m p : Nat) (y : SR) : (hireY m p y).2 0 11 = nI (m + 1) := by
  unfold hireY
  rw [pR_sm, nI_1]
  exact up_same _ _ _
theorem hireY_1 (m p : Nat) (y : SR) : (hireY m p y).2 1 = y.2 1 := by
  unfold hireY
  rw [pR_or (by decide), pR_or (by decide)]
theorem hireY_2 {m : Nat} (hm : m < 5) (p : Nat) (y : SR) : (hireY m p y).2 2 = up (y.2 2) (5 * m) (nI p) := by
  unfold hireY
  rw [pR_or (by decide), pR_sm, ix5 (by omega)]
theorem hire_le : ∀ m, m < 5 → ¬ nI m < 0 ∧ nI m ≤ 4 := by decide
theorem hireL {B : Int} {d : Int32} {x y : SR} (h : RQ B d x y) (h4 : Int32.toInt (y.2 0 11) ≤ 4) {p : Nat} (hp : p < 12) : RQ B d (pX1_addKeeper (nI p) x) (pR (pR y 2 (5 * (y.2 0 (ix 11))) (nI p)) 0 11 ((y.2 0 (ix 11)) + 1)) := by
  obtain ⟨m, hm, em⟩ := nI_v (n := 5) h.2.2.2.1.1.1 (by omega) (by decide)
  have e11 : y.2 0 (ix 11) = nI m := em
  have e3 : x.1 3 = nI m := h.e11.symm.trans em
  have ex : pX1_addKeeper (nI p) x = addK m p x := by rw [pX1_addKeeper, e3, if_neg (hire_le m hm).1, if_pos (hire_le m hm).2]; rfl
  rw [ex, e11]
  show RQ B d (addK m p x) (hireY m p y)
  obtain ⟨a, b, c, e, f, g, i⟩ := h.1
  have tm : Int32.toInt (nI (m + 1)) = ((m + 1 : Nat) : Int) := nI_toInt (by omega)
  have tm0 : Int32.toInt (nI m) = (m : Int) := nI_toInt (by omega)
  refine ⟨⟨fun j hj => ?_, ?_, ?_, ?_, ?_, ?_, ?_⟩, h.2.1.cg (fun j hj => hireY_0 _ _ _ (by omega)), fun q hq => (h.2.2.1 q hq).cg (fun r hr => by rw [addK_s _ _ _ (by omega)]) (fun r h1 h2 => by rw [addK_r _ _ _ h2]) (fun j _ => by rw [hireY_1]), ⟨?_, fun k hk => ?_⟩, h.2.2.2.2.cg (fun r hr => addK_s _ _ _ (by omega))⟩
  · rw [addK_r _ _ _ (by decide), hireY_0 _ _ _ (by omega)]
    exact a j hj
  · rw [addK_s _ _ _ (by decide), hireY_0 _ _ _ (by decide)]
    exact b
  · rw [addK_s _ _ _ (by decide), hireY_0 _ _ _ (by decide)]
    exact c
  · rw [addK_s _ _ _ (by decide), hireY_0 _ _ _ (by decide)]
    exact e
  · rw [addK_s _ _ _ (by decide), hireY_0 _ _ _ (by decide)]
    exact f
  · rw [addK_3, hireY_11]
  · rw [addK_s _ _ _ (by decide)]
    exact i
  · rw [hireY_11]
    exact ⟨by omega, by omega⟩
  · obtain ⟨c1, c2, c3⟩ := h.2.2.2.1.2 k hk
    rw [em] at c2 c3
    rw [hireY_2 hm, hireY_11]
    by_cases q : k = m
    · subst q
      rw [up_same]
      have tp : Int32.toInt (nI p) = (p : Int) := nI_toInt (by omega)
      refine ⟨⟨by omega, by omega⟩, fun _ j hj => ?_, fun h2 => by omega⟩
      by_cases j0 : j = 0
      · subst j0
        rw [show 5 * k + 0 = 5 * k from rfl, up_same]
        exact addK_5 hm p x
      · rw [addK_6 hm p x (by omega) hj, up_ne _ _ (by omega)]
        exact (c3 (by omega) j (by omega) hj).symm
    · refine ⟨by rw [up_ne _ _ (by omega)]; exact c1, fun h2 j hj => ?_, fun h2 j h1 hj => ?_⟩
      · rw [addK_k hm p x q, up_ne _ _ (by omega)]
        exact c2 (by omega) j hj
      · rw [up_ne _ _ (by omega)]
        exact c3 (by omega) j h1 hj
-- the trials
theorem wet_iff {B : Int} {x y z w : SR} {K : Nat} (h : RQ B 0 x y) (hB : B + K ≤ 1000000) {p : Nat} (hp : p < 12) : ((cH K (pX2_copy x z)).2 4 p ≤ x.2 4 p) ↔ ((lH K (pL_copy y w)).2 1 (5 * p + 4) ≤ y.2 1 (5 * p + 4)) := by
  have hc := h.cp z w
  have hk := (hoursL K B _ _ hc hB).1
  have sa := SA_copy x z
  by_cases hb : bt (x.1 0) p = true
  · have hb2 : bt ((cH K (pX2_copy x z)).1 0) p = true := by rw [cH_0, sa.1 0 (by decide)]; exact hb
    rw [((hk.2.2.1 p hp).1 hb2).2.2.2.2.1, ((h.2.2.1 p hp).1 hb).2.2.2.2.1]
  · have hb0 : bt (x.1 0) p = false := nt_f hb
    have hb2 : bt ((pX2_copy x z).1 0) p = false := by rw [sa.1 0 (by decide)]; exact hb0
    rw [cH_4 K _ hb2, sa.2.2.1 4 (by decide) (by decide) p hp, lH_4 hp K B _ _ hc hB hb2, copy_1 y w (by omega)]
    exact ⟨fun _ => Int32.le_refl _, fun _ => Int32.le_refl _⟩
theorem wet_L {x x' y y' : SR} (he : ∀ p, p < 12 → ((x'.2 4 p ≤ x.2 4 p) ↔ (y'.2 1 (5 * p + 4) ≤ y.2 1 (5 * p + 4)))) (a1 : Int32) (t : TV) (t2 : t.1 2 = x') (t0 : t.1 0 = x) : ∀ (n m i : Nat) (v : Int32), i ≤ 12 → 12 - i < n → 12 - i < m → pX2_willBeWet_L38 a1 n v (nI i) t = (pL_would_L55 m v (nI i) y y', t) := by
  intro n
  induction n with
  | zero => intro m i v h1 h2; omega
  | succ n ih =>
    intro m i v h1 h2 h3
    cases m with
    | zero => omega
    | succ m =>
      rw [pX2_willBeWet_L38, pL_would_L55, t2, t0]
      by_cases c : i = 12
      · subst c
        rw [if_pos (show (12 : Int32) ≤ nI 12 by decide), if_pos (show (12 : Int32) ≤ nI 12 by decide)]
      · have hi : i < 12 := by omega
        rw [if_neg (lt12 hi).2, if_neg (lt12 hi).2, nI_1, ix_nI (show i < 2147483648 by omega), pL_would_J92s0, show ix (5 * nI i + 4) = 5 * i + 4 from ix5a (j := 4) (by omega) (by decide)]
        by_cases c2 : x'.2 4 i ≤ x.2 4 i
        · rw [if_pos c2, if_pos ((he i hi).mp c2), show v ||| 0 = v from b_ext (fun j _ => or_z v j)]
          exact ih m (i + 1) v (by omega) (by omega) (by omega)
        · rw [if_neg c2, if_neg (fun q => c2 ((he i hi).mpr q))]
          exact ih m (i + 1) _ (by omega) (by omega) (by omega)
theorem wetL {B : Int} {y : SR} {t : TV} (h : RQ B 0 (t.1 0) y) (hB : B ≤ 900000) (a2 : Int32) (w : SR) : (pX2_willBeWet (1 + (pL_low a2 48)) t).1 = pL_would_E55 a2 y w ∧ (pX2_willBeWet (1 + (pL_low a2 48)) t).2.1 0 = t.1 0 := by
  have lo := lo1_in (a2 := a2)
  rw [pX2_willBeWet, pL_would_E55, pL_would_E29]
  generalize 1 + pL_low a2 48 = a at lo ⊢
  obtain ⟨K, hK, rfl⟩ := nI_v (n := 49) (v := a) (by omega) (by omega) (by decide)
  have tK : Int32.toInt (nI K) = (K : Int) := nI_toInt (by omega)
  have e99 : Int32.toInt 99 = 99 := rfl
  have e1 : Int32.toInt 1 = 1 := rfl
  rw [if_neg (by rw [Int32.lt_iff_toInt_lt, tK, e1]; omega), if_pos (by rw [Int32.le_iff_toInt_le, tK, e99]; omega), tQ_tQ, passHours_cH (by omega), ← nI_0, L29_lH K (by omega) 49 0 _ (Nat.zero_le _) (by omega), Nat.sub_zero, nI_0,
    show (0 : Int32) = nI 0 from rfl, wet_L (x := t.1 0) (y := y) (y' := lH K (pL_copy y w)) (fun p hp => wet_iff h (K := K) (by omega) hp) (nI K) (tQ t 2 (cH K (pX2_copy (t.1 0) (t.1 2)))) (tQ_at _ _ _) (tQ_of _ _ (by decide)) 13 13 0 _ (Nat.zero_le _) (by decide) (by decide)]
  exact ⟨rfl, tQ_of _ _ (by decide)⟩
theorem cov_2 {B : Int} {d : Int32} {x y : SR} (h : RQ B d x y) {p : Nat} (hp : p < 12) (hb : bt (x.1 0) p = true) : (y.2 1 (5 * p + 2) = 2) ↔ bt (x.1 2) p = true := by
  rw [((h.2.2.1 p hp).1 hb).2.2.1]
  by_cases c : bt (x.1 2) p = true
  · rw [if_pos c]
    exact ⟨fun _ => c, fun _ => rfl⟩
  · rw [if_neg c]
    refine ⟨fun q => ?_, fun q => absurd q c⟩
    by_cases c1 : bt (x.1 1) p = true
    · rw [if_pos c1] at q
      exact absurd q (by decide)
    · rw [if_neg c1] at q
      exact absurd q (by decide)
theorem le97 : ∀ v, v < 97 → ((96 : Int32) ≤ nI v ↔ v = 96) ∧ ¬ (97 : Int32) ≤ nI v ∧ nI v ≤ (96 : Int32) := by decide +kernel
theorem cov_L {B : Int} {y : SR} {p : Nat} (hp : p < 12) (hy : ¬ y.2 1 (5 * p) < 0) (hB : B ≤ 900000) : ∀ (n m v : Nat) (t : TV) (zk : SR), RQ (B + v) 0 (t.1 2) zk → bt ((t.1 2).1 0) p = true → v ≤ 96 → 96 - v < n → 97 - v < m → (pX2_coveredIn_L29 (nI p) n (nI v) t).1 = (if (pL_would_L140 (nI p) m (nI v) y zk).1 ≤ 96 then (pL_would_L140 (nI p) m (nI v) y zk).1 else (-6)) ∧ (pX2_coveredIn_L29 (nI p) n (nI v) t).2.1 0 = t.1 0 := by
  intro n
  induction n with
  | zero => intro m v t zk h hb h1 h2; omega
  | succ n ih =>
    intro m v t zk h hb h1 h2 h3
    cases m with
    | zero => omega
    | succ m =>
      obtain ⟨l1, l2, l3⟩ := le97 v (by omega)
      have cv := cov_2 h hp hb
      rw [pX2_coveredIn_L29, pL_would_L140, ix5 (show p < 1000 by omega), show ix (5 * nI p + 2) = 5 * p + 2 from ix5a (j := 2) (by omega) (by decide), if_neg hy]
      by_cases c : bt ((t.1 2).1 2) p = true
      · have hz : ¬ pX2_has ((t.1 2).1 2) (nI p) = 0 := fun q => absurd (((has0 _ hp).mp q).symm.trans c) (by decide)
        rw [if_pos (cv.mpr c), if_pos l3, if_neg hz, if_neg hz]
        by_cases e : v = 96
        · subst e
          rw [if_pos (l1.mpr rfl)]
          exact ⟨rfl, rfl⟩
        · rw [if_neg (fun q => e (l1.mp q))]
          exact ⟨rfl, rfl⟩
      · have hz : pX2_has ((t.1 2).1 2) (nI p) = 0 := (has0 _ hp).mpr (nt_f c)
        rw [if_neg (fun q => c (cv.mp q)), if_neg l2, if_pos hz, if_pos hz]
        by_cases e : v = 96
        · subst e
          rw [if_pos (l1.mpr rfl)]
          refine ⟨?_, rfl⟩
          cases m with
          | zero => omega
          | succ m =>
            rw [pL_would_L140, ix5 (show p < 1000 by omega), if_neg hy]
            have k97 : ∀ s : SR, (if (pL_hour zk).2.2 1 (ix (5 * nI p + 2)) = 2 then (nI 96 + 1, (pL_hour zk).2) else if (97 : Int32) ≤ nI 96 + 1 then (nI 96 + 1, (pL_hour zk).2) else pL_would_L140 (nI p) m (nI 96 + 1 + 1) y s) = (nI 96 + 1, (pL_hour zk).2) := fun s => by
              by_cases c3 : (pL_hour zk).2.2 1 (ix (5 * nI p + 2)) = 2
              · rw [if_pos c3]
              · rw [if_neg c3, if_pos (by decide)]
            rw [k97]
            exact (if_neg (show ¬ nI 96 + 1 ≤ 96 by decide)).symm
        · rw [if_neg (fun q => e (l1.mp q)), pass1, nI_1]
          have hh := (hourL h (by omega)).1
          have a := ih m (v + 1) (tQ t 2 (cHour (t.1 2))) (pL_hour zk).2 (by rw [tQ_at, show B + ((v + 1 : Nat) : Int) = B + v + 1 by omega]; exact hh) (by rw [tQ_at]; exact (congrArg (fun w => bt w p) (hour_4 (p := 32) (t.1 2) (b_big (by decide))).2).trans hb) (by omega) (by omega) (by omega)
          exact ⟨a.1, a.2.trans (tQ_of _ _ (by decide))⟩
theorem at_ok {B : Int} {d : Int32} {x y : SR} (h : RQ B d x y) {p : Nat} (hp : p < 12) : (y.2 1 (5 * p) < 0 ↔ bt (x.1 0) p = false) ∧ (0 ≤ y.2 1 (5 * p) ↔ bt (x.1 0) p = true) := by
  obtain ⟨a, b, _⟩ := h.2.2.1 p hp
  by_cases c : bt (x.1 0) p = true
  · have i := (a c).2.2.2.2.2.1
    rw [(a c).1, Int32.lt_iff_toInt_lt, Int32.le_iff_toInt_le, show Int32.toInt 0 = 0 from rfl]
    have := i.1
    exact ⟨⟨fun q => by omega, fun q => absurd (c.symm.trans q) (by decide)⟩, fun _ => c, fun _ => this⟩
  · have c0 : bt (x.1 0) p = false := nt_f c
    rw [b c0]
    exact ⟨⟨fun _ => c0, fun _ => by decide⟩, fun q => absurd q (by decide), fun q => absurd q c⟩
theorem coveredL {B : Int} {y : SR} {t : TV} (h : RQ B 0 (t.1 0) y) (hB : B ≤ 900000) (a2 : Int32) (w : SR) : (pX2_coveredIn (pL_low (a2 >>> ((5 : Int32) &&& 31)) 12) t).1 = pL_would_J218s0 a2 y w ∧ (pX2_coveredIn (pL_low (a2 >>> ((5 : Int32) &&& 31)) 12) t).2.1 0 = t.1 0 := by
  have lo := lo12_in (a := (a2 >>> ((5 : Int32) &&& 31)))
  rw [pX2_coveredIn, pL_would_J218s0, pL_would_E140]
  generalize pL_low (a2 >>> ((5 : Int32) &&& 31)) 12 = a at lo ⊢
  obtain ⟨p, hp, rfl⟩ := nI_v (n := 12) (v := a) (by omega) (by omega) (by decide)
  obtain ⟨l0, l1⟩ := at_ok h hp
  rw [ix5 (show p < 1000 by omega)]
  by_cases c : bt ((t.1 0).1 0) p = true
  · rw [if_neg (fun q => absurd (((has0 _ hp).mp q).symm.trans c) (by decide)), if_pos (l1.mpr c)]
    have hc := h.cp (t.1 2) (pL_would_E29 a2 y w)
    have a := cov_L (B := B) hp (fun q => absurd ((l0.mp q).symm.trans c) (by decide)) hB 97 98 0 (tQ t 2 (pX2_copy (t.1 0) (t.1 2))) (pL_copy y (pL_would_E29 a2 y w)) (by rw [tQ_at, show B + ((0 : Nat) : Int) = B by omega]; exact hc) (by rw [tQ_at, (SA_copy _ _).1 0 (by decide)]; exact c) (by decide) (by decide) (by decide)
    exact ⟨a.1, a.2.trans (tQ_of _ _ (by decide))⟩
  · rw [if_pos ((has0 _ hp).mpr (nt_f c)), if_neg (fun q => c (l1.mp q))]
    exact ⟨rfl, rfl⟩
theorem coin_t {B : Int} {x y : SR} (h : RQ B 0 x y) (h4 : Int32.toInt (y.2 0 11) ≤ 4) {K p : Nat} (hK : K ≤ 48) (hB : B ≤ 900000) (hp : p < 12) (z w : SR) : ∃ D : Nat, D ≤ 600 * K ∧ (pX1_passHours (nI K) (pX1_addKeeper (nI p) (pX2_copy x z))).1 = nI D ∧ (pL_would_E277 (nI K) (nI p) y w).1 = nI D := by
  have hc := h.cp z w
  have c11 : (pL_copy y w).2 0 (ix 11) = y.2 0 (ix 11) := copy_0 y w (by decide)
  have hh := hireL hc (by rw [show (pL_copy y w).2 0 11 = y.2 0 11 from c11]; exact h4) hp
  rw [c11] at hh
  obtain ⟨a, D, hD, e1, e2⟩ := hoursL K B _ _ hh (by omega)
  refine ⟨D, hD, ?_, ?_⟩
  · rw [passHours_cH (by omega), e1, Int32.add_comm, Int32.add_sub_cancel]
  · rw [pL_would_E277, c11, show (0 : Int32) = nI 0 from rfl, L277_lH K (by omega) 49 0 _ _ (Nat.zero_le _) (by omega), Nat.sub_zero]
    show lC K (nI 0) _ = _
    rw [e2, nI_0, Int32.zero_add]
-- the best place
def Bst (c : Nat → Int32) (b : Nat) : Prop := b < 12 ∧ (∀ q, q < 12 → Int32.toInt (c q) ≤ Int32.toInt (c b)) ∧ ∀ q, q < b → Int32.toInt (c q) < Int32.toInt (c b)
theorem Bst.uniq {c : Nat → Int32} {a b : Nat} (h : Bst c a) (g : Bst c b) : a = b := by
  obtain ⟨h1, h2, h3⟩ := h
  obtain ⟨g1, g2, g3⟩ := g
  rcases (show a < b ∨ a = b ∨ b < a by omega) with l | l | l
  · have := g3 a l
    have := h2 b g1
    omega
  · exact l
  · have := h3 b l
    have := g2 a h1
    omega
theorem ne6 {b : Nat} (h : b < 12) : ¬ nI b = -6 := fun q => (lt12 h).1 (by rw [q]; decide)
theorem best_X {c : Nat → Int32} {x : SR} {a1 : Int32} (a2 : Int32) (hc : ∀ p, p < 12 → ∀ t : TV, t.1 0 = x → (pX2_coinsWithOneMoreAt (nI p) a1 t).1 = c p) : ∀ (n i : Nat) (v3 v4 : Int32) (t : TV), t.1 0 = x → i ≤ 12 → 12 - i < n → ((i = 0 ∧ v3 = -6) ∨ ∃ b, b < i ∧ v3 = nI b ∧ v4 = c b ∧ (∀ q, q < i → Int32.toInt (c q) ≤ Int32.toInt (c b)) ∧ ∀ q, q < b → Int32.toInt (c q) < Int32.toInt (c b)) → ∃ b, Bst c b ∧ (pX2_bestPlace_L32 a1 a2 n v3 v4 (nI i) t).1 = (if a2 = 0 then nI b else c b) ∧ (pX2_bestPlace_L32 a1 a2 n v3 v4 (nI i) t).2.1 0 = x := by
  intro n
  induction n with
  | zero => intro i v3 v4 t ht h1 h2; omega
  | succ n ih =>
    intro i v3 v4 t ht h1 h2 hv
    rw [pX2_bestPlace_L32]
    by_cases e : i = 12
    · subst e
      rcases hv with ⟨z, _⟩ | ⟨b, hb, rfl, rfl, k1, k2⟩
      · omega
      · refine ⟨b, ⟨hb, k1, k2⟩, ?_⟩
        rw [if_pos (show (12 : Int32) ≤ nI 12 by decide)]
        by_cases c0 : a2 = 0
        · rw [if_pos c0, if_pos c0]
          exact ⟨rfl, ht⟩
        · rw [if_neg c0, if_neg c0]
          exact ⟨rfl, ht⟩
    · have hi : i < 12 := by omega
      have ct := hc i hi t ht
      have st : (pX2_coinsWithOneMoreAt (nI i) a1 t).2.1 0 = x := by
        rw [pX2_coinsWithOneMoreAt, tQ_tQ, tQ_tQ]
        exact (tQ_of _ _ (by decide)).trans ht
      rw [if_neg (lt12 hi).2, ct, nI_1]
      rcases hv with ⟨rfl, rfl⟩ | ⟨b, hb, rfl, rfl, k1, k2⟩
      · rw [if_pos rfl]
        exact ih 1 _ _ _ st (by omega) (by omega) (Or.inr ⟨0, by decide, rfl, rfl, fun q hq => by rw [show q = 0 by omega]; exact Int.le_refl _, fun q hq => by omega⟩)
      · rw [if_neg (ne6 (by omega))]
        by_cases l : c i ≤ c b
        · rw [if_pos l]
          rw [Int32.le_iff_toInt_le] at l
          refine ih (i + 1) _ _ _ st (by omega) (by omega) (Or.inr ⟨b, by omega, rfl, rfl, fun q hq => ?_, k2⟩)
          by_cases qi : q = i
          · rw [qi]
            exact l
          · exact k1 q (by omega)
        · rw [if_neg l]
          rw [Int32.le_iff_toInt_le] at l
          refine ih (i + 1) _ _ _ st (by omega) (by omega) (Or.inr ⟨i, by omega, rfl, rfl, fun q hq => ?_, fun q hq => ?_⟩)
          · by_cases qi : q = i
            · rw [qi]
              exact Int.le_refl _
            · have := k1 q (by omega)
              omega
          · have := k1 q (by omega)
            omega
theorem pred_nI (i : Nat) : nI (i + 1) + (-1) = nI i := by
  rw [← nI_1, Int32.add_assoc, show (1 : Int32) + -1 = 0 from rfl, Int32.add_zero]
theorem best_L {c : Nat → Int32} {y : SR} {w8 : Int32} (hc0 : ∀ p, p < 12 → 0 ≤ Int32.toInt (c p)) (hc : ∀ p, p < 12 → ∀ w : SR, (pL_would_E277 w8 (nI p) y w).1 = c p) : ∀ (n i : Nat) (v12 v13 : Int32) (zk : SR), i ≤ 12 → i < n → ((i = 12 ∧ v13 = -1) ∨ ∃ b, i ≤ b ∧ b < 12 ∧ v12 = nI b ∧ v13 = c b ∧ (∀ q, i ≤ q → q < 12 → Int32.toInt (c q) ≤ Int32.toInt (c b)) ∧ ∀ q, i ≤ q → q < b → Int32.toInt (c q) < Int32.toInt (c b)) → ∃ b, Bst c b ∧ (pL_would_L233 w8 n v12 v13 (nI i + (-1)) y zk).1 = nI b ∧ (pL_would_L233 w8 n v12 v13 (nI i + (-1)) y zk).2.1 = c b := by
  intro n
  induction n with
  | zero => intro i v12 v13 zk h1 h2; omega
  | succ n ih =>
    intro i v12 v13 zk h1 h2 hv
    rw [pL_would_L233]
    cases i with
    | zero =>
      rw [if_pos (show nI 0 + (-1) < 0 by decide)]
      rcases hv with ⟨z, _⟩ | ⟨b, _, hb, rfl, rfl, k1, k2⟩
      · omega
      · exact ⟨b, ⟨hb, fun q hq => k1 q (Nat.zero_le _) hq, fun q hq => k2 q (Nat.zero_le _) hq⟩, rfl, rfl⟩
    | succ i =>
      have hi : i < 12 := by omega
      rw [pred_nI, if_neg (lt12 hi).1, pL_would_J322v12, pL_would_J322v13, hc i hi]
      have up_ : v13 ≤ c i → ∃ b, Bst c b ∧ (pL_would_L233 w8 n (nI i) (c i) (nI i + (-1)) y (pL_would_E277 w8 (nI i) y zk).2).1 = nI b ∧ (pL_would_L233 w8 n (nI i) (c i) (nI i + (-1)) y (pL_would_E277 w8 (nI i) y zk).2).2.1 = c b := fun l => by
        rw [Int32.le_iff_toInt_le] at l
        refine ih i _ _ _ (by omega) (by omega) (Or.inr ⟨i, Nat.le_refl _, hi, rfl, rfl, fun q h1 h2 => ?_, fun q h1 h2 => by omega⟩)
        by_cases qi : q = i
        · rw [qi]
          exact Int.le_refl _
        · rcases hv with ⟨e12, _⟩ | ⟨b, hb, hb2, rfl, rfl, k1, k2⟩
          · omega
          · have := k1 q (by omega) h2
            omega
      by_cases l : v13 ≤ c i
      · rw [if_pos l, if_pos l]
        exact up_ l
      · rw [if_neg l, if_neg l]
        rw [Int32.le_iff_toInt_le] at l
        rcases hv with ⟨_, rfl⟩ | ⟨b, hb, hb2, rfl, rfl, k1, k2⟩
        · have := hc0 i hi
          rw [show Int32.toInt (-1) = -1 from rfl] at l
          omega
        · refine ih i _ _ _ (by omega) (by omega) (Or.inr ⟨b, by omega, hb2, rfl, rfl, fun q h1 h2 => ?_, fun q h1 h2 => ?_⟩)
          · by_cases qi : q = i
            · rw [qi]
              omega
            · exact k1 q (by omega) h2
          · by_cases qi : q = i
            · rw [qi]
              omega
            · exact k2 q (by omega) h2
theorem bestL {B : Int} {x y : SR} (h : RQ B 0 x y) (h4 : Int32.toInt (y.2 0 11) ≤ 4) (hB : B ≤ 900000) (a2 : Int32) (w : SR) : ∃ (b : Nat) (v : Int32), (pL_would_E233 a2 y w).1 = nI b ∧ (pL_would_E233 a2 y w).2.1 = v ∧ ∀ t : TV, t.1 0 = x → ((pX2_bestPlace (1 + (pL_low a2 48)) 0 t).1 = nI b ∧ (pX2_bestPlace (1 + (pL_low a2 48)) 0 t).2.1 0 = x) ∧ ((pX2_bestPlace (1 + (pL_low a2 48)) 1 t).1 = v ∧ (pX2_bestPlace (1 + (pL_low a2 48)) 1 t).2.1 0 = x) := by
  have lo := lo1_in (a2 := a2)
  rw [pL_would_E233]
  generalize (pL_would_E140 a2 y w).2 = w2
  generalize 1 + pL_low a2 48 = a at lo ⊢
  obtain ⟨K, hK, rfl⟩ := nI_v (n := 49) (v := a) (by omega) (by omega) (by decide)
  have tK : Int32.toInt (nI K) = (K : Int) := nI_toInt (by omega)
  have coin : ∀ p, p < 12 → ∃ D : Nat, D ≤ 600 * K ∧ (pL_would_E277 (nI K) (nI p) y y).1 = nI D ∧ (∀ z, (pX1_passHours (nI K) (pX1_addKeeper (nI p) (pX2_copy x z))).1 = nI D) ∧ ∀ w, (pL_would_E277 (nI K) (nI p) y w).1 = nI D := fun p hp => by
    obtain ⟨D, d1, d2, d3⟩ := coin_t h h4 (K := K) (by omega) hB hp x y
    refine ⟨D, d1, d3, fun z => ?_, fun w => ?_⟩
    · obtain ⟨D2, f1, f2, f3⟩ := coin_t h h4 (K := K) (by omega) hB hp z y
      rw [f2, ← d3, f3]
    · obtain ⟨D2, f1, f2, f3⟩ := coin_t h h4 (K := K) (by omega) hB hp x w
      rw [f3, ← d2, f2]
  have hc0 : ∀ p, p < 12 → 0 ≤ Int32.toInt ((fun p => (pL_would_E277 (nI K) (nI p) y y).1) p) := fun p hp => by
    obtain ⟨D, d1, d2, _⟩ := coin p hp
    show 0 ≤ Int32.toInt (pL_would_E277 (nI K) (nI p) y y).1
    rw [d2, nI_toInt (by omega)]
    omega
  have hcL : ∀ p, p < 12 → ∀ w : SR, (pL_would_E277 (nI K) (nI p) y w).1 = (fun p => (pL_would_E277 (nI K) (nI p) y y).1) p := fun p hp w => by
    obtain ⟨D, d1, d2, d3, d4⟩ := coin p hp
    show _ = (pL_would_E277 (nI K) (nI p) y y).1
    rw [d2, d4]
  have hcX : ∀ p, p < 12 → ∀ t : TV, t.1 0 = x → (pX2_coinsWithOneMoreAt (nI p) (nI K) t).1 = (fun p => (pL_would_E277 (nI K) (nI p) y y).1) p := fun p hp t ht => by
    obtain ⟨D, d1, d2, d3, d4⟩ := coin p hp
    show _ = (pL_would_E277 (nI K) (nI p) y y).1
    rw [d2, pX2_coinsWithOneMoreAt, ht]
    exact d3 _
  generalize (fun p => (pL_would_E277 (nI K) (nI p) y y).1) = c at hc0 hcL hcX
  obtain ⟨b, hb, b1, b2⟩ := best_L hc0 hcL 13 12 0 (-1) w2 (by decide) (by decide) (Or.inl ⟨rfl, rfl⟩)
  refine ⟨b, c b, b1, b2, fun t ht => ?_⟩
  have k1 : ¬ nI K < 1 := by
    rw [Int32.lt_iff_toInt_lt, tK, show Int32.toInt 1 = 1 from rfl]
    omega
  have k48 : ¬ (48 : Int32) < nI K := by
    rw [Int32.lt_iff_toInt_lt, tK, show Int32.toInt 48 = 48 from rfl]
    omega
  constructor
  · obtain ⟨b', hb', c1, c2⟩ := best_X 0 hcX 13 0 (-6) 0 t ht (by decide) (by decide) (Or.inl ⟨rfl, rfl⟩)
    rw [hb.uniq hb', pX2_bestPlace, if_neg k1, if_neg k48, if_neg (by decide), if_pos (by decide)]
    exact ⟨c1, c2⟩
  · obtain ⟨b', hb', c1, c2⟩ := best_X 1 hcX 13 0 (-6) 0 t ht (by decide) (by decide) (Or.inl ⟨rfl, rfl⟩)
    rw [hb.uniq hb', pX2_bestPlace, if_neg k1, if_neg k48, if_neg (by decide), if_pos (by decide)]
    exact ⟨c1, c2⟩
theorem wouldL {B : Int} {y : SR} {t : TV} (h : RQ B 0 (t.1 0) y) (h4 : Int32.toInt (y.2 0 11) ≤ 4) (hB : B ≤ 900000) (a2 : Int32) (w : SR) : (pL_would a2 t y w).1 = 1 ∧ (pL_would a2 t y w).2.1.1 0 = t.1 0 := by
  obtain ⟨e1, s1⟩ := wetL h hB a2 w
  obtain ⟨e2, s2⟩ := coveredL (t := (pX2_willBeWet (1 + (pL_low a2 48)) t).2) (by rw [s1]; exact h) hB a2 w
  obtain ⟨b, v, f1, f2, f3⟩ := bestL h h4 hB a2 w
  obtain ⟨e3, s3⟩ := (f3 _ (s2.trans s1)).1
  obtain ⟨e4, s4⟩ := (f3 _ s3).2
  rw [pL_would, if_pos e1, if_pos e2, if_pos (e3.trans f1.symm), if_pos (e4.trans f2.symm)]
  exact ⟨rfl, s4⟩
