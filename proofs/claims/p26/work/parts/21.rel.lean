-- the relation of a street of the class (x) to the law's rows (y): at most B hours; the class is d coins ahead
def LPp (x y : SR) (p : Nat) : Prop :=
  (bt (x.1 0) p = true → y.2 1 (5 * p) = x.2 1 p ∧ y.2 1 (5 * p + 1) = x.2 2 p ∧ y.2 1 (5 * p + 2) = (if bt (x.1 2) p = true then 2 else if bt (x.1 1) p = true then 1 else 0) ∧ y.2 1 (5 * p + 3) = x.2 3 p ∧ y.2 1 (5 * p + 4) = x.2 4 p ∧ inI (x.2 1 p) 0 100 ∧ inI (x.2 2 p) 0 100) ∧
  (bt (x.1 0) p = false → y.2 1 (5 * p) = -1) ∧ (bt (x.1 1) p = true → bt (x.1 0) p = true) ∧ (bt (x.1 2) p = true → bt (x.1 0) p = true ∧ bt (x.1 1) p = false)
def LH (B : Int) (d : Int32) (x y : SR) : Prop := (∀ j, j < 7 → x.2 0 j = y.2 0 j) ∧ x.1 5 = y.2 0 7 ∧ x.1 4 = y.2 0 8 ∧ x.1 6 = y.2 0 9 + d ∧ x.1 7 = y.2 0 10 ∧ x.1 3 = y.2 0 11 ∧ inI (x.1 5) 0 B
def SOK (m : Nat → Int32) : Prop := inI (m 0) 0 12 ∧ inI (m 1) 1 50 ∧ inI (m 2) 1 20 ∧ inI (m 3) 0 20 ∧ inI (m 4) 0 50 ∧ inI (m 5) 0 100 ∧ inI (m 6) 1 20
def LK (x y : SR) : Prop := inI (y.2 0 11) 0 5 ∧ ∀ k : Nat, k < 5 → inI (y.2 2 (5 * k)) 0 11 ∧ ((k : Int) < Int32.toInt (y.2 0 11) → ∀ j, j < 5 → x.2 (5 + j) k = y.2 2 (5 * k + j)) ∧ (Int32.toInt (y.2 0 11) ≤ (k : Int) → ∀ j, 1 ≤ j → j < 5 → y.2 2 (5 * k + j) = 0)
def RB (x : SR) : Prop := ∀ q, q < 3 → ∀ i, 12 ≤ i → bt (x.1 q) i = false
def RQ (B : Int) (d : Int32) (x y : SR) : Prop := LH B d x y ∧ SOK (y.2 0) ∧ (∀ p, p < 12 → LPp x y p) ∧ LK x y ∧ RB x
theorem LH.cg {B : Int} {d : Int32} {x x' y y' : SR} (h : LH B d x y) (h0 : ∀ j, j < 7 → x'.2 0 j = x.2 0 j) (h1 : ∀ i, 3 ≤ i → i < 8 → x'.1 i = x.1 i) (hm : ∀ j, j < 12 → y'.2 0 j = y.2 0 j) : LH B d x' y' := by
  obtain ⟨a, b, c, e, f, g, i⟩ := h
  refine ⟨fun j hj => ?_, ?_, ?_, ?_, ?_, ?_, ?_⟩
  · rw [h0 j hj, hm j (by omega)]
    exact a j hj
  · rw [h1 5 (by decide) (by decide), hm 7 (by decide)]
    exact b
  · rw [h1 4 (by decide) (by decide), hm 8 (by decide)]
    exact c
  · rw [h1 6 (by decide) (by decide), hm 9 (by decide)]
    exact e
  · rw [h1 7 (by decide) (by decide), hm 10 (by decide)]
    exact f
  · rw [h1 3 (by decide) (by decide), hm 11 (by decide)]
    exact g
  · rw [h1 5 (by decide) (by decide)]
    exact i
theorem SOK.cg {m m' : Nat → Int32} (h : SOK m) (hm : ∀ j, j < 7 → m' j = m j) : SOK m' := by
  unfold SOK at h ⊢
  rw [hm 0 (by decide), hm 1 (by decide), hm 2 (by decide), hm 3 (by decide), hm 4 (by decide), hm 5 (by decide), hm 6 (by decide)]
  exact h
theorem LPp.cg {x x' y y' : SR} {p : Nat} (h : LPp x y p) (hb : ∀ q, q < 3 → bt (x'.1 q) p = bt (x.1 q) p) (hr : ∀ r, 1 ≤ r → r < 5 → x'.2 r p = x.2 r p) (hm : ∀ j, j < 5 → y'.2 1 (5 * p + j) = y.2 1 (5 * p + j)) : LPp x' y' p := by
  unfold LPp at h ⊢
  rw [hb 0 (by decide), hb 1 (by decide), hb 2 (by decide), hr 1 (by decide) (by decide), hr 2 (by decide) (by decide), hr 3 (by decide) (by decide), hr 4 (by decide) (by decide)]
  rw [show y'.2 1 (5 * p) = y.2 1 (5 * p) from hm 0 (by decide), hm 1 (by decide), hm 2 (by decide), hm 3 (by decide), hm 4 (by decide)]
  exact h
theorem LK.cg {x x' y y' : SR} (h : LK x y) (hr : ∀ r, 5 ≤ r → r < 10 → ∀ k, k < 5 → x'.2 r k = x.2 r k) (h11 : y'.2 0 11 = y.2 0 11) (hm : ∀ j, j < 25 → y'.2 2 j = y.2 2 j) : LK x' y' := by
  obtain ⟨a, b⟩ := h
  refine ⟨by rw [h11]; exact a, fun k hk => ?_⟩
  obtain ⟨c, d, e⟩ := b k hk
  refine ⟨by rw [hm _ (by omega)]; exact c, fun h2 j hj => ?_, fun h2 j h1 hj => ?_⟩
  · rw [h11] at h2
    rw [hr (5 + j) (by omega) (by omega) k hk, hm _ (by omega)]
    exact d h2 j hj
  · rw [h11] at h2
    rw [hm _ (by omega)]
    exact e h2 j h1 hj
theorem RB.cg {x x' : SR} (h : RB x) (hb : ∀ q, q < 3 → x'.1 q = x.1 q) : RB x' := fun q hq i hi => by
  rw [hb q hq]
  exact h q hq i hi
section RLU
variable {B : Int} {d : Int32} {x x' y y' : SR}
theorem RQ.k5 (h : RQ B d x y) {k : Nat} (hk : (k : Int) < Int32.toInt (y.2 0 11)) : k < 5 := by
  have := h.2.2.2.1.1.2
  omega
/-- a keeper's number -/
theorem RQ.kp (h : RQ B d x y) {k j : Nat} (hk : (k : Int) < Int32.toInt (y.2 0 11)) (hj : j < 5) (v : Int32) (hv : j = 0 → inI v 0 11) {i : Int32} (hi : ix i = 5 * k + j) : RQ B d (pR x (5 + j) (nI k) v) (pR y 2 i v) := by
  have hk5 := h.k5 hk
  have hix : ix (nI k) = k := ix_nI (by omega)
  refine ⟨h.1.cg (fun i hi => by rw [pR_or (by omega)]) (fun i _ _ => rfl) (fun i hi => by rw [pR_or (by decide)]), ?_, fun p hp => (h.2.2.1 p hp).cg (fun q hq => rfl) (fun r h1 h2 => by rw [pR_or (by omega)]) (fun i hi => by rw [pR_or (by decide)]), ?_, h.2.2.2.2⟩
  · rw [pR_or (by decide)]
    exact h.2.1
  obtain ⟨a, b⟩ := h.2.2.2.1
  refine ⟨by rw [pR_or (by decide)]; exact a, fun k2 hk2 => ?_⟩
  obtain ⟨c, e, f⟩ := b k2 hk2
  rw [pR_or (show (0 : Nat) ≠ 2 by decide), pR_sm, hi]
  refine ⟨?_, fun h2 j2 hj2 => ?_, fun h2 j2 h1 hj2 => ?_⟩
  · by_cases q : k2 = k ∧ j = 0
    · obtain ⟨rfl, rfl⟩ := q
      rw [show 5 * k2 = 5 * k2 + 0 from rfl, up_same]
      exact hv rfl
    · rw [up_ne _ _ (by omega)]
      exact c
  · by_cases q : k2 = k ∧ j2 = j
    · obtain ⟨rfl, rfl⟩ := q
      rw [pR_sm, hix, up_same, up_same]
    · rw [pR_off (by omega), up_ne _ _ (by omega)]
      exact e h2 j2 hj2
  · rw [up_ne _ _ (by omega)]
    exact f h2 j2 h1 hj2
/-- a piano's number -/
theorem RQ.row (h : RQ B d x y) {p r c : Nat} (hp : p < 12) (hb : bt (x.1 0) p = true) (hrc : (r = 1 ∧ c = 0) ∨ (r = 2 ∧ c = 1) ∨ (r = 3 ∧ c = 3) ∨ (r = 4 ∧ c = 4)) (v : Int32) (hv : r ≤ 2 → inI v 0 100) {i : Int32} (hi : ix i = 5 * p + c) : RQ B d (pR x r (nI p) v) (pR y 1 i v) := by
  have hix : ix (nI p) = p := ix_nI (by omega)
  refine ⟨h.1.cg (fun i hi => by rw [pR_or (by omega)]) (fun i _ _ => rfl) (fun i hi => by rw [pR_or (by decide)]), by rw [pR_or (by decide)]; exact h.2.1, fun q hq => ?_, h.2.2.2.1.cg (fun i _ _ k _ => by rw [pR_or (by omega)]) (by rw [pR_or (by decide)]) (fun i _ => by rw [pR_or (by decide)]), h.2.2.2.2⟩
  by_cases e : q = p
  · subst e
    obtain ⟨bv, bn, b1, b2⟩ := h.2.2.1 q hp
    obtain ⟨e0, e1, e2, e3, e4, i1, i2⟩ := bv hb
    refine ⟨fun _ => ?_, fun z => absurd (hb.symm.trans z) (by decide), b1, b2⟩
    rw [pR_sm, hi]
    rcases hrc with ⟨rfl, rfl⟩ | ⟨rfl, rfl⟩ | ⟨rfl, rfl⟩ | ⟨rfl, rfl⟩
    · rw [pR_sm, hix, up_same, Nat.add_zero, up_same, pR_or (by omega), pR_or (by omega), pR_or (by omega), up_ne _ _ (by omega), up_ne _ _ (by omega), up_ne _ _ (by omega), up_ne _ _ (by omega)]
      exact ⟨rfl, e1, e2, e3, e4, hv (by decide), i2⟩
    · rw [pR_sm, hix, up_same, up_same, pR_or (by omega), pR_or (by omega), pR_or (by omega), up_ne _ _ (by omega), up_ne _ _ (by omega), up_ne _ _ (by omega), up_ne _ _ (by omega)]
      exact ⟨e0, rfl, e2, e3, e4, i1, hv (by decide)⟩
    · rw [pR_sm, hix, up_same, up_same, pR_or (by omega), pR_or (by omega), pR_or (by omega), up_ne _ _ (by omega), up_ne _ _ (by omega), up_ne _ _ (by omega), up_ne _ _ (by omega)]
      exact ⟨e0, e1, e2, rfl, e4, i1, i2⟩
    · rw [pR_sm, hix, up_same, up_same, pR_or (by omega), pR_or (by omega), pR_or (by omega), up_ne _ _ (by omega), up_ne _ _ (by omega), up_ne _ _ (by omega), up_ne _ _ (by omega)]
      exact ⟨e0, e1, e2, e3, rfl, i1, i2⟩
  · have hc : c < 5 := by omega
    exact (h.2.2.1 q hq).cg (fun q hq => rfl) (fun i _ _ => by rw [pR_off (by omega)]) (fun i hi2 => by rw [pR_off (by omega)])
/-- a cover -/
theorem RQ.cov (h : RQ B d x y) {p : Nat} (hp : p < 12) (hb : bt (x.1 0) p = true) (e2 : x'.2 = x.2) (e0 : x'.1 0 = x.1 0) (eh : ∀ i, 3 ≤ i → x'.1 i = x.1 i) (h1 : ∀ q, q ≠ p → bt (x'.1 1) q = bt (x.1 1) q) (h2 : ∀ q, q ≠ p → bt (x'.1 2) q = bt (x.1 2) q) (c : Int32) (hc : c = if bt (x'.1 2) p = true then 2 else if bt (x'.1 1) p = true then 1 else 0) (hn : bt (x'.1 2) p = true → bt (x'.1 1) p = false) {i : Int32} (hi : ix i = 5 * p + 2) : RQ B d x' (pR y 1 i c) := by
  refine ⟨h.1.cg (fun i hi => by rw [e2]) (fun i hi _ => eh i hi) (fun i hi => by rw [pR_or (by decide)]), by rw [pR_or (by decide)]; exact h.2.1, fun q hq => ?_, h.2.2.2.1.cg (fun i _ _ k _ => by rw [e2]) (by rw [pR_or (by decide)]) (fun i _ => by rw [pR_or (by decide)]), ?_⟩
  · by_cases e : q = p
    · subst e
      obtain ⟨bv, bn, b1, b2⟩ := h.2.2.1 q hp
      obtain ⟨f0, f1, f2, f3, f4, i1, i2⟩ := bv hb
      refine ⟨fun _ => ?_, fun z => absurd (hb.symm.trans ((congrArg (fun w => bt w q) e0).symm.trans z)) (by decide), fun _ => by rw [e0]; exact hb, fun z => ⟨by rw [e0]; exact hb, hn z⟩⟩
      rw [e2, pR_sm, hi, up_ne _ _ (by omega), up_ne _ _ (by omega), up_same, up_ne _ _ (by omega), up_ne _ _ (by omega)]
      exact ⟨f0, f1, hc, f3, f4, i1, i2⟩
    · refine (h.2.2.1 q hq).cg (fun i hi => ?_) (fun i _ _ => by rw [e2]) (fun i hi2 => by rw [pR_off (by omega)])
      rcases (show i = 0 ∨ i = 1 ∨ i = 2 by omega) with rfl | rfl | rfl
      · rw [e0]
      · exact h1 q e
      · exact h2 q e
  · intro i hi j hj
    rcases (show i = 0 ∨ i = 1 ∨ i = 2 by omega) with rfl | rfl | rfl
    · rw [e0]
      exact h.2.2.2.2 0 (by decide) j hj
    · rw [h1 j (by omega)]
      exact h.2.2.2.2 1 (by decide) j hj
    · rw [h2 j (by omega)]
      exact h.2.2.2.2 2 (by decide) j hj
/-- what of the relation the street's own numbers, and q's, don't reach -/
theorem RQ.mk2 (h : RQ B d x y) {B' : Int} {d' : Int32} (hh : LH B' d' x' y') (ex : x'.2 = x.2) (eb : ∀ q, q < 3 → x'.1 q = x.1 q) (ey : ∀ r, r ≠ 0 → y'.2 r = y.2 r) (es : ∀ j, j < 7 → y'.2 0 j = y.2 0 j) (e11 : y'.2 0 11 = y.2 0 11) : RQ B' d' x' y' :=
  ⟨hh, h.2.1.cg es, fun q hq => (h.2.2.1 q hq).cg (fun i hi => by rw [eb i hi]) (fun _ _ _ => by rw [ex]) (fun _ _ => by rw [ey 1 (by decide)]), h.2.2.2.1.cg (fun _ _ _ _ _ => by rw [ex]) e11 (fun _ _ => by rw [ey 2 (by decide)]), h.2.2.2.2.cg eb⟩
theorem q0_ne {i v : Int32} {c j : Nat} (hi : ix i = c) (h : j ≠ c) : (pR y 0 i v).2 0 j = y.2 0 j := pR_off (Or.inr (by rw [hi]; exact h))
theorem q0_eq {i v : Int32} {c : Nat} (hi : ix i = c) : (pR y 0 i v).2 0 c = v := by
  rw [pR_sm, hi, up_same]
/-- the hours of rain; the stolen covers -/
theorem RQ.rain (h : RQ B d x y) (v : Int32) : RQ B d (pS x 4 v) (pR y 0 8 v) := by
  obtain ⟨a, b, c, e, f, g, i⟩ := h.1
  have n : ∀ j, j ≠ 8 → (pR y 0 8 v).2 0 j = y.2 0 j := fun j hj => q0_ne (c := 8) rfl hj
  refine h.mk2 ⟨fun j hj => ?_, ?_, ?_, ?_, ?_, ?_, i⟩ rfl (fun q hq => up_ne _ _ (by omega)) (fun r hr => pR_or hr) (fun j hj => n j (by omega)) (n 11 (by decide))
  · rw [n j (by omega)]
    exact a j hj
  · rw [n 7 (by decide)]
    exact b
  · rw [q0_eq (c := 8) rfl]
    rfl
  · rw [n 9 (by decide)]
    exact e
  · rw [n 10 (by decide)]
    exact f
  · rw [n 11 (by decide)]
    exact g
theorem RQ.stole (h : RQ B d x y) : RQ B d (pS x 7 (x.1 7 + 1)) (pR y 0 10 (y.2 0 (ix 10) + 1)) := by
  obtain ⟨a, b, c, e, f, g, i⟩ := h.1
  have n : ∀ j, j ≠ 10 → (pR y 0 10 (y.2 0 (ix 10) + 1)).2 0 j = y.2 0 j := fun j hj => q0_ne (c := 10) rfl hj
  refine h.mk2 ⟨fun j hj => ?_, ?_, ?_, ?_, ?_, ?_, i⟩ rfl (fun q hq => up_ne _ _ (by omega)) (fun r hr => pR_or hr) (fun j hj => n j (by omega)) (n 11 (by decide))
  · rw [n j (by omega)]
    exact a j hj
  · rw [n 7 (by decide)]
    exact b
  · rw [n 8 (by decide)]
    exact c
  · rw [n 9 (by decide)]
    exact e
  · rw [q0_eq (c := 10) rfl]
    show x.1 7 + 1 = y.2 0 10 + 1
    rw [f]
  · rw [n 11 (by decide)]
    exact g
/-- coins of the class; then of the law -/
theorem RQ.coin (h : RQ B d x y) (e : Int32) : RQ B (d + e) (pS x 6 (x.1 6 + e)) y := by
  obtain ⟨a, b, c, f, g, i, j⟩ := h.1
  refine h.mk2 ⟨a, b, c, ?_, g, i, j⟩ rfl (fun q hq => up_ne _ _ (by omega)) (fun _ _ => rfl) (fun _ _ => rfl) rfl
  show x.1 6 + e = _
  rw [f, Int32.add_assoc]
theorem RQ.paid (h : RQ B d x y) : RQ B 0 x (pR y 0 9 (y.2 0 (ix 9) + d)) := by
  obtain ⟨a, b, c, e, f, g, i⟩ := h.1
  have n : ∀ j, j ≠ 9 → (pR y 0 9 (y.2 0 (ix 9) + d)).2 0 j = y.2 0 j := fun j hj => q0_ne (c := 9) rfl hj
  refine h.mk2 ⟨fun j hj => ?_, ?_, ?_, ?_, ?_, ?_, i⟩ rfl (fun q hq => rfl) (fun r hr => pR_or hr) (fun j hj => n j (by omega)) (n 11 (by decide))
  · rw [n j (by omega)]
    exact a j hj
  · rw [n 7 (by decide)]
    exact b
  · rw [n 8 (by decide)]
    exact c
  · rw [q0_eq (c := 9) rfl, Int32.add_zero]
    exact e
  · rw [n 10 (by decide)]
    exact f
  · rw [n 11 (by decide)]
    exact g
theorem RQ.hr (h : RQ B d x y) (hB : B ≤ 1000000) : RQ (B + 1) d (pS x 5 (x.1 5 + 1)) (pR y 0 7 (y.2 0 (ix 7) + 1)) := by
  obtain ⟨a, b, c, e, f, g, i⟩ := h.1
  have n : ∀ j, j ≠ 7 → (pR y 0 7 (y.2 0 (ix 7) + 1)).2 0 j = y.2 0 j := fun j hj => q0_ne (c := 7) rfl hj
  refine h.mk2 ⟨fun j hj => ?_, ?_, ?_, ?_, ?_, ?_, ?_⟩ rfl (fun q hq => up_ne _ _ (by omega)) (fun r hr => pR_or hr) (fun j hj => n j (by omega)) (n 11 (by decide))
  · rw [n j (by omega)]
    exact a j hj
  · rw [q0_eq (c := 7) rfl]
    show x.1 5 + 1 = y.2 0 7 + 1
    rw [b]
  · rw [n 8 (by decide)]
    exact c
  · rw [n 9 (by decide)]
    exact e
  · rw [n 10 (by decide)]
    exact f
  · rw [n 11 (by decide)]
    exact g
  · show inI (x.1 5 + 1) 0 (B + 1)
    obtain ⟨i1, i2⟩ := i
    unfold inI
    rw [i_add1 (by omega) (by omega)]
    omega
theorem RQ.mono (h : RQ B d x y) {C : Int} (hBC : B ≤ C) : RQ C d x y := by
  obtain ⟨⟨a, b, c, e, f, g, i1, i2⟩, r⟩ := h
  exact ⟨⟨a, b, c, e, f, g, i1, by omega⟩, r⟩
end RLU
