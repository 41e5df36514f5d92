-- what one change does to the relation
def mW (y : SR) (c : Nat) (v : Int32) : SR := (y.1, up y.2 0 (up (y.2 0) c v))
theorem mW_0 (y : SR) (c : Nat) (v : Int32) : (mW y c v).2 0 = up (y.2 0) c v := by
  show up y.2 0 (up (y.2 0) c v) 0 = _
  exact up_same y.2 0 _
theorem aW {k : Nat} (j : Nat) (hk : k < 5) (hj : j < 5) (v : Int32) (y : SR) : pX3_adds (nI k) (nI j) v y = mW y (84 + 5 * k + j) (y.2 0 (84 + 5 * k + j) + v) := aP j hk hj v y
theorem sW {i : Nat} (k : Nat) (hi : i < 12) (hk : k < 6) (v : Int32) (y : SR) : pX3_setPiano (nI i) (nI k) v y = mW y (12 + 6 * i + k) v := sP k hi hk v y
theorem pR_or {x : SR} {r : Nat} {k v : Int32} {j : Nat} (h : j ≠ r) : (pR x r k v).2 j = x.2 j := up_ne _ _ h
theorem pR_sm (x : SR) (r : Nat) (k v : Int32) : (pR x r k v).2 r = up (x.2 r) (ix k) v := up_same _ _ _
theorem pR_off {x : SR} {r : Nat} {k v : Int32} {j q : Nat} (h : j ≠ r ∨ q ≠ ix k) : (pR x r k v).2 j q = x.2 j q := by
  by_cases e : j = r
  · subst e
    rw [pR_sm, up_ne _ _ (h.resolve_left (fun z => z rfl))]
  · rw [pR_or e]
theorem RH.cg {x x' : SR} {m m' : Nat → Int32} (h : RH x m) (h0 : ∀ j, j < 7 → x'.2 0 j = x.2 0 j) (h1 : ∀ i, 3 ≤ i → i < 8 → x'.1 i = x.1 i) (hm : ∀ j, j < 12 → m' j = m j) : RH x' m' := by
  obtain ⟨a, b, c, d, e, f⟩ := h
  refine ⟨fun j hj => ?_, ?_, ?_, ?_, ?_, ?_⟩
  · rw [h0 j hj, hm j (by omega)]
    exact a j hj
  · rw [h1 5 (by decide) (by decide), hm 7 (by decide)]
    exact b
  · rw [h1 4 (by decide) (by decide), hm 8 (by decide)]
    exact c
  · rw [h1 6 (by decide) (by decide), hm 9 (by decide)]
    exact d
  · rw [h1 7 (by decide) (by decide), hm 10 (by decide)]
    exact e
  · rw [h1 3 (by decide) (by decide), hm 11 (by decide)]
    exact f
theorem SOK.cg {m m' : Nat → Int32} (h : SOK m) (hm : ∀ j, j < 7 → m' j = m j) : SOK m' := by
  unfold SOK at h ⊢
  rw [hm 0 (by decide), hm 1 (by decide), hm 2 (by decide), hm 3 (by decide), hm 4 (by decide), hm 5 (by decide), hm 6 (by decide)]
  exact h
theorem RP.cg {x x' : SR} {m m' : Nat → Int32} {p : Nat} (h : RP x m p) (hb : ∀ q, q < 3 → bt (x'.1 q) p = bt (x.1 q) p) (hr : ∀ r, 1 ≤ r → r < 5 → x'.2 r p = x.2 r p) (hm : ∀ j, j < 6 → m' (12 + 6 * p + j) = m (12 + 6 * p + j)) : RP x' m' p := by
  unfold RP at h ⊢
  rw [hb 0 (by decide), hb 1 (by decide), hb 2 (by decide), hr 1 (by decide) (by decide), hr 2 (by decide) (by decide), hr 3 (by decide) (by decide), hr 4 (by decide) (by decide)]
  rw [show m' (12 + 6 * p) = m (12 + 6 * p) from hm 0 (by decide), hm 1 (by decide), hm 2 (by decide), hm 3 (by decide), hm 4 (by decide), hm 5 (by decide)]
  exact h
theorem RK.cg {x x' : SR} {m m' : Nat → Int32} (h : RK x m) (hr : ∀ r, 5 ≤ r → r < 10 → ∀ k, k < 5 → x'.2 r k = x.2 r k) (h11 : m' 11 = m 11) (hm : ∀ j, 84 ≤ j → j < 109 → m' j = m j) : RK x' m' := by
  obtain ⟨a, b⟩ := h
  refine ⟨by rw [h11]; exact a, fun k hk => ?_⟩
  rw [h11] at hk
  have h5 := a.2
  obtain ⟨c, d⟩ := b k hk
  refine ⟨fun j hj => ?_, ?_⟩
  · rw [hr (5 + j) (by omega) (by omega) k (by omega), hm _ (by omega) (by omega)]
    exact c j hj
  · rw [hm _ (by omega) (by omega)]
    exact d
theorem RB.cg {x x' : SR} (h : RB x) (hb : ∀ q, q < 3 → x'.1 q = x.1 q) : RB x' := fun q hq i hi => by
  rw [hb q hq]
  exact h q hq i hi
theorem RS.k5 {x : SR} {m : Nat → Int32} (h : RS x m) {k : Nat} (hk : (k : Int) < Int32.toInt (m 11)) : k < 5 := by
  have := h.2.2.2.1.1.2
  omega
/-- a keeper's number -/
theorem RS.kp {x : SR} {m : Nat → Int32} (h : RS x m) {k j : Nat} (hk : (k : Int) < Int32.toInt (m 11)) (hj : j < 5) (v : Int32) (hv : j = 0 → inI v 0 11) : RS (pR x (5 + j) (nI k) v) (up m (84 + 5 * k + j) v) := by
  have hk5 := h.k5 hk
  have hix : ix (nI k) = k := ix_nI (by omega)
  refine ⟨h.1.cg (fun i hi => by rw [pR_or (by omega)]) (fun i _ _ => rfl) (fun i hi => up_ne _ _ (by omega)), h.2.1.cg (fun i hi => up_ne _ _ (by omega)), fun p hp => (h.2.2.1 p hp).cg (fun q hq => rfl) (fun r h1 h2 => by rw [pR_or (by omega)]) (fun i hi => up_ne _ _ (by omega)), ?_, h.2.2.2.2⟩
  obtain ⟨a, b⟩ := h.2.2.2.1
  refine ⟨by rw [up_ne _ _ (by omega)]; exact a, fun k2 hk2 => ?_⟩
  rw [up_ne _ _ (show 11 ≠ 84 + 5 * k + j by omega)] at hk2
  obtain ⟨c, d⟩ := b k2 hk2
  refine ⟨fun j2 hj2 => ?_, ?_⟩
  · by_cases e : k2 = k ∧ j2 = j
    · obtain ⟨rfl, rfl⟩ := e
      rw [pR_sm, hix, up_same, up_same]
    · rw [pR_off (by omega), up_ne _ _ (by omega)]
      exact c j2 hj2
  · by_cases e : k2 = k ∧ j = 0
    · obtain ⟨rfl, rfl⟩ := e
      rw [show 84 + 5 * k2 = 84 + 5 * k2 + 0 from rfl, up_same]
      exact hv rfl
    · rw [up_ne _ _ (by omega)]
      exact d
/-- a piano's number -/
theorem RS.row {x : SR} {m : Nat → Int32} (h : RS x m) {p r c : Nat} (hp : p < 12) (hb : bt (x.1 0) p = true) (hrc : (r = 1 ∧ c = 1) ∨ (r = 2 ∧ c = 2) ∨ (r = 3 ∧ c = 4) ∨ (r = 4 ∧ c = 5)) (v : Int32) (hv : r ≤ 2 → inI v 0 100) : RS (pR x r (nI p) v) (up m (12 + 6 * p + c) v) := by
  have hix : ix (nI p) = p := ix_nI (by omega)
  refine ⟨h.1.cg (fun i hi => by rw [pR_or (by omega)]) (fun i _ _ => rfl) (fun i hi => up_ne _ _ (by omega)), h.2.1.cg (fun i hi => up_ne _ _ (by omega)), fun q hq => ?_, h.2.2.2.1.cg (fun i _ _ k _ => by rw [pR_or (by omega)]) (up_ne _ _ (by omega)) (fun i _ _ => up_ne _ _ (by omega)), h.2.2.2.2⟩
  by_cases e : q = p
  · subst e
    obtain ⟨b0, b3, b1, b2, bv, bz⟩ := h.2.2.1 q hp
    obtain ⟨e1, e2, e4, e5, i1, i2⟩ := bv hb
    refine ⟨?_, ?_, b1, b2, fun _ => ?_, fun z => absurd (hb.symm.trans z) (by decide)⟩
    · rw [up_ne _ _ (by omega)]
      exact b0
    · rw [up_ne _ _ (by omega)]
      exact b3
    · rcases hrc with ⟨rfl, rfl⟩ | ⟨rfl, rfl⟩ | ⟨rfl, rfl⟩ | ⟨rfl, rfl⟩
      · rw [pR_sm, hix, up_same, up_same, pR_or (by omega), pR_or (by omega), pR_or (by omega), up_ne _ _ (by omega), up_ne _ _ (by omega), up_ne _ _ (by omega)]
        exact ⟨rfl, e2, e4, e5, hv (by decide), i2⟩
      · rw [pR_sm, hix, up_same, up_same, pR_or (by omega), pR_or (by omega), pR_or (by omega), up_ne _ _ (by omega), up_ne _ _ (by omega), up_ne _ _ (by omega)]
        exact ⟨e1, rfl, e4, e5, i1, hv (by decide)⟩
      · rw [pR_sm, hix, up_same, up_same, pR_or (by omega), pR_or (by omega), pR_or (by omega), up_ne _ _ (by omega), up_ne _ _ (by omega), up_ne _ _ (by omega)]
        exact ⟨e1, e2, rfl, e5, i1, i2⟩
      · rw [pR_sm, hix, up_same, up_same, pR_or (by omega), pR_or (by omega), pR_or (by omega), up_ne _ _ (by omega), up_ne _ _ (by omega), up_ne _ _ (by omega)]
        exact ⟨e1, e2, e4, rfl, i1, i2⟩
  · exact (h.2.2.1 q hq).cg (fun q hq => rfl) (fun i _ _ => by rw [pR_off (by omega)]) (fun i hi => up_ne _ _ (by omega))
/-- a cover -/
theorem RS.cov {x x' : SR} {m : Nat → Int32} (h : RS x m) {p : Nat} (hp : p < 12) (hb : bt (x.1 0) p = true) (e2 : x'.2 = x.2) (e0 : x'.1 0 = x.1 0) (eh : ∀ i, 3 ≤ i → x'.1 i = x.1 i) (h1 : ∀ q, q ≠ p → bt (x'.1 1) q = bt (x.1 1) q) (h2 : ∀ q, q ≠ p → bt (x'.1 2) q = bt (x.1 2) q) (c : Int32) (hc : c = if bt (x'.1 2) p = true then 2 else if bt (x'.1 1) p = true then 1 else 0) (hn : bt (x'.1 2) p = true → bt (x'.1 1) p = false) : RS x' (up m (12 + 6 * p + 3) c) := by
  refine ⟨h.1.cg (fun i hi => by rw [e2]) (fun i hi _ => eh i hi) (fun i hi => up_ne _ _ (by omega)), h.2.1.cg (fun i hi => up_ne _ _ (by omega)), fun q hq => ?_, h.2.2.2.1.cg (fun i _ _ k _ => by rw [e2]) (up_ne _ _ (by omega)) (fun i _ _ => up_ne _ _ (by omega)), ?_⟩
  · by_cases e : q = p
    · subst e
      obtain ⟨b0, b3, b1, b2, bv, bz⟩ := h.2.2.1 q hp
      refine ⟨?_, ?_, fun _ => by rw [e0]; exact hb, fun z => ⟨by rw [e0]; exact hb, hn z⟩, fun _ => ?_, fun z => absurd (hb.symm.trans ((congrArg (fun w => bt w q) e0).symm.trans z)) (by decide)⟩
      · rw [up_ne _ _ (by omega), e0]
        exact b0
      · rw [up_same]
        exact hc
      · rw [e2, up_ne _ _ (by omega), up_ne _ _ (by omega), up_ne _ _ (by omega), up_ne _ _ (by omega)]
        exact bv hb
    · refine (h.2.2.1 q hq).cg (fun i hi => ?_) (fun i _ _ => by rw [e2]) (fun i hi => up_ne _ _ (by omega))
      rcases (show i = 0 ∨ i = 1 ∨ i = 2 by omega) with rfl | rfl | rfl
      · rw [e0]
      · exact h1 q e
      · exact h2 q e
  · intro i hi j hj
    rcases (show i = 0 ∨ i = 1 ∨ i = 2 by omega) with rfl | rfl | rfl
    · rw [e0]
      exact h.2.2.2.2 0 (by decide) j hj
    · rw [h1 j (by omega)]
      exact h.2.2.2.2 1 (by decide) j hj
    · rw [h2 j (by omega)]
      exact h.2.2.2.2 2 (by decide) j hj
/-- a number of the street -/
theorem RS.num {x : SR} {m : Nat → Int32} (h : RS x m) {f c : Nat} (hfc : (f = 4 ∧ c = 8) ∨ (f = 5 ∧ c = 7) ∨ (f = 6 ∧ c = 9) ∨ (f = 7 ∧ c = 10)) (v : Int32) : RS (pS x f v) (up m c v) := by
  obtain ⟨⟨a, b, c8, d, e, g⟩, s, P, K, B⟩ := h
  refine ⟨?_, s.cg (fun i hi => up_ne _ _ (by omega)), fun q hq => (P q hq).cg (fun i hi => ?_) (fun _ _ _ => rfl) (fun i hi => up_ne _ _ (by omega)), K.cg (fun _ _ _ _ _ => rfl) (up_ne _ _ (by omega)) (fun i _ _ => up_ne _ _ (by omega)), B.cg (fun q hq => up_ne _ _ (by omega))⟩
  · refine ⟨fun j hj => ?_, ?_⟩
    · rw [up_ne _ _ (by omega)]
      exact a j hj
    · show up x.1 f v 5 = _ ∧ up x.1 f v 4 = _ ∧ up x.1 f v 6 = _ ∧ up x.1 f v 7 = _ ∧ up x.1 f v 3 = _
      rcases hfc with ⟨rfl, rfl⟩ | ⟨rfl, rfl⟩ | ⟨rfl, rfl⟩ | ⟨rfl, rfl⟩
      · exact ⟨b, rfl, d, e, g⟩
      · exact ⟨rfl, c8, d, e, g⟩
      · exact ⟨b, c8, rfl, e, g⟩
      · exact ⟨b, c8, d, rfl, g⟩
  · show bt (up x.1 f v i) q = bt (x.1 i) q
    rw [up_ne _ _ (by omega)]
