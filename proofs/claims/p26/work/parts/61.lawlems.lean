-- what the law's walk needs of its rows
abbrev AL (s : State) : Nat → Prop := fun q => s.heap.size ≤ q
def LX (p : Program) (s : State) (m : MethodId) (meth : Method) (c : Code) (b L : Nat) (xs : Nat → Int32) (G : va_G) (cI cC cZ cR : ClassId) : Prop :=
  p.tables.exec = Jvm.exec ∧ c.code = cL_law ∧ meth.sig.returnType = ret ∧ c.maxLocals = 18 ∧ s.vm.findClass RL = some m.cls ∧ (∀ w ∈ wsL_law, w.before #[Value.ref b] s = true) ∧ va_T .int b L (fun j => .int (xs j)) (AL s) s s.heap ∧ meth.locks = false ∧ va_K G vwCl (TY cI cC cZ cR) s ∧ NWs s ∧ STs (AL s) s s.heap ∧ L ≤ 260
theorem L38_0 (w3 : Int32) : ∀ (n : Nat) (v6 v9 : Int32) (x : SR), (pL_hour_L38 w3 n v6 v9 x).2 0 = x.2 0 := by
  intro n
  induction n with
  | zero => intro v6 v9 x; rw [pL_hour_L38]
  | succ n ih =>
    intro v6 v9 x
    rw [pL_hour_L38]
    by_cases c1 : (x.2 0 (ix 11)) ≤ v9
    · rw [if_pos c1]
    · rw [if_neg c1]
      by_cases c2 : (pL_near (pL_hour_J179s0 w3 v6 x) (x.2 2 (ix (5 * v9)))) < 0
      · rw [if_pos c2]
        exact ih _ _ _
      · rw [if_neg c2]
        by_cases c3 : (pL_near (pL_hour_J179s0 w3 v6 x) (x.2 2 (ix (5 * v9)))) = (x.2 2 (ix (5 * v9)))
        · rw [if_pos c3]
          by_cases c4 : ((pL_hour_E62 w3 v6 x).1) = 0
          · rw [if_pos c4, ih, pR_or (by decide), pR_or (by decide)]
          · rw [if_neg c4, ih, pR_or (by decide), pR_or (by decide)]
        · rw [if_neg c3, ih, pR_or (by decide), pR_or (by decide)]
theorem J591_0 (w4 w5 v9 : Int32) (x : SR) : (pL_hour_J591xq w4 w5 v9 x).2 0 = x.2 0 := by
  rw [pL_hour_J591xq]
  by_cases c1 : w4 = 0
  · rw [if_pos c1]
    by_cases c2 : w5 < 8
    · rw [if_pos c2, pR_or (by decide)]
    · rw [if_neg c2]
      by_cases c3 : 22 ≤ w5
      · rw [if_pos c3, pR_or (by decide)]
      · rw [if_neg c3]
        by_cases c4 : 50 ≤ ((pR x 1 ((5 * v9) + 1) (pL_hour_J515s0 v9 x)).2 1 (ix ((5 * v9) + 1)))
        · rw [if_pos c4, pR_or (by decide)]
        · rw [if_neg c4, pR_or (by decide), pR_or (by decide), pR_or (by decide)]
  · rw [if_neg c1, pR_or (by decide), pR_or (by decide), pR_or (by decide)]
theorem J660_0 (w4 w5 w8 v9 : Int32) (x : SR) : (pL_hour_J660xq w4 w5 w8 v9 x).2 0 (ix 11) = x.2 0 (ix 11) := by
  have a : (pL_hour_J591xq w4 w5 v9 x).2 0 (ix 11) = x.2 0 (ix 11) := by rw [J591_0]
  rcases J660_or w4 w5 w8 v9 x with e | e
  · rw [e]
    exact a
  · rw [e]
    unfold thf
    rw [pR_off (Or.inr (by decide)), pR_or (by decide)]
    exact a
theorem L371_0 (w4 w5 w8 : Int32) : ∀ (n : Nat) (v7 v9 : Int32) (x : SR), (pL_hour_L371 w4 w5 w8 n v7 v9 x).2.2 0 (ix 11) = x.2 0 (ix 11) := by
  intro n
  induction n with
  | zero => intro v7 v9 x; rw [pL_hour_L371]
  | succ n ih =>
    intro v7 v9 x
    rw [pL_hour_L371]
    by_cases c1 : 12 ≤ v9
    · rw [if_pos c1]
    · rw [if_neg c1]
      by_cases c2 : (x.2 1 (ix (5 * v9))) < 0
      · rw [if_pos c2]
        exact ih _ _ _
      · rw [if_neg c2]
        by_cases c3 : (x.2 1 (ix ((5 * v9) + 2))) = 2
        · rw [if_pos c3]
          exact ih _ _ _
        · rw [if_neg c3, ih, J660_0]
theorem hour_11 (x : SR) : (pL_hour x).2.2 0 (ix 11) = x.2 0 (ix 11) := by
  rw [pL_hour]
  dsimp only
  rw [pR_off (Or.inr (by decide)), pR_off (Or.inr (by decide)), pL_hour_E371, L371_0, pL_hour_E38, L38_0]
theorem lH_11 : ∀ (k : Nat) (x : SR), (lH k x).2 0 (ix 11) = x.2 0 (ix 11) := by
  intro k
  induction k with
  | zero => intro x; rfl
  | succ k ih =>
    intro x
    rw [lH, ih, hour_11]
theorem HQ_lH : ∀ (k : Nat) (B : Int) (x : SR), HQ B x → B + k ≤ 1000000 → HQ (B + k) (lH k x) := by
  intro k
  induction k with
  | zero =>
    intro B x h _
    exact h.mono (by omega)
  | succ k ih =>
    intro B x h hB
    rw [lH]
    exact (ih (B + 1) _ (HQ_hour h (by omega)) (by omega)).mono (by omega)
theorem E683_lH (u9 u10 : Int32) (x : SR) : ∃ K : Nat, K ≤ 99 ∧ (pL_law_E683 u9 u10 x).2 = lH K x := by
  obtain ⟨K, k1, k2, e⟩ := passv u10 u9
  refine ⟨K, k2, ?_⟩
  rw [pL_law_E683, e, ← nI_0, L683_lH K (by omega) 100 0 _ _ (Nat.zero_le _) (by omega), Nat.sub_zero]
theorem HQ_E683 {v : Int32} {u9 u10 : Int32} {x : SR} (h : HQ (99 * Int32.toInt v) x) (h0 : 0 ≤ Int32.toInt v) (h1 : Int32.toInt v < 28) : HQ (99 * Int32.toInt v + 99) (pL_law_E683 u9 u10 x).2 := by
  obtain ⟨K, k2, e⟩ := E683_lH u9 u10 x
  rw [e]
  exact (HQ_lH K _ x h (by omega)).mono (by omega)
theorem q11_E683 {u9 u10 : Int32} {x : SR} : (pL_law_E683 u9 u10 x).2.2 0 (ix 11) = x.2 0 (ix 11) := by
  obtain ⟨K, k2, e⟩ := E683_lH u9 u10 x
  rw [e]
  exact lH_11 K x
theorem q0_J248 {L : Nat} {xs : Nat → Int32} {v : Int32} {x : SR} : (pL_law_J248xq L xs v x).2 0 = x.2 0 := by
  rw [pL_law_J248xq]
  split
  · rfl
  · rw [pR_or (by decide), pR_or (by decide), pR_or (by decide), pR_or (by decide), pR_or (by decide)]
theorem HQ_J248 {B : Int} {L : Nat} {xs : Nat → Int32} {v : Int32} {x : SR} (h : HQ B x) : HQ B (pL_law_J248xq L xs v x) := by
  rw [pL_law_J248xq]
  split
  · exact h
  · exact HQ.pp (HQ.pp (HQ.pp (HQ.pp (HQ.pp h))))
theorem q0_J473 {u : Int32} {x : SR} : (pL_law_J473xq u x).2 0 = x.2 0 := by
  rw [pL_law_J473xq]
  split
  · rfl
  · rw [pR_or (by decide)]
theorem HQ_J473 {B : Int} {u : Int32} {x : SR} (h : HQ B x) : HQ B (pL_law_J473xq u x) := by
  rw [pL_law_J473xq]
  split
  · exact h
  · exact HQ.pp h
theorem HQ_hire {B : Int} {x : SR} {a : Int32} (h : HQ B x) (h4 : Int32.toInt (x.2 0 (ix 11)) ≤ 4) (a0 : 0 ≤ Int32.toInt a) (a1 : Int32.toInt a ≤ 11) : HQ B (pR (pR x 2 (5 * (x.2 0 (ix 11))) a) 0 11 ((x.2 0 (ix 11)) + 1)) := by
  have g := HQ.k1 h h.1.1 (by omega) (w := a) ⟨a0, a1⟩
  obtain ⟨a, b, c, d, e⟩ := g
  have h0 := h.1.1
  have z := i_add1 (a := x.2 0 (ix 11)) (by omega) (by omega)
  unfold HQ
  rw [pR_off (Or.inr (show ix 6 ≠ ix 11 by decide)), pR_off (Or.inr (show ix 0 ≠ ix 11 by decide)), pR_off (Or.inr (show ix 7 ≠ ix 11 by decide)), pR_or (show (2 : Nat) ≠ 0 by decide), pR_sm, up_same]
  exact ⟨⟨by omega, by omega⟩, b, c, d, e⟩
theorem q11_hire {x : SR} {a : Int32} (h0 : 0 ≤ Int32.toInt (x.2 0 (ix 11))) (h4 : Int32.toInt (x.2 0 (ix 11)) < 4) : Int32.toInt ((pR (pR x 2 (5 * (x.2 0 (ix 11))) a) 0 11 ((x.2 0 (ix 11)) + 1)).2 0 (ix 11)) ≤ 4 := by
  have z := i_add1 (a := x.2 0 (ix 11)) (by omega) (by omega)
  rw [pR_sm, up_same]
  omega
theorem q11_set {x : SR} {u : Int32} : (pR x 0 (pL_low u 7) (pL_law_J842s0 u)).2 0 (ix 11) = x.2 0 (ix 11) := by
  obtain ⟨j, hj, e, _⟩ := setv u
  rw [e]
  exact pR_off (Or.inr (by rw [ix_nI (by omega), show ix 11 = 11 from rfl]; omega))
theorem HQ_set {B : Int} {x : SR} {u : Int32} (h : HQ B x) : HQ B (pR x 0 (pL_low u 7) (pL_law_J842s0 u)) := by
  obtain ⟨j, hj, e, hv⟩ := setv u
  obtain ⟨a, b, c, d, g⟩ := h
  have ij : ix (nI j) = j := ix_nI (by omega)
  rw [e]
  generalize pL_law_J842s0 u = v at hv ⊢
  unfold HQ
  rw [pR_off (Or.inr (show ix 11 ≠ ix (nI j) by rw [ij, show ix 11 = 11 from rfl]; omega)), pR_off (Or.inr (show ix 7 ≠ ix (nI j) by rw [ij, show ix 7 = 7 from rfl]; omega)), pR_or (show (2 : Nat) ≠ 0 by decide)]
  refine ⟨a, ?_, ?_, d, g⟩
  · by_cases q : j = 6
    · subst q
      rw [pR_sm, show ix (nI 6) = ix 6 from rfl, up_same]
      exact hv
    · rw [pR_off (Or.inr (show ix 6 ≠ ix (nI j) by rw [ij, show ix 6 = 6 from rfl]; omega))]
      exact b
  · by_cases q : j = 0
    · subst q
      rw [pR_sm, show ix (nI 0) = ix 0 from rfl, up_same]
      exact hv
    · rw [pR_off (Or.inr (show ix 0 ≠ ix (nI j) by rw [ij, show ix 0 = 0 from rfl]; omega))]
      exact c
theorem m2_v {v : Int32} (h0 : 0 ≤ Int32.toInt v) (h1 : Int32.toInt v < 1000) : Int32.toInt (2 * v) = 2 * Int32.toInt v := by
  obtain ⟨k, hk, rfl⟩ := nI_v (n := 1000) h0 h1 (by decide)
  rw [show (2 : Int32) * nI k = nI (2 * k) from nI_mulN 2 k, nI_toInt (by omega), nI_toInt (by omega)]
  omega
theorem m3_v {v : Int32} (h0 : 0 ≤ Int32.toInt v) (h1 : Int32.toInt v < 1000) : Int32.toInt (2 * v + 1) = 2 * Int32.toInt v + 1 := by
  have a := m2_v h0 h1
  rw [i_add1 (by omega) (by omega), a]
theorem lo_671 {a b : Int32} : 1 ≤ Int32.toInt (1 + pL_low a (pL_law_J671s0 b)) ∧ Int32.toInt (1 + pL_low a (pL_law_J671s0 b)) ≤ 99 := by
  obtain ⟨K, k1, k2, e⟩ := passv a b
  rw [e, nI_toInt (by omega)]
  omega
theorem low7_in {a : Int32} : vp_in (pL_low a 7) 12 := by
  have h := low_in a (n := 7) (by decide)
  rw [show Int32.toInt 7 = 7 from rfl] at h
  exact vp_in_iff.mpr ⟨h.1, by omega⟩
