-- all orders of a text
def FZ (y y' : SR) : Prop := (∀ i, i < 2 → y'.1 i = y.1 i) ∧ ∀ q, q ≠ 0 → y'.2 q = y.2 q
theorem FZ.tr {x y z : SR} (h : FZ x y) (g : FZ y z) : FZ x z := ⟨fun i hi => (g.1 i hi).trans (h.1 i hi), fun q hq => (g.2 q hq).trans (h.2 q hq)⟩
theorem FZ.fy {y y' : SR} (h : FY y y') : FZ y y' := ⟨fun i hi => h.2 i (by omega), fun q _ => by rw [h.1]⟩
theorem FZ.f2 {y y' : SR} (h : F2 y y') : FZ y y' := ⟨fun i hi => h.1 i (by omega), h.2⟩
theorem RA.f2 {q y y' : SR} {L a : Nat} (h : RA q y L a) (g : F2 y y') : RA q y' L a := by
  obtain ⟨h1, h2, h3, h4, h5, h6, h7⟩ := h
  exact ⟨h1, h2, h3, (g.1 1 (by decide)).trans h4, fun j hj => by rw [g.2 5 (by decide)]; exact h5 j hj, h6, (g.1 3 (by decide)).trans h7⟩
theorem EQ_f2 {y y' : SR} (g : F2 y y') : EQ y y' := ⟨(g.1 1 (by decide)).symm, (g.1 3 (by decide)).symm, (g.2 5 (by decide)).symm⟩
theorem tPQ (t : TV) (q c : SR) (s s' : SR) : tP (tQ (tQ (tP t q) 0 s) 0 s') c = tP (tQ t 0 s') c := by
  show (up (up t.1 0 s) 0 s', c, t.2.2) = (up t.1 0 s', c, t.2.2)
  rw [up_up]
theorem nI_no6 {a : Nat} (h : a ≤ 80) : ¬ nI a = -6 := by
  intro e
  have h1 : Int32.toInt (nI a) = (a : Int) := nI_toInt (by omega)
  rw [e, show Int32.toInt (-6) = -6 from rfl] at h1
  omega
theorem carry_L {L : Nat} : ∀ (n m k j a : Nat) (t : TV) (y : SR), RN (t.1 0) (y.2 0) → RA t.2.1 y L a → ((t.2.1.1 6 = 1 ∧ 2 * k ≤ a ∧ (pX3_findFault_L5 j y).1 = -6) ∨ (t.2.1.1 6 = 0 ∧ a = L ∧ k ≤ 41)) → 80 - k < n → 81 - k < m → ∃ (v : Nat) (s q' y' : SR) (a' : Nat), pX2_carryOut_L35 n (nI k) t = pX2_recorded (nI v) (tP (tQ t 0 s) (pX0_clear q')) ∧ pX3_carryOut_L25 m (nI k) 1 y = (nI v, pS y' 1 0) ∧ v ≤ 80 ∧ RN s (y'.2 0) ∧ FZ y y' ∧ FQ t.2.1 q' ∧ RA q' y' L a' := by
  intro n
  induction n with
  | zero => intro m k j a t y hN h hc h1 h2; omega
  | succ n ih =>
    intro m k j a t y hN h hc h1 h2
    cases m with
    | zero => omega
    | succ m =>
      have hL := h.1
      have hl := h.2.1
      have y1 : y.1 1 = nI L := h.2.2.2.1
      have y3 : y.1 3 = nI a := h.2.2.2.2.2.2
      rw [pX2_carryOut_L35, pX3_carryOut_L25, if_neg (show ¬ (1 : Int32) = 0 by decide), y1, y3]
      rcases hc with ⟨h6, hk, hf⟩ | ⟨h6, ha, hk⟩
      · rw [if_neg (n80 (by omega)), if_neg (show ¬ t.2.1.1 6 = 0 by rw [h6]; decide)]
        cases j with
        | zero =>
          rw [pX3_findFault_L5] at hf
          exact absurd (show (0 : Int32) = -6 from hf) (by decide)
        | succ j =>
          rw [pX3_findFault_L5] at hf
          obtain ⟨f1, f2, f3, f4⟩ := order_eq h
          have h24 := (order_24 t.2.1).in
          -- what comes behind the order
          have key : ∀ a' : Nat, a < L → (pX0_readOrder t.2.1).1 = 1 → RA (pX0_readOrder t.2.1).2 (pX3_isNext 59 (pX3_readsOrder y).2).2 L a' → ORD (pX0_readOrder t.2.1).2 (pX3_isNext 59 (pX3_readsOrder y).2).2 → (((pX0_readOrder t.2.1).2.1 6 = 1 ∧ a + 2 ≤ a' ∧ (pX3_findFault_L5 j (pX3_isNext 59 (pX3_readsOrder y).2).2).1 = -6) ∨ ((pX0_readOrder t.2.1).2.1 6 = 0 ∧ a' = L)) → ∃ (v : Nat) (s q' y' : SR) (a' : Nat), (if ((pX0_readOrder t.2.1).1) = 0 then ((pX2_recorded (nI k) (tP (tP t ((pX0_readOrder t.2.1).2)) (pX0_clear ((pX0_readOrder t.2.1).2)))).1, (pX2_recorded (nI k) (tP (tP t ((pX0_readOrder t.2.1).2)) (pX0_clear ((pX0_readOrder t.2.1).2)))).2)
        else if ((pX2_answerToOrder (tP t ((pX0_readOrder t.2.1).2))).1) < 0 then ((pX2_recorded (nI k) (tP (pX2_answerToOrder (tP t ((pX0_readOrder t.2.1).2))).2 (pX0_clear ((pX2_answerToOrder (tP t ((pX0_readOrder t.2.1).2))).2.2.1)))).1, (pX2_recorded (nI k) (tP (pX2_answerToOrder (tP t ((pX0_readOrder t.2.1).2))).2 (pX0_clear ((pX2_answerToOrder (tP t ((pX0_readOrder t.2.1).2))).2.2.1)))).2)
          else pX2_carryOut_L35 n (nI k + 1) (pX2_answerToOrder (tP t ((pX0_readOrder t.2.1).2))).2) = pX2_recorded (nI v) (tP (tQ t 0 s) (pX0_clear q')) ∧ (if nI L ≤ nI a then (nI k, (pS y 1 0))
      else if pX3_whyNotDone (pX3_isNext 59 (pX3_readsOrder y).2).2 = 0 then pX3_carryOut_L25 m (nI k + 1) 1 (pX3_doesOrder (pX3_isNext 59 (pX3_readsOrder y).2).2)
        else pX3_carryOut_L25 m (nI k) 0 (pX3_isNext 59 (pX3_readsOrder y).2).2) = (nI v, pS y' 1 0) ∧ v ≤ 80 ∧ RN s (y'.2 0) ∧ FZ y y' ∧ FQ t.2.1 q' ∧ RA q' y' L a' := by
            intro a' hal c1 hr ho hgo
            rw [if_neg (show ¬ (pX0_readOrder t.2.1).1 = 0 by rw [c1]; decide), if_neg (show ¬ nI L ≤ nI a by rw [nI_leI (by omega) (by omega)]; omega)]
            generalize pX3_isNext 59 (pX3_readsOrder y).2 = N at f3 hr ho hgo ⊢
            generalize pX0_readOrder t.2.1 = Q at f1 h24 c1 hr ho hgo ⊢
            have hN2 : RN ((tP t Q.2).1 0) (N.2.2 0) := by
              rw [f3.1]
              exact hN
            have hd := ans_eq (T := tP t Q.2) hN2 ho h24
            generalize pX2_answerToOrder (tP t Q.2) = A at hd ⊢
            generalize pX3_doesOrder N.2 = D at hd ⊢
            rcases hd with ⟨w, g, s, e, hs, fD⟩ | ⟨w, g, e⟩
            · rw [if_neg g, if_pos w, nI_1, e]
              obtain ⟨v, s', q', y', a2, z1, z2, z3, z4, z5, z6, z7⟩ := ih m (k + 1) j a' (tQ (tP t Q.2) 0 s) D (by rw [tQ_at]; exact hs) (hr.f2 fD) (by
                rcases hgo with ⟨o1, o2, o3⟩ | ⟨o1, o2⟩
                · exact Or.inl ⟨o1, by omega, by rw [← E_L5 j _ _ (EQ_f2 fD)]; exact o3⟩
                · exact Or.inr ⟨o1, o2, by omega⟩) (by omega) (by omega)
              refine ⟨v, s', q', y', a2, ?_, z2, z3, z4, ((FZ.fy f3).tr (FZ.f2 fD)).tr z5, f1.tr z6, z7⟩
              rw [z1, tPQ]
            · rw [if_pos g, if_neg w, e]
              obtain ⟨m', rfl⟩ : ∃ m', m = m' + 1 := ⟨m - 1, by omega⟩
              rw [pX3_carryOut_L25, if_pos (show (0 : Int32) = 0 from rfl)]
              refine ⟨k, t.1 0, Q.2, N.2, a', ?_, rfl, by omega, hN2, FZ.fy f3, f1, hr⟩
              rw [tQ_id]
              rfl
          rcases f4 with ⟨c1, c2, a', c3⟩ | ⟨c2, c1, c6, c7, c3, c4, c5⟩ | ⟨c2, c1, c7, c8, a', c3⟩ | ⟨c2, c1, c6, c7, c8, a', ha, c3, c5⟩
          · rw [if_pos c2, c3.2.2.2.2.2.2] at hf
            have e1 := c3.1
            have e2 := c3.2.1
            exact absurd hf (nI_no6 (by omega))
          · exact key L c7 c1 c4 c5 (Or.inr ⟨c6, rfl⟩)
          · rw [if_neg c2, if_neg c7, if_pos c8, c3.2.2.2.2.2.2] at hf
            have e1 := c3.1
            have e2 := c3.2.1
            exact absurd hf (nI_no6 (by omega))
          · rw [if_neg c2, if_neg c7, if_neg (show ¬ (pX3_isNext 59 (pX3_readsOrder y).2).1 = 0 by rw [c8]; decide)] at hf
            have e2 := c3.2.1
            exact key a' (by omega) c1 c3 c5 (Or.inl ⟨c6, ha, hf⟩)
      · rw [if_neg (n80 (by omega)), if_pos h6, ha, if_pos (Int32.le_refl _)]
        refine ⟨k, t.1 0, t.2.1, y, a, ?_, rfl, by omega, hN, FZ.fy (FY.rf y), FQ.rf _, h⟩
        rw [tQ_id]
theorem carryOut_eq {t : TV} {y : SR} (h : RT t y) : (pX2_carryOut t).1 = (pX3_carryOut y).1 ∧ RT (pX2_carryOut t).2 (pX3_carryOut y).2 := by
  obtain ⟨L, a', f1, f2, f3, f4⟩ := fault_go h.2.2.2
  have h2 := h.pad f1 f2 f4
  rw [pX2_carryOut, pX3_carryOut]
  by_cases c : (pX0_findFault t.2.1).1 = -6
  · have hm := f3.symm.trans c
    rw [if_pos c, if_pos hm]
    rw [pX3_findFault] at hm
    generalize (pX0_findFault t.2.1).2 = P at f1 f4 h2 ⊢
    generalize (pX3_findFault y).2 = Y at f2 f4 h2 ⊢
    obtain ⟨g0, gh, gs, gp⟩ := h2
    obtain ⟨r1, r2, -⟩ := record_f gh.2.1
    have hN : RN ((tP (tQ (tP t P) 1 (pX2_copy (t.1 0) (t.1 1))) (pX0_rewind P)).1 0) ((pS (pX3_record Y) 3 0).2 0) := by
      show RN (up t.1 1 (pX2_copy (t.1 0) (t.1 1)) 0) ((pX3_record Y).2 0)
      rw [up_ne _ _ (show (0 : Nat) ≠ 1 by decide), r1 0 (by decide)]
      exact g0
    have hR : RA (tP (tQ (tP t P) 1 (pX2_copy (t.1 0) (t.1 1))) (pX0_rewind P)).2.1 (pS (pX3_record Y) 3 0) L 0 := by
      obtain ⟨k1, k2, k3, k4, k5, k6, k7⟩ := f4
      refine ⟨k1, Nat.zero_le _, k3, ?_, fun j hj => ?_, nI_0.symm, nI_0.symm⟩
      · show up (pX3_record Y).1 3 0 1 = nI L
        rw [up_ne _ _ (show (1 : Nat) ≠ 3 by decide), r2 1 (by decide)]
        exact k4
      · show P.2 0 j = (pX3_record Y).2 5 j
        rw [r1 5 (by decide)]
        exact k5 j hj
    have hF : (pX3_findFault_L5 82 (pS (pX3_record Y) 3 0)).1 = -6 := by
      refine (E_L5 82 (pS y 3 0) (pS (pX3_record Y) 3 0) ⟨?_, rfl, ?_⟩).symm.trans hm
      · show up y.1 3 0 1 = up (pX3_record Y).1 3 0 1
        rw [up_ne _ _ (show (1 : Nat) ≠ 3 by decide), up_ne _ _ (show (1 : Nat) ≠ 3 by decide), r2 1 (by decide)]
        exact (f2.2 1 (by decide)).symm
      · show y.2 5 = (pX3_record Y).2 5
        rw [r1 5 (by decide), f2.1]
    obtain ⟨v, s, q', y', a2, z1, z2, z3, z4, z5, z6, z7⟩ := carry_L 81 83 0 82 0 _ _ hN hR (Or.inl ⟨rfl, by decide, hF⟩) (by decide) (by decide)
    rw [nI_0] at z1 z2
    rw [z1, z2]
    have w0 : (pS (pX3_record Y) 3 0).1 0 = (pX3_record Y).1 0 := pS_ne _ _ (show (0 : Nat) ≠ 3 by decide)
    obtain ⟨b1, b2, b3, b4, b5⟩ := recorded_gen (t := tP (tQ (tP (tQ (tP t P) 1 (pX2_copy (t.1 0) (t.1 1))) (pX0_rewind P)) 0 s) (pX0_clear q')) (y := Y) (y' := pS y' 1 0)
      (gh.cg rfl (fun k h1 _ => by
        show up (up t.1 1 (pX2_copy (t.1 0) (t.1 1))) 0 s k = t.1 k
        rw [up_ne _ _ (by omega), up_ne _ _ (by omega)]) rfl rfl)
      (gs.cg rfl (fun k h1 => by
        show up (up t.1 1 (pX2_copy (t.1 0) (t.1 1))) 0 s k = t.1 k
        rw [up_ne _ _ (by omega), up_ne _ _ (by omega)]) rfl rfl)
      (by
        show RN (up (up t.1 1 (pX2_copy (t.1 0) (t.1 1))) 0 s 1) (Y.2 0)
        rw [up_ne _ _ (show (1 : Nat) ≠ 0 by decide), up_same]
        exact RN.cp g0 _)
      (by
        show RN (up (up t.1 1 (pX2_copy (t.1 0) (t.1 1))) 0 s 0) (y'.2 0)
        rw [up_same]
        exact z4)
      ((pS_ne y' 0 (show (0 : Nat) ≠ 1 by decide)).trans ((z5.1 0 (by decide)).trans w0)) (z5.2 2 (by decide)) ((z5.2 3 (by decide)).trans (r1 3 (by decide))) ((z5.2 4 (by decide)).trans (r1 4 (by decide))) (nI v) (le0_nI (by omega))
    refine ⟨b1, b2, b3, b4, ?_⟩
    rw [b5]
    show RPad (pX0_clear q') (pS y' 1 0)
    refine ⟨rfl, ?_, fun j hj => ?_, ?_, ?_⟩
    · show inI 0 0 80
      unfold inI
      decide
    · have hj' : (j : Int) < Int32.toInt 0 := hj
      rw [show Int32.toInt 0 = 0 from rfl] at hj'
      omega
    · show ∀ k, isCh (q'.2 0 k)
      rw [z6.1]
      exact gp.2.2.2.1
    · show inI (up y'.1 1 0 3) 0 81
      rw [up_ne _ _ (show (3 : Nat) ≠ 1 by decide), z7.2.2.2.2.2.2]
      have k1 := z7.1
      have k2 := z7.2.1
      unfold inI
      rw [nI_toInt (by omega)]
      omega
  · rw [if_neg c, if_neg (fun z => c (f3.trans z))]
    exact ⟨rfl, h2⟩
