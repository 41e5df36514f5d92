-- an order and what stands behind it; the fault of a text
theorem FY_is (v : Int32) (y : SR) : FY y (pX3_isNext v y).2 := by
  rw [pX3_isNext]
  by_cases c : pX3_character (y.1 3) y = v
  · rw [if_pos c]
    exact FY_S y (i := 3) _ (by decide)
  · rw [if_neg c]
    exact FY_S y (i := 3) _ (by decide)
theorem order_eq {q y : SR} {L a : Nat} (h : RA q y L a) : FQ q (pX0_readOrder q).2 ∧ FY y (pX3_readsOrder y).2 ∧ FY y (pX3_isNext 59 (pX3_readsOrder y).2).2 ∧
  (((pX0_readOrder q).1 = 0 ∧ (pX3_readsOrder y).1 = 0 ∧ ∃ a', RA (pX0_readOrder q).2 (pX3_readsOrder y).2 L a') ∨
   (¬ (pX3_readsOrder y).1 = 0 ∧ (pX0_readOrder q).1 = 1 ∧ (pX0_readOrder q).2.1 6 = 0 ∧ a < L ∧ RA (pX0_readOrder q).2 (pX3_readsOrder y).2 L L ∧ RA (pX0_readOrder q).2 (pX3_isNext 59 (pX3_readsOrder y).2).2 L L ∧ ORD (pX0_readOrder q).2 (pX3_isNext 59 (pX3_readsOrder y).2).2) ∨
   (¬ (pX3_readsOrder y).1 = 0 ∧ (pX0_readOrder q).1 = 0 ∧ ¬ (pX3_readsOrder y).2.1 3 = (pX3_readsOrder y).2.1 1 ∧ (pX3_isNext 59 (pX3_readsOrder y).2).1 = 0 ∧ ∃ a', RA (pX0_readOrder q).2 (pX3_isNext 59 (pX3_readsOrder y).2).2 L a') ∨
   (¬ (pX3_readsOrder y).1 = 0 ∧ (pX0_readOrder q).1 = 1 ∧ (pX0_readOrder q).2.1 6 = 1 ∧ ¬ (pX3_readsOrder y).2.1 3 = (pX3_readsOrder y).2.1 1 ∧ (pX3_isNext 59 (pX3_readsOrder y).2).1 = 1 ∧ ∃ a', a + 2 ≤ a' ∧ RA (pX0_readOrder q).2 (pX3_isNext 59 (pX3_readsOrder y).2).2 L a' ∧ ORD (pX0_readOrder q).2 (pX3_isNext 59 (pX3_readsOrder y).2).2)) := by
  obtain ⟨b1, b2, b3⟩ := body_eq h
  have e : pX0_readOrder q = (if (pX0_readBody (qN q)).1 = 0 then ((0 : Int32), (pX0_readBody (qN q)).2) else if (pX0_skip 59 (pX0_readBody (qN q)).2).1 = 0 then if (pX0_skip 59 (pX0_readBody (qN q)).2).2.1 1 = (pX0_skip 59 (pX0_readBody (qN q)).2).2.1 0 then ((1 : Int32), pS (pX0_skip 59 (pX0_readBody (qN q)).2).2 6 (pX0_skip 59 (pX0_readBody (qN q)).2).1) else ((0 : Int32), pS (pX0_skip 59 (pX0_readBody (qN q)).2).2 6 (pX0_skip 59 (pX0_readBody (qN q)).2).1) else ((1 : Int32), pS (pX0_skip 59 (pX0_readBody (qN q)).2).2 6 (pX0_skip 59 (pX0_readBody (qN q)).2).1)) := by
    rw [pX0_readOrder]
    rfl
  rw [e]
  generalize pX0_readBody (qN q) = B at b1 b3 ⊢
  have fN := FY_is 59 (pX3_readsOrder y).2
  generalize pX3_readsOrder y = Y at b2 b3 fN ⊢
  have fN2 := b2.tr fN
  rcases b3 with ⟨c1, c2, a', c3⟩ | ⟨c1, c2, a', c3, c4, c5⟩
  · rw [if_pos c1]
    exact ⟨b1, b2, fN2, Or.inl ⟨rfl, c2, a', c3⟩⟩
  · rw [if_neg c1]
    obtain ⟨s1, s2, s3, s4, s5⟩ := skip_eq c4 (v := 59) (by decide) (by decide)
    generalize pX0_skip 59 B.2 = S at s1 s3 s5 ⊢
    generalize pX3_isNext 59 Y.2 = N at s2 s4 s5 fN2 ⊢
    have f6 : FQ q (pS S.2 6 S.1) := (b1.tr s1).tr (FQ_S _ (i := 6) _ (by decide))
    have o6 : ORD (pS S.2 6 S.1) N.2 := c5.mv (fun i h1 h2 => (up_ne _ _ (by omega)).trans (s3 i (by omega))) (fun i h1 h2 => s4 i (by omega))
    have y3 : Y.2.1 3 = nI a' := c4.2.2.2.2.2.2
    have y1 : Y.2.1 1 = nI L := c4.2.2.2.1
    have hL := c4.1
    have hl := c4.2.1
    rcases s5 with ⟨w1, w2, w3, w4⟩ | ⟨w1, w2, w3⟩
    · rw [if_neg (show ¬ S.1 = 0 by rw [w1]; decide)]
      refine ⟨f6, b2, fN2, Or.inr (Or.inr (Or.inr ⟨c2, rfl, (pS_at _ 6 _).trans w1, ?_, w2, a' + 1, by omega, w4.sS _ (by decide), o6⟩))⟩
      rw [y3, y1, nI_eq (by omega) (by omega)]
      omega
    · rw [if_pos w1]
      have r6 : RA (pS S.2 6 S.1) N.2 L a' := w3.sS (i := 6) S.1 (by decide)
      have q1 : S.2.1 1 = nI a' := w3.2.2.2.2.2.1
      have q0 : S.2.1 0 = nI L := w3.2.2.1
      by_cases cL : a' = L
      · rw [if_pos (show S.2.1 1 = S.2.1 0 by rw [q1, q0, cL])]
        have r7 : RA (pS S.2 6 S.1) Y.2 L a' := RA.mv c4 (show FQ B.2 (pS S.2 6 S.1) from s1.tr (FQ_S S.2 (i := 6) S.1 (by decide))) (FY.rf Y.2) hl (show (pS S.2 6 S.1).1 1 = nI a' from q1) y3
        rw [cL] at r6 r7
        exact ⟨f6, b2, fN2, Or.inr (Or.inl ⟨c2, rfl, (pS_at _ 6 _).trans w1, by omega, r7, r6, o6⟩)⟩
      · rw [if_neg (show ¬ S.2.1 1 = S.2.1 0 by rw [q1, q0, nI_eq (by omega) (by omega)]; exact cL)]
        refine ⟨f6, b2, fN2, Or.inr (Or.inr (Or.inl ⟨c2, rfl, ?_, w2, a', r6⟩))⟩
        rw [y3, y1, nI_eq (by omega) (by omega)]
        exact cL
theorem n80 {k : Nat} (h : k < 80) : ¬ (80 : Int32) ≤ nI k := by
  rw [show (80 : Int32) = nI 80 from rfl, nI_leI (by omega) (by omega)]
  omega
theorem fault_L {L : Nat} : ∀ (n m k a : Nat) (q y : SR), RA q y L a → q.1 6 = 1 → 2 * k ≤ a → 80 - k < n → 80 - k < m → FQ q (pX0_findFault_L6 n (nI k) q).2 ∧ FY y (pX3_findFault_L5 m y).2 ∧ (pX0_findFault_L6 n (nI k) q).1 = (pX3_findFault_L5 m y).1 ∧ ∃ a', RA (pX0_findFault_L6 n (nI k) q).2 (pX3_findFault_L5 m y).2 L a' := by
  intro n
  induction n with
  | zero => intro m k a q y h h6 hk h1 h2; omega
  | succ n ih =>
    intro m k a q y h h6 hk h1 h2
    cases m with
    | zero => omega
    | succ m =>
      have hL := h.1
      have hl := h.2.1
      obtain ⟨f1, f2, f3, f4⟩ := order_eq h
      rw [pX0_findFault_L6, pX3_findFault_L5, if_neg (n80 (by omega)), if_neg (show ¬ q.1 6 = 0 by rw [h6]; decide)]
      rcases f4 with ⟨c1, c2, a', c3⟩ | ⟨c2, c1, c6, -, c3, c4, -⟩ | ⟨c2, c1, c7, c8, a', c3⟩ | ⟨c2, c1, c6, c7, c8, a', ha, c3, -⟩
      · rw [if_pos c1, if_pos c2]
        exact ⟨f1, f2, c3.2.2.2.2.2.1.trans c3.2.2.2.2.2.2.symm, a', c3⟩
      · rw [if_neg (show ¬ (pX0_readOrder q).1 = 0 by rw [c1]; decide), if_neg c2, if_pos (c3.2.2.2.2.2.2.trans c3.2.2.2.1.symm), nI_1]
        obtain ⟨n', rfl⟩ : ∃ n', n = n' + 1 := ⟨n - 1, by omega⟩
        rw [pX0_findFault_L6, if_neg (n80 (by omega)), if_pos c6]
        exact ⟨f1, f2, rfl, L, c3⟩
      · rw [if_pos c1, if_neg c2, if_neg c7, if_pos c8]
        exact ⟨f1, f3, c3.2.2.2.2.2.1.trans c3.2.2.2.2.2.2.symm, a', c3⟩
      · rw [if_neg (show ¬ (pX0_readOrder q).1 = 0 by rw [c1]; decide), if_neg c2, if_neg c7, if_neg (show ¬ (pX3_isNext 59 (pX3_readsOrder y).2).1 = 0 by rw [c8]; decide), nI_1]
        obtain ⟨z1, z2, z3, z4⟩ := ih m (k + 1) a' _ _ c3 c6 (by omega) (by omega) (by omega)
        exact ⟨f1.tr z1, f3.tr z2, z3, z4⟩
theorem RPad.ra {p y : SR} (h : RPad p y) : ∃ L, RA (pX0_rewind p) (pS y 3 0) L 0 := by
  obtain ⟨e0, e1, ec, eh, e3⟩ := h
  obtain ⟨L, hL, eL⟩ := vp_in_of (x := y.1 1) (n := 81) (vp_in_iff.mpr ⟨e1.1, by have := e1.2; omega⟩) (by decide)
  rw [eL, nI_toInt (by omega)] at ec
  refine ⟨L, by omega, Nat.zero_le _, e0.trans eL, eL, fun j hj => ec j (by omega), nI_0.symm, nI_0.symm⟩
theorem FQ_rw (p : SR) : FQ p (pX0_rewind p) := (FQ_S p (i := 1) 0 (by decide)).tr (FQ_S _ (i := 6) 1 (by decide))
theorem fault_go {p y : SR} (h : RPad p y) : ∃ L a', FQ p (pX0_findFault p).2 ∧ FY y (pX3_findFault y).2 ∧ (pX0_findFault p).1 = (pX3_findFault y).1 ∧ RA (pX0_findFault p).2 (pX3_findFault y).2 L a' := by
  obtain ⟨L, r⟩ := h.ra
  obtain ⟨z1, z2, z3, a', z4⟩ := fault_L 81 82 0 0 _ _ r (pS_at _ 6 _) (by decide) (by decide) (by decide)
  rw [nI_0] at z1 z3 z4
  exact ⟨L, a', (FQ_rw p).tr z1, (FY_S y (i := 3) 0 (by decide)).tr z2, z3, z4⟩
theorem RT.pad {t : TV} {y : SR} (h : RT t y) {p' y' : SR} {L a : Nat} (fq : FQ t.2.1 p') (fy : FY y y') (r : RA p' y' L a) : RT (tP t p') y' := by
  obtain ⟨h0, hh, hs, e0, e1, ec, eh, e3⟩ := h
  refine ⟨by rw [fy.1]; exact h0, hh.cg rfl (fun _ _ _ => rfl) (fy.2 0 (by decide)) (by rw [fy.1]), hs.cg rfl (fun _ _ => rfl) (by rw [fy.1]) (by rw [fy.1]), ?_, ?_, ?_, ?_, ?_⟩
  · show p'.1 0 = y'.1 1
    rw [fq.2 0 (Or.inl rfl), fy.2 1 (by decide)]
    exact e0
  · rw [fy.2 1 (by decide)]
    exact e1
  · intro j hj
    rw [fy.2 1 (by decide)] at hj
    show p'.2 0 j = y'.2 5 j
    rw [fq.1, fy.1]
    exact ec j hj
  · show ∀ k, isCh (p'.2 0 k)
    rw [fq.1]
    exact eh
  · have h1 := r.1
    have h2 := r.2.1
    rw [r.2.2.2.2.2.2]
    unfold inI
    rw [nI_toInt (by omega)]
    omega
theorem fault_eq {t : TV} {y : SR} (h : RT t y) : (pX2_fault t).1 = (pX3_fault y).1 ∧ RT (pX2_fault t).2 (pX3_fault y).2 := by
  obtain ⟨L, a', f1, f2, f3, f4⟩ := fault_go h.2.2.2
  rw [pX2_fault, pX3_fault]
  exact ⟨f3, h.pad f1 f2 f4⟩
