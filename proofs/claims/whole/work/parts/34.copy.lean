-- a copy of a street is the same street
def SA (x z : SR) : Prop := (∀ i, i < 8 → z.1 i = x.1 i) ∧ (∀ j, j < 7 → z.2 0 j = x.2 0 j) ∧ (∀ r, 1 ≤ r → r < 5 → ∀ j, j < 12 → z.2 r j = x.2 r j) ∧ (∀ r, 5 ≤ r → r < 10 → ∀ j, j < 5 → z.2 r j = x.2 r j)
theorem RS.sa {x z : SR} {m : Nat → Int32} (h : RS x m) (g : SA x z) : RS z m := by
  obtain ⟨g1, g2, g3, g4⟩ := g
  exact ⟨h.1.cg g2 (fun i h1 h2 => g1 i h2) (fun _ _ => rfl), h.2.1, fun p hp => (h.2.2.1 p hp).cg (fun q hq => by rw [g1 q (by omega)]) (fun r h1 h2 => g3 r h1 h2 p hp) (fun _ _ => rfl), h.2.2.2.1.cg g4 rfl (fun _ _ _ => rfl), h.2.2.2.2.cg (fun q hq => g1 q (by omega))⟩
theorem RS.mc {x : SR} {m m' : Nat → Int32} (h : RS x m) (g : ∀ j, j < 109 → m' j = m j) : RS x m' :=
  ⟨h.1.cg (fun _ _ => rfl) (fun _ _ _ => rfl) (fun j hj => g j (by omega)), h.2.1.cg (fun j hj => g j (by omega)), fun p hp => (h.2.2.1 p hp).cg (fun _ _ => rfl) (fun _ _ _ => rfl) (fun j hj => g _ (by omega)), h.2.2.2.1.cg (fun _ _ _ _ _ => rfl) (g 11 (by decide)) (fun j _ hj => g j hj), h.2.2.2.2⟩
theorem cpy_in {f g : Nat → Int32} {n j : Nat} (h : j < n) : va_cpy f g 0 0 n j = f j := by
  rw [va_cpy, if_pos ⟨Nat.zero_le _, by omega⟩, Nat.zero_add, Nat.sub_zero]
theorem SA_copy (x y : SR) : SA x (pX2_copy x y) := by
  refine ⟨fun i hi => ?_, fun j hj => ?_, fun r h1 h2 j hj => ?_, fun r h1 h2 j hj => ?_⟩
  · rcases (show i = 0 ∨ i = 1 ∨ i = 2 ∨ i = 3 ∨ i = 4 ∨ i = 5 ∨ i = 6 ∨ i = 7 by omega) with rfl | rfl | rfl | rfl | rfl | rfl | rfl | rfl <;> rfl
  · exact cpy_in (f := x.2 0) (g := y.2 0) hj
  · rcases (show r = 1 ∨ r = 2 ∨ r = 3 ∨ r = 4 by omega) with rfl | rfl | rfl | rfl
    · exact cpy_in (f := x.2 1) (g := y.2 1) hj
    · exact cpy_in (f := x.2 2) (g := y.2 2) hj
    · exact cpy_in (f := x.2 3) (g := y.2 3) hj
    · exact cpy_in (f := x.2 4) (g := y.2 4) hj
  · rcases (show r = 5 ∨ r = 6 ∨ r = 7 ∨ r = 8 ∨ r = 9 by omega) with rfl | rfl | rfl | rfl | rfl
    · exact cpy_in (f := x.2 5) (g := y.2 5) hj
    · exact cpy_in (f := x.2 6) (g := y.2 6) hj
    · exact cpy_in (f := x.2 7) (g := y.2 7) hj
    · exact cpy_in (f := x.2 8) (g := y.2 8) hj
    · exact cpy_in (f := x.2 9) (g := y.2 9) hj
theorem RS.cp {x : SR} {m : Nat → Int32} (h : RS x m) (y : SR) : RS (pX2_copy x y) m := h.sa (SA_copy x y)
def RN (x : SR) (m : Nat → Int32) : Prop := RS x m ∧ Int32.toInt (m 11) ≤ 4 ∧ inI (m 8) 0 16777215
theorem RN.cp {x : SR} {m : Nat → Int32} (h : RN x m) (y : SR) : RN (pX2_copy x y) m := ⟨h.1.cp y, h.2⟩
theorem RN.mc {x : SR} {m m' : Nat → Int32} (h : RN x m) (g : ∀ j, j < 109 → m' j = m j) : RN x m' := ⟨h.1.mc g, by rw [g 11 (by decide), g 8 (by decide)]; exact h.2⟩
theorem mv_to (y : SR) : pX3_moves 0 0 1 0 y = (y.1, up y.2 1 (cpA (y.2 0) (y.2 1) 0 0 109)) := moves_eq (k1 := 0) (k3 := 1) 0 0 y (by decide) (by decide) (by decide)
theorem mv_back (y : SR) : pX3_moves 1 0 0 0 y = (y.1, up y.2 0 (cpA (y.2 1) (y.2 0) 0 0 109)) := moves_eq (k1 := 1) (k3 := 0) 0 0 y (by decide) (by decide) (by decide)
theorem cpA_in (f g : Nat → Int32) {j : Nat} (h : j < 109) : cpA f g 0 0 109 j = f j := by
  rw [cpA, if_pos ⟨Nat.zero_le _, by omega⟩, Nat.zero_add, Nat.sub_zero]
/-- what a trial leaves of the model: its rows but the first two, its numbers but the chosen ones; the first row as it was -/
def TR (y z : SR) : Prop := (∀ q, q ≠ 2 → z.1 q = y.1 q) ∧ (∀ q, 2 ≤ q → z.2 q = y.2 q) ∧ (∀ j, j < 109 → z.2 0 j = y.2 0 j)
/-- in a trial: the second row holds what was -/
def TI (y z : SR) : Prop := (∀ q, q ≠ 2 → z.1 q = y.1 q) ∧ (∀ q, 2 ≤ q → z.2 q = y.2 q) ∧ (∀ j, j < 109 → z.2 1 j = y.2 0 j)
theorem TR.rf (y : SR) : TR y y := ⟨fun _ _ => rfl, fun _ _ => rfl, fun _ _ => rfl⟩
theorem mvt_n (y : SR) : (pX3_moves 0 0 1 0 y).1 = y.1 := by rw [mv_to]
theorem mvt_1 (y : SR) : (pX3_moves 0 0 1 0 y).2 1 = cpA (y.2 0) (y.2 1) 0 0 109 := by
  rw [mv_to]
  exact up_same y.2 1 _
theorem mvt_o (y : SR) {q : Nat} (h : q ≠ 1) : (pX3_moves 0 0 1 0 y).2 q = y.2 q := by
  rw [mv_to]
  exact up_ne y.2 _ h
theorem mvb_n (y : SR) : (pX3_moves 1 0 0 0 y).1 = y.1 := by rw [mv_back]
theorem mvb_0 (y : SR) : (pX3_moves 1 0 0 0 y).2 0 = cpA (y.2 1) (y.2 0) 0 0 109 := by
  rw [mv_back]
  exact up_same y.2 0 _
theorem mvb_o (y : SR) {q : Nat} (h : q ≠ 0) : (pX3_moves 1 0 0 0 y).2 q = y.2 q := by
  rw [mv_back]
  exact up_ne y.2 _ h
theorem TI_to (y : SR) : TI y (pX3_moves 0 0 1 0 y) := ⟨fun _ _ => by rw [mvt_n], fun q hq => mvt_o y (by omega), fun j hj => by rw [mvt_1, cpA_in _ _ hj]⟩
theorem to_0 (y : SR) : (pX3_moves 0 0 1 0 y).2 0 = y.2 0 := mvt_o y (by decide)
theorem TI.f2 {y z w : SR} (h : TI y z) (g : F2 z w) : TI y w := ⟨fun q hq => (g.1 q hq).trans (h.1 q hq), fun q hq => (g.2 q (by omega)).trans (h.2.1 q hq), fun j hj => by rw [g.2 1 (by decide)]; exact h.2.2 j hj⟩
theorem TI.back {y z : SR} (h : TI y z) : TR y (pX3_moves 1 0 0 0 z) := ⟨fun q hq => by rw [mvb_n]; exact h.1 q hq, fun q hq => (mvb_o z (by omega)).trans (h.2.1 q hq), fun j hj => by rw [mvb_0, cpA_in _ _ hj]; exact h.2.2 j hj⟩
/-- a trial that goes on after it was taken back -/
theorem TI.again {y z : SR} (h : TI y z) : TI y (pX3_moves 1 0 0 0 z) ∧ (∀ j, j < 109 → (pX3_moves 1 0 0 0 z).2 0 j = y.2 0 j) :=
  ⟨⟨fun q hq => by rw [mvb_n]; exact h.1 q hq, fun q hq => (mvb_o z (by omega)).trans (h.2.1 q hq), fun j hj => by rw [mvb_o z (by decide)]; exact h.2.2 j hj⟩, h.back.2.2⟩
theorem tQ_tQ (t : TV) (j : Nat) (a b : SR) : tQ (tQ t j a) j b = tQ t j b := by
  unfold tQ
  rw [up_up]
theorem tQ_at (t : TV) (j : Nat) (a : SR) : (tQ t j a).1 j = a := up_same _ _ _
theorem tQ_of (t : TV) {j k : Nat} (a : SR) (h : k ≠ j) : (tQ t j a).1 k = t.1 k := up_ne _ _ h
-- coveredIn
theorem pass1 (x : SR) : (pX1_passHours 1 x).2 = cHour x := by
  rw [pX1_passHours, pass_step, if_neg (by decide), pass_step, if_pos (by decide)]
theorem cov_L {i : Nat} (hi : i < 12) : ∀ (n k : Nat) (t : TV) (Y y : SR), RS (t.1 2) (y.2 0) → TI Y y → k ≤ 96 → 96 - k < n → (pX2_coveredIn_L29 (nI i) n (nI k) t).1 = (pX3_coveredIn_L25 (nI i) n (nI k) y).1 ∧ (∃ s, (pX2_coveredIn_L29 (nI i) n (nI k) t).2 = tQ t 2 s) ∧ TR Y (pX3_coveredIn_L25 (nI i) n (nI k) y).2 := by
  intro n
  induction n with
  | zero => intro k t Y y h hT h1 h2; omega
  | succ n ih =>
    intro k t Y y h hT h1 h2
    rw [pX2_coveredIn_L29, pX3_coveredIn_L25, cov3 hi (h.2.2.1 i hi), has_bt _ hi]
    have tid : tQ t 2 (t.1 2) = t := by
      unfold tQ
      rw [up_id]
    have hbk : TR Y (pX3_moves 1 0 0 0 y) := hT.back
    by_cases c2 : bt ((t.1 2).1 2) i = true
    · rw [if_pos c2, if_pos c2, if_pos (show (2 : Int32) = 2 from rfl), if_neg (show ¬ (1 : Int32) = 0 by decide), if_neg (show ¬ (1 : Int32) = 0 by decide)]
      dsimp only
      refine ⟨?_, ⟨t.1 2, ?_⟩, hbk⟩
      · by_cases c : (96 : Int32) ≤ nI k
        · rw [if_pos c]
          rw [show (96 : Int32) = nI 96 from rfl, nI_leI (by omega) (by omega)] at c
          rw [show k = 96 by omega]
          rfl
        · rw [if_neg c]
      · by_cases c : (96 : Int32) ≤ nI k
        · rw [if_pos c]
          exact tid.symm
        · rw [if_neg c]
          exact tid.symm
    · rw [if_neg c2, if_neg c2, if_pos (show (0 : Int32) = 0 from rfl), if_pos (show (0 : Int32) = 0 from rfl)]
      have n2 : ¬ (if bt ((t.1 2).1 1) i = true then (1 : Int32) else 0) = 2 := by
        by_cases c1 : bt ((t.1 2).1 1) i = true
        · rw [if_pos c1]
          decide
        · rw [if_neg c1]
          decide
      rw [if_neg n2]
      by_cases c : (96 : Int32) ≤ nI k
      · rw [if_pos c, if_pos c]
        dsimp only
        exact ⟨rfl, ⟨t.1 2, tid.symm⟩, hbk⟩
      · rw [if_neg c, if_neg c, nI_1, pass1]
        rw [show (96 : Int32) = nI 96 from rfl, nI_leI (by omega) (by omega)] at c
        obtain ⟨a1, a2, -⟩ := hour_eq h
        obtain ⟨r1, ⟨s, r2⟩, r3⟩ := ih (k + 1) (tQ t 2 (cHour (t.1 2))) Y (pX3_hour y) (by rw [tQ_at]; exact a1) (hT.f2 a2) (by omega) (by omega)
        exact ⟨r1, ⟨s, by rw [r2, tQ_tQ]⟩, r3⟩
theorem coveredIn_eq {t : TV} {y : SR} (h : RS (t.1 0) (y.2 0)) (a : Int32) : (pX2_coveredIn a t).1 = (pX3_coveredIn a y).1 ∧ (∃ s, (pX2_coveredIn a t).2 = tQ t 2 s) ∧ TR y (pX3_coveredIn a y).2 := by
  rw [pX2_coveredIn, pX3_coveredIn, isPi_eq h]
  by_cases c : pX2_has ((t.1 0).1 0) a = 0
  · rw [if_pos c, if_pos c]
    refine ⟨rfl, ⟨t.1 2, ?_⟩, TR.rf y⟩
    unfold tQ
    rw [up_id]
  · rw [if_neg c, if_neg c]
    obtain ⟨i, hi, rfl, -⟩ := pi_there c
    obtain ⟨r1, ⟨s, r2⟩, r3⟩ := cov_L hi 97 0 (tQ t 2 (pX2_copy (t.1 0) (t.1 2))) y (pX3_moves 0 0 1 0 y) (by rw [tQ_at, to_0]; exact h.cp _) (TI_to y) (by decide) (by decide)
    rw [nI_0] at r1 r2 r3
    exact ⟨r1, ⟨s, by rw [r2, tQ_tQ]⟩, r3⟩
