-- characters onto the pad
theorem by_lN (v : Int64) : ∃ d, d < 256 ∧ v &&& 255 = lN d := by
  have hb : (v.toBitVec &&& 255#64).toNat < 256 := by
    rw [BitVec.toNat_and]
    exact Nat.lt_of_le_of_lt Nat.and_le_right (by decide)
  refine ⟨(v.toBitVec &&& 255#64).toNat, hb, ?_⟩
  apply Int64.toBitVec_inj.mp
  show v.toBitVec &&& 255#64 = BitVec.ofNat 64 (v.toBitVec &&& 255#64).toNat
  rw [BitVec.ofNat_toNat, BitVec.setWidth_eq]
theorem by_0 : ∀ d, d < 256 → (lg_cmp (lN d) 0 = 0 ↔ d = 0) := by decide +kernel
theorem by_33 : ∀ d, d < 256 → (lg_cmp (lN d) 33 < 0 ↔ d < 33) := by decide +kernel
theorem by_126 : ∀ d, d < 256 → (lg_cmp (lN d) 126 ≤ 0 ↔ d ≤ 126) := by decide +kernel
theorem by_i : ∀ d, d < 256 → (lN d).toInt32 = nI d := by decide +kernel
theorem by_c : ∀ d, d < 256 → vp_nar .char (i2c (nI d)) = nI d := by decide +kernel
theorem n8 {k : Nat} (h : k ≤ 8) : (8 : Int32) ≤ nI k ↔ k = 8 := by
  rw [show (8 : Int32) = nI 8 from rfl, nI_leI (by omega) (by omega)]
  omega
theorem put_bad (a1 : Int64) (y : SR) : ∀ (n k : Nat) (v : Int64), k ≤ 8 → 8 - k < n → pX3_put_L8 a1 n (nI k) v 0 y = (-2, y) := by
  intro n
  induction n with
  | zero => intro k v h1 h2; omega
  | succ n ih =>
    intro k v h1 h2
    rw [pX3_put_L8]
    by_cases c : (8 : Int32) ≤ nI k
    · rw [if_pos c]
      by_cases d : nI k = 0
      · rw [if_pos d]
      · rw [if_neg d, if_pos (show (0 : Int32) = 0 from rfl)]
    · rw [if_neg c]
      have hk : ¬ k = 8 := fun z => c ((n8 h1).mpr z)
      by_cases e : lg_cmp (v &&& 255) 0 = 0
      · rw [if_pos e]
        by_cases d : nI k = 0
        · rw [if_pos d]
        · rw [if_neg d, if_pos (show (0 : Int32) = 0 from rfl)]
      · rw [if_neg e, if_pos (show (0 : Int32) = 0 from rfl), nI_1]
        exact ih (k + 1) _ (by omega) (by omega)
def PUT (a1 : Int64) (y : SR) (n k : Nat) (v : Int64) : Prop := (pX3_put_L8 a1 n (nI k) v 1 y = (-2, y) ∧ pX2_charactersIn_L5 a1 n v (nI k) = 0) ∨ ∃ (w : Int64) (c : Nat), 1 ≤ c ∧ c ≤ 8 ∧ pX2_charactersIn_L5 a1 n v (nI k) = nI c ∧ pX3_put_L8 a1 n (nI k) v 1 y = if ((y.1 1) + nI c) ≤ 80 then pX3_put_L105 a1 9 (nI c) w 1 (nI c - 1) y else (-4, y)
theorem put_ok (a1 : Int64) (y : SR) : ∀ (n k : Nat) (v : Int64), k ≤ 8 → 8 - k < n → PUT a1 y n k v := by
  intro n
  induction n with
  | zero => intro k v h1 h2; omega
  | succ n ih =>
    intro k v h1 h2
    unfold PUT
    rw [pX3_put_L8, pX2_charactersIn_L5]
    have ends : ((if nI k = 0 then (((-2) : Int32), y) else if (1 : Int32) = 0 then (((-2) : Int32), y) else if (lg_cmp v 0) = 0 then if ((y.1 1) + nI k) ≤ 80 then pX3_put_L105 a1 9 (nI k) v 1 (nI k - 1) y else (((-4) : Int32), y) else (((-2) : Int32), y)) = (-2, y) ∧ (if (lg_cmp v 0) = 0 then nI k else 0) = 0) ∨ ∃ (w : Int64) (c : Nat), 1 ≤ c ∧ c ≤ 8 ∧ (if (lg_cmp v 0) = 0 then nI k else 0) = nI c ∧ (if nI k = 0 then (((-2) : Int32), y) else if (1 : Int32) = 0 then (((-2) : Int32), y) else if (lg_cmp v 0) = 0 then if ((y.1 1) + nI k) ≤ 80 then pX3_put_L105 a1 9 (nI k) v 1 (nI k - 1) y else (((-4) : Int32), y) else (((-2) : Int32), y)) = if ((y.1 1) + nI c) ≤ 80 then pX3_put_L105 a1 9 (nI c) w 1 (nI c - 1) y else (-4, y) := by
      by_cases d : nI k = 0
      · refine Or.inl ⟨if_pos d, ?_⟩
        rw [d]
        by_cases e : lg_cmp v 0 = 0
        · rw [if_pos e]
        · rw [if_neg e]
      · rw [if_neg d, if_neg (show ¬ (1 : Int32) = 0 by decide)]
        by_cases e : lg_cmp v 0 = 0
        · rw [if_pos e, if_pos e]
          refine Or.inr ⟨v, k, ?_, h1, rfl, rfl⟩
          rcases Nat.eq_zero_or_pos k with z | z
          · exact absurd (by rw [z]; rfl) d
          · exact z
        · rw [if_neg e, if_neg e]
          exact Or.inl ⟨rfl, rfl⟩
    by_cases c : (8 : Int32) ≤ nI k
    · rw [if_pos c, if_pos c]
      exact ends
    · rw [if_neg c, if_neg c]
      have hk : ¬ k = 8 := fun z => c ((n8 h1).mpr z)
      obtain ⟨d, hd, ed⟩ := by_lN v
      rw [ed, by_i d hd]
      by_cases e : lg_cmp (lN d) 0 = 0
      · rw [if_pos e, if_pos e]
        exact ends
      · rw [if_neg e, if_neg e, if_neg (show ¬ (1 : Int32) = 0 by decide), win_le, nI_1]
        by_cases f : d < 33
        · rw [if_pos (show nI d < 33 by rw [show (33 : Int32) = nI 33 from rfl, nI_ltI (by omega) (by omega)]; exact f), if_pos (show (0 : Int32) = 0 from rfl), if_pos ((by_33 d hd).mpr f)]
          exact Or.inl ⟨put_bad a1 y n (k + 1) _ (by omega) (by omega), rfl⟩
        · rw [if_neg (show ¬ nI d < 33 by rw [show (33 : Int32) = nI 33 from rfl, nI_ltI (by omega) (by omega)]; exact f), if_neg (fun z => f ((by_33 d hd).mp z))]
          by_cases g : d ≤ 126
          · rw [if_pos (show nI d ≤ 126 by rw [show (126 : Int32) = nI 126 from rfl, nI_leI (by omega) (by omega)]; exact g), if_neg (show ¬ (1 : Int32) = 0 by decide), if_pos ((by_126 d hd).mpr g)]
            exact ih (k + 1) (lush v 8) (by omega) (by omega)
          · rw [if_neg (show ¬ nI d ≤ 126 by rw [show (126 : Int32) = nI 126 from rfl, nI_leI (by omega) (by omega)]; exact g), if_pos (show (0 : Int32) = 0 from rfl), if_neg (fun z => g ((by_126 d hd).mp z))]
            exact Or.inl ⟨put_bad a1 y n (k + 1) _ (by omega) (by omega), rfl⟩
theorem ch_d {d : Nat} (h : d < 256) : isCh (nI d) := by
  refine ⟨le0_nI (by omega), ?_⟩
  rw [show (65535 : Int32) = nI 65535 from rfl, nI_leI (by omega) (by omega)]
  omega
/-- one character more -/
theorem RT.app {t : TV} {y : SR} (h : RT t y) {Ly d : Nat} (hd : d < 256) (eL : y.1 1 = nI Ly) (hL : Ly < 80) : RT (tP t (pX0_append (i2c (nI d)) t.2.1)) (pS (pR y 5 (y.1 1) (nI d)) 1 ((y.1 1) + 1)) ∧ (pS (pR y 5 (y.1 1) (nI d)) 1 ((y.1 1) + 1)).1 1 = nI (Ly + 1) := by
  obtain ⟨h0, hh, hs, e0, e1, ec, eh, e3⟩ := h
  have hix : ix (nI Ly) = Ly := ix_nI (by omega)
  have p0 : t.2.1.1 0 = nI Ly := e0.trans eL
  rw [eL, nI_toInt (by omega)] at ec
  rw [pX0_append, p0, eL, if_neg (nI_pos (by omega)), if_neg (n80 hL), by_c d hd, nI_1]
  generalize hP : pS (pR t.2.1 0 (nI Ly) (nI d)) 0 (nI (Ly + 1)) = P
  generalize hY : pS (pR y 5 (nI Ly) (nI d)) 1 (nI (Ly + 1)) = Y
  have P0 : P.1 0 = nI (Ly + 1) := by
    rw [← hP]
    exact pS_at _ 0 _
  have Pc : P.2 0 = up (t.2.1.2 0) Ly (nI d) := by
    rw [← hP]
    show up t.2.1.2 0 (up (t.2.1.2 0) (ix (nI Ly)) (nI d)) 0 = _
    rw [up_same, hix]
  have Y1 : Y.1 1 = nI (Ly + 1) := by
    rw [← hY]
    exact pS_at _ 1 _
  have Yn : ∀ i, i ≠ 1 → Y.1 i = y.1 i := fun i hi => by
    rw [← hY]
    exact up_ne y.1 _ hi
  have Yc : Y.2 5 = up (y.2 5) Ly (nI d) := by
    rw [← hY]
    show up y.2 5 (up (y.2 5) (ix (nI Ly)) (nI d)) 5 = _
    rw [up_same, hix]
  have Yo : ∀ q, q ≠ 5 → Y.2 q = y.2 q := fun q hq => by
    rw [← hY]
    exact up_ne y.2 _ hq
  refine ⟨⟨by rw [Yo 0 (by decide)]; exact h0, hh.cg rfl (fun _ _ _ => rfl) (Yn 0 (by decide)) (Yo 2 (by decide)), hs.cg rfl (fun _ _ => rfl) (Yo 3 (by decide)) (Yo 4 (by decide)), P0.trans Y1.symm, ?_, fun j hj => ?_, fun k => ?_, ?_⟩, Y1⟩
  · rw [Y1]
    unfold inI
    rw [nI_toInt (by omega)]
    omega
  · rw [Y1, nI_toInt (by omega)] at hj
    show P.2 0 j = Y.2 5 j
    rw [Pc, Yc]
    by_cases c : j = Ly
    · rw [c, up_same, up_same]
    · rw [up_ne _ _ c, up_ne _ _ c]
      exact ec j (by omega)
  · show isCh (P.2 0 k)
    rw [Pc]
    by_cases c : k = Ly
    · rw [c, up_same]
      exact ch_d hd
    · rw [up_ne _ _ c]
      exact eh k
  · rw [Yn 3 (by decide)]
    exact e3
theorem nI_m1 (j : Nat) : nI j + (-1) = nI j - 1 := (Int32.sub_eq_add_neg (nI j) 1).symm
theorem put_L (a1 : Int64) (v3 c d : Int32) (w : Int64) : ∀ (j n m Ly : Nat) (t : TV) (y : SR), RT t y → y.1 1 = nI Ly → Ly + j ≤ 80 → j < n → j < m → (pX2_put_L34 a1 n v3 (nI j - 1) t).1 = (pX3_put_L105 a1 m c w d (nI j - 1) y).1 ∧ RT (pX2_put_L34 a1 n v3 (nI j - 1) t).2 (pX3_put_L105 a1 m c w d (nI j - 1) y).2 := by
  intro j
  induction j with
  | zero =>
    intro n m Ly t y h eL hL h1 h2
    obtain ⟨n, rfl⟩ : ∃ n', n = n' + 1 := ⟨n - 1, by omega⟩
    obtain ⟨m, rfl⟩ : ∃ m', m = m' + 1 := ⟨m - 1, by omega⟩
    rw [pX2_put_L34, pX3_put_L105, if_pos (show nI 0 - 1 < 0 by decide), if_pos (show nI 0 - 1 < 0 by decide)]
    exact ⟨h.2.2.2.1, h⟩
  | succ j ih =>
    intro n m Ly t y h eL hL h1 h2
    obtain ⟨n, rfl⟩ : ∃ n', n = n' + 1 := ⟨n - 1, by omega⟩
    obtain ⟨m, rfl⟩ : ∃ m', m = m' + 1 := ⟨m - 1, by omega⟩
    obtain ⟨d', hd, ed⟩ := by_lN (lush a1 (8 * nI j))
    rw [pX2_put_L34, pX3_put_L105, nI_pred, if_neg (nI_pos (by omega)), if_neg (nI_pos (by omega)), nI_m1, ed, by_i d' hd]
    obtain ⟨g1, g2⟩ := h.app hd eL (by omega)
    exact ih n m (Ly + 1) _ _ g1 g2 (by omega) (by omega) (by omega)
theorem put_eq {t : TV} {y : SR} (h : RT t y) (a1 : Int64) : (pX2_put a1 t).1 = (pX3_put a1 y).1 ∧ RT (pX2_put a1 t).2 (pX3_put a1 y).2 := by
  have g := put_ok a1 y 9 0 a1 (by decide) (by decide)
  unfold PUT at g
  rw [nI_0] at g
  rw [pX2_put, pX3_put, pX2_charactersIn]
  rcases g with ⟨g1, g2⟩ | ⟨w, c, c1, c8, g1, g2⟩
  · rw [g1, g2, if_pos (show (0 : Int32) = 0 from rfl)]
    exact ⟨rfl, h⟩
  · obtain ⟨Ly, hL, eL⟩ := vp_in_of (x := y.1 1) (n := 81) (vp_in_iff.mpr ⟨h.2.2.2.2.1.1, by have := h.2.2.2.2.1.2; omega⟩) (by decide)
    rw [g1, g2, if_neg (show ¬ nI c = 0 from fun z => by have := (nI_eq (a := c) (b := 0) (by omega) (by omega)).mp (z.trans nI_0.symm); omega), h.2.2.2.1, eL]
    by_cases e : nI Ly + nI c ≤ 80
    · rw [if_pos e, if_pos e]
      rw [nI_add, show (80 : Int32) = nI 80 from rfl, nI_leI (by omega) (by omega)] at e
      exact put_L a1 (nI c) (nI c) 1 w c 9 9 Ly t y h eL e (by omega) (by omega)
    · rw [if_neg e, if_neg e]
      exact ⟨rfl, h⟩
theorem wipe_eq {t : TV} {y : SR} (h : RT t y) : (pX2_wipe t).1 = (pX3_wipe y).1 ∧ RT (pX2_wipe t).2 (pX3_wipe y).2 := by
  obtain ⟨h0, hh, hs, e0, e1, ec, eh, e3⟩ := h
  rw [pX2_wipe, pX3_wipe]
  refine ⟨e0, h0, hh.cg rfl (fun _ _ _ => rfl) (pS_ne y 0 (show (0 : Nat) ≠ 1 by decide)) rfl, hs.cg rfl (fun _ _ => rfl) rfl rfl, rfl, ?_, fun j hj => ?_, eh, ?_⟩
  · show inI 0 0 80
    unfold inI
    decide
  · have hj' : (j : Int) < Int32.toInt 0 := hj
    rw [show Int32.toInt 0 = 0 from rfl] at hj'
    omega
  · show inI (up y.1 1 0 3) 0 81
    rw [up_ne _ _ (show (3 : Nat) ≠ 1 by decide)]
    exact e3
-- what the contracts ask
theorem RT.mf {t : TV} {y : SR} (h : RT t y) : Mf (y.2 0) := by
  obtain ⟨⟨⟨-, s, -, k, -⟩, h4, -⟩, -⟩ := h
  refine ⟨⟨s.1.2, s.2.2.2.2.2.2.1, k.1.1, k.1.2⟩, h4⟩
theorem RT.pa {t : TV} {y : SR} (h : RT t y) : PA y := by
  obtain ⟨-, -, -, -, e1, -, -, e3⟩ := h
  exact ⟨e3.1, e3.2, e1.2⟩
theorem RT.r0 {t : TV} {y : SR} (h : RT t y) : 0 ≤ Int32.toInt (y.1 0) := h.2.1.2.1.1
theorem RT.r6 {t : TV} {y : SR} (h : RT t y) : Int32.toInt (y.1 0) ≤ 6 := h.2.1.2.1.2
theorem RT.l0 {t : TV} {y : SR} (h : RT t y) : 0 ≤ Int32.toInt (y.1 1) := h.2.2.2.2.1.1
theorem RT.l80 {t : TV} {y : SR} (h : RT t y) : Int32.toInt (y.1 1) ≤ 80 := h.2.2.2.2.1.2
theorem RT.ch {t : TV} {y : SR} (h : RT t y) : chOK t.2.1 := h.2.2.2.2.2.2.1
