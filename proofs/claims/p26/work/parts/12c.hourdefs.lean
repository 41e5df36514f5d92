-- what the law's rows hold at every hour (hours at most B)
def HQ (B : Int) (x : SR) : Prop := (0 ≤ Int32.toInt (x.2 0 (ix 11)) ∧ Int32.toInt (x.2 0 (ix 11)) ≤ 5) ∧ (1 ≤ Int32.toInt (x.2 0 (ix 6)) ∧ Int32.toInt (x.2 0 (ix 6)) ≤ 20) ∧ (0 ≤ Int32.toInt (x.2 0 (ix 0)) ∧ Int32.toInt (x.2 0 (ix 0)) ≤ 12) ∧ (0 ≤ Int32.toInt (x.2 0 (ix 7)) ∧ Int32.toInt (x.2 0 (ix 7)) ≤ B) ∧ ∀ k : Nat, k < 5 → inI (x.2 2 (5 * k)) 0 11
theorem pR_or {x : SR} {r : Nat} {k v : Int32} {j : Nat} (h : j ≠ r) : (pR x r k v).2 j = x.2 j := up_ne _ _ h
theorem pR_sm (x : SR) (r : Nat) (k v : Int32) : (pR x r k v).2 r = up (x.2 r) (ix k) v := up_same _ _ _
theorem pR_off {x : SR} {r : Nat} {k v : Int32} {j q : Nat} (h : j ≠ r ∨ q ≠ ix k) : (pR x r k v).2 j q = x.2 j q := by
  by_cases e : j = r
  · subst e
    rw [pR_sm, up_ne _ _ (h.resolve_left (fun z => z rfl))]
  · rw [pR_or e]
theorem t_add {a b : Int32} (h : -2147483648 ≤ Int32.toInt a + Int32.toInt b ∧ Int32.toInt a + Int32.toInt b < 2147483648) : Int32.toInt (a + b) = Int32.toInt a + Int32.toInt b := by
  rw [Int32.toInt_add, Int.bmod_eq_of_le] <;> omega
theorem t_sub {a b : Int32} (h : -2147483648 ≤ Int32.toInt a - Int32.toInt b ∧ Int32.toInt a - Int32.toInt b < 2147483648) : Int32.toInt (a - b) = Int32.toInt a - Int32.toInt b := by
  rw [Int32.toInt_sub, Int.bmod_eq_of_le] <;> omega
theorem nI_v {v : Int32} {n : Nat} (h0 : 0 ≤ Int32.toInt v) (h1 : Int32.toInt v < (n : Int)) (hn : n < 2147483648) : ∃ k : Nat, k < n ∧ v = nI k := vp_in_of (vp_in_iff.mpr ⟨h0, h1⟩) (by omega)
theorem f5 (k : Nat) : (5 : Int32) * nI k = nI (5 * k) := nI_mulN 5 k
theorem ix5 {k : Nat} (h : k < 1000) : ix (5 * nI k) = 5 * k := by rw [f5, ix_nI (by omega)]
theorem ix5a {k j : Nat} (h : k < 1000) (hj : j < 5) : ix (5 * nI k + nI j) = 5 * k + j := by rw [f5, nI_add, ix_nI (by omega)]
theorem hk9 {x : SR} (h : ∀ k : Nat, k < 5 → inI (x.2 2 (5 * k)) 0 11) {v : Int32} (h0 : 0 ≤ Int32.toInt v) (h1 : Int32.toInt v < 5) : inI (x.2 2 (ix (5 * v))) 0 11 := by
  obtain ⟨k, hk, rfl⟩ := nI_v (n := 5) h0 h1 (by decide)
  rw [ix5 (by omega)]
  exact h k hk
theorem HQ.pp {B : Int} {x : SR} {i v : Int32} (h : HQ B x) : HQ B (pR x 1 i v) := by
  unfold HQ at h ⊢
  rw [pR_or (show (0 : Nat) ≠ 1 by decide), pR_or (show (2 : Nat) ≠ 1 by decide)]
  exact h
theorem HQ.q0 {B : Int} {x : SR} {i v : Int32} (h : HQ B x) (h1 : ix 11 ≠ ix i) (h2 : ix 6 ≠ ix i) (h3 : ix 0 ≠ ix i) (h4 : ix 7 ≠ ix i) : HQ B (pR x 0 i v) := by
  unfold HQ at h ⊢
  rw [pR_off (Or.inr h1), pR_off (Or.inr h2), pR_off (Or.inr h3), pR_off (Or.inr h4), pR_or (show (2 : Nat) ≠ 0 by decide)]
  exact h
theorem HQ.k1 {B : Int} {x : SR} {v w : Int32} (h : HQ B x) (h0 : 0 ≤ Int32.toInt v) (h1 : Int32.toInt v < 5) (hw : inI w 0 11) : HQ B (pR x 2 (5 * v) w) := by
  obtain ⟨a, b, c, d, e⟩ := h
  obtain ⟨k, hk, rfl⟩ := nI_v (n := 5) h0 h1 (by decide)
  unfold HQ
  rw [pR_or (show (0 : Nat) ≠ 2 by decide)]
  refine ⟨a, b, c, d, fun j hj => ?_⟩
  rw [pR_sm, ix5 (by omega)]
  by_cases q : j = k
  · rw [q, up_same]
    exact hw
  · rw [up_ne _ _ (by omega)]
    exact e j hj
theorem HQ.kj {B : Int} {x : SR} {v c w : Int32} (h : HQ B x) (h0 : 0 ≤ Int32.toInt v) (h1 : Int32.toInt v < 5) (hc : 1 ≤ Int32.toInt c) (hc4 : Int32.toInt c ≤ 4) : HQ B (pR x 2 (5 * v + c) w) := by
  obtain ⟨a, b, c2, d, e⟩ := h
  obtain ⟨k, hk, rfl⟩ := nI_v (n := 5) h0 h1 (by decide)
  obtain ⟨i, hi, rfl⟩ := nI_v (v := c) (n := 5) (by omega) (by omega) (by decide)
  rw [nI_toInt (by omega)] at hc
  unfold HQ
  rw [pR_or (show (0 : Nat) ≠ 2 by decide)]
  refine ⟨a, b, c2, d, fun j hj => ?_⟩
  rw [pR_off (Or.inr (by rw [ix5a (by omega) hi]; omega))]
  exact e j hj
theorem HQ.kJ {B : Int} {x : SR} {v c w : Int32} (h : HQ B x) (h0 : 0 ≤ Int32.toInt v) (h1 : Int32.toInt v < 5) (hc : 1 ≤ Int32.toInt c ∧ Int32.toInt c ≤ 4) : HQ B (pR x 2 (5 * v + c) w) := h.kj h0 h1 hc.1 hc.2
theorem HQ.ne6 {B : Int} {x : SR} (h : HQ B x) : ¬ x.2 0 (ix 6) = 0 := fun q => by
  have := h.2.1.1
  rw [q] at this
  exact absurd this (by decide)
theorem HQ.mono {B C : Int} {x : SR} (h : HQ B x) (hBC : B ≤ C) : HQ C x := ⟨h.1, h.2.1, h.2.2.1, ⟨h.2.2.2.1.1, Int.le_trans h.2.2.2.1.2 hBC⟩, h.2.2.2.2⟩
theorem near_L2i {M a : Int32} (ha : inI a 0 11) : ∀ (n : Nat) (v : Int32), 0 ≤ Int32.toInt v → Int32.toInt v ≤ 12 → -1 ≤ Int32.toInt (pL_near_L2 M a n v) ∧ Int32.toInt (pL_near_L2 M a n v) ≤ 11 := by
  obtain ⟨a0, a1⟩ := ha
  have l0 : Int32.toInt 0 = 0 := rfl
  have l1 : Int32.toInt (-1) = -1 := rfl
  have l12 : Int32.toInt 12 = 12 := rfl
  intro n
  induction n with
  | zero => intro v h0 h1; rw [pL_near_L2, l0]; omega
  | succ n ih =>
    intro v h0 h1
    have es := t_sub (a := a) (b := v) (by omega)
    have ea := t_add (a := a) (b := v) (by omega)
    rw [pL_near_L2]
    by_cases c1 : 12 ≤ v
    · rw [if_pos c1, l1]
      omega
    · rw [if_neg c1]
      rw [Int32.le_iff_toInt_le, l12] at c1
      have ai := i_add1 (a := v) (by omega) (by omega)
      have go := ih (v + 1) (by omega) (by omega)
      have up : (if 12 ≤ (a + v) then pL_near_L2 M a n (v + 1) else if ((M >>> ((a + v) &&& 31)) &&& 1) = 1 then (a + v) else pL_near_L2 M a n (v + 1)) = pL_near_L2 M a n (v + 1) ∨ ((if 12 ≤ (a + v) then pL_near_L2 M a n (v + 1) else if ((M >>> ((a + v) &&& 31)) &&& 1) = 1 then (a + v) else pL_near_L2 M a n (v + 1)) = a + v ∧ Int32.toInt (a + v) ≤ 11) := by
        by_cases c2 : 12 ≤ (a + v)
        · rw [if_pos c2]
          exact Or.inl rfl
        · rw [if_neg c2]
          rw [Int32.le_iff_toInt_le, l12] at c2
          by_cases c3 : ((M >>> ((a + v) &&& 31)) &&& 1) = 1
          · rw [if_pos c3]
            exact Or.inr ⟨rfl, by omega⟩
          · rw [if_neg c3]
            exact Or.inl rfl
      have fin : -1 ≤ Int32.toInt (if 12 ≤ (a + v) then pL_near_L2 M a n (v + 1) else if ((M >>> ((a + v) &&& 31)) &&& 1) = 1 then (a + v) else pL_near_L2 M a n (v + 1)) ∧ Int32.toInt (if 12 ≤ (a + v) then pL_near_L2 M a n (v + 1) else if ((M >>> ((a + v) &&& 31)) &&& 1) = 1 then (a + v) else pL_near_L2 M a n (v + 1)) ≤ 11 := by
        rcases up with e | ⟨e, h⟩
        · rw [e]
          exact go
        · rw [e]
          omega
      by_cases c4 : (a - v) < 0
      · rw [if_pos c4]
        exact fin
      · rw [if_neg c4]
        rw [Int32.lt_iff_toInt_lt, l0] at c4
        by_cases c5 : ((M >>> ((a - v) &&& 31)) &&& 1) = 1
        · rw [if_pos c5]
          omega
        · rw [if_neg c5]
          exact fin
theorem near_hi {M a : Int32} (ha : inI a 0 11) : -1 ≤ Int32.toInt (pL_near M a) ∧ Int32.toInt (pL_near M a) ≤ 11 := by
  rw [pL_near]
  exact near_L2i ha 13 0 (by decide) (by decide)
theorem go_in {a to : Int32} (ha : inI a 0 11) (h0 : 0 ≤ Int32.toInt to) (h1 : Int32.toInt to ≤ 11) (hne : ¬ to = a) : inI (a + (if to ≤ a then (-1) else 1)) 0 11 := by
  obtain ⟨a0, a1⟩ := ha
  have l1 : Int32.toInt (-1) = -1 := rfl
  have l2 : Int32.toInt 1 = 1 := rfl
  have hn : Int32.toInt to ≠ Int32.toInt a := fun q => hne (Int32.toInt_inj.mp q)
  unfold inI
  by_cases c : to ≤ a
  · rw [if_pos c, t_add (by rw [l1]; omega), l1]
    rw [Int32.le_iff_toInt_le] at c
    omega
  · rw [if_neg c, t_add (by rw [l2]; omega), l2]
    rw [Int32.le_iff_toInt_le] at c
    omega

def pL_hour_J110s0 (w3 : Int32) : Int32 := if w3 = 0 then 2
  else 1
def pL_hour_J121s0 (w3 : Int32) (v13 : Int32) (zq : SR) : Int32 := if (zq.2 1 (ix ((5 * v13) + 2))) = (pL_hour_J110s0 w3) then (1 <<< (v13 &&& 31))
  else 0
def pL_hour_J158s0 (v13 : Int32) (zq : SR) : Int32 := if 2 ≤ (zq.2 1 (ix ((5 * v13) + 2))) then 0
  else if (zq.2 0 (ix 5)) ≤ (zq.2 1 (ix (5 * v13))) then 0
    else (1 <<< (v13 &&& 31))
def pL_hour_L62 (w3 : Int32) (w6 : Int32) : Nat → Int32 → Int32 → Int32 → SR → (Int32 × Int32)
  | 0, v11, v12, v13, zq => (v11, v12)
  | n + 1, v11, v12, v13, zq => if 12 ≤ v13 then (v11, v12)
    else if (zq.2 1 (ix (5 * v13))) < 0 then pL_hour_L62 w3 w6 n v11 v12 (v13 + 1) zq
      else if ((w6 >>> (v13 &&& 31)) &&& 1) = 0 then pL_hour_L62 w3 w6 n v11 v12 (v13 + 1) zq
        else pL_hour_L62 w3 w6 n (v11 ||| (pL_hour_J121s0 w3 v13 zq)) (v12 ||| (pL_hour_J158s0 v13 zq)) (v13 + 1) zq
def pL_hour_E62 (w3 : Int32) (v6 : Int32) (zq : SR) : Int32 × Int32 := pL_hour_L62 w3 v6 13 0 0 0 zq
def pL_hour_J179s0 (w3 : Int32) (v6 : Int32) (zq : SR) : Int32 := if ((pL_hour_E62 w3 v6 zq).1) = 0 then ((pL_hour_E62 w3 v6 zq).2)
  else ((pL_hour_E62 w3 v6 zq).1)
def pL_hour_J320s0 (w3 : Int32) (v6 : Int32) (v9 : Int32) (zq : SR) : Int32 := if (zq.2 1 (ix (5 * (pL_near (pL_hour_J179s0 w3 v6 zq) (zq.2 2 (ix (5 * v9))))))) ≤ 90 then ((zq.2 1 (ix (5 * (pL_near (pL_hour_J179s0 w3 v6 zq) (zq.2 2 (ix (5 * v9))))))) + 10)
  else 100
def pL_hour_J268s0 (w3 : Int32) : Int32 := if w3 = 0 then 1
  else 2
def pL_hour_J281s0 (w3 : Int32) : Int32 := if w3 = 0 then 2
  else 1
def pL_hour_J232s0 (w3 : Int32) (v6 : Int32) (v9 : Int32) (zq : SR) : Int32 := if (pL_near (pL_hour_J179s0 w3 v6 zq) (zq.2 2 (ix (5 * v9)))) ≤ (zq.2 2 (ix (5 * v9))) then (-1)
  else 1
def pL_hour_L38 (w3 : Int32) : Nat → Int32 → Int32 → SR → (SR)
  | 0, v6, v9, zq => zq
  | n + 1, v6, v9, zq => if (zq.2 0 (ix 11)) ≤ v9 then zq
    else if (pL_near (pL_hour_J179s0 w3 v6 zq) (zq.2 2 (ix (5 * v9)))) < 0 then pL_hour_L38 w3 n v6 (v9 + 1) zq
      else if (pL_near (pL_hour_J179s0 w3 v6 zq) (zq.2 2 (ix (5 * v9)))) = (zq.2 2 (ix (5 * v9))) then if ((pL_hour_E62 w3 v6 zq).1) = 0 then pL_hour_L38 w3 n (v6 &&& ((1 <<< ((pL_near (pL_hour_J179s0 w3 v6 zq) (zq.2 2 (ix (5 * v9)))) &&& 31)) ^^^ (-1))) (v9 + 1) (pR (pR zq 1 (5 * (pL_near (pL_hour_J179s0 w3 v6 zq) (zq.2 2 (ix (5 * v9))))) (pL_hour_J320s0 w3 v6 v9 zq)) 2 ((5 * v9) + 3) ((zq.2 2 (ix ((5 * v9) + 3))) + 1))
          else pL_hour_L38 w3 n (v6 &&& ((1 <<< ((pL_near (pL_hour_J179s0 w3 v6 zq) (zq.2 2 (ix (5 * v9)))) &&& 31)) ^^^ (-1))) (v9 + 1) (pR (pR zq 1 ((5 * (pL_near (pL_hour_J179s0 w3 v6 zq) (zq.2 2 (ix (5 * v9))))) + 2) (pL_hour_J268s0 w3)) 2 ((5 * v9) + (pL_hour_J281s0 w3)) ((zq.2 2 (ix ((5 * v9) + (pL_hour_J281s0 w3)))) + 1))
        else pL_hour_L38 w3 n (v6 &&& ((1 <<< ((pL_near (pL_hour_J179s0 w3 v6 zq) (zq.2 2 (ix (5 * v9)))) &&& 31)) ^^^ (-1))) (v9 + 1) (pR (pR zq 2 (5 * v9) ((zq.2 2 (ix (5 * v9))) + (pL_hour_J232s0 w3 v6 v9 zq))) 2 ((5 * v9) + 4) (((pR zq 2 (5 * v9) ((zq.2 2 (ix (5 * v9))) + (pL_hour_J232s0 w3 v6 v9 zq))).2 2 (ix ((5 * v9) + 4))) + 1))
def pL_hour_E38 (xq : SR) : SR := pL_hour_L38 (pL_ahead xq) 6 4095 0 xq
def pL_hour_L340 : Nat → Int32 → Int32 → SR → (Int32)
  | 0, v8, v9, zq => v8
  | n + 1, v8, v9, zq => if (zq.2 0 (ix 11)) ≤ v9 then v8
    else pL_hour_L340 n (v8 ||| (1 <<< ((zq.2 2 (ix (5 * v9))) &&& 31))) (v9 + 1) zq
def pL_hour_E340 (xq : SR) : Int32 := pL_hour_L340 6 0 0 (pL_hour_E38 xq)
def pL_hour_J515s0 (v9 : Int32) (zq : SR) : Int32 := if (zq.2 0 (ix 2)) ≤ (zq.2 1 (ix ((5 * v9) + 1))) then ((zq.2 1 (ix ((5 * v9) + 1))) - (zq.2 0 (ix 2)))
  else 0
def pL_hour_J589s0 (v9 : Int32) (zq : SR) : Int32 := if ((pR (pR zq 1 ((5 * v9) + 1) (pL_hour_J515s0 v9 zq)) 1 ((5 * v9) + 3) (((pR zq 1 ((5 * v9) + 1) (pL_hour_J515s0 v9 zq)).2 1 (ix ((5 * v9) + 3))) + (((zq.2 0 (ix 4)) * ((pR zq 1 ((5 * v9) + 1) (pL_hour_J515s0 v9 zq)).2 1 (ix (5 * v9)))) / 100))).2 1 (ix (5 * v9))) ≤ 0 then 0
  else 1
def pL_hour_J444s0 (v9 : Int32) (zq : SR) : Int32 := if ((zq.2 1 (ix ((5 * v9) + 1))) + (zq.2 0 (ix 1))) ≤ 100 then ((zq.2 1 (ix ((5 * v9) + 1))) + (zq.2 0 (ix 1)))
  else 100
def pL_hour_J470s0 (v9 : Int32) (zq : SR) : Int32 := if (zq.2 0 (ix 3)) ≤ ((pR zq 1 ((5 * v9) + 1) (pL_hour_J444s0 v9 zq)).2 1 (ix (5 * v9))) then (((pR zq 1 ((5 * v9) + 1) (pL_hour_J444s0 v9 zq)).2 1 (ix (5 * v9))) - (zq.2 0 (ix 3)))
  else 0
def pL_hour_J591v7 (w4 : Int32) (w5 : Int32) (v7 : Int32) (v9 : Int32) (zq : SR) : Int32 := if w4 = 0 then if w5 < 8 then v7
    else if 22 ≤ w5 then v7
      else if 50 ≤ ((pR zq 1 ((5 * v9) + 1) (pL_hour_J515s0 v9 zq)).2 1 (ix ((5 * v9) + 1))) then v7
        else (v7 + (((zq.2 0 (ix 4)) * ((pR zq 1 ((5 * v9) + 1) (pL_hour_J515s0 v9 zq)).2 1 (ix (5 * v9)))) / 100))
  else v7
def pL_hour_J591xq (w4 : Int32) (w5 : Int32) (v9 : Int32) (zq : SR) : SR := if w4 = 0 then if w5 < 8 then (pR zq 1 ((5 * v9) + 1) (pL_hour_J515s0 v9 zq))
    else if 22 ≤ w5 then (pR zq 1 ((5 * v9) + 1) (pL_hour_J515s0 v9 zq))
      else if 50 ≤ ((pR zq 1 ((5 * v9) + 1) (pL_hour_J515s0 v9 zq)).2 1 (ix ((5 * v9) + 1))) then (pR zq 1 ((5 * v9) + 1) (pL_hour_J515s0 v9 zq))
        else (pR (pR (pR zq 1 ((5 * v9) + 1) (pL_hour_J515s0 v9 zq)) 1 ((5 * v9) + 3) (((pR zq 1 ((5 * v9) + 1) (pL_hour_J515s0 v9 zq)).2 1 (ix ((5 * v9) + 3))) + (((zq.2 0 (ix 4)) * ((pR zq 1 ((5 * v9) + 1) (pL_hour_J515s0 v9 zq)).2 1 (ix (5 * v9)))) / 100))) 1 (5 * v9) (((pR (pR zq 1 ((5 * v9) + 1) (pL_hour_J515s0 v9 zq)) 1 ((5 * v9) + 3) (((pR zq 1 ((5 * v9) + 1) (pL_hour_J515s0 v9 zq)).2 1 (ix ((5 * v9) + 3))) + (((zq.2 0 (ix 4)) * ((pR zq 1 ((5 * v9) + 1) (pL_hour_J515s0 v9 zq)).2 1 (ix (5 * v9)))) / 100))).2 1 (ix (5 * v9))) - (pL_hour_J589s0 v9 zq)))
  else (pR (pR (pR zq 1 ((5 * v9) + 1) (pL_hour_J444s0 v9 zq)) 1 (5 * v9) (pL_hour_J470s0 v9 zq)) 1 ((5 * v9) + 4) (((pR (pR zq 1 ((5 * v9) + 1) (pL_hour_J444s0 v9 zq)) 1 (5 * v9) (pL_hour_J470s0 v9 zq)).2 1 (ix ((5 * v9) + 4))) + 1))
def pL_hour_J660xq (w4 : Int32) (w5 : Int32) (w8 : Int32) (v9 : Int32) (zq : SR) : SR := if w5 < 6 then if ((pL_hour_J591xq w4 w5 v9 zq).2 1 (ix ((5 * v9) + 2))) = 1 then if ((w8 >>> (v9 &&& 31)) &&& 1) = 0 then if (((7 * ((pL_hour_J591xq w4 w5 v9 zq).2 0 (ix 7))) + (3 * v9)) - ((7 * ((pL_hour_J591xq w4 w5 v9 zq).2 0 (ix 7))) + (3 * v9)) / ((pL_hour_J591xq w4 w5 v9 zq).2 0 (ix 6)) * ((pL_hour_J591xq w4 w5 v9 zq).2 0 (ix 6))) = 0 then (pR (pR (pL_hour_J591xq w4 w5 v9 zq) 1 ((5 * v9) + 2) 0) 0 10 (((pL_hour_J591xq w4 w5 v9 zq).2 0 (ix 10)) + 1))
        else (pL_hour_J591xq w4 w5 v9 zq)
      else (pL_hour_J591xq w4 w5 v9 zq)
    else (pL_hour_J591xq w4 w5 v9 zq)
  else if w5 ≤ 21 then (pL_hour_J591xq w4 w5 v9 zq)
    else if ((pL_hour_J591xq w4 w5 v9 zq).2 1 (ix ((5 * v9) + 2))) = 1 then if ((w8 >>> (v9 &&& 31)) &&& 1) = 0 then if (((7 * ((pL_hour_J591xq w4 w5 v9 zq).2 0 (ix 7))) + (3 * v9)) - ((7 * ((pL_hour_J591xq w4 w5 v9 zq).2 0 (ix 7))) + (3 * v9)) / ((pL_hour_J591xq w4 w5 v9 zq).2 0 (ix 6)) * ((pL_hour_J591xq w4 w5 v9 zq).2 0 (ix 6))) = 0 then (pR (pR (pL_hour_J591xq w4 w5 v9 zq) 1 ((5 * v9) + 2) 0) 0 10 (((pL_hour_J591xq w4 w5 v9 zq).2 0 (ix 10)) + 1))
          else (pL_hour_J591xq w4 w5 v9 zq)
        else (pL_hour_J591xq w4 w5 v9 zq)
      else (pL_hour_J591xq w4 w5 v9 zq)
def pL_hour_L371 (w4 : Int32) (w5 : Int32) (w8 : Int32) : Nat → Int32 → Int32 → SR → (Int32 × SR)
  | 0, v7, v9, zq => (v7, zq)
  | n + 1, v7, v9, zq => if 12 ≤ v9 then (v7, zq)
    else if (zq.2 1 (ix (5 * v9))) < 0 then pL_hour_L371 w4 w5 w8 n v7 (v9 + 1) zq
      else if (zq.2 1 (ix ((5 * v9) + 2))) = 2 then pL_hour_L371 w4 w5 w8 n v7 (v9 + 1) zq
        else pL_hour_L371 w4 w5 w8 n (pL_hour_J591v7 w4 w5 v7 v9 zq) (v9 + 1) (pL_hour_J660xq w4 w5 w8 v9 zq)
def pL_hour_E371 (xq : SR) : Int32 × SR := pL_hour_L371 (pL_rains (xq.2 0 (ix 7)) xq) ((xq.2 0 (ix 7)) - (xq.2 0 (ix 7)) / 24 * 24) (pL_hour_E340 xq) 13 0 0 (pL_hour_E38 xq)
def pL_hour (xq : SR) : Int32 × SR := (((pL_hour_E371 xq).1), (pR (pR ((pL_hour_E371 xq).2) 0 9 ((((pL_hour_E371 xq).2).2 0 (ix 9)) + ((pL_hour_E371 xq).1))) 0 7 (((pR ((pL_hour_E371 xq).2) 0 9 ((((pL_hour_E371 xq).2).2 0 (ix 9)) + ((pL_hour_E371 xq).1))).2 0 (ix 7)) + 1)))
theorem HQ_L38 {B : Int} (w3 : Int32) : ∀ (n : Nat) (v6 v9 : Int32) (x : SR), HQ B x → 0 ≤ Int32.toInt v9 → Int32.toInt v9 ≤ 5 → HQ B (pL_hour_L38 w3 n v6 v9 x) := by
  intro n
  induction n with
  | zero => intro v6 v9 x h h0 h1; rw [pL_hour_L38]; exact h
  | succ n ih =>
    intro v6 v9 x h h0 h1
    rw [pL_hour_L38]
    by_cases c1 : (x.2 0 (ix 11)) ≤ v9
    · rw [if_pos c1]
      exact h
    · rw [if_neg c1]
      rw [Int32.le_iff_toInt_le] at c1
      have h11 := h.1.2
      have ai := i_add1 (a := v9) (by omega) (by omega)
      have hk := hk9 h.2.2.2.2 (v := v9) (by omega) (by omega)
      have hn := near_hi (M := pL_hour_J179s0 w3 v6 x) hk
      have go : ∀ (v6 : Int32) (y : SR), HQ B y → HQ B (pL_hour_L38 w3 n v6 (v9 + 1) y) := fun v6 y hy => ih v6 (v9 + 1) y hy (by omega) (by omega)
      by_cases c2 : (pL_near (pL_hour_J179s0 w3 v6 x) (x.2 2 (ix (5 * v9)))) < 0
      · rw [if_pos c2]
        exact go _ _ h
      · rw [if_neg c2]
        rw [Int32.lt_iff_toInt_lt, show Int32.toInt 0 = 0 from rfl] at c2
        by_cases c3 : (pL_near (pL_hour_J179s0 w3 v6 x) (x.2 2 (ix (5 * v9)))) = (x.2 2 (ix (5 * v9)))
        · rw [if_pos c3]
          by_cases c4 : ((pL_hour_E62 w3 v6 x).1) = 0
          · rw [if_pos c4]
            exact go _ _ (HQ.kj (HQ.pp h) (by omega) (by omega) (by decide) (by decide))
          · rw [if_neg c4]
            exact go _ _ (HQ.kJ (HQ.pp h) (by omega) (by omega) (by rw [pL_hour_J281s0]; split <;> exact ⟨by decide, by decide⟩))
        · rw [if_neg c3]
          exact go _ _ (HQ.kj (HQ.k1 h (by omega) (by omega) (by rw [pL_hour_J232s0]; exact go_in hk (by omega) hn.2 c3)) (by omega) (by omega) (by decide) (by decide))
theorem HQ_E38 {B : Int} {x : SR} (h : HQ B x) : HQ B (pL_hour_E38 x) := by
  rw [pL_hour_E38]
  exact HQ_L38 _ _ _ _ _ h (by decide) (by decide)
theorem HQ_J591 {B : Int} {x : SR} {w4 w5 v9 : Int32} (h : HQ B x) : HQ B (pL_hour_J591xq w4 w5 v9 x) := by
  rw [pL_hour_J591xq]
  by_cases c1 : w4 = 0
  · rw [if_pos c1]
    by_cases c2 : w5 < 8
    · rw [if_pos c2]
      exact HQ.pp h
    · rw [if_neg c2]
      by_cases c3 : 22 ≤ w5
      · rw [if_pos c3]
        exact HQ.pp h
      · rw [if_neg c3]
        by_cases c4 : 50 ≤ ((pR x 1 ((5 * v9) + 1) (pL_hour_J515s0 v9 x)).2 1 (ix ((5 * v9) + 1)))
        · rw [if_pos c4]
          exact HQ.pp h
        · rw [if_neg c4]
          exact HQ.pp (HQ.pp (HQ.pp h))
  · rw [if_neg c1]
    exact HQ.pp (HQ.pp (HQ.pp h))
/-- what a thief does at an open piano's place -/
def thf (y : SR) (v9 : Int32) : SR := pR (pR y 1 ((5 * v9) + 2) 0) 0 10 ((y.2 0 (ix 10)) + 1)
theorem HQ_thf {B : Int} {x : SR} {v9 : Int32} (h : HQ B x) : HQ B (thf x v9) := HQ.q0 (HQ.pp h) (by decide) (by decide) (by decide) (by decide)
theorem J660_or (w4 w5 w8 v9 : Int32) (x : SR) : pL_hour_J660xq w4 w5 w8 v9 x = pL_hour_J591xq w4 w5 v9 x ∨ pL_hour_J660xq w4 w5 w8 v9 x = thf (pL_hour_J591xq w4 w5 v9 x) v9 := by
  rw [pL_hour_J660xq]
  generalize pL_hour_J591xq w4 w5 v9 x = y
  unfold thf
  repeat' split
  all_goals first | exact Or.inl rfl | exact Or.inr rfl
theorem HQ_J660 {B : Int} {x : SR} {w4 w5 w8 v9 : Int32} (h : HQ B (pL_hour_J591xq w4 w5 v9 x)) : HQ B (pL_hour_J660xq w4 w5 w8 v9 x) := by
  rcases J660_or w4 w5 w8 v9 x with e | e
  · rw [e]
    exact h
  · rw [e]
    exact HQ_thf h
theorem HQ_L371 {B : Int} (w4 w5 w8 : Int32) : ∀ (n : Nat) (v7 v9 : Int32) (x : SR), HQ B x → HQ B (pL_hour_L371 w4 w5 w8 n v7 v9 x).2 := by
  intro n
  induction n with
  | zero => intro v7 v9 x h; rw [pL_hour_L371]; exact h
  | succ n ih =>
    intro v7 v9 x h
    rw [pL_hour_L371]
    by_cases c1 : 12 ≤ v9
    · rw [if_pos c1]
      exact h
    · rw [if_neg c1]
      by_cases c2 : (x.2 1 (ix (5 * v9))) < 0
      · rw [if_pos c2]
        exact ih _ _ _ h
      · rw [if_neg c2]
        by_cases c3 : (x.2 1 (ix ((5 * v9) + 2))) = 2
        · rw [if_pos c3]
          exact ih _ _ _ h
        · rw [if_neg c3]
          exact ih _ _ _ (HQ_J660 (HQ_J591 h))
theorem HQ_E371 {B : Int} {x : SR} (h : HQ B x) : HQ B (pL_hour_E371 x).2 := by
  rw [pL_hour_E371]
  exact HQ_L371 _ _ _ _ _ _ _ (HQ_E38 h)
theorem HQ_hour {B : Int} {x : SR} (h : HQ B x) (hB : B ≤ 1000000) : HQ (B + 1) (pL_hour x).2 := by
  obtain ⟨a, b, c, d, e⟩ := HQ_E371 h
  rw [pL_hour]
  dsimp only
  have e7 : ∀ (y : SR) (v : Int32), (pR y 0 9 v).2 0 (ix 7) = y.2 0 (ix 7) := fun y v => pR_off (Or.inr (by decide))
  rw [e7]
  unfold HQ
  rw [pR_or (show (2 : Nat) ≠ 0 by decide), pR_or (show (2 : Nat) ≠ 0 by decide), pR_sm]
  rw [up_ne _ _ (show ix 11 ≠ ix 7 by decide), up_ne _ _ (show ix 6 ≠ ix 7 by decide), up_ne _ _ (show ix 0 ≠ ix 7 by decide), up_same]
  rw [pR_off (Or.inr (by decide)), pR_off (Or.inr (by decide)), pR_off (Or.inr (by decide)), i_add1 (by omega) (by omega)]
  exact ⟨a, b, c, by omega, e⟩

