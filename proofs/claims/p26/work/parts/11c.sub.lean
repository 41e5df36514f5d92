theorem ix_lt {i : Int32} {n : Nat} (h : vp_in i n) : ix i < n := Nat.not_le.mp fun q => h (Or.inr q)
theorem sub10_in {a : Int32} (h1 : 10 ≤ Int32.toInt a) (h2 : Int32.toInt a < 17) : vp_in (a - 10) 7 := by
  have e : (a - 10).toInt = a.toInt - 10 := by
    rw [Int32.toInt_sub, show (10 : Int32).toInt = 10 from rfl, Int.bmod_eq_of_le] <;> omega
  exact vp_in_iff.mpr ⟨by omega, by omega⟩
theorem usub_in {u : Int32} (h1 : 1 ≤ Int32.toInt u) (h6 : Int32.toInt u ≤ 6) : vp_in (u - 1) 6 := by
  have e : (u - 1).toInt = u.toInt - 1 := by
    rw [Int32.toInt_sub, show (1 : Int32).toInt = 1 from rfl, Int.bmod_eq_of_le] <;> omega
  exact vp_in_iff.mpr ⟨by omega, by omega⟩
