theorem sub10_in {a : Int32} (h1 : 10 ≤ Int32.toInt a) (h2 : Int32.toInt a < 17) : vp_in (a - 10) 7 := by
  have e : (a - 10).toInt = a.toInt - 10 := by
    rw [Int32.toInt_sub, show (10 : Int32).toInt = 10 from rfl, Int.bmod_eq_of_le] <;> omega
  exact vp_in_iff.mpr ⟨by omega, by omega⟩
