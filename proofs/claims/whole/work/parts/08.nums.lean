/-! numbers: places of arrays -/
theorem vi_lt {x m : Int32} (h0 : 0 ≤ x) (h : x < m) : vp_in x m.toInt.toNat := by
  rw [vp_in_iff]
  rw [Int32.le_iff_toInt_le] at h0
  rw [Int32.lt_iff_toInt_lt] at h
  have : (0 : Int32).toInt = 0 := rfl
  omega
