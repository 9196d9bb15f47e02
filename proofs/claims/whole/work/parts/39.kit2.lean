theorem tm_dn1 {v : Int32} (h : ¬ v < 0) : ((v + (-1)).toInt + 1).toNat < (v.toInt + 1).toNat := by
  rw [Int32.lt_iff_toInt_lt, Int32.toInt_zero] at h
  have h3 : (-1 : Int32).toInt = -1 := by decide
  have h4 := v.toInt_lt
  have h5 := i32_add (i := v) (-1) (by rw [h3]; omega) (by rw [h3]; omega)
  rw [h5, h3]
  omega
