theorem mrm_len {most count : Int32} {n : Nat} {f : Nat → Int32} {p : Int32} (hn : n < 2147483648) (h : most.toInt ≤ 65536) : (m_By_makeRoom most count n f p).1 < 2147483648 := by
  unfold m_By_makeRoom
  by_cases c : (if count + p < most then count + p else most) ≤ nI n
  · rw [if_pos c]; exact hn
  · rw [if_neg c]; exact Nat.lt_of_le_of_lt (mr_by h) (by decide)
theorem mrm_fit {most count : Int32} {n : Nat} {f : Nat → Int32} {p : Int32} (hf : sb_Fit f) : sb_Fit (m_By_makeRoom most count n f p).2 := by
  unfold m_By_makeRoom
  by_cases c : (if count + p < most then count + p else most) ≤ nI n
  · rw [if_pos c]; exact hf
  · rw [if_neg c]; exact sb_fitC hf sb_fit0
