theorem bec_len {nb n : Nat} {fb : Nat → Int32} {fn : Nat → Int64} {p1 p2 : Int32} (hn : n < 2147483648) : (m_Pa_become nb fb n fn p1 p2).2.2.2.1 < 2147483648 := by
  have key : ∀ q : Int32, (j_Pa_become_15 nb fb n fn p1 q).2.2.2.1 < 2147483648 := by
    intro q
    unfold j_Pa_become_15 k_Pa_become_24
    generalize (if 0 < (if (p1 * q) < 4096 then (p1 * q) else 4096) then (if (p1 * q) < 4096 then (p1 * q) else 4096) else 0) = z
    by_cases c : z ≤ nI n
    · rw [if_pos c]; exact hn
    · rw [if_neg c]; exact Nat.lt_of_le_of_lt (be_le _) (by decide)
  unfold m_Pa_become
  by_cases c : p1 = 0
  · rw [if_pos c]; exact key 0
  · rw [if_neg c]; exact key p2
