/-! bits of 'seen', what a scan may still make -/
theorem i32_ext {a b : Int32} (h : ∀ i, i < 32 → a.toBitVec.getLsbD i = b.toBitVec.getLsbD i) : a = b := Int32.toBitVec_inj.mp (BitVec.eq_of_getLsbD_eq h)
theorem or_and_self (s k : Int32) : (s ||| k) &&& k = k := by
  apply i32_ext
  intro i hi
  rw [Int32.toBitVec_and, Int32.toBitVec_or, BitVec.getLsbD_and, BitVec.getLsbD_or]
  cases s.toBitVec.getLsbD i <;> cases k.toBitVec.getLsbD i <;> rfl
theorem or_and_mono {s k e : Int32} (h : (s ||| k) &&& e = 0) : s &&& e = 0 := by
  apply i32_ext
  intro i hi
  have h0 : (0 : Int32).toBitVec.getLsbD i = false := by
    show (0#32).getLsbD i = false
    exact BitVec.getLsbD_zero
  have h1 := congrArg (fun x : Int32 => x.toBitVec.getLsbD i) h
  simp only [Int32.toBitVec_and, Int32.toBitVec_or, BitVec.getLsbD_and, BitVec.getLsbD_or, h0] at h1
  rw [Int32.toBitVec_and, BitVec.getLsbD_and, h0]
  revert h1
  cases s.toBitVec.getLsbD i <;> cases k.toBitVec.getLsbD i <;> cases e.toBitVec.getLsbD i <;> intro h1 <;> first | exact h1 | rfl
/-- 1 if no colours were told -/
def psC (c h : Int32) : Nat := if c = 0 ∧ h = 0 then 1 else 0
/-- 1 if no palette was seen -/
def psP (s : Int32) : Nat := if s &&& 8 = 0 then 1 else 0
theorem psC_le (c h : Int32) : psC c h ≤ 1 := by unfold psC; split <;> omega
theorem psP_le (s : Int32) : psP s ≤ 1 := by unfold psP; split <;> omega
theorem psP_or (s k : Int32) : psP (s ||| k) ≤ psP s := by
  unfold psP
  by_cases h : (s ||| k) &&& 8 = 0
  · rw [if_pos h, if_pos (or_and_mono h)]; exact Nat.le_refl _
  · rw [if_neg h]; exact Nat.zero_le _
theorem psP_8 (s : Int32) : psP (s ||| 8) = 0 := by
  unfold psP
  rw [or_and_self]
  decide
theorem hasC_0 {c h : Int32} (hh : m_Pl_hasColours c h = 0) : psC c h = 1 := by
  unfold m_Pl_hasColours at hh
  unfold psC
  by_cases h1 : c = 0
  · rw [if_pos h1] at hh
    by_cases h2 : h = 0
    · rw [if_pos ⟨h1, h2⟩]
    · rw [if_neg h2] at hh; exact absurd hh (by decide)
  · rw [if_neg h1] at hh; exact absurd hh (by decide)
