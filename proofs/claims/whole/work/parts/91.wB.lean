theorem q_addN4 (n : Nat) (s : Int32 × (Nat → Int32)) (v : Int64) : m_By_addNumber s.1 n s.2 v 4 = apC n (be 4 v) s := q_addN n s v (w := 4) (by decide)
theorem q_addN2 (n : Nat) (s : Int32 × (Nat → Int32)) (v : Int64) : m_By_addNumber s.1 n s.2 v 2 = apC n (be 2 v) s := q_addN n s v (w := 2) (by decide)
theorem q_addN8 (n : Nat) (s : Int32 × (Nat → Int32)) (v : Int64) : m_By_addNumber s.1 n s.2 v 8 = apC n (be 8 v) s := q_addN n s v (w := 8) (by decide)
theorem q_add1 (n : Nat) (s : Int32 × (Nat → Int32)) (p : Int32) : m_By_add s.1 n s.2 p = apC n [bo p.toInt] s := q_bst s.1 n s.2 p
theorem q_addM4 (s : Int32 × (Nat → Int32)) (v : Int64) : m_Mo_add s.1 s.2 v 4 = apM (be 4 v) s := q_addM s v (w := 4) (by decide)
theorem q_addM2 (s : Int32 × (Nat → Int32)) (v : Int64) : m_Mo_add s.1 s.2 v 2 = apM (be 2 v) s := q_addM s v (w := 2) (by decide)
theorem q_addM8 (s : Int32 × (Nat → Int32)) (v : Int64) : m_Mo_add s.1 s.2 v 8 = apM (be 8 v) s := q_addM s v (w := 8) (by decide)
theorem q_addM1 (s : Int32 × (Nat → Int32)) (v : Int64) : m_Mo_add s.1 s.2 v 1 = apM (be 1 v) s := q_addM s v (w := 1) (by decide)
theorem be1L (x : Int64) : be 1 x = [bo x.toInt] := by
  show [bo (x >>> Int64.ofNat (8 * 0)).toInt] = _
  have h : (x >>> Int64.ofNat (8 * 0)) = x := by
    apply Int64.toBitVec_inj.1
    rw [q_shr x (u := 8 * 0) (by decide)]
    simp
  rw [h]
theorem be1 (x : Int32) : be 1 x.toInt64 = [bo x.toInt] := by rw [be1L, Int32.toInt_toInt64]
/-- a box's length and name -/
def wB (len name : Int32) : List Nat := be 4 len.toInt64 ++ be 4 name.toInt64
theorem wB_len (a b : Int32) : (wB a b).length = 8 := by unfold wB; rw [List.length_append, be_len, be_len]
theorem w_begin (n : Nat) (s : Int32 × (Nat → Int32)) (p1 p2 : Int32) : m_Wr_begin s.1 n s.2 p1 p2 = apC n (wB p1 p2) s := by
  unfold m_Wr_begin k_Wr_begin_7 k_Wr_begin_17 wB
  rw [q_addN4, q_addN4, apC_app]
theorem w_box (s : Int32 × (Nat → Int32)) (p1 p2 : Int32) : m_Mo_box s.1 s.2 p1 p2 = apM (wB (8 + p2) p1) s := by
  simp only [m_Mo_box, k_Mo_box_7, k_Mo_box_14, q_addM4, wB, apM_app]
/-- are all bits alike -/
theorem w_al0 {c : Nat} (hc : c ≤ 16) (gb : Nat → Int32) : ∀ (d j : Nat), j + d < 100 → c ≤ j + d → lp_Mo_areAlike_4 (nI c) gb (d + 1) (nI j) 0 = 0 ∧ olp_Mo_areAlike_4 (nI c) gb (d + 1) (nI j) 0
  | 0, j, h, h2 => by
    show lb_Mo_areAlike_4 (nI c) gb (lp_Mo_areAlike_4 (nI c) gb 0) (nI j) 0 = _ ∧ olb_Mo_areAlike_4 (nI c) gb (olp_Mo_areAlike_4 (nI c) gb 0) (nI j) 0
    unfold lb_Mo_areAlike_4 olb_Mo_areAlike_4
    have e : c ≤ j := by omega
    simp only [q_le (show c < 2147483648 by omega) (show j < 2147483648 by omega), e, q_ref0, q_ref1, q_ref2, q_ref3, q10, q20, q30, n10, n20, n30, n40, n13, n43, n41, n23, n12, n32, q_oin, q_oab, q_oref, if_true, if_false, true_and, and_true, and_self, and_false, false_and, not_true_eq_false, not_false_eq_true, ne_eq, reduceIte]
    decide
  | d + 1, j, h, h2 => by
    show lb_Mo_areAlike_4 (nI c) gb (lp_Mo_areAlike_4 (nI c) gb (d + 1)) (nI j) 0 = _ ∧ olb_Mo_areAlike_4 (nI c) gb (olp_Mo_areAlike_4 (nI c) gb (d + 1)) (nI j) 0
    unfold lb_Mo_areAlike_4 olb_Mo_areAlike_4 j_Mo_areAlike_35 oj_Mo_areAlike_35
    by_cases e : c ≤ j
    · simp only [q_le (show c < 2147483648 by omega) (show j < 2147483648 by omega), e, q_ref0, q_ref1, q_ref2, q_ref3, q10, q20, q30, n10, n20, n30, n40, n13, n43, n41, n23, n12, n32, q_oin, q_oab, q_oref, if_true, if_false, true_and, and_true, and_self, and_false, false_and, not_true_eq_false, not_false_eq_true, ne_eq, reduceIte]
      decide
    · simp only [q_le (show c < 2147483648 by omega) (show j < 2147483648 by omega), e, q_ref0, q_ref1, q_ref2, q_ref3, q10, q20, q30, n10, n20, n30, n40, n13, n43, n41, n23, n12, n32, q_oin, q_oab, q_oref, if_true, if_false, true_and, and_true, and_self, and_false, false_and, not_true_eq_false, not_false_eq_true, ne_eq, reduceIte, ← nI_succ]
      exact w_al0 hc gb d (j + 1) (by omega) (by omega)
theorem w_al1 {c : Nat} {fb gb : Nat → Int32} (hB : IB c fb gb) : ∀ (d j : Nat), 1 ≤ j → j + d < 100 → c ≤ j + d →
    lp_Pl_bitsAreAlike_2 (nI c) 16 fb (d + 1) (nI j) = lp_Mo_areAlike_4 (nI c) gb (d + 1) (nI j) 1 ∧ olp_Mo_areAlike_4 (nI c) gb (d + 1) (nI j) 1 ∧ (lp_Mo_areAlike_4 (nI c) gb (d + 1) (nI j) 1 = 0 ∨ lp_Mo_areAlike_4 (nI c) gb (d + 1) (nI j) 1 = 1)
  | 0, j, h1, h, h2 => by
    have hc := hB.1
    show lb_Pl_bitsAreAlike_2 (nI c) 16 fb (lp_Pl_bitsAreAlike_2 (nI c) 16 fb 0) (nI j) = lb_Mo_areAlike_4 (nI c) gb (lp_Mo_areAlike_4 (nI c) gb 0) (nI j) 1 ∧ olb_Mo_areAlike_4 (nI c) gb (olp_Mo_areAlike_4 (nI c) gb 0) (nI j) 1 ∧ (lb_Mo_areAlike_4 (nI c) gb (lp_Mo_areAlike_4 (nI c) gb 0) (nI j) 1 = 0 ∨ lb_Mo_areAlike_4 (nI c) gb (lp_Mo_areAlike_4 (nI c) gb 0) (nI j) 1 = 1)
    unfold lb_Pl_bitsAreAlike_2 lb_Mo_areAlike_4 olb_Mo_areAlike_4
    have e : c ≤ j := by omega
    simp only [q_le (show c < 2147483648 by omega) (show j < 2147483648 by omega), e, q_ref0, q_ref1, q_ref2, q_ref3, q10, q20, q30, n10, n20, n30, n40, n13, n43, n41, n23, n12, n32, q_oin, q_oab, q_oref, if_true, if_false, true_and, and_true, and_self, and_false, false_and, not_true_eq_false, not_false_eq_true, ne_eq, reduceIte]
    decide
  | d + 1, j, h1, h, h2 => by
    have hc := hB.1
    show lb_Pl_bitsAreAlike_2 (nI c) 16 fb (lp_Pl_bitsAreAlike_2 (nI c) 16 fb (d + 1)) (nI j) = lb_Mo_areAlike_4 (nI c) gb (lp_Mo_areAlike_4 (nI c) gb (d + 1)) (nI j) 1 ∧ olb_Mo_areAlike_4 (nI c) gb (olp_Mo_areAlike_4 (nI c) gb (d + 1)) (nI j) 1 ∧ (lb_Mo_areAlike_4 (nI c) gb (lp_Mo_areAlike_4 (nI c) gb (d + 1)) (nI j) 1 = 0 ∨ lb_Mo_areAlike_4 (nI c) gb (lp_Mo_areAlike_4 (nI c) gb (d + 1)) (nI j) 1 = 1)
    unfold lb_Pl_bitsAreAlike_2 lb_Mo_areAlike_4 olb_Mo_areAlike_4 j_Mo_areAlike_35 oj_Mo_areAlike_35 k_Pl_bitsAreAlike_15 k_Pl_bitsAreAlike_23
    by_cases e : c ≤ j
    · simp only [q_le (show c < 2147483648 by omega) (show j < 2147483648 by omega), e, q_ref0, q_ref1, q_ref2, q_ref3, q10, q20, q30, n10, n20, n30, n40, n13, n43, n41, n23, n12, n32, q_oin, q_oab, q_oref, if_true, if_false, true_and, and_true, and_self, and_false, false_and, not_true_eq_false, not_false_eq_true, ne_eq, reduceIte]
      decide
    · have v1 : m_FB_valueIn 16 fb (nI j) = gb j := by rw [q_valIn (by decide) (by omega)]; exact hB.2 j (by omega)
      have v0 : m_FB_valueIn 16 fb 0 = gb 0 := by rw [show (0 : Int32) = nI 0 from rfl, q_valIn (by decide) (by omega)]; exact hB.2 0 (by omega)
      simp only [q_le (show c < 2147483648 by omega) (show j < 2147483648 by omega), e, q_ref0, q_ref1, q_ref2, q_ref3, q10, q20, q30, n10, n20, n30, n40, n13, n43, n41, n23, n12, n32, q_oin, q_oab, q_oref, if_true, if_false, true_and, and_true, and_self, and_false, false_and, not_true_eq_false, not_false_eq_true, ne_eq, reduceIte, ← nI_succ, v1, v0, q_cl (show j < 2147483648 by omega), q_in (show j < 2147483648 by omega), show (0 : Int32).toNatClampNeg = 0 from rfl]
      by_cases k : gb j = gb 0
      · have t := w_al1 hB d (j + 1) (by omega) (by omega) (by omega)
        simp only [k, q_ref0, q_ref1, q_ref2, q_ref3, q10, q20, q30, n10, n20, n30, n40, n13, n43, n41, n23, n12, n32, q_oin, q_oab, q_oref, if_true, if_false, true_and, and_true, and_self, and_false, false_and, not_true_eq_false, not_false_eq_true, ne_eq, reduceIte]
        exact ⟨t.1, ⟨by omega, t.2.1⟩, t.2.2⟩
      · have t := w_al0 hc gb d (j + 1) (by omega) (by omega)
        simp only [k, q_ref0, q_ref1, q_ref2, q_ref3, q10, q20, q30, n10, n20, n30, n40, n13, n43, n41, n23, n12, n32, q_oin, q_oab, q_oref, if_true, if_false, true_and, and_true, and_self, and_false, false_and, not_true_eq_false, not_false_eq_true, ne_eq, reduceIte]
        exact ⟨t.1.symm, ⟨by omega, t.2⟩, Or.inl t.1⟩
theorem w_alike {c : Nat} {fb gb : Nat → Int32} (hB : IB c fb gb) : m_Pl_bitsAreAlike (nI c) 16 fb = m_Mo_areAlike (nI c) gb ∧ om_Mo_areAlike (nI c) gb ∧ (m_Mo_areAlike (nI c) gb = 0 ∨ m_Mo_areAlike (nI c) gb = 1) := by
  have hc := hB.1
  have e : ((nI c).toInt - (1 : Int32).toInt).toNat + 1 = (c - 1) + 1 := by
    rw [q_toInt (by omega), show (1 : Int32).toInt = 1 from rfl]; omega
  unfold m_Pl_bitsAreAlike m_Mo_areAlike om_Mo_areAlike
  rw [e]
  exact w_al1 hB (c - 1) 1 (by omega) (by omega) (by omega)
/-- the bytes of a row of numbers, one each -/
def wRow (f : Nat → Int32) : Nat → Nat → List Nat
  | 0, _ => []
  | d + 1, j => bo (f j).toInt :: wRow f d (j + 1)
theorem wRow_len (f : Nat → Int32) : ∀ d j, (wRow f d j).length = d
  | 0, _ => rfl
  | d + 1, j => by show (wRow f d (j + 1)).length + 1 = _; rw [wRow_len f d (j + 1)]
theorem wRow_eq {f g : Nat → Int32} : ∀ (d j : Nat), (∀ k, k < j + d → f k = g k) → wRow f d j = wRow g d j
  | 0, _, _ => rfl
  | d + 1, j, h => by
    show bo (f j).toInt :: wRow f d (j + 1) = bo (g j).toInt :: wRow g d (j + 1)
    rw [h j (by omega), wRow_eq d (j + 1) (fun k hk => h k (by omega))]
theorem wRow_lt (f : Nat → Int32) : ∀ (d j : Nat), ∀ b ∈ wRow f d j, b < 256
  | 0, _, b, h => by cases h
  | d + 1, j, b, h => by
    rcases List.mem_cons.mp h with rfl | h
    · exact bo_lt _
    · exact wRow_lt f d (j + 1) b h
