theorem apC_2 (n a b : Nat) (l : List Nat) (s : Int32 × (Nat → Int32)) : apC n (a :: b :: l) s = apC n l (apC n [b] (apC n [a] s)) := rfl
theorem bo7 : bo (7 : Int32).toInt = 7 := by decide
theorem bo0 : bo (0 : Int32).toInt = 0 := by decide
theorem bo1 : bo (1 : Int32).toInt = 1 := by decide
theorem bo2 : bo (2 : Int32).toInt = 2 := by decide
/-- the class's boxes, as bytes: SIZE -/
def wSz (hi wi co un ri b : Int32) : List Nat := wB 22 1768449138 ++ (be 4 hi.toInt64 ++ (be 4 wi.toInt64 ++ (be 2 co.toInt64 ++ ([bo b.toInt] ++ ([7] ++ ([bo un.toInt] ++ [bo ri.toInt]))))))
theorem w_size (n : Nat) (s : Int32 × (Nat → Int32)) (hi wi co un ri : Int32) (fb : Nat → Int32) (hu : un = 0 ∨ un = 1) (hr : ri = 0 ∨ ri = 1) :
    m_Wr_putSize s.1 n s.2 hi wi co un ri 16 fb = apC n (wSz hi wi co un ri (if m_Pl_bitsAreAlike co 16 fb = 0 then 255 else m_FB_valueIn 16 fb 0)) s := by
  simp only [m_Wr_putSize, k_Wr_putSize_5, k_Wr_putSize_18, k_Wr_putSize_31, k_Wr_putSize_44, k_Wr_putSize_52, j_Wr_putSize_72, k_Wr_putSize_72, k_Wr_putSize_81, j_Wr_putSize_100, k_Wr_putSize_100, j_Wr_putSize_119, k_Wr_putSize_119, k_Wr_putSize_63, w_begin, q_addN4, q_addN2, q_add1]
  by_cases a : m_Pl_bitsAreAlike co 16 fb = 0
  · rcases hu with rfl | rfl <;> rcases hr with rfl | rfl <;> simp only [a, q_ref0, q_ref1, q_ref2, q_ref3, q10, q20, q30, n10, n20, n30, n40, n13, n43, n41, n23, n12, n32, q_oin, q_oab, q_oref, if_true, if_false, true_and, and_true, and_self, and_false, false_and, not_true_eq_false, not_false_eq_true, ne_eq, reduceIte, wSz, apC_app, bo7]
  · rcases hu with rfl | rfl <;> rcases hr with rfl | rfl <;> simp only [a, q_ref0, q_ref1, q_ref2, q_ref3, q10, q20, q30, n10, n20, n30, n40, n13, n43, n41, n23, n12, n32, q_oin, q_oab, q_oref, if_true, if_false, true_and, and_true, and_self, and_false, false_and, not_true_eq_false, not_false_eq_true, ne_eq, reduceIte, wSz, apC_app, bo7]
/-- BITS -/
def wBi (al : Int32) (c : Nat) (f : Nat → Int32) : List Nat := if al = 0 then wB (nI (8 + c)) 1651532643 ++ wRow f c 0 else []
theorem w_bitsp {c : Nat} (hc : c ≤ 16) (fb : Nat → Int32) (n : Nat) : ∀ (d j : Nat) (s : Int32 × (Nat → Int32)), j + d = c → lp_Wr_putBits_19 (nI c) 16 fb n (d + 1) (nI j) s.1 s.2 = apC n (wRow fb d j) s
  | 0, j, s, h => by
    show lb_Wr_putBits_19 (nI c) 16 fb n (lp_Wr_putBits_19 (nI c) 16 fb n 0) (nI j) s.1 s.2 = _
    unfold lb_Wr_putBits_19
    rw [il_p (by omega) (by omega) (by omega)]; rfl
  | d + 1, j, s, h => by
    show lb_Wr_putBits_19 (nI c) 16 fb n (lp_Wr_putBits_19 (nI c) 16 fb n (d + 1)) (nI j) s.1 s.2 = _
    unfold lb_Wr_putBits_19 k_Wr_putBits_36 k_Wr_putBits_39
    rw [il_n (by omega) (by omega) (by omega), q_valIn (by decide) (by omega), q_add1, ← nI_succ, w_bitsp hc fb n d (j + 1) _ (by omega)]
    rfl
theorem w_bits {c : Nat} (hc : c ≤ 16) (fb : Nat → Int32) (n : Nat) (s : Int32 × (Nat → Int32)) : m_Wr_putBits (nI c) 16 fb s.1 n s.2 = apC n (wBi (m_Pl_bitsAreAlike (nI c) 16 fb) c fb) s := by
  have e8 : (8 : Int32) + nI c = nI (8 + c) := by rw [show (8 : Int32) = nI 8 from rfl, q_add]
  have e9 : ¬ nI (8 + c) = 0 := by rw [q_e0 (by omega)]; omega
  simp only [m_Wr_putBits, k_Wr_putBits_1, k_Wr_putBits_14, m_Wr_lengthOfBits, k_Wr_lengthOfBits_1, w_begin, q_fuel (show c < 2147483648 by omega), e8]
  by_cases a : m_Pl_bitsAreAlike (nI c) 16 fb = 0
  · simp only [a, q_ref0, q_ref1, q_ref2, q_ref3, q10, q20, q30, n10, n20, n30, n40, n13, n43, n41, n23, n12, n32, q_oin, q_oab, q_oref, if_true, if_false, true_and, and_true, and_self, and_false, false_and, not_true_eq_false, not_false_eq_true, ne_eq, reduceIte, e9, wBi, apC_app]
    exact w_bitsp hc fb n c 0 _ (by omega)
  · simp only [a, q_ref0, q_ref1, q_ref2, q_ref3, q10, q20, q30, n10, n20, n30, n40, n13, n43, n41, n23, n12, n32, q_oin, q_oab, q_oref, if_true, if_false, true_and, and_true, and_self, and_false, false_and, not_true_eq_false, not_false_eq_true, ne_eq, reduceIte, wBi]; rfl
/-- COLOUR -/
def wCo (has col : Int32) (pk : Nat) (f : Nat → Int32) : List Nat :=
  if has = 0 then wB (nI 15) 1668246642 ++ ([1] ++ (be 2 0 ++ be 4 col.toInt64)) else wB (nI (11 + pk)) 1668246642 ++ ([2] ++ (be 2 0 ++ wRow f pk 0))
theorem w_colp {c rn : Nat} (hc : c ≤ rn) (hr : rn ≤ 1024) (pf : Nat → Int32) (n : Nat) : ∀ (d j : Nat) (s : Int32 × (Nat → Int32)), j + d = c → lp_Wr_putColour_61 (nI c) n rn pf (d + 1) (nI j) s.1 s.2 = apC n (wRow (fun k => pf k &&& 255) d j) s
  | 0, j, s, h => by
    show lb_Wr_putColour_61 (nI c) n rn pf (lp_Wr_putColour_61 (nI c) n rn pf 0) (nI j) s.1 s.2 = _
    unfold lb_Wr_putColour_61
    rw [il_p (by omega) (by omega) (by omega)]; rfl
  | d + 1, j, s, h => by
    show lb_Wr_putColour_61 (nI c) n rn pf (lp_Wr_putColour_61 (nI c) n rn pf (d + 1)) (nI j) s.1 s.2 = _
    unfold lb_Wr_putColour_61 k_Wr_putColour_81 k_Wr_putColour_84
    rw [il_n (by omega) (by omega) (by omega), q_bat (by omega) hc (by omega), q_add1, ← nI_succ, w_colp hc hr pf n d (j + 1) _ (by omega)]
    rfl
theorem w_colour {c rn : Nat} (hc : c ≤ rn) (hr : rn ≤ 1024) (pf : Nat → Int32) (n : Nat) (s : Int32 × (Nat → Int32)) (has col : Int32) : m_Wr_putColour col has (nI c) s.1 n s.2 rn pf = apC n (wCo has col c (fun k => pf k &&& 255)) s := by
  have e8 : (11 : Int32) + nI c = nI (11 + c) := by rw [show (11 : Int32) = nI 11 from rfl, q_add]
  have e9 : (11 + 4 : Int32) = nI 15 := by decide
  simp only [m_Wr_putColour, k_Wr_putColour_2, k_Wr_putColour_7, j_Wr_putColour_26, k_Wr_putColour_26, k_Wr_putColour_35, k_Wr_putColour_55, m_Wr_lengthOfColour, w_begin, q_addN4, q_addN2, q_add1, q_fuel (show c < 2147483648 by omega), e8, e9]
  by_cases a : has = 0
  · simp only [a, q_ref0, q_ref1, q_ref2, q_ref3, q10, q20, q30, n10, n20, n30, n40, n13, n43, n41, n23, n12, n32, q_oin, q_oab, q_oref, if_true, if_false, true_and, and_true, and_self, and_false, false_and, not_true_eq_false, not_false_eq_true, ne_eq, reduceIte, wCo, apC_app, bo1, e9]
  · simp only [a, q_ref0, q_ref1, q_ref2, q_ref3, q10, q20, q30, n10, n20, n30, n40, n13, n43, n41, n23, n12, n32, q_oin, q_oab, q_oref, if_true, if_false, true_and, and_true, and_self, and_false, false_and, not_true_eq_false, not_false_eq_true, ne_eq, reduceIte, wCo, apC_app, bo2, e8]
    exact w_colp hc hr pf n c 0 _ (by omega)
/-- MAP -/
def wMp (f : Nat → Int32) : Nat → Nat → List Nat
  | 0, _ => []
  | d + 1, j => be 2 (f (3 * j)).toInt64 ++ (bo (f (3 * j + 1)).toInt :: bo (f (3 * j + 2)).toInt :: wMp f d (j + 1))
theorem w_mapp {c : Nat} (hc : c ≤ 16) (mf : Nat → Int32) (n : Nat) : ∀ (d j : Nat) (s : Int32 × (Nat → Int32)), j + d = c → lp_Wr_putMap_19 (nI c) n 48 mf (d + 1) (nI j) s.1 s.2 = apC n (wMp mf d j) s
  | 0, j, s, h => by
    show lb_Wr_putMap_19 (nI c) n 48 mf (lp_Wr_putMap_19 (nI c) n 48 mf 0) (nI j) s.1 s.2 = _
    unfold lb_Wr_putMap_19
    rw [il_p (by omega) (by omega) (by omega)]; rfl
  | d + 1, j, s, h => by
    show lb_Wr_putMap_19 (nI c) n 48 mf (lp_Wr_putMap_19 (nI c) n 48 mf (d + 1)) (nI j) s.1 s.2 = _
    unfold lb_Wr_putMap_19 k_Wr_putMap_40 k_Wr_putMap_45 k_Wr_putMap_58 k_Wr_putMap_61 k_Wr_putMap_74 k_Wr_putMap_77
    have a0 : m_Li_part 48 mf (nI j) 0 = mf (3 * j) := by rw [show (0 : Int32) = nI 0 from rfl, q_part (by omega)]; rfl
    have a1 : m_Li_part 48 mf (nI j) 1 = mf (3 * j + 1) := by rw [show (1 : Int32) = nI 1 from rfl, q_part (by omega)]
    have a2 : m_Li_part 48 mf (nI j) 2 = mf (3 * j + 2) := by rw [show (2 : Int32) = nI 2 from rfl, q_part (by omega)]
    rw [il_n (by omega) (by omega) (by omega), a0, a1, a2, q_addN2, q_add1, q_add1, ← nI_succ, w_mapp hc mf n d (j + 1) _ (by omega)]
    show _ = apC n (be 2 (mf (3 * j)).toInt64 ++ (bo (mf (3 * j + 1)).toInt :: bo (mf (3 * j + 2)).toInt :: wMp mf d (j + 1))) s
    rw [apC_app, apC_2]
def wMa (en ma : Nat) (f : Nat → Int32) : List Nat := if en = 0 then [] else wB (nI (8 + 4 * ma)) 1668112752 ++ wMp f ma 0
theorem w_map {en c : Nat} (he : en ≤ 1024) (hc : c ≤ 16) (mf : Nat → Int32) (n : Nat) (s : Int32 × (Nat → Int32)) : m_Wr_putMap (nI en) (nI c) s.1 n s.2 48 mf = apC n (wMa en c mf) s := by
  have e8 : (8 : Int32) + 4 * nI c = nI (8 + 4 * c) := by rw [show (8 : Int32) = nI 8 from rfl, show (4 : Int32) = nI 4 from rfl, q_mul, q_add]
  have e9 : ¬ nI (8 + 4 * c) = 0 := by rw [q_e0 (by omega)]; omega
  simp only [m_Wr_putMap, k_Wr_putMap_1, k_Wr_putMap_14, m_Wr_lengthOfMap, w_begin, q_fuel (show c < 2147483648 by omega), e8, q_e0 (show en < 2147483648 by omega)]
  by_cases a : en = 0
  · simp only [a, q_ref0, q_ref1, q_ref2, q_ref3, q10, q20, q30, n10, n20, n30, n40, n13, n43, n41, n23, n12, n32, q_oin, q_oab, q_oref, if_true, if_false, true_and, and_true, and_self, and_false, false_and, not_true_eq_false, not_false_eq_true, ne_eq, reduceIte, wMa]; rfl
  · simp only [a, q_ref0, q_ref1, q_ref2, q_ref3, q10, q20, q30, n10, n20, n30, n40, n13, n43, n41, n23, n12, n32, q_oin, q_oab, q_oref, if_true, if_false, true_and, and_true, and_self, and_false, false_and, not_true_eq_false, not_false_eq_true, ne_eq, reduceIte, e9, wMa, apC_app]
    exact w_mapp hc mf n c 0 _ (by omega)
/-- CHANNELS -/
def wR2 (f : Nat → Int32) : Nat → Nat → List Nat
  | 0, _ => []
  | d + 1, j => be 2 (f j).toInt64 ++ wR2 f d (j + 1)
theorem w_meap {c : Nat} (hc : c ≤ 16) (lf : Nat → Int32) (n : Nat) : ∀ (d j : Nat) (s : Int32 × (Nat → Int32)), j + d = c → lp_Wr_putMeanings_35 (nI c) n 48 lf (d + 1) (nI j) s.1 s.2 = apC n (wR2 lf (3 * d) (3 * j)) s
  | 0, j, s, h => by
    show lb_Wr_putMeanings_35 (nI c) n 48 lf (lp_Wr_putMeanings_35 (nI c) n 48 lf 0) (nI j) s.1 s.2 = _
    unfold lb_Wr_putMeanings_35
    rw [il_p (by omega) (by omega) (by omega)]; rfl
  | d + 1, j, s, h => by
    show lb_Wr_putMeanings_35 (nI c) n 48 lf (lp_Wr_putMeanings_35 (nI c) n 48 lf (d + 1)) (nI j) s.1 s.2 = _
    have a0 : m_Li_part 48 lf (nI j) 0 = lf (3 * j) := by rw [show (0 : Int32) = nI 0 from rfl, q_part (by omega)]; rfl
    have a1 : m_Li_part 48 lf (nI j) 1 = lf (3 * j + 1) := by rw [show (1 : Int32) = nI 1 from rfl, q_part (by omega)]
    have a2 : m_Li_part 48 lf (nI j) 2 = lf (3 * j + 2) := by rw [show (2 : Int32) = nI 2 from rfl, q_part (by omega)]
    simp only [lb_Wr_putMeanings_35, k_Wr_putMeanings_56, k_Wr_putMeanings_61, k_Wr_putMeanings_74, k_Wr_putMeanings_79, k_Wr_putMeanings_92, k_Wr_putMeanings_97]
    rw [il_n (by omega) (by omega) (by omega), a0, a1, a2, q_addN2, q_addN2, q_addN2, ← nI_succ, w_meap hc lf n d (j + 1) _ (by omega)]
    have e : wR2 lf (3 * (d + 1)) (3 * j) = be 2 (lf (3 * j)).toInt64 ++ (be 2 (lf (3 * j + 1)).toInt64 ++ (be 2 (lf (3 * j + 2)).toInt64 ++ wR2 lf (3 * d) (3 * (j + 1)))) := rfl
    rw [e, apC_app, apC_app, apC_app]
def wMe (li : Nat) (f : Nat → Int32) : List Nat := if li = 0 then [] else wB (nI (10 + 6 * li)) 1667523942 ++ (be 2 (nI li).toInt64 ++ wR2 f (3 * li) 0)
theorem w_mea {c : Nat} (hc : c ≤ 16) (lf : Nat → Int32) (n : Nat) (s : Int32 × (Nat → Int32)) : m_Wr_putMeanings (nI c) s.1 n s.2 48 lf = apC n (wMe c lf) s := by
  have e8 : (10 : Int32) + 6 * nI c = nI (10 + 6 * c) := by rw [show (10 : Int32) = nI 10 from rfl, show (6 : Int32) = nI 6 from rfl, q_mul, q_add]
  have e9 : ¬ nI (10 + 6 * c) = 0 := by rw [q_e0 (by omega)]; omega
  simp only [m_Wr_putMeanings, k_Wr_putMeanings_1, k_Wr_putMeanings_14, k_Wr_putMeanings_30, m_Wr_lengthOfMeanings, w_begin, q_addN2, q_fuel (show c < 2147483648 by omega), e8, q_e0 (show c < 2147483648 by omega)]
  by_cases a : c = 0
  · simp only [a, q_ref0, q_ref1, q_ref2, q_ref3, q10, q20, q30, n10, n20, n30, n40, n13, n43, n41, n23, n12, n32, q_oin, q_oab, q_oref, if_true, if_false, true_and, and_true, and_self, and_false, false_and, not_true_eq_false, not_false_eq_true, ne_eq, reduceIte, wMe]; rfl
  · simp only [a, q_ref0, q_ref1, q_ref2, q_ref3, q10, q20, q30, n10, n20, n30, n40, n13, n43, n41, n23, n12, n32, q_oin, q_oab, q_oref, if_true, if_false, true_and, and_true, and_self, and_false, false_and, not_true_eq_false, not_false_eq_true, ne_eq, reduceIte, e9, wMe, apC_app]
    exact w_meap hc lf n c 0 _ (by omega)
