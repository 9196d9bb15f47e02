/-- CAPTURE and DISPLAY -/
def wRt (name : Int32) (f : Nat → Int32) : List Nat := if f 0 = 0 then [] else wB 18 name ++ (wR2 f 4 0 ++ ([bo (f 4).toInt] ++ [bo (f 5).toInt]))
theorem w_ratp (f : Nat → Int32) (n : Nat) : ∀ (d j : Nat) (s : Int32 × (Nat → Int32)), j + d = 4 → lp_Wr_putRatio_19 6 f n (d + 1) (nI j) s.1 s.2 = apC n (wR2 f d j ++ ([bo (f 4).toInt] ++ [bo (f 5).toInt])) s
  | 0, j, s, h => by
    show lb_Wr_putRatio_19 6 f n (lp_Wr_putRatio_19 6 f n 0) (nI j) s.1 s.2 = _
    have v4 : m_FB_valueIn 6 f 4 = f 4 := by rw [show (4 : Int32) = nI 4 from rfl, q_valIn (by decide) (by decide)]
    have v5 : m_FB_valueIn 6 f 5 = f 5 := by rw [show (5 : Int32) = nI 5 from rfl, q_valIn (by decide) (by decide)]
    simp only [lb_Wr_putRatio_19, k_Wr_putRatio_52, k_Wr_putRatio_55, k_Wr_putRatio_64, k_Wr_putRatio_67, k_Wr_putRatio_32, k_Wr_putRatio_37, v4, v5]
    rw [if_pos (show (4 : Int32) ≤ nI j by rw [show (4 : Int32) = nI 4 from rfl, q_le (by decide) (by omega)]; omega), q_add1, q_add1]
    show _ = apC n ([] ++ ([bo (f 4).toInt] ++ [bo (f 5).toInt])) s
    rw [apC_app, apC_app]; rfl
  | d + 1, j, s, h => by
    show lb_Wr_putRatio_19 6 f n (lp_Wr_putRatio_19 6 f n (d + 1)) (nI j) s.1 s.2 = _
    simp only [lb_Wr_putRatio_19, k_Wr_putRatio_52, k_Wr_putRatio_55, k_Wr_putRatio_64, k_Wr_putRatio_67, k_Wr_putRatio_32, k_Wr_putRatio_37]
    rw [if_neg (show ¬ (4 : Int32) ≤ nI j by rw [show (4 : Int32) = nI 4 from rfl, q_le (by decide) (by omega)]; omega), q_valIn (by decide) (by omega), q_addN2, ← nI_succ, w_ratp f n d (j + 1) _ (by omega)]
    show _ = apC n ((be 2 (f j).toInt64 ++ wR2 f d (j + 1)) ++ _) s
    rw [List.append_assoc]
    exact (apC_app n _ _ s).symm
theorem w_ratio (f : Nat → Int32) (n : Nat) (s : Int32 × (Nat → Int32)) (name : Int32) : m_Wr_putRatio 6 f s.1 n s.2 name = apC n (wRt name f) s := by
  have v0 : m_FB_valueIn 6 f 0 = f 0 := by rw [show (0 : Int32) = nI 0 from rfl, q_valIn (by decide) (by decide)]
  have e4 : ((4 : Int32).toInt - (0 : Int32).toInt).toNat + 1 = 4 + 1 := by decide
  have e18 : ¬ (18 : Int32) = 0 := by decide
  simp only [m_Wr_putRatio, k_Wr_putRatio_1, k_Wr_putRatio_13, m_Wr_lengthOfRatio, k_Wr_lengthOfRatio_2, w_begin, v0, e4]
  by_cases a : f 0 = 0
  · simp only [a, q_ref0, q_ref1, q_ref2, q_ref3, q10, q20, q30, n10, n20, n30, n40, n13, n43, n41, n23, n12, n32, q_oin, q_oab, q_oref, if_true, if_false, true_and, and_true, and_self, and_false, false_and, not_true_eq_false, not_false_eq_true, ne_eq, reduceIte, wRt]; rfl
  · simp only [a, q_ref0, q_ref1, q_ref2, q_ref3, q10, q20, q30, n10, n20, n30, n40, n13, n43, n41, n23, n12, n32, q_oin, q_oab, q_oref, if_true, if_false, true_and, and_true, and_self, and_false, false_and, not_true_eq_false, not_false_eq_true, ne_eq, reduceIte, e18, wRt]
    rw [apC_app]
    exact w_ratp f n 4 0 _ rfl
/-- RESOLUTION -/
def wRl (f : Nat → Int32) : Nat := if f 0 = 0 then 0 else 18
def wRe (fc fd : Nat → Int32) : List Nat := if wRl fc + wRl fd = 0 then [] else wB (nI (8 + (wRl fc + wRl fd))) 1919251232 ++ (wRt 1919251299 fc ++ wRt 1919251300 fd)
theorem w_lenRt (f : Nat → Int32) : m_Wr_lengthOfRatio 6 f = nI (wRl f) := by
  have v0 : m_FB_valueIn 6 f 0 = f 0 := by rw [show (0 : Int32) = nI 0 from rfl, q_valIn (by decide) (by decide)]
  simp only [m_Wr_lengthOfRatio, k_Wr_lengthOfRatio_2, v0, wRl]
  by_cases a : f 0 = 0
  · simp only [a, q_ref0, q_ref1, q_ref2, q_ref3, q10, q20, q30, n10, n20, n30, n40, n13, n43, n41, n23, n12, n32, q_oin, q_oab, q_oref, if_true, if_false, true_and, and_true, and_self, and_false, false_and, not_true_eq_false, not_false_eq_true, ne_eq, reduceIte]; rfl
  · simp only [a, q_ref0, q_ref1, q_ref2, q_ref3, q10, q20, q30, n10, n20, n30, n40, n13, n43, n41, n23, n12, n32, q_oin, q_oab, q_oref, if_true, if_false, true_and, and_true, and_self, and_false, false_and, not_true_eq_false, not_false_eq_true, ne_eq, reduceIte]; rfl
theorem wRl_le (f : Nat → Int32) : wRl f ≤ 18 := by unfold wRl; split <;> omega
theorem w_lenRe (fc fd : Nat → Int32) : m_Wr_lengthOfResolution 6 fc 6 fd = nI (if wRl fc + wRl fd = 0 then 0 else 8 + (wRl fc + wRl fd)) := by
  have h1 := wRl_le fc
  have h2 := wRl_le fd
  simp only [m_Wr_lengthOfResolution, k_Wr_lengthOfResolution_4, k_Wr_lengthOfResolution_11, w_lenRt, q_add, q_e0 (show wRl fc + wRl fd < 2147483648 by omega), show (8 : Int32) = nI 8 from rfl]
  by_cases a : wRl fc + wRl fd = 0
  · rw [if_pos a, if_pos a]; rfl
  · rw [if_neg a, if_neg a]
theorem w_res (fc fd : Nat → Int32) (n : Nat) (s : Int32 × (Nat → Int32)) : m_Wr_putResolution 6 fc 6 fd s.1 n s.2 = apC n (wRe fc fd) s := by
  have h1 := wRl_le fc
  have h2 := wRl_le fd
  simp only [m_Wr_putResolution, k_Wr_putResolution_1, k_Wr_putResolution_14, k_Wr_putResolution_24, k_Wr_putResolution_34, w_begin, w_ratio, w_lenRe]
  by_cases a : wRl fc + wRl fd = 0
  · simp only [a, q_ref0, q_ref1, q_ref2, q_ref3, q10, q20, q30, n10, n20, n30, n40, n13, n43, n41, n23, n12, n32, q_oin, q_oab, q_oref, if_true, if_false, true_and, and_true, and_self, and_false, false_and, not_true_eq_false, not_false_eq_true, ne_eq, reduceIte, wRe, show nI 0 = 0 from rfl]; rfl
  · have e : ¬ nI (8 + (wRl fc + wRl fd)) = 0 := by rw [q_e0 (by omega)]; omega
    simp only [a, q_ref0, q_ref1, q_ref2, q_ref3, q10, q20, q30, n10, n20, n30, n40, n13, n43, n41, n23, n12, n32, q_oin, q_oab, q_oref, if_true, if_false, true_and, and_true, and_self, and_false, false_and, not_true_eq_false, not_false_eq_true, ne_eq, reduceIte, e, wRe, apC_app]
/-- PALETTE -/
theorem q_bf : ∀ t : Fin 256, m_FB_bytesFor (nI t.val) = nI (t.val % 128 / 8 + 1) ∧ m_Mo_bytesOf (nI t.val) = nI (t.val % 128 / 8 + 1) ∧ (nI t.val &&& (-129)) = nI (t.val % 128) := by decide +kernel
def wid (pb : Nat → Int32) (k : Nat) : Nat := (pb k).toNatClampNeg % 128 / 8 + 1
def wLo (pb : Nat → Int32) (nf : Nat → Int64) (q k : Nat) : Int64 := m_FB_lowestBits (nf q) (pb k &&& (-129))
def wEn (pb : Nat → Int32) (nf : Nat → Int64) (q : Nat) : Nat → Nat → List Nat
  | 0, _ => []
  | d + 1, j => be (wid pb j) (wLo pb nf (q + j) j) ++ wEn pb nf q d (j + 1)
def wEs (pb : Nat → Int32) (nf : Nat → Int64) (cl : Nat) : Nat → Nat → List Nat
  | 0, _ => []
  | d + 1, i => wEn pb nf (i * cl) cl 0 ++ wEs pb nf cl d (i + 1)
theorem w_wid {pb : Nat → Int32} {k : Nat} (h : VB (pb k)) : m_FB_bytesFor (pb k) = nI (wid pb k) ∧ wid pb k ≤ 5 ∧ m_Mo_bytesOf (pb k) = nI (wid pb k) := by
  obtain ⟨t, e, ht, h37⟩ := h
  have w := q_bf ⟨t, ht⟩
  unfold wid
  rw [e, q_cl (by omega)]
  exact ⟨w.1, by omega, w.2.1⟩
theorem w_entp {e c nn : Nat} (hc : c ≤ 8) {pb : Nat → Int32} (hb : ∀ k, k < c → VB (pb k)) {nf : Nat → Int64} (hn : e * c ≤ nn) (hn2 : nn ≤ 4096) (n : Nat) {i : Nat} (hi : i < e) : ∀ (d j : Nat) (s : Int32 × (Nat → Int32)), j + d = c → lp_Wr_putEntry_2 (nI c) 8 pb nn nf n (nI i) (d + 1) (nI j) s.1 s.2 = apC n (wEn pb nf (i * c) d j) s
  | 0, j, s, h => by
    show lb_Wr_putEntry_2 (nI c) 8 pb nn nf n (nI i) (lp_Wr_putEntry_2 (nI c) 8 pb nn nf n (nI i) 0) (nI j) s.1 s.2 = _
    unfold lb_Wr_putEntry_2
    rw [il_p (by omega) (by omega) (by omega)]; rfl
  | d + 1, j, s, h => by
    show lb_Wr_putEntry_2 (nI c) 8 pb nn nf n (nI i) (lp_Wr_putEntry_2 (nI c) 8 pb nn nf n (nI i) (d + 1)) (nI j) s.1 s.2 = _
    have w := w_wid (hb j (by omega))
    simp only [lb_Wr_putEntry_2, k_Wr_putEntry_15, k_Wr_putEntry_23, k_Wr_putEntry_32, k_Wr_putEntry_45, k_Wr_putEntry_48]
    rw [il_n (by omega) (by omega) (by omega), q_valIn (by decide) (by omega), q_numAt hi (by omega) hn hn2, w.1, q_addN n s _ (by omega), ← nI_succ, w_entp hc hb hn hn2 n hi d (j + 1) _ (by omega)]
    show _ = apC n (be (wid pb j) (wLo pb nf (i * c + j) j) ++ wEn pb nf (i * c) d (j + 1)) s
    rw [apC_app]; rfl
