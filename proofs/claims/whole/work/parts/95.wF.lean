theorem w_lenBi {c : Nat} (hc : c ≤ 16) (fb : Nat → Int32) : m_Wr_lengthOfBits (nI c) 16 fb = nI (lBi (m_Pl_bitsAreAlike (nI c) 16 fb) c) := by
  simp only [m_Wr_lengthOfBits, k_Wr_lengthOfBits_1, lBi, show (8 : Int32) = nI 8 from rfl, q_add]
  by_cases a : m_Pl_bitsAreAlike (nI c) 16 fb = 0
  · rw [if_pos a, if_pos a]
  · rw [if_neg a, if_neg a]; rfl
theorem w_lenCo (has : Int32) (pk : Nat) : m_Wr_lengthOfColour has (nI pk) = nI (lCo has pk) := by
  simp only [m_Wr_lengthOfColour, lCo, show (11 : Int32) = nI 11 from rfl, q_add]
  by_cases a : has = 0
  · rw [if_pos a, if_pos a]; rfl
  · rw [if_neg a, if_neg a]
theorem w_lenMa {en : Nat} (he : en ≤ 1024) (ma : Nat) : m_Wr_lengthOfMap (nI en) (nI ma) = nI (lMa en ma) := by
  simp only [m_Wr_lengthOfMap, lMa, show (8 : Int32) = nI 8 from rfl, show (4 : Int32) = nI 4 from rfl, q_mul, q_add, q_e0 (show en < 2147483648 by omega)]
  by_cases a : en = 0
  · rw [if_pos a, if_pos a]; rfl
  · rw [if_neg a, if_neg a]
theorem w_lenMe {li : Nat} (hl : li ≤ 16) : m_Wr_lengthOfMeanings (nI li) = nI (lMe li) := by
  simp only [m_Wr_lengthOfMeanings, lMe, show (10 : Int32) = nI 10 from rfl, show (6 : Int32) = nI 6 from rfl, q_mul, q_add, q_e0 (show li < 2147483648 by omega)]
  by_cases a : li = 0
  · rw [if_pos a, if_pos a]; rfl
  · rw [if_neg a, if_neg a]
def lHd (al has : Int32) (co pk en cl ma li : Nat) (pb fc fd : Nat → Int32) : Nat := 30 + lBi al co + lCo has pk + lPa en cl pb + lMa en ma + lMe li + lRe fc fd
theorem w_lenHd {co pk en cl ma li : Nat} (hco : co ≤ 16) (he : en ≤ 1024) (hc : cl ≤ 8) (hl : li ≤ 16) {pb : Nat → Int32} (hb : ∀ k, k < cl → VB (pb k)) (has : Int32) (fb fc fd : Nat → Int32) :
    m_Wr_lengthOfHead (nI co) has 16 fb (nI pk) (nI en) (nI cl) 8 pb (nI ma) (nI li) 6 fc 6 fd = nI (lHd (m_Pl_bitsAreAlike (nI co) 16 fb) has co pk en cl ma li pb fc fd) := by
  simp only [m_Wr_lengthOfHead, k_Wr_lengthOfHead_3, k_Wr_lengthOfHead_8, k_Wr_lengthOfHead_13, k_Wr_lengthOfHead_18, k_Wr_lengthOfHead_23, k_Wr_lengthOfHead_28, w_lenBi hco, w_lenCo, w_lenPa he hc hb, w_lenMa he, w_lenMe hl, w_lenRe, show (30 : Int32) = nI 30 from rfl, q_add, lHd, lRe]
/-- HEAD, and all -/
def wHd (hi wi un ri col al has b0 : Int32) (co pk en cl ma li : Nat) (fb pf pb mf lf fc fd : Nat → Int32) (nf : Nat → Int64) : List Nat :=
  wB (nI (lHd al has co pk en cl ma li pb fc fd)) 1785737832 ++ (wSz hi wi (nI co) un ri b0 ++ (wBi al co fb ++ (wCo has col pk pf ++ (wPa en cl pb nf ++ (wMa en ma mf ++ (wMe li lf ++ wRe fc fd))))))
def wAl (hi wi un ri col al has b0 : Int32) (co pk en cl ma li : Nat) (fb pf pb mf lf fc fd : Nat → Int32) (nf : Nat → Int64) (p1 p2 : Int32) : List Nat :=
  wB 12 1783636000 ++ (be 4 218793738 ++ (wB 20 1718909296 ++ (be 4 1785737760 ++ (be 4 0 ++ (be 4 1785737760 ++ (wHd hi wi un ri col al has b0 co pk en cl ma li fb pf pb mf lf fc fd nf ++ (if p2 = 0 then wB (8 + p1) 1785737827 else wB 1 1785737827 ++ be 8 (16 + p1 : Int32).toInt64)))))))
theorem w_head {co pk pn en cl nn ma li : Nat} (hco : co ≤ 16) (hpk : pk ≤ pn) (hpn : pn ≤ 1024) (he : en ≤ 1024) (hc : cl ≤ 8) (hn : en * cl ≤ nn) (hn2 : nn ≤ 4096) (hma : ma ≤ 16) (hl : li ≤ 16) {pb : Nat → Int32} (hb : ∀ k, k < cl → VB (pb k)) (hi wi un ri col has : Int32) (hu : un = 0 ∨ un = 1) (hr : ri = 0 ∨ ri = 1) (fb pf mf lf fc fd : Nat → Int32) (nf : Nat → Int64) (n : Nat) (s : Int32 × (Nat → Int32)) :
    m_Wr_putHead hi wi (nI co) un ri col has 16 fb (nI pk) (nI en) (nI cl) 8 pb (nI ma) (nI li) 6 fc 6 fd s.1 n s.2 pn pf nn nf 48 mf 48 lf = apC n (wHd hi wi un ri col (m_Pl_bitsAreAlike (nI co) 16 fb) has (if m_Pl_bitsAreAlike (nI co) 16 fb = 0 then 255 else m_FB_valueIn 16 fb 0) co pk en cl ma li fb (fun k => pf k &&& 255) pb mf lf fc fd nf) s := by
  simp only [m_Wr_putHead, k_Wr_putHead_2, k_Wr_putHead_7, k_Wr_putHead_12, k_Wr_putHead_17, k_Wr_putHead_22, k_Wr_putHead_27, k_Wr_putHead_32, k_Wr_putHead_37, k_Wr_putHead_42, w_lenHd hco he hc hl hb, w_begin, w_size n _ hi wi (nI co) un ri fb hu hr, w_bits hco, w_colour hpk hpn, w_pal he hc hb hn hn2, w_map he hma, w_mea hl, w_res, wHd, apC_app]
theorem w_all {co pk pn en cl nn ma li : Nat} (hco : co ≤ 16) (hpk : pk ≤ pn) (hpn : pn ≤ 1024) (he : en ≤ 1024) (hc : cl ≤ 8) (hn : en * cl ≤ nn) (hn2 : nn ≤ 4096) (hma : ma ≤ 16) (hl : li ≤ 16) {pb : Nat → Int32} (hb : ∀ k, k < cl → VB (pb k)) (hi wi un ri col has : Int32) (hu : un = 0 ∨ un = 1) (hr : ri = 0 ∨ ri = 1) (fb pf mf lf fc fd : Nat → Int32) (nf : Nat → Int64) (n : Nat) (s : Int32 × (Nat → Int32)) (p1 p2 : Int32) :
    m_Wr_putAll s.1 n s.2 hi wi (nI co) un ri col has 16 fb (nI pk) (nI en) (nI cl) 8 pb (nI ma) (nI li) 6 fc 6 fd pn pf nn nf 48 mf 48 lf p1 p2 = apC n (wAl hi wi un ri col (m_Pl_bitsAreAlike (nI co) 16 fb) has (if m_Pl_bitsAreAlike (nI co) 16 fb = 0 then 255 else m_FB_valueIn 16 fb 0) co pk en cl ma li fb (fun k => pf k &&& 255) pb mf lf fc fd nf p1 p2) s := by
  simp only [m_Wr_putAll, k_Wr_putAll_5, k_Wr_putAll_16, k_Wr_putAll_24, k_Wr_putAll_35, k_Wr_putAll_44, k_Wr_putAll_55, k_Wr_putAll_60, k_Wr_putAll_98, k_Wr_putAll_71, k_Wr_putAll_85, w_begin, w_head hco hpk hpn he hc hn hn2 hma hl hb hi wi un ri col has hu hr fb pf mf lf fc fd nf, q_addN4, q_addN8, wAl, apC_app]
  by_cases a : p2 = 0
  · simp only [a, q_ref0, q_ref1, q_ref2, q_ref3, q10, q20, q30, n10, n20, n30, n40, n13, n43, n41, n23, n12, n32, q_oin, q_oab, q_oref, if_true, if_false, true_and, and_true, and_self, and_false, false_and, not_true_eq_false, not_false_eq_true, ne_eq, reduceIte]
  · simp only [a, q_ref0, q_ref1, q_ref2, q_ref3, q10, q20, q30, n10, n20, n30, n40, n13, n43, n41, n23, n12, n32, q_oin, q_oab, q_oref, if_true, if_false, true_and, and_true, and_self, and_false, false_and, not_true_eq_false, not_false_eq_true, ne_eq, reduceIte, apC_app]
/-- lengths -/
theorem wSz_len (hi wi co un ri b : Int32) : (wSz hi wi co un ri b).length = 22 := by
  unfold wSz; simp only [List.length_append, wB_len, be_len, List.length_cons, List.length_nil]
theorem wBi_len (al : Int32) (c : Nat) (f : Nat → Int32) : (wBi al c f).length = lBi al c := by
  unfold wBi lBi
  by_cases a : al = 0
  · rw [if_pos a, if_pos a, List.length_append, wB_len, wRow_len]
  · rw [if_neg a, if_neg a]; rfl
theorem wCo_len (has col : Int32) (pk : Nat) (f : Nat → Int32) : (wCo has col pk f).length = lCo has pk := by
  unfold wCo lCo
  by_cases a : has = 0
  · rw [if_pos a, if_pos a]; simp only [List.length_append, wB_len, be_len, List.length_cons, List.length_nil]
  · rw [if_neg a, if_neg a]; simp only [List.length_append, wB_len, be_len, wRow_len, List.length_cons, List.length_nil]; omega
theorem wMp_len (f : Nat → Int32) : ∀ d j, (wMp f d j).length = 4 * d
  | 0, _ => rfl
  | d + 1, j => by
    show (be 2 _ ++ (_ :: _ :: wMp f d (j + 1))).length = _
    rw [List.length_append, be_len, List.length_cons, List.length_cons, wMp_len f d (j + 1)]; omega
theorem wMa_len (en ma : Nat) (f : Nat → Int32) : (wMa en ma f).length = lMa en ma := by
  unfold wMa lMa
  by_cases a : en = 0
  · rw [if_pos a, if_pos a]; rfl
  · rw [if_neg a, if_neg a, List.length_append, wB_len, wMp_len]
theorem wR2_len (f : Nat → Int32) : ∀ d j, (wR2 f d j).length = 2 * d
  | 0, _ => rfl
  | d + 1, j => by
    show (be 2 _ ++ wR2 f d (j + 1)).length = _
    rw [List.length_append, be_len, wR2_len f d (j + 1)]; omega
theorem wMe_len (li : Nat) (f : Nat → Int32) : (wMe li f).length = lMe li := by
  unfold wMe lMe
  by_cases a : li = 0
  · rw [if_pos a, if_pos a]; rfl
  · rw [if_neg a, if_neg a, List.length_append, List.length_append, wB_len, be_len, wR2_len]; omega
theorem wRt_len (name : Int32) (f : Nat → Int32) : (wRt name f).length = wRl f := by
  unfold wRt wRl
  by_cases a : f 0 = 0
  · rw [if_pos a, if_pos a]; rfl
  · rw [if_neg a, if_neg a, List.length_append, List.length_append, wB_len, wR2_len]; rfl
theorem wRe_len (fc fd : Nat → Int32) : (wRe fc fd).length = lRe fc fd := by
  unfold wRe lRe
  by_cases a : wRl fc + wRl fd = 0
  · rw [if_pos a, if_pos a]; rfl
  · rw [if_neg a, if_neg a, List.length_append, List.length_append, wB_len, wRt_len, wRt_len]
theorem wEn_len (pb : Nat → Int32) (nf : Nat → Int64) (q : Nat) : ∀ d j, (wEn pb nf q d j).length = swid pb d j
  | 0, _ => rfl
  | d + 1, j => by
    show (be _ _ ++ wEn pb nf q d (j + 1)).length = wid pb j + swid pb d (j + 1)
    rw [List.length_append, be_len, wEn_len pb nf q d (j + 1)]
theorem wEs_len (pb : Nat → Int32) (nf : Nat → Int64) (cl : Nat) : ∀ d i, (wEs pb nf cl d i).length = d * swid pb cl 0
  | 0, _ => by rw [Nat.zero_mul]; rfl
  | d + 1, i => by
    show (wEn pb nf _ cl 0 ++ wEs pb nf cl d (i + 1)).length = _
    rw [List.length_append, wEn_len, wEs_len pb nf cl d (i + 1), Nat.add_mul, Nat.one_mul, Nat.add_comm]
theorem wPa_len (en cl : Nat) (pb : Nat → Int32) (nf : Nat → Int64) : (wPa en cl pb nf).length = lPa en cl pb := by
  unfold wPa lPa
  by_cases a : en = 0
  · rw [if_pos a, if_pos a]; rfl
  · rw [if_neg a, if_neg a]
    simp only [List.length_append, wB_len, be_len, wRow_len, wEs_len, List.length_cons, List.length_nil]; omega
theorem wHd_len (hi wi un ri col al has b0 : Int32) (co pk en cl ma li : Nat) (fb pf pb mf lf fc fd : Nat → Int32) (nf : Nat → Int64) : (wHd hi wi un ri col al has b0 co pk en cl ma li fb pf pb mf lf fc fd nf).length = lHd al has co pk en cl ma li pb fc fd := by
  unfold wHd lHd
  simp only [List.length_append, wB_len, wSz_len, wBi_len, wCo_len, wPa_len, wMa_len, wMe_len, wRe_len]; omega
theorem wAl_len (hi wi un ri col al has b0 : Int32) (co pk en cl ma li : Nat) (fb pf pb mf lf fc fd : Nat → Int32) (nf : Nat → Int64) (p1 p2 : Int32) : (wAl hi wi un ri col al has b0 co pk en cl ma li fb pf pb mf lf fc fd nf p1 p2).length = 32 + lHd al has co pk en cl ma li pb fc fd + (if p2 = 0 then 8 else 16) := by
  unfold wAl
  by_cases a : p2 = 0
  · rw [if_pos a, if_pos a]; simp only [List.length_append, wB_len, be_len, wHd_len]; omega
  · rw [if_neg a, if_neg a]; simp only [List.length_append, wB_len, be_len, wHd_len]; omega
