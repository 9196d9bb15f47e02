/-- what class and reference share, piece by piece: bits, file, profile, palette, map, lines, resolutions -/
def IB (c : Nat) (f g : Nat → Int32) : Prop := c ≤ 16 ∧ ∀ k, k < c → f k = g k
def IF (s n : Nat) (f g : Nat → Int32) : Prop := s ≤ n ∧ 64 ≤ n ∧ n ≤ 65536 ∧ sb_Fit f ∧ ∀ k, k < s → f k &&& 255 = g k
def IP (h col : Int32) (c n : Nat) (f : Nat → Int32) (pr : Int32) (g : Nat → Int32) : Prop :=
  c ≤ n ∧ 64 ≤ n ∧ n ≤ 1024 ∧ sb_Fit f ∧ 0 ≤ col ∧ ((h = 0 ∧ c = 0 ∧ pr = -1) ∨ (h = 1 ∧ col = 0 ∧ pr = nI c ∧ ∀ k, k < c → f k &&& 255 = g k))
def IQ (e c : Nat) (pb : Nat → Int32) (n : Nat) (nf : Nat → Int64) (cb : Nat → Int32) (ng : Nat → Int64) : Prop :=
  e ≤ 1024 ∧ c ≤ 8 ∧ (e = 0 ↔ c = 0) ∧ e * c ≤ n ∧ 8 ≤ n ∧ n ≤ 4096 ∧ (∀ k, k < c → pb k = cb k ∧ VB (pb k)) ∧ ∀ k, k < e * c → nf k = ng k
def IM (e c m : Nat) (f g : Nat → Int32) : Prop :=
  m ≤ 16 ∧ (m ≠ 0 → e ≠ 0) ∧ (∀ k, k < 3 * m → f k = g k) ∧ ∀ k, k < m → f (3 * k + 1) ≠ 0 → ∃ j, f (3 * k + 2) = nI j ∧ j < c
def IL (m : Nat) (f g : Nat → Int32) : Prop := m ≤ 16 ∧ ∀ k, k < 3 * m → f k = g k
def IR (f g h : Nat → Int32) : Prop := (∀ k, k < 6 → f k = h k ∧ g k = h (6 + k)) ∧ 0 ≤ h 0 ∧ 0 ≤ h 6
/-- loops that fill -/
theorem q_fillIp (n : Nat) (hn : n < 2147483648) (v : Int32) : ∀ (d j : Nat) (f : Nat → Int32), j + d = n → lp_Ar_fillI_5 n v (d + 1) (nI j) f = fun k => if j ≤ k ∧ k < n then v else f k
  | 0, j, f, h => by
    show lb_Ar_fillI_5 n v (lp_Ar_fillI_5 n v 0) (nI j) f = _
    unfold lb_Ar_fillI_5
    rw [il_p hn (by omega) (by omega)]
    funext k; rw [if_neg (by omega)]
  | d + 1, j, f, h => by
    show lb_Ar_fillI_5 n v (lp_Ar_fillI_5 n v (d + 1)) (nI j) f = _
    unfold lb_Ar_fillI_5
    rw [il_n hn (by omega) (by omega), ← nI_succ, q_fillIp n hn v d (j + 1) _ (by omega), q_cl (by omega)]
    funext k
    unfold upd
    by_cases c : k = j
    · subst c; rw [if_neg (by omega), if_pos rfl, if_pos (by omega)]
    · rw [if_neg c]
      by_cases c2 : j + 1 ≤ k ∧ k < n
      · rw [if_pos c2, if_pos (by omega)]
      · rw [if_neg c2, if_neg (by omega)]
theorem q_fuel {n : Nat} (hn : n < 2147483648) : ((nI n).toInt - (0 : Int32).toInt).toNat + 1 = n + 1 := by
  rw [q_toInt hn, Int32.toInt_zero]; omega
theorem q_fillI {n : Nat} (hn : n < 2147483648) (v : Int32) (f : Nat → Int32) : m_Ar_fillI n f v = fun k => if k < n then v else f k := by
  unfold m_Ar_fillI
  rw [q_fuel hn]
  have h := q_fillIp n hn v n 0 f (by omega)
  rw [show (0 : Int32) = nI 0 from rfl, h]
  funext k; simp
theorem q_fillJp (n : Nat) (hn : n < 2147483648) (v : Int64) : ∀ (d j : Nat) (f : Nat → Int64), j + d = n → lp_Ar_fillJ_6 n v (d + 1) (nI j) f = fun k => if j ≤ k ∧ k < n then v else f k
  | 0, j, f, h => by
    show lb_Ar_fillJ_6 n v (lp_Ar_fillJ_6 n v 0) (nI j) f = _
    unfold lb_Ar_fillJ_6
    rw [il_p hn (by omega) (by omega)]
    funext k; rw [if_neg (by omega)]
  | d + 1, j, f, h => by
    show lb_Ar_fillJ_6 n v (lp_Ar_fillJ_6 n v (d + 1)) (nI j) f = _
    unfold lb_Ar_fillJ_6
    rw [il_n hn (by omega) (by omega), ← nI_succ, q_fillJp n hn v d (j + 1) _ (by omega), q_cl (by omega)]
    funext k
    unfold vp_updL
    by_cases c : k = j
    · subst c; rw [if_neg (by omega), if_pos rfl, if_pos (by omega)]
    · rw [if_neg c]
      by_cases c2 : j + 1 ≤ k ∧ k < n
      · rw [if_pos c2, if_pos (by omega)]
      · rw [if_neg c2, if_neg (by omega)]
theorem q_fillJ {n : Nat} (hn : n < 2147483648) (v : Int64) (f : Nat → Int64) : m_Ar_fillJ n f v = fun k => if k < n then v else f k := by
  unfold m_Ar_fillJ
  rw [q_fuel hn]
  have h := q_fillJp n hn v n 0 f (by omega)
  rw [show (0 : Int32) = nI 0 from rfl, h]
  funext k; simp
theorem q_setIn {n j : Nat} (hn : n < 2147483648) (hj : j < n) (f : Nat → Int32) (v : Int32) : m_FB_setIn n f (nI j) v = upd f j v := by
  unfold m_FB_setIn
  rw [i0_n (by omega), il_n hn (by omega) (by omega), q_cl (by omega)]
theorem q_valIn {n j : Nat} (hn : n < 2147483648) (hj : j < n) (f : Nat → Int32) : m_FB_valueIn n f (nI j) = f j := by
  unfold m_FB_valueIn
  rw [i0_n (by omega), il_n hn (by omega) (by omega), q_cl (by omega)]
theorem q_upd (f : Nat → Int32) (j : Nat) (v : Int32) : upd f j v j = v := by unfold upd; rw [if_pos rfl]
theorem q_upn (f : Nat → Int32) {j k : Nat} (v : Int32) (h : k ≠ j) : upd f j v k = f k := by unfold upd; rw [if_neg h]
theorem q_updL (f : Nat → Int64) (j : Nat) (v : Int64) : vp_updL f j v j = v := by unfold vp_updL; rw [if_pos rfl]
theorem q_upnL (f : Nat → Int64) {j k : Nat} (v : Int64) (h : k ≠ j) : vp_updL f j v k = f k := by unfold vp_updL; rw [if_neg h]
theorem IB.upd {c j : Nat} {f g : Nat → Int32} (h : IB c f g) (v : Int32) : IB c (upd f j v) (upd g j v) :=
  ⟨h.1, fun k hk => by
    by_cases e : k = j
    · subst e; rw [q_upd, q_upd]
    · rw [q_upn _ _ e, q_upn _ _ e]; exact h.2 k hk⟩
theorem p_bits {m : Nat} {f g : Nat → Int32} (hB : IB m f g) (p1 p2 : Int32) : om_Mo_bits (nI m) p1 p2 ∧ ∃ k f2 g2, m_La_bits (nI m) 16 f p1 p2 = (k, f2) ∧ m_Mo_bits (nI m) g p1 p2 = (k, g2) ∧ IB m f2 g2 := by
  have hm := hB.1
  simp only [m_La_bits, k_La_bits_3, m_FB_bits, j_FB_bits_15, k_FB_bits_26, k_FB_bits_51, m_Mo_bits, j_Mo_bits_13, j_Mo_bits_29, k_Mo_bits_29, k_Mo_bits_18, om_Mo_bits, oj_Mo_bits_13, oj_Mo_bits_29, ok_Mo_bits_29, ok_Mo_bits_18, q_areBits, q_ref0, q_ref1, q_ref2, q_ref3, q10, q20, q30, n10, n20, n30, n40, n13, n43, n41, n23, n12, n32, q_oin, q_oab, q_oref, if_true, if_false, true_and, and_true, and_self, and_false, false_and, not_true_eq_false, not_false_eq_true, ne_eq, reduceIte]
  by_cases h1 : p1 < 0
  · simp only [h1, q_ref0, q_ref1, q_ref2, q_ref3, q10, q20, q30, n10, n20, n30, n40, n13, n43, n41, n23, n12, n32, q_oin, q_oab, q_oref, if_true, if_false, true_and, and_true, and_self, and_false, false_and, not_true_eq_false, not_false_eq_true, ne_eq, reduceIte]
    exact ⟨1, f, g, rfl, rfl, hB⟩
  · obtain ⟨j, rfl, hj⟩ := q_of h1
    simp only [h1, q_ref0, q_ref1, q_ref2, q_ref3, q10, q20, q30, n10, n20, n30, n40, n13, n43, n41, n23, n12, n32, q_oin, q_oab, q_oref, if_true, if_false, true_and, and_true, and_self, and_false, false_and, not_true_eq_false, not_false_eq_true, ne_eq, reduceIte]
    by_cases h2 : nI j < nI m
    · have h3 := h2
      rw [q_lt hj (by omega)] at h3
      simp only [h2, q_ref0, q_ref1, q_ref2, q_ref3, q10, q20, q30, n10, n20, n30, n40, n13, n43, n41, n23, n12, n32, q_oin, q_oab, q_oref, if_true, if_false, true_and, and_true, and_self, and_false, false_and, not_true_eq_false, not_false_eq_true, ne_eq, reduceIte, q_in hj]
      rcases q_areMo p2 with h4 | ⟨h4, h5⟩
      · simp only [h4, q_ref0, q_ref1, q_ref2, q_ref3, q10, q20, q30, n10, n20, n30, n40, n13, n43, n41, n23, n12, n32, q_oin, q_oab, q_oref, if_true, if_false, true_and, and_true, and_self, and_false, false_and, not_true_eq_false, not_false_eq_true, ne_eq, reduceIte]; exact ⟨2, f, g, rfl, rfl, hB⟩
      · rw [q_setIn (by decide) (by omega), q_cl (by omega)]
        simp only [h4, q_ref0, q_ref1, q_ref2, q_ref3, q10, q20, q30, n10, n20, n30, n40, n13, n43, n41, n23, n12, n32, q_oin, q_oab, q_oref, if_true, if_false, true_and, and_true, and_self, and_false, false_and, not_true_eq_false, not_false_eq_true, ne_eq, reduceIte]
        exact ⟨by omega, 0, _, _, rfl, rfl, hB.upd p2⟩
    · simp only [h2, q_ref0, q_ref1, q_ref2, q_ref3, q10, q20, q30, n10, n20, n30, n40, n13, n43, n41, n23, n12, n32, q_oin, q_oab, q_oref, if_true, if_false, true_and, and_true, and_self, and_false, false_and, not_true_eq_false, not_false_eq_true, ne_eq, reduceIte]
      exact ⟨1, f, g, rfl, rfl, hB⟩
theorem p_colours {h col : Int32} {c n : Nat} {f : Nat → Int32} {pr : Int32} {g : Nat → Int32} (hP : IP h col c n f pr g) (p1 : Int32) :
    om_Mo_colours p1 ∧ ∃ k h2 col2 c2 pr2, m_La_colours col h (nI c) p1 = (k, col2, h2, nI c2) ∧ m_Mo_colours col pr p1 = (k, col2, pr2) ∧ IP h2 col2 c2 n f pr2 g := by
  have hs := hP
  obtain ⟨i1, i2, i3, i4, i5, i6⟩ := hP
  simp only [m_La_colours, k_La_colours_2, m_FB_colours, j_FB_colours_21, k_FB_colours_26, m_Pl_tellColours, k_FB_colours_5, m_FB_areColours, m_Mo_colours, j_Mo_colours_23, j_Mo_colours_24, k_Mo_colours_24, k_Mo_colours_13, om_Mo_colours, oj_Mo_colours_23, oj_Mo_colours_24, ok_Mo_colours_24, ok_Mo_colours_13, q_in16_18, q_ref0, q_ref1, q_ref2, q_ref3, q10, q20, q30, n10, n20, n30, n40, n13, n43, n41, n23, n12, n32, q_oin, q_oab, q_oref, if_true, if_false, true_and, and_true, and_self, and_false, false_and, not_true_eq_false, not_false_eq_true, ne_eq, reduceIte]
  by_cases h1 : p1 = 0
  · subst h1
    simp only [q_ref0, q_ref1, q_ref2, q_ref3, q10, q20, q30, n10, n20, n30, n40, n13, n43, n41, n23, n12, n32, q_oin, q_oab, q_oref, if_true, if_false, true_and, and_true, and_self, and_false, false_and, not_true_eq_false, not_false_eq_true, ne_eq, reduceIte]
    exact ⟨0, 1, 0, 0, 0, rfl, rfl, by omega, i2, i3, i4, by decide, Or.inr ⟨rfl, rfl, rfl, fun k hk => by omega⟩⟩
  · simp only [h1, q_ref0, q_ref1, q_ref2, q_ref3, q10, q20, q30, n10, n20, n30, n40, n13, n43, n41, n23, n12, n32, q_oin, q_oab, q_oref, if_true, if_false, true_and, and_true, and_self, and_false, false_and, not_true_eq_false, not_false_eq_true, ne_eq, reduceIte]
    by_cases h2 : p1 < 16
    · have h3 : ¬ (16 ≤ p1 ∧ p1 ≤ 18) := by grind
      simp only [h2, h3, q_ref0, q_ref1, q_ref2, q_ref3, q10, q20, q30, n10, n20, n30, n40, n13, n43, n41, n23, n12, n32, q_oin, q_oab, q_oref, if_true, if_false, true_and, and_true, and_self, and_false, false_and, not_true_eq_false, not_false_eq_true, ne_eq, reduceIte]
      exact ⟨1, h, col, c, pr, rfl, rfl, hs⟩
    · by_cases h4 : 18 < p1
      · have h3 : ¬ (16 ≤ p1 ∧ p1 ≤ 18) := by grind
        simp only [h2, h4, h3, q_ref0, q_ref1, q_ref2, q_ref3, q10, q20, q30, n10, n20, n30, n40, n13, n43, n41, n23, n12, n32, q_oin, q_oab, q_oref, if_true, if_false, true_and, and_true, and_self, and_false, false_and, not_true_eq_false, not_false_eq_true, ne_eq, reduceIte]
        exact ⟨1, h, col, c, pr, rfl, rfl, hs⟩
      · have h3 : 16 ≤ p1 ∧ p1 ≤ 18 := by grind
        simp only [h2, h4, h3, q_ref0, q_ref1, q_ref2, q_ref3, q10, q20, q30, n10, n20, n30, n40, n13, n43, n41, n23, n12, n32, q_oin, q_oab, q_oref, if_true, if_false, true_and, and_true, and_self, and_false, false_and, not_true_eq_false, not_false_eq_true, ne_eq, reduceIte]
        exact ⟨0, 0, p1, 0, -1, rfl, rfl, by omega, i2, i3, i4, by grind, Or.inl ⟨rfl, rfl, rfl⟩⟩
theorem q_fst {α : Type} {j m : Nat} (hj : j < m) (v : α) (g : Nat → α) : (fun k => if j + 1 ≤ k ∧ k < m then v else (if k = j then v else g k)) = fun k => if j ≤ k ∧ k < m then v else g k := by
  funext k
  by_cases c : k = j
  · subst c; rw [if_neg (by omega), if_pos rfl, if_pos (by omega)]
  · rw [if_neg c]
    by_cases c2 : j + 1 ≤ k ∧ k < m
    · rw [if_pos c2, if_pos (by omega)]
    · rw [if_neg c2, if_neg (by omega)]
theorem q_fs0 {α : Type} {j m : Nat} (hj : m ≤ j) (v : α) (g : Nat → α) : (fun k => if j ≤ k ∧ k < m then v else g k) = g := by
  funext k; rw [if_neg (by omega)]
theorem q_size61 {m : Nat} (hm : m ≤ 16) (un ri p1 p2 p4 p5 p6 : Int32) (x : Int32 × Int32) (h5 : p5 = 0 ∨ p5 = 1) (h6 : p6 = 0 ∨ p6 = 1) : ∀ (d j : Nat) (g : Nat → Int32), j + d = m →
    lp_Mo_size_61 un ri p1 p2 (nI m) p4 p5 p6 x (d + 1) (nI j) g = (x.2, p1, p2, nI m, p5, p6, fun k => if j ≤ k ∧ k < m then p4 else g k) ∧ olp_Mo_size_61 (nI m) p4 p5 p6 (d + 1) (nI j) g
  | 0, j, g, h => by
    show lb_Mo_size_61 un ri p1 p2 (nI m) p4 p5 p6 x (lp_Mo_size_61 un ri p1 p2 (nI m) p4 p5 p6 x 0) (nI j) g = _ ∧ olb_Mo_size_61 (nI m) p4 p5 p6 (olp_Mo_size_61 (nI m) p4 p5 p6 0) (nI j) g
    unfold lb_Mo_size_61 olb_Mo_size_61
    have e : m ≤ j := by omega
    rw [q_fs0 e]
    simp only [q_le (show m < 2147483648 by omega) (show j < 2147483648 by omega), e, q_ref0, q_ref1, q_ref2, q_ref3, q10, q20, q30, n10, n20, n30, n40, n13, n43, n41, n23, n12, n32, q_oin, q_oab, q_oref, if_true, if_false, true_and, and_true, and_self, and_false, false_and, not_true_eq_false, not_false_eq_true, ne_eq, reduceIte, j_Mo_size_93, oj_Mo_size_93]
    rcases h5 with rfl | rfl <;> rcases h6 with rfl | rfl <;> simp only [q_ref0, q_ref1, q_ref2, q_ref3, q10, q20, q30, n10, n20, n30, n40, n13, n43, n41, n23, n12, n32, q_oin, q_oab, q_oref, if_true, if_false, true_and, and_true, and_self, and_false, false_and, not_true_eq_false, not_false_eq_true, ne_eq, reduceIte]
  | d + 1, j, g, h => by
    show lb_Mo_size_61 un ri p1 p2 (nI m) p4 p5 p6 x (lp_Mo_size_61 un ri p1 p2 (nI m) p4 p5 p6 x (d + 1)) (nI j) g = _ ∧ olb_Mo_size_61 (nI m) p4 p5 p6 (olp_Mo_size_61 (nI m) p4 p5 p6 (d + 1)) (nI j) g
    unfold lb_Mo_size_61 olb_Mo_size_61
    have e : ¬ m ≤ j := by omega
    obtain ⟨a1, a2⟩ := q_size61 hm un ri p1 p2 p4 p5 p6 x h5 h6 d (j + 1) (upd g j p4) (by omega)
    simp only [q_le (show m < 2147483648 by omega) (show j < 2147483648 by omega), e, q_ref0, q_ref1, q_ref2, q_ref3, q10, q20, q30, n10, n20, n30, n40, n13, n43, n41, n23, n12, n32, q_oin, q_oab, q_oref, if_true, if_false, true_and, and_true, and_self, and_false, false_and, not_true_eq_false, not_false_eq_true, ne_eq, reduceIte, ← nI_succ, q_cl (show j < 2147483648 by omega), q_in (show j < 2147483648 by omega)]
    rw [a1]
    refine ⟨?_, by omega, a2⟩
    have e2 := q_fst (show j < m by omega) p4 g
    unfold upd
    rw [e2]
theorem p_size {c : Nat} {f g : Nat → Int32} (hB : IB c f g) (hi wi un ri p1 p2 p3 p4 p5 p6 : Int32) (hu : un = 0 ∨ un = 1) (hr : ri = 0 ∨ ri = 1) (h5 : p5 = 0 ∨ p5 = 1) (h6 : p6 = 0 ∨ p6 = 1) :
    om_Mo_size g p1 p2 p3 p4 p5 p6 ∧ ∃ k hi2 wi2 c2 un2 ri2 f2 g2, m_La_size hi wi (nI c) un ri 16 f p1 p2 p3 p4 p5 p6 = (k, hi2, wi2, nI c2, un2, ri2, f2) ∧ m_Mo_size hi wi (nI c) un ri g p1 p2 p3 p4 p5 p6 = (k, hi2, wi2, nI c2, un2, ri2, g2) ∧ IB c2 f2 g2 ∧ (un2 = 0 ∨ un2 = 1) ∧ (ri2 = 0 ∨ ri2 = 1) := by
  have bad : ∀ {P : Prop}, P → P ∧ ∃ k hi2 wi2 c2 un2 ri2 f2 g2, ((1 : Int32), hi, wi, nI c, un, ri, f) = (k, hi2, wi2, nI c2, un2, ri2, f2) ∧ ((1 : Int32), hi, wi, nI c, un, ri, g) = (k, hi2, wi2, nI c2, un2, ri2, g2) ∧ IB c2 f2 g2 ∧ (un2 = 0 ∨ un2 = 1) ∧ (ri2 = 0 ∨ ri2 = 1) :=
    fun h => ⟨h, 1, hi, wi, c, un, ri, f, g, rfl, rfl, hB, hu, hr⟩
  simp only [m_La_size, k_La_size_10, m_FB_size, j_FB_size_10, j_FB_size_31, k_FB_size_43, k_FB_size_110, m_Mo_size, j_Mo_size_31, j_Mo_size_36, k_Mo_size_36, k_Mo_size_17, k_Mo_size_25, om_Mo_size, oj_Mo_size_31, oj_Mo_size_36, ok_Mo_size_36, ok_Mo_size_17, ok_Mo_size_25, q_areBits, q_in1_16, q_ref0, q_ref1, q_ref2, q_ref3, q10, q20, q30, n10, n20, n30, n40, n13, n43, n41, n23, n12, n32, q_oin, q_oab, q_oref, if_true, if_false, true_and, and_true, and_self, and_false, false_and, not_true_eq_false, not_false_eq_true, ne_eq, reduceIte]
  by_cases h1 : p1 < 1
  · simp only [h1, q_ref0, q_ref1, q_ref2, q_ref3, q10, q20, q30, n10, n20, n30, n40, n13, n43, n41, n23, n12, n32, q_oin, q_oab, q_oref, if_true, if_false, true_and, and_true, and_self, and_false, false_and, not_true_eq_false, not_false_eq_true, ne_eq, reduceIte]; exact (bad trivial).2
  · by_cases h2 : p2 < 1
    · have h2b : ¬ 1 ≤ p2 := by grind
      simp only [h1, h2, h2b, q_ref0, q_ref1, q_ref2, q_ref3, q10, q20, q30, n10, n20, n30, n40, n13, n43, n41, n23, n12, n32, q_oin, q_oab, q_oref, if_true, if_false, true_and, and_true, and_self, and_false, false_and, not_true_eq_false, not_false_eq_true, ne_eq, reduceIte]; exact (bad trivial).2
    · have h2b : 1 ≤ p2 := by grind
      by_cases h3 : p3 < 1
      · have h3b : ¬ (1 ≤ p3 ∧ p3 ≤ 16) := by grind
        simp only [h1, h2, h2b, h3, h3b, q_ref0, q_ref1, q_ref2, q_ref3, q10, q20, q30, n10, n20, n30, n40, n13, n43, n41, n23, n12, n32, q_oin, q_oab, q_oref, if_true, if_false, true_and, and_true, and_self, and_false, false_and, not_true_eq_false, not_false_eq_true, ne_eq, reduceIte]; exact (bad trivial).2
      · by_cases h4 : p3 ≤ 16
        · have h3b : 1 ≤ p3 ∧ p3 ≤ 16 := by grind
          obtain ⟨m, rfl, hm⟩ := q_of (show ¬ p3 < 0 by grind)
          have hm2 : m ≤ 16 := by
            have e : (16 : Int32) = nI 16 := rfl
            rw [e, q_le hm (by decide)] at h4; exact h4
          simp only [h1, h2, h2b, h3, h4, h3b, q_ref0, q_ref1, q_ref2, q_ref3, q10, q20, q30, n10, n20, n30, n40, n13, n43, n41, n23, n12, n32, q_oin, q_oab, q_oref, if_true, if_false, true_and, and_true, and_self, and_false, false_and, not_true_eq_false, not_false_eq_true, ne_eq, reduceIte]
          rcases q_areMo p4 with h7 | ⟨h7, h8⟩
          · simp only [h7, q_ref0, q_ref1, q_ref2, q_ref3, q10, q20, q30, n10, n20, n30, n40, n13, n43, n41, n23, n12, n32, q_oin, q_oab, q_oref, if_true, if_false, true_and, and_true, and_self, and_false, false_and, not_true_eq_false, not_false_eq_true, ne_eq, reduceIte]; exact (bad trivial).2
          · simp only [h7, q_ref0, q_ref1, q_ref2, q_ref3, q10, q20, q30, n10, n20, n30, n40, n13, n43, n41, n23, n12, n32, q_oin, q_oab, q_oref, if_true, if_false, true_and, and_true, and_self, and_false, false_and, not_true_eq_false, not_false_eq_true, ne_eq, reduceIte, q_fuel hm]
            obtain ⟨a1, a2⟩ := q_size61 hm2 un ri p1 p2 p4 p5 p6 (0, 0) h5 h6 m 0 g (by omega)
            have e0 : (0 : Int32) = nI 0 := rfl
            refine ⟨a2, 0, p1, p2, m, p5, p6, _, _, rfl, a1, ⟨hm2, fun k hk => ?_⟩, h5, h6⟩
            rw [q_fillI (by decide)]
            show (if k < 16 then p4 else f k) = if 0 ≤ k ∧ k < m then p4 else g k
            rw [if_pos (by omega), if_pos (by omega)]
        · have h3b : ¬ (1 ≤ p3 ∧ p3 ≤ 16) := by grind
          simp only [h1, h2, h2b, h3, h4, h3b, q_ref0, q_ref1, q_ref2, q_ref3, q10, q20, q30, n10, n20, n30, n40, n13, n43, n41, n23, n12, n32, q_oin, q_oab, q_oref, if_true, if_false, true_and, and_true, and_self, and_false, false_and, not_true_eq_false, not_false_eq_true, ne_eq, reduceIte]; exact (bad trivial).2
