theorem q_3m (m : Nat) : (3 : Int32) * nI m = nI (3 * m) := by rw [show (3 : Int32) = nI 3 from rfl, q_mul]
theorem q_p1 (m : Nat) : nI m + 1 = nI (m + 1) := (nI_succ m).symm
theorem q_p2 (m : Nat) : nI m + 2 = nI (m + 2) := by rw [show (2 : Int32) = nI 2 from rfl, q_add]
theorem q_liadd {m : Nat} (hm : m < 16) (f : Nat → Int32) (a b c : Int32) : m_Li_add (nI m) 48 f a b c = (nI (m + 1), upd (upd (upd f (3 * m) a) (3 * m + 1) b) (3 * m + 2) c) := by
  unfold m_Li_add k_Li_add_20 k_Li_add_36 k_Li_add_52
  rw [show (16 : Int32) = nI 16 from rfl, il_n (by decide) (by omega) (by omega), q_3m, q_p1, q_p1, q_p2, q_setIn (by decide) (by omega), q_setIn (by decide) (by omega), q_setIn (by decide) (by omega)]
theorem q_part {k w : Nat} (h : 3 * k + w < 48) (f : Nat → Int32) : m_Li_part 48 f (nI k) (nI w) = f (3 * k + w) := by
  unfold m_Li_part k_Li_part_9
  rw [q_3m, q_add, q_valIn (by decide) h]
theorem q_3upd {m : Nat} {f g : Nat → Int32} (h : ∀ k, k < 3 * m → f k = g k) (a b c : Int32) : ∀ k, k < 3 * (m + 1) → upd (upd (upd f (3 * m) a) (3 * m + 1) b) (3 * m + 2) c k = upd (upd (upd g (3 * m) a) (3 * m + 1) b) (3 * m + 2) c k := fun k hk => by
  unfold upd
  by_cases e1 : k = 3 * m + 2
  · rw [if_pos e1, if_pos e1]
  · rw [if_neg e1, if_neg e1]
    by_cases e2 : k = 3 * m + 1
    · rw [if_pos e2, if_pos e2]
    · rw [if_neg e2, if_neg e2]
      by_cases e3 : k = 3 * m
      · rw [if_pos e3, if_pos e3]
      · rw [if_neg e3, if_neg e3]; exact h k (by omega)
theorem p_map {e c n : Nat} {pb : Nat → Int32} {nf : Nat → Int64} {cb : Nat → Int32} {ng : Nat → Int64} (hQ : IQ e c pb n nf cb ng) {m : Nat} {f g : Nat → Int32} (hM : IM e c m f g) (o : Nat → Int64) (p1 p2 p3 : Int32) :
    om_Mo_map (nI c) (nI m) p1 p2 p3 ∧ ∃ k b m2 f2 o2 g2, m_La_map (nI e) (nI c) (nI m) 48 f o p1 p2 p3 = (k, nI m2, f2, o2) ∧ m_Mo_map (nI c) (nI m) g p1 p2 p3 = (b, k, nI m2, g2) ∧ IM e c m2 f2 g2 ∧ (k = 0 → o2 0 = b.toInt64) := by
  have hs := hM
  obtain ⟨i1, i2, i3, i4, i5, i6, i7, i8⟩ := hQ
  obtain ⟨j1, j2, j3, j4⟩ := hM
  have bad1 : ∃ k b m2 f2 o2 g2, ((1 : Int32), nI m, f, o) = (k, nI m2, f2, o2) ∧ ((0 : Int32), (1 : Int32), nI m, g) = (b, k, nI m2, g2) ∧ IM e c m2 f2 g2 ∧ (k = 0 → o2 0 = b.toInt64) := ⟨1, 0, m, f, o, g, rfl, rfl, hs, fun hh => absurd hh (by decide)⟩
  have bad2 : ∃ k b m2 f2 o2 g2, ((2 : Int32), nI m, f, o) = (k, nI m2, f2, o2) ∧ ((0 : Int32), (2 : Int32), nI m, g) = (b, k, nI m2, g2) ∧ IM e c m2 f2 g2 ∧ (k = 0 → o2 0 = b.toInt64) := ⟨2, 0, m, f, o, g, rfl, rfl, hs, fun hh => absurd hh (by decide)⟩
  have good : e ≠ 0 → m < 16 → (p2 ≠ 0 → ∃ j, p3 = nI j ∧ j < c) → (m < 16 ∧ 3 * m < 48 ∧ 3 * m + 1 < 48 ∧ 3 * m + 2 < 48) ∧ ∃ k b m2 f2 o2 g2, ((0 : Int32), nI (m + 1), upd (upd (upd f (3 * m) p1) (3 * m + 1) p2) (3 * m + 2) p3, vp_updL o (0 : Int32).toNatClampNeg (nI (m + 1)).toInt64) = (k, nI m2, f2, o2) ∧ (nI (m + 1), (0 : Int32), nI (m + 1), upd (upd (upd g (3 * m) p1) (3 * m + 1) p2) (3 * m + 2) p3) = (b, k, nI m2, g2) ∧ IM e c m2 f2 g2 ∧ (k = 0 → o2 0 = b.toInt64) := fun he hm hw => by
    refine ⟨by omega, 0, nI (m + 1), m + 1, _, _, _, rfl, rfl, ⟨by omega, fun _ => he, q_3upd j3 p1 p2 p3, fun k hk hh => ?_⟩, fun _ => q_updL _ _ _⟩
    by_cases ek : k = m
    · subst ek
      rw [q_upn _ _ (by omega), q_upd] at hh
      rw [q_upd]; exact hw hh
    · rw [q_upn _ _ (by omega), q_upn _ _ (by omega), q_upn _ _ (by omega)] at hh
      rw [q_upn _ _ (by omega), q_upn _ _ (by omega), q_upn _ _ (by omega)]
      exact j4 k (by omega) hh
  simp only [m_La_map, k_La_map_7, m_FB_map, j_FB_map_28, j_FB_map_48, k_FB_map_70, k_FB_map_96, m_FB_isWay, m_Mo_map, k_Mo_map_6, j_Mo_map_48, j_Mo_map_49, j_Mo_map_68, j_Mo_map_82, k_Mo_map_82, k_Mo_map_27, j_Mo_map_44, om_Mo_map, ok_Mo_map_6, oj_Mo_map_48, oj_Mo_map_49, oj_Mo_map_68, oj_Mo_map_82, ok_Mo_map_82, ok_Mo_map_27, oj_Mo_map_44, q_in0_15, q_ref0, q_ref1, q_ref2, q_ref3, q10, q20, q30, n10, n20, n30, n40, n13, n43, n41, n23, n12, n32, q_oin, q_oab, q_oref, if_true, if_false, true_and, and_true, and_self, and_false, false_and, not_true_eq_false, not_false_eq_true, ne_eq, reduceIte, q_e0 (show e < 2147483648 by omega), q_e0 (show c < 2147483648 by omega), show (16 : Int32) = nI 16 from rfl, q_lt (show m < 2147483648 by omega) (show 16 < 2147483648 by omega), q_eq (show m < 2147483648 by omega) (show 16 < 2147483648 by omega)]
  by_cases h1 : e = 0
  · have h2 : c = 0 := by omega
    simp only [h1, h2, q_ref0, q_ref1, q_ref2, q_ref3, q10, q20, q30, n10, n20, n30, n40, n13, n43, n41, n23, n12, n32, q_oin, q_oab, q_oref, if_true, if_false, true_and, and_true, and_self, and_false, false_and, not_true_eq_false, not_false_eq_true, ne_eq, reduceIte, ite_self]
    subst h1; subst h2
    exact bad1
  · have h2 : ¬ c = 0 := by omega
    by_cases h3 : m < 16
    · have h4 : ¬ m = 16 := by omega
      have hi := fun a b c => q_liadd h3 f a b c
      have w16 : nI 16 = 16 := rfl
      have hc1 : (nI c - 1 : Int32) = nI (c - 1) := by rw [show (1 : Int32) = nI 1 from rfl, q_sub (by omega)]
      have hr : m_Mo_in p3.toInt64 0 (nI c - 1 : Int32).toInt64 = if 0 ≤ p3 ∧ p3 ≤ nI (c - 1) then 1 else 0 := by rw [hc1]; exact q_in32 p3 0 (nI (c - 1))
      simp only [h1, h2, h3, h4, q_ref0, q_ref1, q_ref2, q_ref3, q10, q20, q30, n10, n20, n30, n40, n13, n43, n41, n23, n12, n32, q_oin, q_oab, q_oref, if_true, if_false, true_and, and_true, and_self, and_false, false_and, not_true_eq_false, not_false_eq_true, ne_eq, reduceIte, hi, q_3m, q_p1, q_p2, q_in (show 3 * m < 2147483648 by omega), q_in (show 3 * m + 1 < 2147483648 by omega), q_in (show 3 * m + 2 < 2147483648 by omega), q_cl (show 3 * m < 2147483648 by omega), q_cl (show 3 * m + 1 < 2147483648 by omega), q_cl (show 3 * m + 2 < 2147483648 by omega), hr, w16]
      by_cases k1 : p1 < 0
      · have k2 : ¬ (0 ≤ p1 ∧ p1 ≤ 15) := by grind
        simp only [k1, k2, q_ref0, q_ref1, q_ref2, q_ref3, q10, q20, q30, n10, n20, n30, n40, n13, n43, n41, n23, n12, n32, q_oin, q_oab, q_oref, if_true, if_false, true_and, and_true, and_self, and_false, false_and, not_true_eq_false, not_false_eq_true, ne_eq, reduceIte]; exact bad2
      · by_cases k3 : p1 < 16
        · have k2 : 0 ≤ p1 ∧ p1 ≤ 15 := by grind
          simp only [k1, k2, k3, q_ref0, q_ref1, q_ref2, q_ref3, q10, q20, q30, n10, n20, n30, n40, n13, n43, n41, n23, n12, n32, q_oin, q_oab, q_oref, if_true, if_false, true_and, and_true, and_self, and_false, false_and, not_true_eq_false, not_false_eq_true, ne_eq, reduceIte]
          by_cases k4 : p2 = 0
          · subst k4
            have z : ¬ (0 : Int32) = 1 := by decide
            by_cases k5 : p3 = 0
            · simp only [k5, z, q_ref0, q_ref1, q_ref2, q_ref3, q10, q20, q30, n10, n20, n30, n40, n13, n43, n41, n23, n12, n32, q_oin, q_oab, q_oref, if_true, if_false, true_and, and_true, and_self, and_false, false_and, not_true_eq_false, not_false_eq_true, ne_eq, reduceIte]
              subst k5
              have := good h1 h3 (fun hh => absurd rfl hh)
              exact ⟨⟨this.1.2.1, this.1.2.2.1, this.1.2.2.2⟩, this.2⟩
            · simp only [k5, z, q_ref0, q_ref1, q_ref2, q_ref3, q10, q20, q30, n10, n20, n30, n40, n13, n43, n41, n23, n12, n32, q_oin, q_oab, q_oref, if_true, if_false, true_and, and_true, and_self, and_false, false_and, not_true_eq_false, not_false_eq_true, ne_eq, reduceIte]; exact bad2
          · by_cases k5 : p2 = 1
            · subst k5
              simp only [q_ref0, q_ref1, q_ref2, q_ref3, q10, q20, q30, n10, n20, n30, n40, n13, n43, n41, n23, n12, n32, q_oin, q_oab, q_oref, if_true, if_false, true_and, and_true, and_self, and_false, false_and, not_true_eq_false, not_false_eq_true, ne_eq, reduceIte]
              by_cases k6 : p3 < 0
              · have k7 : ¬ (0 ≤ p3 ∧ p3 ≤ nI (c - 1)) := by grind
                simp only [k6, k7, q_ref0, q_ref1, q_ref2, q_ref3, q10, q20, q30, n10, n20, n30, n40, n13, n43, n41, n23, n12, n32, q_oin, q_oab, q_oref, if_true, if_false, true_and, and_true, and_self, and_false, false_and, not_true_eq_false, not_false_eq_true, ne_eq, reduceIte]; exact bad2
              · obtain ⟨j, rfl, hj⟩ := q_of k6
                simp only [k6, q_ref0, q_ref1, q_ref2, q_ref3, q10, q20, q30, n10, n20, n30, n40, n13, n43, n41, n23, n12, n32, q_oin, q_oab, q_oref, if_true, if_false, true_and, and_true, and_self, and_false, false_and, not_true_eq_false, not_false_eq_true, ne_eq, reduceIte, q_le (show c < 2147483648 by omega) hj, q_0l hj, q_le hj (show c - 1 < 2147483648 by omega)]
                by_cases k7 : c ≤ j
                · have k8 : ¬ j ≤ c - 1 := by omega
                  simp only [k7, k8, q_ref0, q_ref1, q_ref2, q_ref3, q10, q20, q30, n10, n20, n30, n40, n13, n43, n41, n23, n12, n32, q_oin, q_oab, q_oref, if_true, if_false, true_and, and_true, and_self, and_false, false_and, not_true_eq_false, not_false_eq_true, ne_eq, reduceIte]; exact bad2
                · have k8 : j ≤ c - 1 := by omega
                  simp only [k7, k8, q_ref0, q_ref1, q_ref2, q_ref3, q10, q20, q30, n10, n20, n30, n40, n13, n43, n41, n23, n12, n32, q_oin, q_oab, q_oref, if_true, if_false, true_and, and_true, and_self, and_false, false_and, not_true_eq_false, not_false_eq_true, ne_eq, reduceIte]
                  have := good h1 h3 (fun hh => ⟨j, rfl, by omega⟩)
                  exact ⟨⟨this.1.2.1, this.1.2.2.1, this.1.2.2.2⟩, this.2⟩
            · simp only [k4, k5, q_ref0, q_ref1, q_ref2, q_ref3, q10, q20, q30, n10, n20, n30, n40, n13, n43, n41, n23, n12, n32, q_oin, q_oab, q_oref, if_true, if_false, true_and, and_true, and_self, and_false, false_and, not_true_eq_false, not_false_eq_true, ne_eq, reduceIte]; exact bad2
        · have k2 : ¬ (0 ≤ p1 ∧ p1 ≤ 15) := by grind
          simp only [k1, k2, k3, q_ref0, q_ref1, q_ref2, q_ref3, q10, q20, q30, n10, n20, n30, n40, n13, n43, n41, n23, n12, n32, q_oin, q_oab, q_oref, if_true, if_false, true_and, and_true, and_self, and_false, false_and, not_true_eq_false, not_false_eq_true, ne_eq, reduceIte]; exact bad2
    · have h4 : m = 16 := by omega
      simp only [h1, h2, h3, h4, q_ref0, q_ref1, q_ref2, q_ref3, q10, q20, q30, n10, n20, n30, n40, n13, n43, n41, n23, n12, n32, q_oin, q_oab, q_oref, if_true, if_false, true_and, and_true, and_self, and_false, false_and, not_true_eq_false, not_false_eq_true, ne_eq, reduceIte, ite_self]
      subst h4
      exact bad1
theorem q_told1 {m : Nat} (hm : m ≤ 16) (g : Nat → Int32) (p : Int32) : ∀ (d j : Nat), j + d = m → lp_Mo_isTold_4 (nI m) g p (d + 1) (nI j) 1 = 1 ∧ olp_Mo_isTold_4 (nI m) g p (d + 1) (nI j) 1
  | 0, j, h => by
    show lb_Mo_isTold_4 (nI m) g p (lp_Mo_isTold_4 (nI m) g p 0) (nI j) 1 = _ ∧ olb_Mo_isTold_4 (nI m) g p (olp_Mo_isTold_4 (nI m) g p 0) (nI j) 1
    unfold lb_Mo_isTold_4 olb_Mo_isTold_4
    have e : m ≤ j := by omega
    simp only [q_le (show m < 2147483648 by omega) (show j < 2147483648 by omega), e, q_ref0, q_ref1, q_ref2, q_ref3, q10, q20, q30, n10, n20, n30, n40, n13, n43, n41, n23, n12, n32, q_oin, q_oab, q_oref, if_true, if_false, true_and, and_true, and_self, and_false, false_and, not_true_eq_false, not_false_eq_true, ne_eq, reduceIte]
    decide
  | d + 1, j, h => by
    show lb_Mo_isTold_4 (nI m) g p (lp_Mo_isTold_4 (nI m) g p (d + 1)) (nI j) 1 = _ ∧ olb_Mo_isTold_4 (nI m) g p (olp_Mo_isTold_4 (nI m) g p (d + 1)) (nI j) 1
    unfold lb_Mo_isTold_4 olb_Mo_isTold_4 j_Mo_isTold_28 oj_Mo_isTold_28
    have e : ¬ m ≤ j := by omega
    simp only [q_le (show m < 2147483648 by omega) (show j < 2147483648 by omega), e, q_ref0, q_ref1, q_ref2, q_ref3, q10, q20, q30, n10, n20, n30, n40, n13, n43, n41, n23, n12, n32, q_oin, q_oab, q_oref, if_true, if_false, true_and, and_true, and_self, and_false, false_and, not_true_eq_false, not_false_eq_true, ne_eq, reduceIte, ← nI_succ]
    exact q_told1 hm g p d (j + 1) (by omega)
theorem q_told {m : Nat} (hm : m ≤ 16) {f g : Nat → Int32} (hfg : ∀ k, k < 3 * m → f k = g k) (p : Int32) : ∀ (d j : Nat), j + d = m → lp_Li_tells_2 (nI m) 48 f p (d + 1) (nI j) = lp_Mo_isTold_4 (nI m) g p (d + 1) (nI j) 0 ∧ olp_Mo_isTold_4 (nI m) g p (d + 1) (nI j) 0
  | 0, j, h => by
    show lb_Li_tells_2 (nI m) 48 f p (lp_Li_tells_2 (nI m) 48 f p 0) (nI j) = lb_Mo_isTold_4 (nI m) g p (lp_Mo_isTold_4 (nI m) g p 0) (nI j) 0 ∧ olb_Mo_isTold_4 (nI m) g p (olp_Mo_isTold_4 (nI m) g p 0) (nI j) 0
    unfold lb_Li_tells_2 lb_Mo_isTold_4 olb_Mo_isTold_4
    have e : m ≤ j := by omega
    simp only [q_le (show m < 2147483648 by omega) (show j < 2147483648 by omega), e, q_ref0, q_ref1, q_ref2, q_ref3, q10, q20, q30, n10, n20, n30, n40, n13, n43, n41, n23, n12, n32, q_oin, q_oab, q_oref, if_true, if_false, true_and, and_true, and_self, and_false, false_and, not_true_eq_false, not_false_eq_true, ne_eq, reduceIte]
    decide
  | d + 1, j, h => by
    show lb_Li_tells_2 (nI m) 48 f p (lp_Li_tells_2 (nI m) 48 f p (d + 1)) (nI j) = lb_Mo_isTold_4 (nI m) g p (lp_Mo_isTold_4 (nI m) g p (d + 1)) (nI j) 0 ∧ olb_Mo_isTold_4 (nI m) g p (olp_Mo_isTold_4 (nI m) g p (d + 1)) (nI j) 0
    unfold lb_Li_tells_2 lb_Mo_isTold_4 olb_Mo_isTold_4 k_Li_tells_13 j_Mo_isTold_28 oj_Mo_isTold_28
    have e : ¬ m ≤ j := by omega
    have e2 : m_Li_part 48 f (nI j) 0 = g (3 * j) := by
      rw [show (0 : Int32) = nI 0 from rfl, q_part (by omega)]; exact hfg _ (by omega)
    simp only [q_le (show m < 2147483648 by omega) (show j < 2147483648 by omega), e, q_ref0, q_ref1, q_ref2, q_ref3, q10, q20, q30, n10, n20, n30, n40, n13, n43, n41, n23, n12, n32, q_oin, q_oab, q_oref, if_true, if_false, true_and, and_true, and_self, and_false, false_and, not_true_eq_false, not_false_eq_true, ne_eq, reduceIte, e2, q_3m, q_cl (show 3 * j < 2147483648 by omega), q_in (show 3 * j < 2147483648 by omega), ← nI_succ]
    by_cases c : g (3 * j) = p
    · have t := q_told1 hm g p d (j + 1) (by omega)
      simp only [c, q_ref0, q_ref1, q_ref2, q_ref3, q10, q20, q30, n10, n20, n30, n40, n13, n43, n41, n23, n12, n32, q_oin, q_oab, q_oref, if_true, if_false, true_and, and_true, and_self, and_false, false_and, not_true_eq_false, not_false_eq_true, ne_eq, reduceIte, t.1]
      exact ⟨by omega, t.2⟩
    · have t := q_told hm hfg p d (j + 1) (by omega)
      simp only [c, q_ref0, q_ref1, q_ref2, q_ref3, q10, q20, q30, n10, n20, n30, n40, n13, n43, n41, n23, n12, n32, q_oin, q_oab, q_oref, if_true, if_false, true_and, and_true, and_self, and_false, false_and, not_true_eq_false, not_false_eq_true, ne_eq, reduceIte, t.1]
      exact ⟨by omega, t.2⟩
theorem q_isType (p : Int32) : m_FB_isType p = m_Mo_isType p ∧ om_Mo_isType p := by
  simp only [m_FB_isType, j_FB_isType_9, m_Mo_isType, k_Mo_isType_6, om_Mo_isType, ok_Mo_isType_6, q_in0_2, q_ref0, q_ref1, q_ref2, q_ref3, q10, q20, q30, n10, n20, n30, n40, n13, n43, n41, n23, n12, n32, q_oin, q_oab, q_oref, if_true, if_false, true_and, and_true, and_self, and_false, false_and, not_true_eq_false, not_false_eq_true, ne_eq, reduceIte]
  by_cases h1 : p < 0
  · have h2 : ¬ (0 ≤ p ∧ p ≤ 2) := by grind
    simp only [h1, h2, q_ref0, q_ref1, q_ref2, q_ref3, q10, q20, q30, n10, n20, n30, n40, n13, n43, n41, n23, n12, n32, q_oin, q_oab, q_oref, if_true, if_false, true_and, and_true, and_self, and_false, false_and, not_true_eq_false, not_false_eq_true, ne_eq, reduceIte, ite_self]
  · by_cases h3 : p ≤ 2
    · have h2 : 0 ≤ p ∧ p ≤ 2 := by grind
      simp only [h1, h2, h3, q_ref0, q_ref1, q_ref2, q_ref3, q10, q20, q30, n10, n20, n30, n40, n13, n43, n41, n23, n12, n32, q_oin, q_oab, q_oref, if_true, if_false, true_and, and_true, and_self, and_false, false_and, not_true_eq_false, not_false_eq_true, ne_eq, reduceIte, ite_self]
    · have h2 : ¬ (0 ≤ p ∧ p ≤ 2) := by grind
      simp only [h1, h2, h3, q_ref0, q_ref1, q_ref2, q_ref3, q10, q20, q30, n10, n20, n30, n40, n13, n43, n41, n23, n12, n32, q_oin, q_oab, q_oref, if_true, if_false, true_and, and_true, and_self, and_false, false_and, not_true_eq_false, not_false_eq_true, ne_eq, reduceIte, ite_self]
theorem p_channel {m : Nat} {f g : Nat → Int32} (hL : IL m f g) (o : Nat → Int64) (p1 p2 p3 : Int32) :
    om_Mo_channel (nI m) g p1 p2 p3 ∧ ∃ k b m2 f2 o2 g2, m_La_channel (nI m) 48 f o p1 p2 p3 = (k, nI m2, f2, o2) ∧ m_Mo_channel (nI m) g p1 p2 p3 = (b, k, nI m2, g2) ∧ IL m2 f2 g2 ∧ (k = 0 → o2 0 = b.toInt64) := by
  have hs := hL
  obtain ⟨j1, j3⟩ := hL
  have bad1 : ∃ k b m2 f2 o2 g2, ((1 : Int32), nI m, f, o) = (k, nI m2, f2, o2) ∧ ((0 : Int32), (1 : Int32), nI m, g) = (b, k, nI m2, g2) ∧ IL m2 f2 g2 ∧ (k = 0 → o2 0 = b.toInt64) := ⟨1, 0, m, f, o, g, rfl, rfl, hs, fun hh => absurd hh (by decide)⟩
  have bad2 : ∃ k b m2 f2 o2 g2, ((2 : Int32), nI m, f, o) = (k, nI m2, f2, o2) ∧ ((0 : Int32), (2 : Int32), nI m, g) = (b, k, nI m2, g2) ∧ IL m2 f2 g2 ∧ (k = 0 → o2 0 = b.toInt64) := ⟨2, 0, m, f, o, g, rfl, rfl, hs, fun hh => absurd hh (by decide)⟩
  have t := q_told j1 j3 p1 m 0 (by omega)
  have e1 : m_Li_tells (nI m) 48 f p1 = m_Mo_isTold (nI m) g p1 ∧ om_Mo_isTold (nI m) g p1 := by
    unfold m_Li_tells m_Mo_isTold om_Mo_isTold
    rw [q_fuel (by omega)]; exact t
  simp only [m_La_channel, k_La_channel_7, m_FB_channel, j_FB_channel_10, k_FB_channel_21, j_FB_channel_37, j_FB_channel_76, k_FB_channel_70, k_FB_channel_96, m_Mo_channel, k_Mo_channel_6, j_Mo_channel_35, j_Mo_channel_36, j_Mo_channel_70, k_Mo_channel_70, j_Mo_channel_65, k_Mo_channel_59, k_Mo_channel_13, k_Mo_channel_25, om_Mo_channel, ok_Mo_channel_6, oj_Mo_channel_35, oj_Mo_channel_36, oj_Mo_channel_70, ok_Mo_channel_70, om_Mo_tell, oj_Mo_channel_65, ok_Mo_channel_59, ok_Mo_channel_13, ok_Mo_channel_25, q_in0_15, q_in0_65535, q_ref0, q_ref1, q_ref2, q_ref3, q10, q20, q30, n10, n20, n30, n40, n13, n43, n41, n23, n12, n32, q_oin, q_oab, q_oref, if_true, if_false, true_and, and_true, and_self, and_false, false_and, not_true_eq_false, not_false_eq_true, ne_eq, reduceIte, e1.1, e1.2, (q_isType p2).1, (q_isType p2).2, show (16 : Int32) = nI 16 from rfl, q_le (show 16 < 2147483648 by omega) (show m < 2147483648 by omega), q_eq (show m < 2147483648 by omega) (show 16 < 2147483648 by omega)]
  have w16 : nI 16 = 16 := rfl
  simp only [w16]
  by_cases k1 : p1 < 0
  · have k2 : ¬ (0 ≤ p1 ∧ p1 ≤ 15) := by grind
    simp only [k1, k2, q_ref0, q_ref1, q_ref2, q_ref3, q10, q20, q30, n10, n20, n30, n40, n13, n43, n41, n23, n12, n32, q_oin, q_oab, q_oref, if_true, if_false, true_and, and_true, and_self, and_false, false_and, not_true_eq_false, not_false_eq_true, ne_eq, reduceIte]; exact bad1
  · by_cases k3 : p1 < 16
    · have k2 : 0 ≤ p1 ∧ p1 ≤ 15 := by grind
      simp only [k1, k2, k3, q_ref0, q_ref1, q_ref2, q_ref3, q10, q20, q30, n10, n20, n30, n40, n13, n43, n41, n23, n12, n32, q_oin, q_oab, q_oref, if_true, if_false, true_and, and_true, and_self, and_false, false_and, not_true_eq_false, not_false_eq_true, ne_eq, reduceIte]
      by_cases k4 : m_Mo_isType p2 = 0
      · simp only [k4, q_ref0, q_ref1, q_ref2, q_ref3, q10, q20, q30, n10, n20, n30, n40, n13, n43, n41, n23, n12, n32, q_oin, q_oab, q_oref, if_true, if_false, true_and, and_true, and_self, and_false, false_and, not_true_eq_false, not_false_eq_true, ne_eq, reduceIte]; exact bad1
      · by_cases k5 : p3 < 0
        · have k6 : ¬ (0 ≤ p3 ∧ p3 ≤ 65535) := by grind
          simp only [k4, k5, k6, q_ref0, q_ref1, q_ref2, q_ref3, q10, q20, q30, n10, n20, n30, n40, n13, n43, n41, n23, n12, n32, q_oin, q_oab, q_oref, if_true, if_false, true_and, and_true, and_self, and_false, false_and, not_true_eq_false, not_false_eq_true, ne_eq, reduceIte]; exact bad1
        · by_cases k7 : p3 ≤ 65535
          · have k6 : 0 ≤ p3 ∧ p3 ≤ 65535 := by grind
            simp only [k4, k5, k6, k7, q_ref0, q_ref1, q_ref2, q_ref3, q10, q20, q30, n10, n20, n30, n40, n13, n43, n41, n23, n12, n32, q_oin, q_oab, q_oref, if_true, if_false, true_and, and_true, and_self, and_false, false_and, not_true_eq_false, not_false_eq_true, ne_eq, reduceIte]
            by_cases h3 : m < 16
            · have h4 : ¬ m = 16 := by omega
              have h5 : ¬ 16 ≤ m := by omega
              simp only [h4, h5, q_ref0, q_ref1, q_ref2, q_ref3, q10, q20, q30, n10, n20, n30, n40, n13, n43, n41, n23, n12, n32, q_oin, q_oab, q_oref, if_true, if_false, true_and, and_true, and_self, and_false, false_and, not_true_eq_false, not_false_eq_true, ne_eq, reduceIte]
              by_cases k8 : m_Mo_isTold (nI m) g p1 = 0
              · simp only [k8, q_ref0, q_ref1, q_ref2, q_ref3, q10, q20, q30, n10, n20, n30, n40, n13, n43, n41, n23, n12, n32, q_oin, q_oab, q_oref, if_true, if_false, true_and, and_true, and_self, and_false, false_and, not_true_eq_false, not_false_eq_true, ne_eq, reduceIte, q_liadd h3 f p1 p2 p3, q_3m, q_p1, q_p2, q_in (show 3 * m < 2147483648 by omega), q_in (show 3 * m + 1 < 2147483648 by omega), q_in (show 3 * m + 2 < 2147483648 by omega), q_cl (show 3 * m < 2147483648 by omega), q_cl (show 3 * m + 1 < 2147483648 by omega), q_cl (show 3 * m + 2 < 2147483648 by omega)]
                refine ⟨by omega, 0, nI (m + 1), m + 1, _, _, _, rfl, rfl, ⟨by omega, q_3upd j3 p1 p2 p3⟩, fun _ => q_updL _ _ _⟩
              · simp only [k8, q_ref0, q_ref1, q_ref2, q_ref3, q10, q20, q30, n10, n20, n30, n40, n13, n43, n41, n23, n12, n32, q_oin, q_oab, q_oref, if_true, if_false, true_and, and_true, and_self, and_false, false_and, not_true_eq_false, not_false_eq_true, ne_eq, reduceIte]; exact bad2
            · have h4 : m = 16 := by omega
              have h5 : 16 ≤ m := by omega
              simp only [h4, h5, q_ref0, q_ref1, q_ref2, q_ref3, q10, q20, q30, n10, n20, n30, n40, n13, n43, n41, n23, n12, n32, q_oin, q_oab, q_oref, if_true, if_false, true_and, and_true, and_self, and_false, false_and, not_true_eq_false, not_false_eq_true, ne_eq, reduceIte]
              subst h4; exact bad2
          · have k6 : ¬ (0 ≤ p3 ∧ p3 ≤ 65535) := by grind
            simp only [k4, k5, k6, k7, q_ref0, q_ref1, q_ref2, q_ref3, q10, q20, q30, n10, n20, n30, n40, n13, n43, n41, n23, n12, n32, q_oin, q_oab, q_oref, if_true, if_false, true_and, and_true, and_self, and_false, false_and, not_true_eq_false, not_false_eq_true, ne_eq, reduceIte]; exact bad1
    · have k2 : ¬ (0 ≤ p1 ∧ p1 ≤ 15) := by grind
      simp only [k1, k2, k3, q_ref0, q_ref1, q_ref2, q_ref3, q10, q20, q30, n10, n20, n30, n40, n13, n43, n41, n23, n12, n32, q_oin, q_oab, q_oref, if_true, if_false, true_and, and_true, and_self, and_false, false_and, not_true_eq_false, not_false_eq_true, ne_eq, reduceIte]; exact bad1
