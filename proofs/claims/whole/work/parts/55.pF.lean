theorem q_emp57 : ∀ (d j : Nat) (g : Nat → Int32), j + d = 12 →
    lp_Mo_empty_57 (d + 1) (nI j) g = (0, 0, 0, 0, 0, 0, -1, 0, 0, 0, 0, fun k => if j ≤ k ∧ k < 12 then 0 else g k) ∧ olp_Mo_empty_57 (d + 1) (nI j) g
  | 0, j, g, h => by
    show lb_Mo_empty_57 (lp_Mo_empty_57 0) (nI j) g = _ ∧ olb_Mo_empty_57 (olp_Mo_empty_57 0) (nI j) g
    unfold lb_Mo_empty_57 olb_Mo_empty_57
    have e : 12 ≤ j := by omega
    rw [q_fs0 e]
    simp only [show (12 : Int32) = nI 12 from rfl, q_le (show 12 < 2147483648 by omega) (show j < 2147483648 by omega), e, q_ref0, q_ref1, q_ref2, q_ref3, q10, q20, q30, n10, n20, n30, n40, n13, n43, n41, n23, n12, n32, q_oin, q_oab, q_oref, if_true, if_false, true_and, and_true, and_self, and_false, false_and, not_true_eq_false, not_false_eq_true, ne_eq, reduceIte]
  | d + 1, j, g, h => by
    show lb_Mo_empty_57 (lp_Mo_empty_57 (d + 1)) (nI j) g = _ ∧ olb_Mo_empty_57 (olp_Mo_empty_57 (d + 1)) (nI j) g
    unfold lb_Mo_empty_57 olb_Mo_empty_57
    have e : ¬ 12 ≤ j := by omega
    obtain ⟨a1, a2⟩ := q_emp57 d (j + 1) (upd g j 0) (by omega)
    simp only [show (12 : Int32) = nI 12 from rfl, q_le (show 12 < 2147483648 by omega) (show j < 2147483648 by omega), e, q_ref0, q_ref1, q_ref2, q_ref3, q10, q20, q30, n10, n20, n30, n40, n13, n43, n41, n23, n12, n32, q_oin, q_oab, q_oref, if_true, if_false, true_and, and_true, and_self, and_false, false_and, not_true_eq_false, not_false_eq_true, ne_eq, reduceIte, ← nI_succ, q_cl (show j < 2147483648 by omega), q_in (show j < 2147483648 by omega)]
    rw [a1]
    refine ⟨?_, by omega, a2⟩
    have e2 := q_fst (show j < 12 by omega) 0 g
    unfold upd
    rw [e2]
theorem q_moempty (g : Nat → Int32) : m_Mo_empty g = (0, 0, 0, 0, 0, 0, -1, 0, 0, 0, 0, fun k => if k < 12 then 0 else g k) ∧ om_Mo_empty g := by
  unfold m_Mo_empty om_Mo_empty
  have e : ((12 : Int32).toInt - (0 : Int32).toInt).toNat + 1 = 12 + 1 := by decide
  have h := q_emp57 12 0 g rfl
  rw [e]
  refine ⟨?_, h.2⟩
  have h1 := h.1
  rw [show nI 0 = 0 from rfl] at h1
  rw [h1]
  have e3 : (fun k => if 0 ≤ k ∧ k < 12 then (0 : Int32) else g k) = fun k => if k < 12 then 0 else g k := by funext k; simp
  rw [e3]
theorem q_plempty {n : Nat} (h8 : 8 ≤ n) (hn : n ≤ 4096) (pb : Nat → Int32) (nf : Nat → Int64) (fc fd : Nat → Int32) :
    ∃ n2 nf2, m_Pl_empty 8 pb n nf 6 fc 6 fd = (nI 0, nI 0, (fun k => if k < 8 then 7 else pb k), n2, nf2, (fun k => if k < 6 then 0 else fc k), fun k => if k < 6 then 0 else fd k) ∧ 8 ≤ n2 ∧ n2 ≤ 4096 := by
  obtain ⟨n2, nf2, r1, r2, r3, r4, r5⟩ := q_become (a := 0) (b := 0) (by omega) (by omega) (by omega) h8 hn pb nf
  unfold m_Pl_empty k_Pl_empty_49 k_Pl_empty_71 k_Pl_empty_79
  have r0 : m_Pa_become 8 pb n nf 0 0 = (nI 0, nI (if 0 = 0 then 0 else 0), (fun k => if k < 8 then 7 else pb k), n2, nf2) := r1
  rw [r0, q_fillI (by decide), q_fillI (by decide)]
  exact ⟨n2, nf2, rfl, r3, r4⟩
theorem IR0 (fc fd hr : Nat → Int32) : IR (fun k => if k < 6 then 0 else fc k) (fun k => if k < 6 then 0 else fd k) (fun k => if k < 12 then 0 else hr k) :=
  ⟨fun k hk => by
    show (if k < 6 then (0 : Int32) else fc k) = (if k < 12 then 0 else hr k) ∧ (if k < 6 then (0 : Int32) else fd k) = (if 6 + k < 12 then 0 else hr (6 + k))
    rw [if_pos hk, if_pos (by omega), if_pos hk, if_pos (by omega)]; exact ⟨rfl, rfl⟩, by show (0 : Int32) ≤ (if 0 < 12 then 0 else hr 0); rw [if_pos (by decide)]; decide, by show (0 : Int32) ≤ (if 6 < 12 then 0 else hr 6); rw [if_pos (by decide)]; decide⟩
theorem p_plan {e c n : Nat} {pb : Nat → Int32} {nf : Nat → Int64} {cb : Nat → Int32} {ng : Nat → Int64} (hQ : IQ e c pb n nf cb ng) (fc fd hr : Nat → Int32) :
    om_Mo_plan hr ∧ ∃ pb2 n2 nf2 fc2 fd2 hr2, m_FB_plan 8 pb n nf 6 fc 6 fd = (nI 0, nI 0, pb2, n2, nf2, fc2, fd2) ∧ m_Mo_plan hr = (0, 0, nI 0, 0, 0, 0, -1, nI 0, nI 0, nI 0, nI 0, hr2) ∧ IQ 0 0 pb2 n2 nf2 cb ng ∧ IR fc2 fd2 hr2 := by
  obtain ⟨i1, i2, i3, i4, i5, i6, i7, i8⟩ := hQ
  obtain ⟨n2, nf2, r1, r2, r3⟩ := q_plempty i5 i6 pb nf fc fd
  simp only [m_FB_plan, k_FB_plan_4, m_Mo_plan, k_Mo_plan_6, om_Mo_plan, ok_Mo_plan_6, r1, (q_moempty hr).1, (q_moempty hr).2, q_ref0, q_ref1, q_ref2, q_ref3, q10, q20, q30, n10, n20, n30, n40, n13, n43, n41, n23, n12, n32, q_oin, q_oab, q_oref, if_true, if_false, true_and, and_true, and_self, and_false, false_and, not_true_eq_false, not_false_eq_true, ne_eq, reduceIte]
  exact ⟨_, n2, nf2, _, _, _, rfl, rfl, ⟨by omega, by omega, Iff.rfl, by omega, r2, r3, fun k hk => by omega, fun k hk => by omega⟩, IR0 fc fd hr⟩
theorem p_shown {c0 : Nat} (hc0 : c0 ≤ 16) {e c n : Nat} {pb : Nat → Int32} {nf : Nat → Int64} {cb : Nat → Int32} {ng : Nat → Int64} (hQ : IQ e c pb n nf cb ng) {m : Nat} {f g : Nat → Int32} (hM : IM e c m f g) (o : Nat → Int64) (p1 p2 : Int32) :
    om_Mo_shown (nI c0) (nI e) (nI c) (nI m) g p1 p2 ∧ ∃ k b o2, m_La_shown (nI c0) (nI m) 48 f (nI e) (nI c) n nf o p1 p2 = (k, o2) ∧ m_Mo_shown (nI c0) (nI e) (nI c) (nI m) g ng p1 p2 = (b, k) ∧ (k = 0 → o2 0 = b) := by
  obtain ⟨i1, i2, i3, i4, i5, i6, i7, i8⟩ := hQ
  obtain ⟨j1, j2, j3, j4⟩ := hM
  have z0 : (nI m ≤ 0) = (m = 0) := by
    rw [show (0 : Int32) = nI 0 from rfl, q_le (by omega) (by decide)]; simp
  simp only [m_La_shown, k_La_shown_5, m_FB_shown, j_FB_shown_15, k_FB_shown_9, k_FB_shown_32, m_Pl_sampleShown, k_Pl_sampleShown_16, k_Pl_sampleShown_54, k_Pl_sampleShown_57, m_Pl_channelCount, m_Mo_shown, j_Mo_shown_18, j_Mo_shown_29, j_Mo_shown_34, k_Mo_shown_34, j_Mo_shown_91, om_Mo_shown, oj_Mo_shown_18, oj_Mo_shown_29, oj_Mo_shown_34, ok_Mo_shown_34, oj_Mo_shown_91, q_ref0, q_ref1, q_ref2, q_ref3, q10, q20, q30, n10, n20, n30, n40, n13, n43, n41, n23, n12, n32, q_oin, q_oab, q_oref, if_true, if_false, true_and, and_true, and_self, and_false, false_and, not_true_eq_false, not_false_eq_true, ne_eq, reduceIte, z0, q_e0 (show m < 2147483648 by omega)]
  by_cases h1 : p1 < 0
  · simp only [h1, q_ref0, q_ref1, q_ref2, q_ref3, q10, q20, q30, n10, n20, n30, n40, n13, n43, n41, n23, n12, n32, q_oin, q_oab, q_oref, if_true, if_false, true_and, and_true, and_self, and_false, false_and, not_true_eq_false, not_false_eq_true, ne_eq, reduceIte, ite_self]
    exact ⟨1, 0, o, rfl, rfl, fun hh => absurd hh (by decide)⟩
  · obtain ⟨k, rfl, hk⟩ := q_of h1
    simp only [h1, q_ref0, q_ref1, q_ref2, q_ref3, q10, q20, q30, n10, n20, n30, n40, n13, n43, n41, n23, n12, n32, q_oin, q_oab, q_oref, if_true, if_false, true_and, and_true, and_self, and_false, false_and, not_true_eq_false, not_false_eq_true, ne_eq, reduceIte]
    by_cases h2 : m = 0
    · simp only [h2, q_ref0, q_ref1, q_ref2, q_ref3, q10, q20, q30, n10, n20, n30, n40, n13, n43, n41, n23, n12, n32, q_oin, q_oab, q_oref, if_true, if_false, true_and, and_true, and_self, and_false, false_and, not_true_eq_false, not_false_eq_true, ne_eq, reduceIte, q_lt hk (show c0 < 2147483648 by omega)]
      by_cases h3 : k < c0
      · simp only [h3, q_ref0, q_ref1, q_ref2, q_ref3, q10, q20, q30, n10, n20, n30, n40, n13, n43, n41, n23, n12, n32, q_oin, q_oab, q_oref, if_true, if_false, true_and, and_true, and_self, and_false, false_and, not_true_eq_false, not_false_eq_true, ne_eq, reduceIte]
        exact ⟨0, _, _, rfl, rfl, fun _ => q_updL _ _ _⟩
      · simp only [h3, q_ref0, q_ref1, q_ref2, q_ref3, q10, q20, q30, n10, n20, n30, n40, n13, n43, n41, n23, n12, n32, q_oin, q_oab, q_oref, if_true, if_false, true_and, and_true, and_self, and_false, false_and, not_true_eq_false, not_false_eq_true, ne_eq, reduceIte]
        exact ⟨1, 0, o, rfl, rfl, fun hh => absurd hh (by decide)⟩
    · simp only [h2, q_ref0, q_ref1, q_ref2, q_ref3, q10, q20, q30, n10, n20, n30, n40, n13, n43, n41, n23, n12, n32, q_oin, q_oab, q_oref, if_true, if_false, true_and, and_true, and_self, and_false, false_and, not_true_eq_false, not_false_eq_true, ne_eq, reduceIte, q_lt hk (show m < 2147483648 by omega)]
      by_cases h3 : k < m
      · have he := j2 h2
        have a1 : m_Li_part 48 f (nI k) 1 = g (3 * k + 1) := by
          rw [show (1 : Int32) = nI 1 from rfl, q_part (by omega)]; exact j3 _ (by omega)
        have a2 : m_Li_part 48 f (nI k) 2 = g (3 * k + 2) := by
          rw [show (2 : Int32) = nI 2 from rfl, q_part (by omega)]; exact j3 _ (by omega)
        simp only [h3, q_ref0, q_ref1, q_ref2, q_ref3, q10, q20, q30, n10, n20, n30, n40, n13, n43, n41, n23, n12, n32, q_oin, q_oab, q_oref, if_true, if_false, true_and, and_true, and_self, and_false, false_and, not_true_eq_false, not_false_eq_true, ne_eq, reduceIte, a1, a2, q_3m, q_p1, q_p2, q_cl (show 3 * k + 1 < 2147483648 by omega), q_cl (show 3 * k + 2 < 2147483648 by omega), q_in (show 3 * k + 1 < 2147483648 by omega), q_in (show 3 * k + 2 < 2147483648 by omega)]
        by_cases h4 : g (3 * k + 1) = 0
        · simp only [h4, q_ref0, q_ref1, q_ref2, q_ref3, q10, q20, q30, n10, n20, n30, n40, n13, n43, n41, n23, n12, n32, q_oin, q_oab, q_oref, if_true, if_false, true_and, and_true, and_self, and_false, false_and, not_true_eq_false, not_false_eq_true, ne_eq, reduceIte]
          exact ⟨by omega, 0, _, _, rfl, rfl, fun _ => q_updL _ _ _⟩
        · have h5 := j4 k h3 (by rw [j3 _ (by omega)]; exact h4)
          obtain ⟨t, ht, ht2⟩ := h5
          rw [j3 _ (by omega)] at ht
          have he1 : (nI e - 1 : Int32) = nI (e - 1) := by rw [show (1 : Int32) = nI 1 from rfl, q_sub (by omega)]
          simp only [h4, q_ref0, q_ref1, q_ref2, q_ref3, q10, q20, q30, n10, n20, n30, n40, n13, n43, n41, n23, n12, n32, q_oin, q_oab, q_oref, if_true, if_false, true_and, and_true, and_self, and_false, false_and, not_true_eq_false, not_false_eq_true, ne_eq, reduceIte, ht, he1]
          by_cases h6 : p2 < 0
          · have h7 : ¬ (0 : Int32) ≤ p2 := by grind
            have h8 : ¬ nI (e - 1) < p2 := by
              have : (0 : Int32) ≤ nI (e - 1) := by rw [q_0l (by omega)]; trivial
              grind
            have h9 : ¬ (0 : Int32) < p2 := by grind
            have hx := q_ix (show 0 < e by omega) ht2
            have w := q_numAt (n := n) (nf := nf) (show 0 < e by omega) ht2 i4 i6
            rw [show nI 0 = 0 from rfl] at w
            have w2 : (nI c * 0 + nI t : Int32) = nI t := by rw [show (0 : Int32) = nI 0 from rfl, q_mul, q_add]; congr 1; omega
            simp only [h7, h8, h9, q_ref0, q_ref1, q_ref2, q_ref3, q10, q20, q30, n10, n20, n30, n40, n13, n43, n41, n23, n12, n32, q_oin, q_oab, q_oref, if_true, if_false, true_and, and_true, and_self, and_false, false_and, not_true_eq_false, not_false_eq_true, ne_eq, reduceIte, w, w2, q_in (show t < 2147483648 by omega), q_cl (show t < 2147483648 by omega)]
            refine ⟨by omega, 0, _, _, rfl, rfl, fun _ => ?_⟩
            rw [show (0 : Int32).toNatClampNeg = 0 from rfl, q_updL, i8 _ hx]; congr 1; omega
          · obtain ⟨v, rfl, hv⟩ := q_of h6
            have h7 : (0 : Int32) ≤ nI v := by rw [q_0l hv]; trivial
            simp only [h7, q_ref0, q_ref1, q_ref2, q_ref3, q10, q20, q30, n10, n20, n30, n40, n13, n43, n41, n23, n12, n32, q_oin, q_oab, q_oref, if_true, if_false, true_and, and_true, and_self, and_false, false_and, not_true_eq_false, not_false_eq_true, ne_eq, reduceIte, q_lt (show e - 1 < 2147483648 by omega) hv, q_lt hv (show e < 2147483648 by omega)]
            by_cases h8 : v < e
            · have h9 : ¬ e - 1 < v := by omega
              have hx := q_ix h8 ht2
              have w := q_numAt (n := n) (nf := nf) h8 ht2 i4 i6
              have z : (if 0 < nI v then nI v else 0) = nI v := by
                rw [show (0 : Int32) = nI 0 from rfl]
                simp only [q_lt (show 0 < 2147483648 by omega) hv]
                by_cases hh : 0 < v
                · rw [if_pos hh]
                · rw [if_neg hh]; congr 1; omega
              have w2 : (nI c * nI v + nI t : Int32) = nI (v * c + t) := by rw [q_mul, q_add, Nat.mul_comm]
              simp only [h8, h9, q_ref0, q_ref1, q_ref2, q_ref3, q10, q20, q30, n10, n20, n30, n40, n13, n43, n41, n23, n12, n32, q_oin, q_oab, q_oref, if_true, if_false, true_and, and_true, and_self, and_false, false_and, not_true_eq_false, not_false_eq_true, ne_eq, reduceIte, z, w, w2, q_in (show v * c + t < 2147483648 by omega), q_cl (show v * c + t < 2147483648 by omega)]
              refine ⟨by omega, 0, _, _, rfl, rfl, fun _ => ?_⟩
              rw [show (0 : Int32).toNatClampNeg = 0 from rfl, q_updL, i8 _ hx]
            · have h9 : e - 1 < v := by omega
              have hx := q_ix (show e - 1 < e by omega) ht2
              have w := q_numAt (n := n) (nf := nf) (show e - 1 < e by omega) ht2 i4 i6
              have z : (if 0 < nI (e - 1) then nI (e - 1) else 0) = nI (e - 1) := by
                rw [show (0 : Int32) = nI 0 from rfl]
                simp only [q_lt (show 0 < 2147483648 by omega) (show e - 1 < 2147483648 by omega)]
                by_cases hh : 0 < e - 1
                · rw [if_pos hh]
                · rw [if_neg hh]; congr 1; omega
              have w2 : (nI c * nI (e - 1) + nI t : Int32) = nI ((e - 1) * c + t) := by rw [q_mul, q_add, Nat.mul_comm]
              simp only [h8, h9, q_ref0, q_ref1, q_ref2, q_ref3, q10, q20, q30, n10, n20, n30, n40, n13, n43, n41, n23, n12, n32, q_oin, q_oab, q_oref, if_true, if_false, true_and, and_true, and_self, and_false, false_and, not_true_eq_false, not_false_eq_true, ne_eq, reduceIte, z, w, w2, q_in (show (e - 1) * c + t < 2147483648 by omega), q_cl (show (e - 1) * c + t < 2147483648 by omega)]
              refine ⟨by omega, 0, _, _, rfl, rfl, fun _ => ?_⟩
              rw [show (0 : Int32).toNatClampNeg = 0 from rfl, q_updL, i8 _ hx]
      · simp only [h3, q_ref0, q_ref1, q_ref2, q_ref3, q10, q20, q30, n10, n20, n30, n40, n13, n43, n41, n23, n12, n32, q_oin, q_oab, q_oref, if_true, if_false, true_and, and_true, and_self, and_false, false_and, not_true_eq_false, not_false_eq_true, ne_eq, reduceIte]
        exact ⟨1, 0, o, rfl, rfl, fun hh => absurd hh (by decide)⟩
theorem q_or0 (a b : Int32) : (a ||| b = 0) = (a = 0 ∧ b = 0) := by
  apply propext
  constructor
  · intro h
    have h1 := congrArg Int32.toBitVec h
    rw [Int32.toBitVec_or] at h1
    have h2 : a.toBitVec = 0#32 ∧ b.toBitVec = 0#32 := by
      constructor
      · apply BitVec.eq_of_getLsbD_eq; intro i hi
        have h3 := congrArg (fun v => BitVec.getLsbD v i) h1
        simp only [BitVec.getLsbD_or] at h3
        have h4 : ((0 : Int32).toBitVec).getLsbD i = false := by show (0#32).getLsbD i = false; simp
        rw [h4] at h3
        rw [BitVec.getLsbD_zero]
        revert h3; cases a.toBitVec.getLsbD i <;> simp
      · apply BitVec.eq_of_getLsbD_eq; intro i hi
        have h3 := congrArg (fun v => BitVec.getLsbD v i) h1
        simp only [BitVec.getLsbD_or] at h3
        have h4 : ((0 : Int32).toBitVec).getLsbD i = false := by show (0#32).getLsbD i = false; simp
        rw [h4] at h3
        rw [BitVec.getLsbD_zero]
        revert h3; cases b.toBitVec.getLsbD i <;> simp
    exact ⟨Int32.toBitVec_inj.1 h2.1, Int32.toBitVec_inj.1 h2.2⟩
  · rintro ⟨rfl, rfl⟩; decide
theorem q_rp (x : Int32) : m_FB_isRatioPart x = if 1 ≤ x ∧ x ≤ 65535 then 1 else 0 := by
  unfold m_FB_isRatioPart; grind
theorem q_pw (x : Int32) : m_FB_isPower x = if -128 ≤ x ∧ x ≤ 127 then 1 else 0 := by
  unfold m_FB_isPower; grind
theorem IR.cap {f g h : Nat → Int32} (r : IR f g h) (a b c d x y : Int32) (ha : 0 ≤ a) : IR (upd (upd (upd (upd (upd (upd f 0 a) 1 b) 2 c) 3 d) 4 x) 5 y) g (upd (upd (upd (upd (upd (upd h 0 a) 1 b) 2 c) 3 d) 4 x) 5 y) :=
  ⟨fun k hk => by
    have h1 := r.1 k hk
    refine ⟨?_, by rw [q_upn _ _ (by omega), q_upn _ _ (by omega), q_upn _ _ (by omega), q_upn _ _ (by omega), q_upn _ _ (by omega), q_upn _ _ (by omega)]; exact h1.2⟩
    have h2 : k = 0 ∨ k = 1 ∨ k = 2 ∨ k = 3 ∨ k = 4 ∨ k = 5 := by omega
    rcases h2 with rfl | rfl | rfl | rfl | rfl | rfl <;> simp [upd], by simp [upd]; exact ha, by simp [upd]; exact r.2.2⟩
theorem IR.dis {f g h : Nat → Int32} (r : IR f g h) (a b c d x y : Int32) (ha : 0 ≤ a) : IR f (upd (upd (upd (upd (upd (upd g 0 a) 1 b) 2 c) 3 d) 4 x) 5 y) (upd (upd (upd (upd (upd (upd h 6 a) 7 b) 8 c) 9 d) 10 x) 11 y) :=
  ⟨fun k hk => by
    have h1 := r.1 k hk
    refine ⟨by rw [q_upn _ _ (by omega), q_upn _ _ (by omega), q_upn _ _ (by omega), q_upn _ _ (by omega), q_upn _ _ (by omega), q_upn _ _ (by omega)]; exact h1.1, ?_⟩
    have h2 : k = 0 ∨ k = 1 ∨ k = 2 ∨ k = 3 ∨ k = 4 ∨ k = 5 := by omega
    rcases h2 with rfl | rfl | rfl | rfl | rfl | rfl <;> simp [upd], by simp [upd]; exact r.2.1, by simp [upd]; exact ha⟩
theorem q_set6 (f : Nat → Int32) (a b c d x y : Int32) : m_FB_setIn 6 (m_FB_setIn 6 (m_FB_setIn 6 (m_FB_setIn 6 (m_FB_setIn 6 (m_FB_setIn 6 f 0 a) 1 b) 2 c) 3 d) 4 x) 5 y = upd (upd (upd (upd (upd (upd f 0 a) 1 b) 2 c) 3 d) 4 x) 5 y := by
  rw [show (0 : Int32) = nI 0 from rfl, show (1 : Int32) = nI 1 from rfl, show (2 : Int32) = nI 2 from rfl, show (3 : Int32) = nI 3 from rfl, show (4 : Int32) = nI 4 from rfl, show (5 : Int32) = nI 5 from rfl]
  rw [q_setIn (by decide) (by decide), q_setIn (by decide) (by decide), q_setIn (by decide) (by decide), q_setIn (by decide) (by decide), q_setIn (by decide) (by decide), q_setIn (by decide) (by decide)]
theorem q_o155 : oj_Mo_resolution_155 0 ∧ oj_Mo_resolution_155 6 := by
  unfold oj_Mo_resolution_155 vp_in; decide
theorem p_resolution {fc fd hr : Nat → Int32} (hR : IR fc fd hr) (p1 p2 p3 p4 p5 p6 p7 : Int32) :
    om_Mo_resolution p1 p2 p3 p4 p5 p6 p7 ∧ ∃ k fc2 fd2 hr2, m_La_resolution 6 fd 6 fc p1 p2 p3 p4 p5 p6 p7 = (k, fd2, fc2) ∧ m_Mo_resolution hr p1 p2 p3 p4 p5 p6 p7 = (k, hr2) ∧ IR fc2 fd2 hr2 := by
  have bad : ∃ k fc2 fd2 hr2, ((1 : Int32), fd, fc) = (k, fd2, fc2) ∧ ((1 : Int32), hr) = (k, hr2) ∧ IR fc2 fd2 hr2 := ⟨1, fc, fd, hr, rfl, rfl, hR⟩
  have good : 0 ≤ p2 → (oj_Mo_resolution_155 (if p1 = 0 then 0 else 6)) ∧ ∃ k fc2 fd2 hr2, (if p1 = 0 then ((0 : Int32), fd, upd (upd (upd (upd (upd (upd fc 0 p2) 1 p3) 2 p4) 3 p5) 4 p6) 5 p7) else (0, upd (upd (upd (upd (upd (upd fd 0 p2) 1 p3) 2 p4) 3 p5) 4 p6) 5 p7, fc)) = (k, fd2, fc2) ∧ (if p1 = 0 then j_Mo_resolution_155 hr p2 p3 p4 p5 p6 p7 (0, 0) 0 else j_Mo_resolution_155 hr p2 p3 p4 p5 p6 p7 (0, 0) 6) = (k, hr2) ∧ IR fc2 fd2 hr2 := fun h => by
    by_cases c : p1 = 0
    · rw [if_pos c, if_pos c, if_pos c]
      exact ⟨q_o155.1, 0, _, _, _, rfl, rfl, hR.cap p2 p3 p4 p5 p6 p7 h⟩
    · rw [if_neg c, if_neg c, if_neg c]
      exact ⟨q_o155.2, 0, _, _, _, rfl, rfl, hR.dis p2 p3 p4 p5 p6 p7 h⟩
  have ite1 : ∀ (α β : Type) (a b : α) (f : α → β), (if p1 = 0 then f a else f b) = f (if p1 = 0 then a else b) := fun α β a b f => by by_cases c : p1 = 0 <;> simp [c]
  simp only [m_La_resolution, k_La_resolution_12, m_FB_resolution, j_FB_resolution_23, k_FB_resolution_31, j_FB_resolution_60, k_FB_resolution_38, k_FB_resolution_46, k_FB_resolution_54, j_FB_resolution_70, k_FB_resolution_72, j_FB_resolution_86, k_FB_resolution_80, k_FB_resolution_123, k_FB_resolution_130, k_FB_resolution_138, k_FB_resolution_146, k_FB_resolution_154, k_FB_resolution_162, k_FB_resolution_123_116, k_FB_resolution_130_125, k_FB_resolution_138_134, k_FB_resolution_146_143, k_FB_resolution_154_152, k_FB_resolution_162_161, m_Mo_resolution, j_Mo_resolution_33, k_Mo_resolution_41, j_Mo_resolution_119, j_Mo_resolution_120, j_Mo_resolution_138, k_Mo_resolution_138, j_Mo_resolution_137, k_Mo_resolution_53, k_Mo_resolution_66, k_Mo_resolution_79, k_Mo_resolution_94, k_Mo_resolution_109, j_Mo_resolution_32, om_Mo_resolution, oj_Mo_resolution_33, ok_Mo_resolution_41, oj_Mo_resolution_119, oj_Mo_resolution_120, oj_Mo_resolution_138, ok_Mo_resolution_138, oj_Mo_resolution_137, ok_Mo_resolution_53, ok_Mo_resolution_66, ok_Mo_resolution_79, ok_Mo_resolution_94, ok_Mo_resolution_109, oj_Mo_resolution_32, q_in1_65535, q_inp, q_rp, q_pw, q_or0, q_set6, q_ref0, q_ref1, q_ref2, q_ref3, q10, q20, q30, n10, n20, n30, n40, n13, n43, n41, n23, n12, n32, q_oin, q_oab, q_oref, if_true, if_false, true_and, and_true, and_self, and_false, false_and, not_true_eq_false, not_false_eq_true, ne_eq, reduceIte]
  by_cases z2 : p2 = 0 ∧ p3 = 0 ∧ p4 = 0 ∧ p5 = 0 ∧ p6 = 0 ∧ p7 = 0
  · obtain ⟨rfl, rfl, rfl, rfl, rfl, rfl⟩ := z2
    have g := good (by decide)
    have y1 : ¬ ((1 : Int32) ≤ 0 ∧ (0 : Int32) ≤ 65535) := by decide
    have y2 : (-128 : Int32) ≤ 0 ∧ (0 : Int32) ≤ 127 := by decide
    simp only [y1, y2, q_ref0, q_ref1, q_ref2, q_ref3, q10, q20, q30, n10, n20, n30, n40, n13, n43, n41, n23, n12, n32, q_oin, q_oab, q_oref, if_true, if_false, true_and, and_true, and_self, and_false, false_and, not_true_eq_false, not_false_eq_true, ne_eq, reduceIte]
    by_cases c : p1 = 0
    · simp only [c, q_ref0, q_ref1, q_ref2, q_ref3, q10, q20, q30, n10, n20, n30, n40, n13, n43, n41, n23, n12, n32, q_oin, q_oab, q_oref, if_true, if_false, true_and, and_true, and_self, and_false, false_and, not_true_eq_false, not_false_eq_true, ne_eq, reduceIte] at g ⊢; exact g
    · simp only [c, q_ref0, q_ref1, q_ref2, q_ref3, q10, q20, q30, n10, n20, n30, n40, n13, n43, n41, n23, n12, n32, q_oin, q_oab, q_oref, if_true, if_false, true_and, and_true, and_self, and_false, false_and, not_true_eq_false, not_false_eq_true, ne_eq, reduceIte] at g ⊢; exact g
  · have z3 : ¬ (((((p2 = 0 ∧ p3 = 0) ∧ p4 = 0) ∧ p5 = 0) ∧ p6 = 0) ∧ p7 = 0) := fun h => z2 ⟨h.1.1.1.1.1, h.1.1.1.1.2, h.1.1.1.2, h.1.1.2, h.1.2, h.2⟩
    simp only [z3, q_ref0, q_ref1, q_ref2, q_ref3, q10, q20, q30, n10, n20, n30, n40, n13, n43, n41, n23, n12, n32, q_oin, q_oab, q_oref, if_true, if_false, true_and, and_true, and_self, and_false, false_and, not_true_eq_false, not_false_eq_true, ne_eq, reduceIte]
    have tree : ∀ (α : Type) (a b : α), (if p2 = 0 then (if p3 = 0 then (if p4 = 0 then (if p5 = 0 then (if p6 = 0 then (if p7 = 0 then a else b) else b) else b) else b) else b) else b) = b := fun α a b => by
      by_cases a2 : p2 = 0
      · rw [if_pos a2]
        by_cases a3 : p3 = 0
        · rw [if_pos a3]
          by_cases a4 : p4 = 0
          · rw [if_pos a4]
            by_cases a5 : p5 = 0
            · rw [if_pos a5]
              by_cases a6 : p6 = 0
              · rw [if_pos a6, if_neg (fun a7 => z2 ⟨a2, a3, a4, a5, a6, a7⟩)]
              · rw [if_neg a6]
            · rw [if_neg a5]
          · rw [if_neg a4]
        · rw [if_neg a3]
      · rw [if_neg a2]
    rw [tree, tree]
    by_cases a2 : 1 ≤ p2 ∧ p2 ≤ 65535
    · by_cases a3 : 1 ≤ p3 ∧ p3 ≤ 65535
      · by_cases a4 : 1 ≤ p4 ∧ p4 ≤ 65535
        · by_cases a5 : 1 ≤ p5 ∧ p5 ≤ 65535
          · by_cases a6 : -128 ≤ p6 ∧ p6 ≤ 127
            · by_cases a7 : -128 ≤ p7 ∧ p7 ≤ 127
              · have g := good (by grind)
                simp only [a2, a3, a4, a5, a6, a7, q_ref0, q_ref1, q_ref2, q_ref3, q10, q20, q30, n10, n20, n30, n40, n13, n43, n41, n23, n12, n32, q_oin, q_oab, q_oref, if_true, if_false, true_and, and_true, and_self, and_false, false_and, not_true_eq_false, not_false_eq_true, ne_eq, reduceIte]
                by_cases c : p1 = 0
                · simp only [c, q_ref0, q_ref1, q_ref2, q_ref3, q10, q20, q30, n10, n20, n30, n40, n13, n43, n41, n23, n12, n32, q_oin, q_oab, q_oref, if_true, if_false, true_and, and_true, and_self, and_false, false_and, not_true_eq_false, not_false_eq_true, ne_eq, reduceIte] at g ⊢; exact g
                · simp only [c, q_ref0, q_ref1, q_ref2, q_ref3, q10, q20, q30, n10, n20, n30, n40, n13, n43, n41, n23, n12, n32, q_oin, q_oab, q_oref, if_true, if_false, true_and, and_true, and_self, and_false, false_and, not_true_eq_false, not_false_eq_true, ne_eq, reduceIte] at g ⊢; exact g
              · simp only [a2, a3, a4, a5, a6, a7, q_ref0, q_ref1, q_ref2, q_ref3, q10, q20, q30, n10, n20, n30, n40, n13, n43, n41, n23, n12, n32, q_oin, q_oab, q_oref, if_true, if_false, true_and, and_true, and_self, and_false, false_and, not_true_eq_false, not_false_eq_true, ne_eq, reduceIte]; exact bad
            · simp only [a2, a3, a4, a5, a6, q_ref0, q_ref1, q_ref2, q_ref3, q10, q20, q30, n10, n20, n30, n40, n13, n43, n41, n23, n12, n32, q_oin, q_oab, q_oref, if_true, if_false, true_and, and_true, and_self, and_false, false_and, not_true_eq_false, not_false_eq_true, ne_eq, reduceIte]; exact bad
          · simp only [a2, a3, a4, a5, q_ref0, q_ref1, q_ref2, q_ref3, q10, q20, q30, n10, n20, n30, n40, n13, n43, n41, n23, n12, n32, q_oin, q_oab, q_oref, if_true, if_false, true_and, and_true, and_self, and_false, false_and, not_true_eq_false, not_false_eq_true, ne_eq, reduceIte]; exact bad
        · simp only [a2, a3, a4, q_ref0, q_ref1, q_ref2, q_ref3, q10, q20, q30, n10, n20, n30, n40, n13, n43, n41, n23, n12, n32, q_oin, q_oab, q_oref, if_true, if_false, true_and, and_true, and_self, and_false, false_and, not_true_eq_false, not_false_eq_true, ne_eq, reduceIte]; exact bad
      · simp only [a2, a3, q_ref0, q_ref1, q_ref2, q_ref3, q10, q20, q30, n10, n20, n30, n40, n13, n43, n41, n23, n12, n32, q_oin, q_oab, q_oref, if_true, if_false, true_and, and_true, and_self, and_false, false_and, not_true_eq_false, not_false_eq_true, ne_eq, reduceIte]; exact bad
    · simp only [a2, q_ref0, q_ref1, q_ref2, q_ref3, q10, q20, q30, n10, n20, n30, n40, n13, n43, n41, n23, n12, n32, q_oin, q_oab, q_oref, if_true, if_false, true_and, and_true, and_self, and_false, false_and, not_true_eq_false, not_false_eq_true, ne_eq, reduceIte]; exact bad
