theorem q_ix {i e j c : Nat} (hi : i < e) (hj : j < c) : i * c + j < e * c := by
  have h : (i + 1) * c ≤ e * c := Nat.mul_le_mul_right c hi
  rw [Nat.add_mul, Nat.one_mul] at h; omega
theorem q_become {a b n : Nat} (ha : a ≤ 1024) (hb : b ≤ 8) (hab : a * b ≤ 4096) (h8 : 8 ≤ n) (hn : n ≤ 4096) (pb : Nat → Int32) (nf : Nat → Int64) :
    ∃ n2 nf2, m_Pa_become 8 pb n nf (nI a) (nI b) = (nI a, nI (if a = 0 then 0 else b), (fun k => if k < 8 then 7 else pb k), n2, nf2) ∧ a * (if a = 0 then 0 else b) ≤ n2 ∧ 8 ≤ n2 ∧ n2 ≤ 4096 ∧ ∀ k, k < n2 → nf2 k = 0 := by
  have e0 : m_Pa_become 8 pb n nf (nI a) (nI b) = j_Pa_become_15 8 pb n nf (nI a) (nI (if a = 0 then 0 else b)) := by
    unfold m_Pa_become
    simp only [q_e0 (show a < 2147483648 by omega)]
    by_cases h : a = 0
    · rw [if_pos h, if_pos h]; rfl
    · rw [if_neg h, if_neg h]
  rw [e0]
  have hab2 : a * (if a = 0 then 0 else b) ≤ 4096 := by
    by_cases h : a = 0
    · rw [if_pos h]; omega
    · rw [if_neg h]; exact hab
  generalize (if a = 0 then 0 else b) = B at *
  unfold j_Pa_become_15 k_Pa_become_24 k_Pa_become_87
  have e1 : (if nI (a * B) < 4096 then nI (a * B) else 4096) = nI (a * B) := by
    rw [show (4096 : Int32) = nI 4096 from rfl]
    simp only [q_lt (show a * B < 2147483648 by omega) (show 4096 < 2147483648 by omega)]
    by_cases h : a * B < 4096
    · rw [if_pos h]
    · rw [if_neg h]; congr 1; omega
  have e2 : (if 0 < nI (a * B) then nI (a * B) else 0) = nI (a * B) := by
    rw [show (0 : Int32) = nI 0 from rfl]
    simp only [q_lt (show 0 < 2147483648 by omega) (show a * B < 2147483648 by omega)]
    by_cases h : 0 < a * B
    · rw [if_pos h]
    · rw [if_neg h]; congr 1; omega
  have e3 : (2 : Int32) * nI n = nI (2 * n) := by rw [show (2 : Int32) = nI 2 from rfl, q_mul]
  rw [q_mul, e1, e2, e3, q_fillI (by decide), q_fillJ (by omega)]
  simp only [q_le (show a * B < 2147483648 by omega) (show n < 2147483648 by omega)]
  by_cases h1 : a * B ≤ n
  · rw [if_pos h1]
    exact ⟨n, _, rfl, h1, h8, hn, fun k hk => if_pos hk⟩
  · rw [if_neg h1]
    simp only [q_lt (show a * B < 2147483648 by omega) (show 2 * n < 2147483648 by omega)]
    by_cases h2 : a * B < 2 * n
    · rw [if_pos h2, show (4096 : Int32) = nI 4096 from rfl]
      simp only [q_lt (show 2 * n < 2147483648 by omega) (show 4096 < 2147483648 by omega)]
      by_cases h3 : 2 * n < 4096
      · rw [if_pos h3, q_cl (by omega)]
        exact ⟨_, _, rfl, by omega, by omega, by omega, fun k hk => rfl⟩
      · rw [if_neg h3, q_cl (by decide)]
        exact ⟨_, _, rfl, by omega, by omega, by omega, fun k hk => rfl⟩
    · rw [if_neg h2, e1, q_cl (by omega)]
      exact ⟨_, _, rfl, by omega, by omega, by omega, fun k hk => rfl⟩
theorem q_pal93 (p1 s : Int32) (x : Int32 × Int32) (cb : Nat → Int32) : ∀ (d j : Nat) (g : Nat → Int64), j + d = 4096 →
    lp_Mo_palette_93 p1 x s cb (d + 1) (nI j) g = (x.2, p1, s, 0, cb, fun k => if j ≤ k ∧ k < 4096 then 0 else g k) ∧ olp_Mo_palette_93 (d + 1) (nI j) g
  | 0, j, g, h => by
    show lb_Mo_palette_93 p1 x s cb (lp_Mo_palette_93 p1 x s cb 0) (nI j) g = _ ∧ olb_Mo_palette_93 (olp_Mo_palette_93 0) (nI j) g
    unfold lb_Mo_palette_93 olb_Mo_palette_93
    have e : 4096 ≤ j := by omega
    rw [q_fs0 e]
    simp only [show (4096 : Int32) = nI 4096 from rfl, q_le (show 4096 < 2147483648 by omega) (show j < 2147483648 by omega), e, q_ref0, q_ref1, q_ref2, q_ref3, q10, q20, q30, n10, n20, n30, n40, n13, n43, n41, n23, n12, n32, q_oin, q_oab, q_oref, if_true, if_false, true_and, and_true, and_self, and_false, false_and, not_true_eq_false, not_false_eq_true, ne_eq, reduceIte]
  | d + 1, j, g, h => by
    show lb_Mo_palette_93 p1 x s cb (lp_Mo_palette_93 p1 x s cb (d + 1)) (nI j) g = _ ∧ olb_Mo_palette_93 (olp_Mo_palette_93 (d + 1)) (nI j) g
    unfold lb_Mo_palette_93 olb_Mo_palette_93
    have e : ¬ 4096 ≤ j := by omega
    obtain ⟨a1, a2⟩ := q_pal93 p1 s x cb d (j + 1) (vp_updL g j 0) (by omega)
    simp only [show (4096 : Int32) = nI 4096 from rfl, q_le (show 4096 < 2147483648 by omega) (show j < 2147483648 by omega), e, q_ref0, q_ref1, q_ref2, q_ref3, q10, q20, q30, n10, n20, n30, n40, n13, n43, n41, n23, n12, n32, q_oin, q_oab, q_oref, if_true, if_false, true_and, and_true, and_self, and_false, false_and, not_true_eq_false, not_false_eq_true, ne_eq, reduceIte, ← nI_succ, q_cl (show j < 2147483648 by omega), q_in (show j < 2147483648 by omega)]
    rw [a1]
    refine ⟨?_, by omega, a2⟩
    have e2 := q_fst (show j < 4096 by omega) 0 g
    unfold vp_updL
    rw [e2]
theorem q_pal71 (ng : Nat → Int64) (p1 s : Int32) (x : Int32 × Int32) : ∀ (d j : Nat) (g : Nat → Int32), j + d = 8 →
    lp_Mo_palette_71 ng p1 x s (d + 1) (nI j) g = (x.2, p1, s, 0, (fun k => if j ≤ k ∧ k < 8 then 7 else g k), fun k => if 0 ≤ k ∧ k < 4096 then 0 else ng k) ∧ olp_Mo_palette_71 ng (d + 1) (nI j) g
  | 0, j, g, h => by
    show lb_Mo_palette_71 ng p1 x s (lp_Mo_palette_71 ng p1 x s 0) (nI j) g = _ ∧ olb_Mo_palette_71 ng (olp_Mo_palette_71 ng 0) (nI j) g
    unfold lb_Mo_palette_71 olb_Mo_palette_71
    have e : 8 ≤ j := by omega
    rw [q_fs0 e]
    have e2 : ((4096 : Int32).toInt - (0 : Int32).toInt).toNat + 1 = 4096 + 1 := by decide
    simp only [show (8 : Int32) = nI 8 from rfl, q_le (show 8 < 2147483648 by omega) (show j < 2147483648 by omega), e, q_ref0, q_ref1, q_ref2, q_ref3, q10, q20, q30, n10, n20, n30, n40, n13, n43, n41, n23, n12, n32, q_oin, q_oab, q_oref, if_true, if_false, true_and, and_true, and_self, and_false, false_and, not_true_eq_false, not_false_eq_true, ne_eq, reduceIte, e2]
    exact q_pal93 p1 s x g 4096 0 ng rfl
  | d + 1, j, g, h => by
    show lb_Mo_palette_71 ng p1 x s (lp_Mo_palette_71 ng p1 x s (d + 1)) (nI j) g = _ ∧ olb_Mo_palette_71 ng (olp_Mo_palette_71 ng (d + 1)) (nI j) g
    unfold lb_Mo_palette_71 olb_Mo_palette_71
    have e : ¬ 8 ≤ j := by omega
    obtain ⟨a1, a2⟩ := q_pal71 ng p1 s x d (j + 1) (upd g j 7) (by omega)
    simp only [show (8 : Int32) = nI 8 from rfl, q_le (show 8 < 2147483648 by omega) (show j < 2147483648 by omega), e, q_ref0, q_ref1, q_ref2, q_ref3, q10, q20, q30, n10, n20, n30, n40, n13, n43, n41, n23, n12, n32, q_oin, q_oab, q_oref, if_true, if_false, true_and, and_true, and_self, and_false, false_and, not_true_eq_false, not_false_eq_true, ne_eq, reduceIte, ← nI_succ, q_cl (show j < 2147483648 by omega), q_in (show j < 2147483648 by omega)]
    rw [a1]
    refine ⟨?_, by omega, a2⟩
    have e2 := q_fst (show j < 8 by omega) 7 g
    unfold upd
    rw [e2]
theorem VB7 : VB 7 := ⟨7, rfl, by decide, by decide⟩
theorem p_palette {e c n : Nat} {pb : Nat → Int32} {nf : Nat → Int64} {cb : Nat → Int32} {ng : Nat → Int64} (hQ : IQ e c pb n nf cb ng) {m : Nat} {f g : Nat → Int32} (hM : IM e c m f g) (p1 p2 : Int32) :
    om_Mo_palette cb ng p1 p2 ∧ ∃ k e2 c2 pb2 n2 nf2 m2 cb2 ng2, m_La_palette (nI e) (nI c) 8 pb n nf (nI m) p1 p2 = (k, nI e2, nI c2, pb2, n2, nf2, nI m2) ∧ m_Mo_palette (nI e) (nI c) (nI m) cb ng p1 p2 = (k, nI e2, nI c2, nI m2, cb2, ng2) ∧ IQ e2 c2 pb2 n2 nf2 cb2 ng2 ∧ IM e2 c2 m2 f g := by
  have hs := hQ
  obtain ⟨i1, i2, i3, i4, i5, i6, i7, i8⟩ := hQ
  have bad : ∃ k e2 c2 pb2 n2 nf2 m2 cb2 ng2, ((1 : Int32), nI e, nI c, pb, n, nf, nI m) = (k, nI e2, nI c2, pb2, n2, nf2, nI m2) ∧ ((1 : Int32), nI e, nI c, nI m, cb, ng) = (k, nI e2, nI c2, nI m2, cb2, ng2) ∧ IQ e2 c2 pb2 n2 nf2 cb2 ng2 ∧ IM e2 c2 m2 f g :=
    ⟨1, e, c, pb, n, nf, m, cb, ng, rfl, rfl, hs, hM⟩
  simp only [m_La_palette, k_La_palette_3, m_FB_palette, j_FB_palette_11, j_FB_palette_32, k_FB_palette_70, m_Mo_palette, k_Mo_palette_7, j_Mo_palette_34, j_Mo_palette_39, k_Mo_palette_39, j_Mo_palette_61, k_Mo_palette_19, om_Mo_palette, ok_Mo_palette_7, oj_Mo_palette_34, oj_Mo_palette_39, ok_Mo_palette_39, oj_Mo_palette_61, ok_Mo_palette_19, q_in0_1024, q_in1_8, q_ref0, q_ref1, q_ref2, q_ref3, q10, q20, q30, n10, n20, n30, n40, n13, n43, n41, n23, n12, n32, q_oin, q_oab, q_oref, if_true, if_false, true_and, and_true, and_self, and_false, false_and, not_true_eq_false, not_false_eq_true, ne_eq, reduceIte]
  by_cases h1 : p1 < 0
  · have h : ¬ (0 ≤ p1 ∧ p1 ≤ 1024) := by grind
    simp only [h1, h, q_ref0, q_ref1, q_ref2, q_ref3, q10, q20, q30, n10, n20, n30, n40, n13, n43, n41, n23, n12, n32, q_oin, q_oab, q_oref, if_true, if_false, true_and, and_true, and_self, and_false, false_and, not_true_eq_false, not_false_eq_true, ne_eq, reduceIte]; exact bad
  · by_cases h2 : p1 ≤ 1024
    · have h : 0 ≤ p1 ∧ p1 ≤ 1024 := by grind
      by_cases h3 : p2 < 1
      · have h4 : ¬ (1 ≤ p2 ∧ p2 ≤ 8) := by grind
        simp only [h1, h2, h, h3, h4, q_ref0, q_ref1, q_ref2, q_ref3, q10, q20, q30, n10, n20, n30, n40, n13, n43, n41, n23, n12, n32, q_oin, q_oab, q_oref, if_true, if_false, true_and, and_true, and_self, and_false, false_and, not_true_eq_false, not_false_eq_true, ne_eq, reduceIte]; exact bad
      · by_cases h5 : p2 ≤ 8
        · have h4 : 1 ≤ p2 ∧ p2 ≤ 8 := by grind
          by_cases h6 : p1 * p2 ≤ 4096
          · obtain ⟨a, rfl, ha⟩ := q_of h1
            obtain ⟨b, rfl, hb⟩ := q_of (show ¬ p2 < 0 by grind)
            have ha2 : a ≤ 1024 := by rw [show (1024 : Int32) = nI 1024 from rfl, q_le ha (by decide)] at h2; exact h2
            have hb2 : b ≤ 8 := by rw [show (8 : Int32) = nI 8 from rfl, q_le hb (by decide)] at h5; exact h5
            have hb1 : ¬ b < 1 := by rw [show (1 : Int32) = nI 1 from rfl, q_lt hb (by decide)] at h3; exact h3
            have hx : a * b ≤ 1024 * 8 := Nat.mul_le_mul ha2 hb2
            have hab : a * b ≤ 4096 := by
              have h7 := h6
              rw [q_mul, show (4096 : Int32) = nI 4096 from rfl, q_le (by omega) (by decide)] at h7; exact h7
            obtain ⟨n2, nf2, r1, r2, r3, r4, r5⟩ := q_become ha2 hb2 hab i5 i6 pb nf
            have e2 : ((8 : Int32).toInt - (0 : Int32).toInt).toNat + 1 = 8 + 1 := by decide
            simp only [h1, h2, h, h3, h4, h5, h6, q_ref0, q_ref1, q_ref2, q_ref3, q10, q20, q30, n10, n20, n30, n40, n13, n43, n41, n23, n12, n32, q_oin, q_oab, q_oref, if_true, if_false, true_and, and_true, and_self, and_false, false_and, not_true_eq_false, not_false_eq_true, ne_eq, reduceIte, r1, e2]
            have hmo : ∀ s : Int32, _ := fun s => q_pal71 ng (nI a) s (0, 0) 8 0 cb rfl
            by_cases h9 : a = 0
            · subst h9
              have z : nI 0 = 0 := rfl
              simp only [z, q_ref0, q_ref1, q_ref2, q_ref3, q10, q20, q30, n10, n20, n30, n40, n13, n43, n41, n23, n12, n32, q_oin, q_oab, q_oref, if_true, if_false, true_and, and_true, and_self, and_false, false_and, not_true_eq_false, not_false_eq_true, ne_eq, reduceIte]
              exact ⟨(hmo 0).2, 0, 0, 0, _, n2, nf2, 0, _, _, rfl, (hmo 0).1, ⟨by omega, by omega, Iff.rfl, by omega, r3, r4, fun k hk => by omega, fun k hk => by omega⟩, ⟨by omega, fun hh => absurd rfl hh, fun k hk => by omega, fun k hk => by omega⟩⟩
            · have z : ¬ nI a = 0 := by rw [q_e0 ha]; exact h9
              simp only [z, h9, q_ref0, q_ref1, q_ref2, q_ref3, q10, q20, q30, n10, n20, n30, n40, n13, n43, n41, n23, n12, n32, q_oin, q_oab, q_oref, if_true, if_false, true_and, and_true, and_self, and_false, false_and, not_true_eq_false, not_false_eq_true, ne_eq, reduceIte]
              rw [if_neg h9] at r2
              refine ⟨(hmo (nI b)).2, 0, a, b, _, n2, nf2, 0, _, _, rfl, (hmo (nI b)).1, ⟨ha2, hb2, ⟨fun hh => by omega, fun hh => by omega⟩, r2, r3, r4, fun k hk => ?_, fun k hk => ?_⟩, ⟨by omega, fun hh => absurd rfl hh, fun k hk => by omega, fun k hk => by omega⟩⟩
              · show (if k < 8 then 7 else pb k) = (if 0 ≤ k ∧ k < 8 then 7 else cb k) ∧ VB (if k < 8 then 7 else pb k)
                rw [if_pos (by omega), if_pos (by omega)]; exact ⟨rfl, VB7⟩
              · show nf2 k = if 0 ≤ k ∧ k < 4096 then 0 else ng k
                rw [if_pos (by omega)]; exact r5 k (by omega)
          · simp only [h1, h2, h, h3, h4, h5, h6, q_ref0, q_ref1, q_ref2, q_ref3, q10, q20, q30, n10, n20, n30, n40, n13, n43, n41, n23, n12, n32, q_oin, q_oab, q_oref, if_true, if_false, true_and, and_true, and_self, and_false, false_and, not_true_eq_false, not_false_eq_true, ne_eq, reduceIte]; exact bad
        · have h4 : ¬ (1 ≤ p2 ∧ p2 ≤ 8) := by grind
          simp only [h1, h2, h, h3, h4, h5, q_ref0, q_ref1, q_ref2, q_ref3, q10, q20, q30, n10, n20, n30, n40, n13, n43, n41, n23, n12, n32, q_oin, q_oab, q_oref, if_true, if_false, true_and, and_true, and_self, and_false, false_and, not_true_eq_false, not_false_eq_true, ne_eq, reduceIte]; exact bad
    · have h : ¬ (0 ≤ p1 ∧ p1 ≤ 1024) := by grind
      simp only [h1, h2, h, q_ref0, q_ref1, q_ref2, q_ref3, q10, q20, q30, n10, n20, n30, n40, n13, n43, n41, n23, n12, n32, q_oin, q_oab, q_oref, if_true, if_false, true_and, and_true, and_self, and_false, false_and, not_true_eq_false, not_false_eq_true, ne_eq, reduceIte]; exact bad
theorem p_column {e c n : Nat} {pb : Nat → Int32} {nf : Nat → Int64} {cb : Nat → Int32} {ng : Nat → Int64} (hQ : IQ e c pb n nf cb ng) (p1 p2 : Int32) :
    om_Mo_column (nI c) p1 p2 ∧ ∃ k pb2 cb2, m_La_column (nI c) 8 pb p1 p2 = (k, pb2) ∧ m_Mo_column (nI c) cb p1 p2 = (k, cb2) ∧ IQ e c pb2 n nf cb2 ng := by
  have hs := hQ
  obtain ⟨i1, i2, i3, i4, i5, i6, i7, i8⟩ := hQ
  simp only [m_La_column, k_La_column_3, m_FB_column, j_FB_column_18, k_FB_column_29, k_FB_column_57, m_Mo_column, j_Mo_column_13, j_Mo_column_29, k_Mo_column_29, k_Mo_column_18, om_Mo_column, oj_Mo_column_13, oj_Mo_column_29, ok_Mo_column_29, ok_Mo_column_18, q_areBits, q_ref0, q_ref1, q_ref2, q_ref3, q10, q20, q30, n10, n20, n30, n40, n13, n43, n41, n23, n12, n32, q_oin, q_oab, q_oref, if_true, if_false, true_and, and_true, and_self, and_false, false_and, not_true_eq_false, not_false_eq_true, ne_eq, reduceIte]
  by_cases h1 : p1 < 0
  · simp only [h1, q_ref0, q_ref1, q_ref2, q_ref3, q10, q20, q30, n10, n20, n30, n40, n13, n43, n41, n23, n12, n32, q_oin, q_oab, q_oref, if_true, if_false, true_and, and_true, and_self, and_false, false_and, not_true_eq_false, not_false_eq_true, ne_eq, reduceIte]
    exact ⟨1, pb, cb, rfl, rfl, hs⟩
  · obtain ⟨j, rfl, hj⟩ := q_of h1
    simp only [h1, q_ref0, q_ref1, q_ref2, q_ref3, q10, q20, q30, n10, n20, n30, n40, n13, n43, n41, n23, n12, n32, q_oin, q_oab, q_oref, if_true, if_false, true_and, and_true, and_self, and_false, false_and, not_true_eq_false, not_false_eq_true, ne_eq, reduceIte]
    by_cases h2 : nI j < nI c
    · have h3 := h2
      rw [q_lt hj (by omega)] at h3
      simp only [h2, q_ref0, q_ref1, q_ref2, q_ref3, q10, q20, q30, n10, n20, n30, n40, n13, n43, n41, n23, n12, n32, q_oin, q_oab, q_oref, if_true, if_false, true_and, and_true, and_self, and_false, false_and, not_true_eq_false, not_false_eq_true, ne_eq, reduceIte, q_in hj]
      rcases q_areMo p2 with h4 | ⟨h4, h5⟩
      · simp only [h4, q_ref0, q_ref1, q_ref2, q_ref3, q10, q20, q30, n10, n20, n30, n40, n13, n43, n41, n23, n12, n32, q_oin, q_oab, q_oref, if_true, if_false, true_and, and_true, and_self, and_false, false_and, not_true_eq_false, not_false_eq_true, ne_eq, reduceIte]; exact ⟨2, pb, cb, rfl, rfl, hs⟩
      · rw [q_setIn (by decide) (by omega), q_cl (by omega)]
        simp only [h4, q_ref0, q_ref1, q_ref2, q_ref3, q10, q20, q30, n10, n20, n30, n40, n13, n43, n41, n23, n12, n32, q_oin, q_oab, q_oref, if_true, if_false, true_and, and_true, and_self, and_false, false_and, not_true_eq_false, not_false_eq_true, ne_eq, reduceIte]
        refine ⟨by omega, 0, _, _, rfl, rfl, ⟨i1, i2, i3, i4, i5, i6, fun k hk => ?_, i8⟩⟩
        by_cases e : k = j
        · subst e; rw [q_upd, q_upd]; exact ⟨rfl, h5⟩
        · rw [q_upn _ _ e, q_upn _ _ e]; exact i7 k hk
    · simp only [h2, q_ref0, q_ref1, q_ref2, q_ref3, q10, q20, q30, n10, n20, n30, n40, n13, n43, n41, n23, n12, n32, q_oin, q_oab, q_oref, if_true, if_false, true_and, and_true, and_self, and_false, false_and, not_true_eq_false, not_false_eq_true, ne_eq, reduceIte]
      exact ⟨1, pb, cb, rfl, rfl, hs⟩
theorem q_has (e c p1 p2 : Int32) : m_Pa_has e c p1 p2 = m_Mo_isNumber e c p1 p2 := rfl
theorem q_isN {e c : Nat} (he : e < 2147483648) (hc : c < 2147483648) (p1 p2 : Int32) : m_Mo_isNumber (nI e) (nI c) p1 p2 = 0 ∨ (m_Mo_isNumber (nI e) (nI c) p1 p2 = 1 ∧ ∃ i j, p1 = nI i ∧ p2 = nI j ∧ i < e ∧ j < c) := by
  unfold m_Mo_isNumber
  by_cases h1 : p1 < 0
  · rw [if_pos h1]; exact Or.inl rfl
  · rw [if_neg h1]
    by_cases h2 : nI e ≤ p1
    · rw [if_pos h2]; exact Or.inl rfl
    · rw [if_neg h2]
      by_cases h3 : p2 < 0
      · rw [if_pos h3]; exact Or.inl rfl
      · rw [if_neg h3]
        by_cases h4 : nI c ≤ p2
        · rw [if_pos h4]; exact Or.inl rfl
        · rw [if_neg h4]
          obtain ⟨i, rfl, hi⟩ := q_of h1
          obtain ⟨j, rfl, hj⟩ := q_of h3
          rw [q_le he hi] at h2
          rw [q_le hc hj] at h4
          exact Or.inr ⟨rfl, i, j, rfl, rfl, by omega, by omega⟩
theorem q_oisN (e c p1 p2 : Int32) : om_Mo_isNumber e c p1 p2 = True := by unfold om_Mo_isNumber; simp
theorem q_numAt {e c n i j : Nat} (hi : i < e) (hj : j < c) (hn : e * c ≤ n) (hn2 : n ≤ 4096) (nf : Nat → Int64) : m_Pa_numberAt (nI c) n nf (nI i) (nI j) = nf (i * c + j) := by
  have h := q_ix hi hj
  unfold m_Pa_numberAt
  rw [q_mul, q_add, i0_n (by omega), il_n (by omega) (by omega) (by omega), q_cl (by omega)]
theorem q_setN {e c n i j : Nat} (hi : i < e) (hj : j < c) (hn : e * c ≤ n) (hn2 : n ≤ 4096) (nf : Nat → Int64) (v : Int64) : m_Pa_setNumber (nI c) n nf (nI i) (nI j) v = vp_updL nf (i * c + j) v := by
  have h := q_ix hi hj
  unfold m_Pa_setNumber
  rw [q_mul, q_add, i0_n (by omega), il_n (by omega) (by omega) (by omega), q_cl (by omega)]
theorem p_number {e c n : Nat} {pb : Nat → Int32} {nf : Nat → Int64} {cb : Nat → Int32} {ng : Nat → Int64} (hQ : IQ e c pb n nf cb ng) (o : Nat → Int64) (p1 p2 : Int32) :
    om_Mo_number (nI e) (nI c) p1 p2 ∧ ∃ k b o2, m_La_number (nI e) (nI c) n nf o p1 p2 = (k, o2) ∧ m_Mo_number (nI e) (nI c) ng p1 p2 = (b, k) ∧ (k = 0 → o2 0 = b) := by
  obtain ⟨i1, i2, i3, i4, i5, i6, i7, i8⟩ := hQ
  simp only [m_La_number, k_La_number_5, m_FB_number, k_FB_number_9, k_FB_number_34, m_Mo_number, k_Mo_number_4, j_Mo_number_15, k_Mo_number_15, om_Mo_number, ok_Mo_number_4, oj_Mo_number_15, ok_Mo_number_15, q_has, q_oisN, q_ref0, q_ref1, q_ref2, q_ref3, q10, q20, q30, n10, n20, n30, n40, n13, n43, n41, n23, n12, n32, q_oin, q_oab, q_oref, if_true, if_false, true_and, and_true, and_self, and_false, false_and, not_true_eq_false, not_false_eq_true, ne_eq, reduceIte]
  rcases q_isN (e := e) (c := c) (by omega) (by omega) p1 p2 with h | ⟨h, i, j, rfl, rfl, hi, hj⟩
  · simp only [h, q_ref0, q_ref1, q_ref2, q_ref3, q10, q20, q30, n10, n20, n30, n40, n13, n43, n41, n23, n12, n32, q_oin, q_oab, q_oref, if_true, if_false, true_and, and_true, and_self, and_false, false_and, not_true_eq_false, not_false_eq_true, ne_eq, reduceIte]
    exact ⟨1, 0, o, rfl, rfl, fun hh => absurd hh (by decide)⟩
  · have hx := q_ix hi hj
    have hx2 : c * i = i * c := Nat.mul_comm c i
    simp only [h, q_ref0, q_ref1, q_ref2, q_ref3, q10, q20, q30, n10, n20, n30, n40, n13, n43, n41, n23, n12, n32, q_oin, q_oab, q_oref, if_true, if_false, true_and, and_true, and_self, and_false, false_and, not_true_eq_false, not_false_eq_true, ne_eq, reduceIte, q_numAt hi hj i4 i6, q_mul, q_add, hx2, q_in (show i * c + j < 2147483648 by omega), q_cl (show i * c + j < 2147483648 by omega)]
    exact ⟨by omega, 0, _, _, rfl, rfl, fun _ => by rw [← i8 _ hx]; exact q_updL _ _ _⟩
