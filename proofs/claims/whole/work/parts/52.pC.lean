theorem q_room {mo c n w : Nat} (hm : mo ≤ 65536) (hn : n ≤ mo) (hc : c ≤ n) (hw : c + w ≤ mo) (f : Nat → Int32) :
    ∃ n2 f2, m_By_makeRoom (nI mo) (nI c) n f (nI w) = (n2, f2) ∧ c + w ≤ n2 ∧ n ≤ n2 ∧ n2 ≤ mo ∧ (n2 = n ∨ n2 = mo ∨ 2 * n ≤ n2) ∧ (∀ k, k < n → f2 k = f k) ∧ (sb_Fit f → sb_Fit f2) := by
  have hfit : sb_Fit f → sb_Fit (va_cpy f (fun _ => 0) 0 0 n) := fun h => sb_fitC h sb_fit0
  have hcpy : ∀ k, k < n → va_cpy f (fun _ => 0) 0 0 n k = f k := fun k hk => by
    unfold va_cpy; rw [if_pos (by omega)]; congr 1; omega
  have e1 : (if nI (c + w) < nI mo then nI (c + w) else nI mo) = nI (c + w) := by
    simp only [q_lt (show c + w < 2147483648 by omega) (show mo < 2147483648 by omega)]
    by_cases h : c + w < mo
    · rw [if_pos h]
    · rw [if_neg h]; congr 1; omega
  have e2 : (2 : Int32) * nI n = nI (2 * n) := by rw [show (2 : Int32) = nI 2 from rfl, q_mul]
  unfold m_By_makeRoom
  rw [q_add, e1, e2]
  simp only [q_le (show c + w < 2147483648 by omega) (show n < 2147483648 by omega)]
  by_cases h1 : c + w ≤ n
  · rw [if_pos h1]
    exact ⟨n, f, rfl, h1, Nat.le_refl _, hn, Or.inl rfl, fun k _ => rfl, id⟩
  · rw [if_neg h1]
    simp only [q_lt (show c + w < 2147483648 by omega) (show 2 * n < 2147483648 by omega)]
    by_cases h2 : c + w < 2 * n
    · rw [if_pos h2]
      simp only [q_lt (show 2 * n < 2147483648 by omega) (show mo < 2147483648 by omega)]
      by_cases h3 : 2 * n < mo
      · rw [if_pos h3, q_cl (by omega)]
        exact ⟨_, _, rfl, by omega, by omega, by omega, by omega, hcpy, hfit⟩
      · rw [if_neg h3, q_cl (by omega)]
        exact ⟨_, _, rfl, by omega, by omega, by omega, by omega, hcpy, hfit⟩
    · rw [if_neg h2, e1, q_cl (by omega)]
      exact ⟨_, _, rfl, by omega, by omega, by omega, by omega, hcpy, hfit⟩
theorem q_badd {c n : Nat} (hc : c < n) (hn : n < 2147483648) (f : Nat → Int32) (p : Int32) : m_By_add (nI c) n f p = (nI (c + 1), upd f c (vp_nar .byte (p.toInt8.toInt32))) := by
  unfold m_By_add
  rw [i0_n (by omega), il_n hn (by omega) (by omega), q_cl (by omega), ← nI_succ]
theorem q_bat {c n k : Nat} (hk : k < c) (hc : c ≤ n) (hn : n < 2147483648) (f : Nat → Int32) : m_By_byteAt (nI c) n f (nI k) = f k &&& 255 := by
  unfold m_By_byteAt
  rw [i0_n (by omega), il_n (by omega) (by omega) (by omega), il_n hn (by omega) (by omega), q_cl (by omega)]
theorem q_fitst {f : Nat → Int32} (h : sb_Fit f) (k : Nat) (p : Int32) : sb_Fit (upd f k (vp_nar .byte (p.toInt8.toInt32))) := sb_fitU h (pk_fb _)
theorem q_byte {b : Int32} (h : ¬ b < 0) (h2 : ¬ 255 < b) : nI (bo b.toInt) = b := by
  obtain ⟨j, rfl, hj⟩ := q_of h
  rw [show (255 : Int32) = nI 255 from rfl, q_lt (by decide) hj] at h2
  rw [bo_nI (by omega)]
/-- a byte more, in the class and in the reference -/
theorem q_more {c n : Nat} {f f2 g : Nat → Int32} {p : Int32} (hc : c ≤ n) (hf : ∀ k, k < n → f2 k = f k) (h : ∀ k, k < c → f k &&& 255 = g k) (h0 : ¬ p < 0) (h255 : ¬ 255 < p) :
    ∀ k, k < c + 1 → upd f2 c (vp_nar .byte (p.toInt8.toInt32)) k &&& 255 = upd g c p k := fun k hk => by
  by_cases e : k = c
  · subst e; rw [q_upd, q_upd, q_st, q_byte h0 h255]
  · rw [q_upn _ _ e, q_upn _ _ e, hf k (by omega)]; exact h k (by omega)
theorem p_profile {h col : Int32} {c n : Nat} {f : Nat → Int32} {pr : Int32} {g : Nat → Int32} (hP : IP h col c n f pr g) (o : Nat → Int64) (p1 : Int32) :
    om_Mo_profile pr p1 ∧ ∃ k b c2 n2 f2 o2 pr2 g2, m_La_profile h 1024 (nI c) n f o p1 = (k, nI c2, n2, f2, o2) ∧ m_Mo_profile pr g p1 = (b, k, pr2, g2) ∧ IP h col c2 n2 f2 pr2 g2 ∧ (k = 0 → o2 0 = b.toInt64) := by
  have hs := hP
  obtain ⟨i1, i2, i3, i4, i5, i6⟩ := hP
  simp only [m_La_profile, k_La_profile_4, m_FB_profile, k_FB_profile_21, k_FB_profile_71, k_FB_profile_82, m_FB_isByte, m_Mo_profile, k_Mo_profile_18, j_Mo_profile_43, k_Mo_profile_43, om_Mo_profile, ok_Mo_profile_18, oj_Mo_profile_43, ok_Mo_profile_43, q_in0_255, q_ref0, q_ref1, q_ref2, q_ref3, q10, q20, q30, n10, n20, n30, n40, n13, n43, n41, n23, n12, n32, q_oin, q_oab, q_oref, if_true, if_false, true_and, and_true, and_self, and_false, false_and, not_true_eq_false, not_false_eq_true, ne_eq, reduceIte]
  rcases i6 with ⟨rfl, rfl, rfl⟩ | ⟨rfl, rfl, rfl, i7⟩
  · have e : ¬ (0 : Int32) ≤ -1 := by decide
    simp only [e, q_ref0, q_ref1, q_ref2, q_ref3, q10, q20, q30, n10, n20, n30, n40, n13, n43, n41, n23, n12, n32, q_oin, q_oab, q_oref, if_true, if_false, true_and, and_true, and_self, and_false, false_and, not_true_eq_false, not_false_eq_true, ne_eq, reduceIte]
    exact ⟨1, 0, 0, n, f, o, -1, g, rfl, rfl, hs, fun hh => absurd hh (by decide)⟩
  · simp only [q_0l (show c < 2147483648 by omega), q_ref0, q_ref1, q_ref2, q_ref3, q10, q20, q30, n10, n20, n30, n40, n13, n43, n41, n23, n12, n32, q_oin, q_oab, q_oref, if_true, if_false, true_and, and_true, and_self, and_false, false_and, not_true_eq_false, not_false_eq_true, ne_eq, reduceIte]
    by_cases h1 : p1 < 0
    · have h3 : ¬ (0 ≤ p1 ∧ p1 ≤ 255) := by grind
      simp only [h1, h3, q_ref0, q_ref1, q_ref2, q_ref3, q10, q20, q30, n10, n20, n30, n40, n13, n43, n41, n23, n12, n32, q_oin, q_oab, q_oref, if_true, if_false, true_and, and_true, and_self, and_false, false_and, not_true_eq_false, not_false_eq_true, ne_eq, reduceIte]
      exact ⟨2, 0, c, n, f, o, nI c, g, rfl, rfl, hs, fun hh => absurd hh (by decide)⟩
    · by_cases h2 : 255 < p1
      · have h3 : ¬ (0 ≤ p1 ∧ p1 ≤ 255) := by grind
        simp only [h1, h2, h3, q_ref0, q_ref1, q_ref2, q_ref3, q10, q20, q30, n10, n20, n30, n40, n13, n43, n41, n23, n12, n32, q_oin, q_oab, q_oref, if_true, if_false, true_and, and_true, and_self, and_false, false_and, not_true_eq_false, not_false_eq_true, ne_eq, reduceIte]
        exact ⟨2, 0, c, n, f, o, nI c, g, rfl, rfl, hs, fun hh => absurd hh (by decide)⟩
      · have h3 : 0 ≤ p1 ∧ p1 ≤ 255 := by grind
        have e3 : (1024 : Int32) = nI 1024 := rfl
        simp only [h1, h2, h3, q_ref0, q_ref1, q_ref2, q_ref3, q10, q20, q30, n10, n20, n30, n40, n13, n43, n41, n23, n12, n32, q_oin, q_oab, q_oref, if_true, if_false, true_and, and_true, and_self, and_false, false_and, not_true_eq_false, not_false_eq_true, ne_eq, reduceIte, e3, q_lt (show c < 2147483648 by omega) (show 1024 < 2147483648 by omega), q_eq (show c < 2147483648 by omega) (show 1024 < 2147483648 by omega)]
        by_cases h4 : c < 1024
        · have h5 : ¬ c = 1024 := by omega
          obtain ⟨n2, f2, r1, r2, r3, r4, r5, r6, r7⟩ := q_room (mo := 1024) (w := 1) (by decide) i3 i1 (by omega) f
          rw [show nI 1 = 1 from rfl] at r1
          simp only [h4, h5, q_ref0, q_ref1, q_ref2, q_ref3, q10, q20, q30, n10, n20, n30, n40, n13, n43, n41, n23, n12, n32, q_oin, q_oab, q_oref, if_true, if_false, true_and, and_true, and_self, and_false, false_and, not_true_eq_false, not_false_eq_true, ne_eq, reduceIte, r1, q_badd (show c < n2 by omega) (show n2 < 2147483648 by omega) f2 p1, q_in (show c < 2147483648 by omega), q_cl (show c < 2147483648 by omega), ← nI_succ]
          refine ⟨0, nI (c + 1), c + 1, n2, _, _, _, _, rfl, rfl, ⟨by omega, by omega, r4, q_fitst (r7 i4) c p1, by decide, Or.inr ⟨rfl, rfl, rfl, q_more i1 r6 i7 h1 h2⟩⟩, fun _ => ?_⟩
          exact q_updL _ _ _
        · have h5 : c = 1024 := by omega
          simp only [h4, h5, q_ref0, q_ref1, q_ref2, q_ref3, q10, q20, q30, n10, n20, n30, n40, n13, n43, n41, n23, n12, n32, q_oin, q_oab, q_oref, if_true, if_false, true_and, and_true, and_self, and_false, false_and, not_true_eq_false, not_false_eq_true, ne_eq, reduceIte]
          subst h5
          exact ⟨3, 0, 1024, n, f, o, nI 1024, g, rfl, rfl, hs, fun hh => absurd hh (by decide)⟩
theorem p_put {s n : Nat} {f g : Nat → Int32} (hF : IF s n f g) (o : Nat → Int64) (sc p1 : Int32) :
    om_Mo_put (nI s) p1 ∧ ∃ k b sc2 s2 n2 f2 o2 g2, m_La_put sc 65536 (nI s) n f o p1 = (k, sc2, nI s2, n2, f2, o2) ∧ m_Mo_put (nI s) sc g p1 = (b, k, nI s2, sc2, g2) ∧ IF s2 n2 f2 g2 ∧ (k = 0 → o2 0 = b.toInt64) ∧ (sc2 = 0 ∨ (sc2 = sc ∧ f2 = f ∧ g2 = g)) ∧ (n2 = n ∨ n2 = 65536 ∨ 2 * n ≤ n2) ∧ n ≤ n2 := by
  have hs := hF
  obtain ⟨i1, i2, i3, i4, i5⟩ := hF
  simp only [m_La_put, k_La_put_4, m_FB_put, k_FB_put_1, k_FB_put_45, k_FB_put_53, m_FB_isByte, m_Mo_put, k_Mo_put_7, j_Mo_put_31, k_Mo_put_31, om_Mo_put, ok_Mo_put_7, oj_Mo_put_31, ok_Mo_put_31, q_in0_255, q_ref0, q_ref1, q_ref2, q_ref3, q10, q20, q30, n10, n20, n30, n40, n13, n43, n41, n23, n12, n32, q_oin, q_oab, q_oref, if_true, if_false, true_and, and_true, and_self, and_false, false_and, not_true_eq_false, not_false_eq_true, ne_eq, reduceIte]
  by_cases h1 : p1 < 0
  · have h3 : ¬ (0 ≤ p1 ∧ p1 ≤ 255) := by grind
    simp only [h1, h3, q_ref0, q_ref1, q_ref2, q_ref3, q10, q20, q30, n10, n20, n30, n40, n13, n43, n41, n23, n12, n32, q_oin, q_oab, q_oref, if_true, if_false, true_and, and_true, and_self, and_false, false_and, not_true_eq_false, not_false_eq_true, ne_eq, reduceIte]
    exact ⟨1, 0, sc, s, n, f, o, g, rfl, rfl, hs, fun hh => absurd hh (by decide), Or.inr ⟨rfl, rfl, rfl⟩, Or.inl rfl, Nat.le_refl _⟩
  · by_cases h2 : 255 < p1
    · have h3 : ¬ (0 ≤ p1 ∧ p1 ≤ 255) := by grind
      simp only [h1, h2, h3, q_ref0, q_ref1, q_ref2, q_ref3, q10, q20, q30, n10, n20, n30, n40, n13, n43, n41, n23, n12, n32, q_oin, q_oab, q_oref, if_true, if_false, true_and, and_true, and_self, and_false, false_and, not_true_eq_false, not_false_eq_true, ne_eq, reduceIte]
      exact ⟨1, 0, sc, s, n, f, o, g, rfl, rfl, hs, fun hh => absurd hh (by decide), Or.inr ⟨rfl, rfl, rfl⟩, Or.inl rfl, Nat.le_refl _⟩
    · have h3 : 0 ≤ p1 ∧ p1 ≤ 255 := by grind
      have e3 : (65536 : Int32) = nI 65536 := rfl
      simp only [h1, h2, h3, q_ref0, q_ref1, q_ref2, q_ref3, q10, q20, q30, n10, n20, n30, n40, n13, n43, n41, n23, n12, n32, q_oin, q_oab, q_oref, if_true, if_false, true_and, and_true, and_self, and_false, false_and, not_true_eq_false, not_false_eq_true, ne_eq, reduceIte, e3, q_lt (show s < 2147483648 by omega) (show 65536 < 2147483648 by omega), q_eq (show s < 2147483648 by omega) (show 65536 < 2147483648 by omega)]
      by_cases h4 : s < 65536
      · have h5 : ¬ s = 65536 := by omega
        obtain ⟨n2, f2, r1, r2, r3, r4, r5, r6, r7⟩ := q_room (mo := 65536) (w := 1) (by decide) i3 i1 (by omega) f
        rw [show nI 1 = 1 from rfl] at r1
        simp only [h4, h5, q_ref0, q_ref1, q_ref2, q_ref3, q10, q20, q30, n10, n20, n30, n40, n13, n43, n41, n23, n12, n32, q_oin, q_oab, q_oref, if_true, if_false, true_and, and_true, and_self, and_false, false_and, not_true_eq_false, not_false_eq_true, ne_eq, reduceIte, r1, q_badd (show s < n2 by omega) (show n2 < 2147483648 by omega) f2 p1, q_in (show s < 2147483648 by omega), q_cl (show s < 2147483648 by omega), ← nI_succ]
        refine ⟨0, nI (s + 1), 0, s + 1, n2, _, _, _, rfl, rfl, ⟨by omega, by omega, r4, q_fitst (r7 i4) s p1, q_more i1 r6 i5 h1 h2⟩, fun _ => ?_, Or.inl rfl, r5, r3⟩
        exact q_updL _ _ _
      · have h5 : s = 65536 := by omega
        simp only [h4, h5, q_ref0, q_ref1, q_ref2, q_ref3, q10, q20, q30, n10, n20, n30, n40, n13, n43, n41, n23, n12, n32, q_oin, q_oab, q_oref, if_true, if_false, true_and, and_true, and_self, and_false, false_and, not_true_eq_false, not_false_eq_true, ne_eq, reduceIte]
        subst h5
        exact ⟨2, 0, sc, 65536, n, f, o, g, rfl, rfl, hs, fun hh => absurd hh (by decide), Or.inr ⟨rfl, rfl, rfl⟩, Or.inl rfl, Nat.le_refl _⟩
theorem p_at {s n : Nat} {f g : Nat → Int32} (hF : IF s n f g) (o : Nat → Int64) (p1 : Int32) :
    om_Mo_at (nI s) p1 ∧ ∃ k b o2, m_La_at (nI s) n f o p1 = (k, o2) ∧ m_Mo_at (nI s) g p1 = (b, k) ∧ (k = 0 → o2 0 = b.toInt64) := by
  obtain ⟨i1, i2, i3, i4, i5⟩ := hF
  simp only [m_La_at, k_La_at_4, m_FB_at, j_FB_at_28, k_FB_at_44, m_Mo_at, j_Mo_at_14, j_Mo_at_19, k_Mo_at_19, om_Mo_at, oj_Mo_at_14, oj_Mo_at_19, ok_Mo_at_19, q_ref0, q_ref1, q_ref2, q_ref3, q10, q20, q30, n10, n20, n30, n40, n13, n43, n41, n23, n12, n32, q_oin, q_oab, q_oref, if_true, if_false, true_and, and_true, and_self, and_false, false_and, not_true_eq_false, not_false_eq_true, ne_eq, reduceIte]
  by_cases h0 : p1 = -1
  · subst h0
    have a1 : ¬ (-1 : Int32) < -1 := by decide
    have a2 : (-1 : Int32) < nI s := by
      have : (0 : Int32) ≤ nI s := by rw [q_0l (by omega)]; trivial
      grind
    have a3 : ¬ (0 : Int32) ≤ -1 := by decide
    simp only [a1, a2, a3, q_ref0, q_ref1, q_ref2, q_ref3, q10, q20, q30, n10, n20, n30, n40, n13, n43, n41, n23, n12, n32, q_oin, q_oab, q_oref, if_true, if_false, true_and, and_true, and_self, and_false, false_and, not_true_eq_false, not_false_eq_true, ne_eq, reduceIte]
    exact ⟨0, nI s, _, rfl, rfl, fun _ => q_updL _ _ _⟩
  · by_cases h1 : p1 < 0
    · have h2 : p1 < -1 := by grind
      simp only [h0, h1, h2, q_ref0, q_ref1, q_ref2, q_ref3, q10, q20, q30, n10, n20, n30, n40, n13, n43, n41, n23, n12, n32, q_oin, q_oab, q_oref, if_true, if_false, true_and, and_true, and_self, and_false, false_and, not_true_eq_false, not_false_eq_true, ne_eq, reduceIte]
      exact ⟨1, 0, o, rfl, rfl, fun hh => absurd hh (by decide)⟩
    · have h2 : ¬ p1 < -1 := by grind
      have h3 : 0 ≤ p1 := by grind
      obtain ⟨j, rfl, hj⟩ := q_of h1
      simp only [h0, h1, h2, h3, q_ref0, q_ref1, q_ref2, q_ref3, q10, q20, q30, n10, n20, n30, n40, n13, n43, n41, n23, n12, n32, q_oin, q_oab, q_oref, if_true, if_false, true_and, and_true, and_self, and_false, false_and, not_true_eq_false, not_false_eq_true, ne_eq, reduceIte, q_lt hj (show s < 2147483648 by omega), q_in hj, q_cl hj]
      by_cases h4 : j < s
      · simp only [h4, q_ref0, q_ref1, q_ref2, q_ref3, q10, q20, q30, n10, n20, n30, n40, n13, n43, n41, n23, n12, n32, q_oin, q_oab, q_oref, if_true, if_false, true_and, and_true, and_self, and_false, false_and, not_true_eq_false, not_false_eq_true, ne_eq, reduceIte, q_bat h4 i1 (show n < 2147483648 by omega) f]
        exact ⟨by omega, 0, g j, _, rfl, rfl, fun _ => by show vp_updL o 0 _ 0 = _; rw [q_updL, i5 j h4]⟩
      · simp only [h4, q_ref0, q_ref1, q_ref2, q_ref3, q10, q20, q30, n10, n20, n30, n40, n13, n43, n41, n23, n12, n32, q_oin, q_oab, q_oref, if_true, if_false, true_and, and_true, and_self, and_false, false_and, not_true_eq_false, not_false_eq_true, ne_eq, reduceIte]
        exact ⟨1, 0, o, rfl, rfl, fun hh => absurd hh (by decide)⟩
theorem p_spoil {s n : Nat} {f g : Nat → Int32} (hF : IF s n f g) (sc p1 p2 : Int32) :
    om_Mo_spoil (nI s) p1 ∧ ∃ k sc2 f2 g2, m_La_spoil sc (nI s) n f p1 p2 = (k, sc2, f2) ∧ m_Mo_spoil (nI s) sc g p1 p2 = (k, sc2, g2) ∧ IF s n f2 g2 ∧ (sc2 = 0 ∨ (sc2 = sc ∧ f2 = f ∧ g2 = g)) := by
  have hs := hF
  obtain ⟨i1, i2, i3, i4, i5⟩ := hF
  simp only [m_La_spoil, k_La_spoil_3, m_FB_spoil, j_FB_spoil_15, k_FB_spoil_32, m_Mo_spoil, j_Mo_spoil_13, j_Mo_spoil_18, k_Mo_spoil_18, om_Mo_spoil, oj_Mo_spoil_13, oj_Mo_spoil_18, ok_Mo_spoil_18, q_ref0, q_ref1, q_ref2, q_ref3, q10, q20, q30, n10, n20, n30, n40, n13, n43, n41, n23, n12, n32, q_oin, q_oab, q_oref, if_true, if_false, true_and, and_true, and_self, and_false, false_and, not_true_eq_false, not_false_eq_true, ne_eq, reduceIte]
  by_cases h1 : p1 < 0
  · simp only [h1, q_ref0, q_ref1, q_ref2, q_ref3, q10, q20, q30, n10, n20, n30, n40, n13, n43, n41, n23, n12, n32, q_oin, q_oab, q_oref, if_true, if_false, true_and, and_true, and_self, and_false, false_and, not_true_eq_false, not_false_eq_true, ne_eq, reduceIte]
    exact ⟨1, sc, f, g, rfl, rfl, hs, Or.inr ⟨rfl, rfl, rfl⟩⟩
  · obtain ⟨j, rfl, hj⟩ := q_of h1
    simp only [h1, q_ref0, q_ref1, q_ref2, q_ref3, q10, q20, q30, n10, n20, n30, n40, n13, n43, n41, n23, n12, n32, q_oin, q_oab, q_oref, if_true, if_false, true_and, and_true, and_self, and_false, false_and, not_true_eq_false, not_false_eq_true, ne_eq, reduceIte, q_lt hj (show s < 2147483648 by omega), q_in hj, q_cl hj]
    by_cases h4 : j < s
    · have e : m_By_setByte n f (nI j) p2 = upd f j (vp_nar .byte (p2.toInt8.toInt32)) := by
        unfold m_By_setByte
        rw [i0_n hj, il_n (by omega) hj (by omega), q_cl hj]
      simp only [h4, q_ref0, q_ref1, q_ref2, q_ref3, q10, q20, q30, n10, n20, n30, n40, n13, n43, n41, n23, n12, n32, q_oin, q_oab, q_oref, if_true, if_false, true_and, and_true, and_self, and_false, false_and, not_true_eq_false, not_false_eq_true, ne_eq, reduceIte, e]
      refine ⟨by omega, 0, 0, _, _, rfl, rfl, ⟨i1, i2, i3, q_fitst i4 j p2, fun k hk => ?_⟩, Or.inl rfl⟩
      by_cases e : k = j
      · subst e; rw [q_upd, q_upd, q_st, q_255]
      · rw [q_upn _ _ e, q_upn _ _ e]; exact i5 k hk
    · simp only [h4, q_ref0, q_ref1, q_ref2, q_ref3, q10, q20, q30, n10, n20, n30, n40, n13, n43, n41, n23, n12, n32, q_oin, q_oab, q_oref, if_true, if_false, true_and, and_true, and_self, and_false, false_and, not_true_eq_false, not_false_eq_true, ne_eq, reduceIte]
      exact ⟨1, sc, f, g, rfl, rfl, hs, Or.inr ⟨rfl, rfl, rfl⟩⟩
theorem p_stream (sc a1 a2 b1 b2 : Int32) (o : Nat → Int64) (p1 : Int32) (h : sc = 0 ∨ (sc = 1 ∧ a1 = b1 ∧ a2 = b2)) :
    om_Mo_stream sc p1 ∧ ∃ k b o2, m_La_stream sc a1 a2 o p1 = (k, o2) ∧ m_Mo_stream sc b1 b2 p1 = (b, k) ∧ (k = 0 → o2 0 = b.toInt64) := by
  simp only [m_La_stream, k_La_stream_4, m_FB_stream, j_FB_stream_37, m_Mo_stream, j_Mo_stream_27, k_Mo_stream_27, k_Mo_stream_16, om_Mo_stream, oj_Mo_stream_27, ok_Mo_stream_27, ok_Mo_stream_16, q_in0_1, q_ref0, q_ref1, q_ref2, q_ref3, q10, q20, q30, n10, n20, n30, n40, n13, n43, n41, n23, n12, n32, q_oin, q_oab, q_oref, if_true, if_false, true_and, and_true, and_self, and_false, false_and, not_true_eq_false, not_false_eq_true, ne_eq, reduceIte]
  rcases h with rfl | ⟨rfl, rfl, rfl⟩
  · simp only [q_ref0, q_ref1, q_ref2, q_ref3, q10, q20, q30, n10, n20, n30, n40, n13, n43, n41, n23, n12, n32, q_oin, q_oab, q_oref, if_true, if_false, true_and, and_true, and_self, and_false, false_and, not_true_eq_false, not_false_eq_true, ne_eq, reduceIte]
    exact ⟨1, 0, o, rfl, rfl, fun hh => absurd hh (by decide)⟩
  · simp only [q_ref0, q_ref1, q_ref2, q_ref3, q10, q20, q30, n10, n20, n30, n40, n13, n43, n41, n23, n12, n32, q_oin, q_oab, q_oref, if_true, if_false, true_and, and_true, and_self, and_false, false_and, not_true_eq_false, not_false_eq_true, ne_eq, reduceIte]
    by_cases h1 : p1 = 0
    · subst h1
      have e : (0 : Int32) ≤ 0 ∧ (0 : Int32) ≤ 1 := by decide
      simp only [e, q_ref0, q_ref1, q_ref2, q_ref3, q10, q20, q30, n10, n20, n30, n40, n13, n43, n41, n23, n12, n32, q_oin, q_oab, q_oref, if_true, if_false, true_and, and_true, and_self, and_false, false_and, not_true_eq_false, not_false_eq_true, ne_eq, reduceIte]
      exact ⟨0, a1, _, rfl, rfl, fun _ => q_updL _ _ _⟩
    · by_cases h2 : p1 = 1
      · subst h2
        have e : (0 : Int32) ≤ 1 ∧ (1 : Int32) ≤ 1 := by decide
        simp only [e, q_ref0, q_ref1, q_ref2, q_ref3, q10, q20, q30, n10, n20, n30, n40, n13, n43, n41, n23, n12, n32, q_oin, q_oab, q_oref, if_true, if_false, true_and, and_true, and_self, and_false, false_and, not_true_eq_false, not_false_eq_true, ne_eq, reduceIte]
        exact ⟨0, a2, _, rfl, rfl, fun _ => q_updL _ _ _⟩
      · have e : ¬ (0 ≤ p1 ∧ p1 ≤ 1) := by grind
        simp only [h1, h2, e, q_ref0, q_ref1, q_ref2, q_ref3, q10, q20, q30, n10, n20, n30, n40, n13, n43, n41, n23, n12, n32, q_oin, q_oab, q_oref, if_true, if_false, true_and, and_true, and_self, and_false, false_and, not_true_eq_false, not_false_eq_true, ne_eq, reduceIte]
        exact ⟨2, 0, o, rfl, rfl, fun hh => absurd hh (by decide)⟩
