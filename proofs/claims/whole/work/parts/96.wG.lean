/-- the reference's place for the next byte is a number, with room for k bytes more -/
def CK (k : Nat) (s : Int32 × (Nat → Int32)) : Prop := ∃ (c : Nat) (g : Nat → Int32), s = (nI c, g) ∧ c + k ≤ 1000000
theorem CK.ap {k : Nat} {l : List Nat} {s : Int32 × (Nat → Int32)} (h : CK (k + l.length) s) : CK k (apM l s) := by
  obtain ⟨c, g, rfl, hc⟩ := h
  exact ⟨c + l.length, (apM l (nI c, g)).2, Prod.ext (apM_1 l c g) rfl, by omega⟩
theorem CK.le {k k2 : Nat} {s : Int32 × (Nat → Int32)} (h : CK k s) (h2 : k2 ≤ k) : CK k2 s := by
  obtain ⟨c, g, rfl, hc⟩ := h
  exact ⟨c, g, rfl, by omega⟩
theorem CK.add {s : Int32 × (Nat → Int32)} (h : CK 8 s) (v : Int64) {w : Nat} (hw : w ≤ 8) : om_Mo_add s.1 s.2 v (nI w) := by
  obtain ⟨c, g, rfl, hc⟩ := h
  exact q_oadd g v hw (by omega)
theorem CK.o4 {s : Int32 × (Nat → Int32)} (h : CK 8 s) (v : Int64) : om_Mo_add s.1 s.2 v 4 := h.add v (w := 4) (by decide)
theorem CK.o2 {s : Int32 × (Nat → Int32)} (h : CK 8 s) (v : Int64) : om_Mo_add s.1 s.2 v 2 := h.add v (w := 2) (by decide)
theorem CK.o1 {s : Int32 × (Nat → Int32)} (h : CK 8 s) (v : Int64) : om_Mo_add s.1 s.2 v 1 := h.add v (w := 1) (by decide)
theorem CK.o8 {s : Int32 × (Nat → Int32)} (h : CK 8 s) (v : Int64) : om_Mo_add s.1 s.2 v 8 := h.add v (w := 8) (by decide)
theorem CK.ob {s : Int32 × (Nat → Int32)} (h : CK 16 s) (p1 p2 : Int32) : om_Mo_box s.1 s.2 p1 p2 := by
  unfold om_Mo_box ok_Mo_box_7 ok_Mo_box_14
  rw [q_addM4]
  exact ⟨(h.le (by decide)).o4 _, (CK.ap (k := 8) (l := be 4 _) (by rw [be_len]; exact h.le (by decide))).o4 _, trivial⟩
theorem wB_8 (a b : Int32) {k : Nat} {s : Int32 × (Nat → Int32)} (h : CK (k + 8) s) : CK k (apM (wB a b) s) := CK.ap (by rw [wB_len]; exact h)
theorem be_k (v : Int64) (w : Nat) {k : Nat} {s : Int32 × (Nat → Int32)} (h : CK (k + w) s) : CK k (apM (be w v) s) := CK.ap (by rw [be_len]; exact h)
theorem m_ratp {f rs : Nat → Int32} {a : Nat} (ha : a ≤ 6) (hf : ∀ k, k < 6 → f k = rs (a + k)) : ∀ (d j : Nat) (s : Int32 × (Nat → Int32)), j + d = 4 → CK (2 * d + 20) s →
    lp_Mo_addResolution_18 rs (nI a) (d + 1) (nI j) s.1 s.2 = apM (wR2 f d j ++ ([bo (f 4).toInt] ++ [bo (f 5).toInt])) s ∧ olp_Mo_addResolution_18 rs (nI a) (d + 1) (nI j) s.1 s.2
  | 0, j, s, h, hs => by
    show lb_Mo_addResolution_18 rs (nI a) (lp_Mo_addResolution_18 rs (nI a) 0) (nI j) s.1 s.2 = _ ∧ olb_Mo_addResolution_18 rs (nI a) (olp_Mo_addResolution_18 rs (nI a) 0) (nI j) s.1 s.2
    have e4 : nI a + 4 = nI (a + 4) := by rw [show (4 : Int32) = nI 4 from rfl, q_add]
    have e5 : nI a + 5 = nI (a + 5) := by rw [show (5 : Int32) = nI 5 from rfl, q_add]
    have c4 : (4 : Int32) ≤ nI j := by rw [show (4 : Int32) = nI 4 from rfl, q_le (by decide) (by omega)]; omega
    unfold lb_Mo_addResolution_18 olb_Mo_addResolution_18 k_Mo_addResolution_54 ok_Mo_addResolution_54 k_Mo_addResolution_68 ok_Mo_addResolution_68
    rw [if_pos c4, if_pos c4, e4, e5, q_cl (by omega), q_cl (by omega), q_in (by omega), q_in (by omega), ← hf 4 (by decide), ← hf 5 (by decide), q_addM1, q_addM1, be1, be1]
    refine ⟨?_, by omega, (hs.le (by omega)).o1 _, by omega, (CK.ap (k := 8) (hs.le (by show 8 + 1 ≤ _; omega))).o1 _, trivial⟩
    show _ = apM ([] ++ ([bo (f 4).toInt] ++ [bo (f 5).toInt])) s
    rw [apM_app, apM_app]; rfl
  | d + 1, j, s, h, hs => by
    show lb_Mo_addResolution_18 rs (nI a) (lp_Mo_addResolution_18 rs (nI a) (d + 1)) (nI j) s.1 s.2 = _ ∧ olb_Mo_addResolution_18 rs (nI a) (olp_Mo_addResolution_18 rs (nI a) (d + 1)) (nI j) s.1 s.2
    have c4 : ¬ (4 : Int32) ≤ nI j := by rw [show (4 : Int32) = nI 4 from rfl, q_le (by decide) (by omega)]; omega
    unfold lb_Mo_addResolution_18 olb_Mo_addResolution_18 k_Mo_addResolution_34 ok_Mo_addResolution_34
    rw [if_neg c4, if_neg c4, q_add, q_cl (by omega), q_in (by omega), ← hf j (by omega), q_addM2, ← nI_succ]
    have ih := m_ratp ha hf d (j + 1) (apM (be 2 (f j).toInt64) s) (by omega) (be_k _ _ (hs.le (by omega)))
    refine ⟨?_, by omega, (hs.le (by omega)).o2 _, ih.2⟩
    rw [ih.1]
    show _ = apM ((be 2 (f j).toInt64 ++ wR2 f d (j + 1)) ++ _) s
    rw [List.append_assoc]
    exact (apM_app _ _ s).symm
theorem m_rat {f rs : Nat → Int32} {a : Nat} (ha : a ≤ 6) (hf : ∀ k, k < 6 → f k = rs (a + k)) (h0 : 0 ≤ rs a) (name : Int32) {s : Int32 × (Nat → Int32)} (hs : CK 40 s) :
    m_Mo_addResolution s.1 rs s.2 name (nI a) = apM (wRt name f) s ∧ om_Mo_addResolution s.1 rs s.2 name (nI a) := by
  have e4 : ((4 : Int32).toInt - (0 : Int32).toInt).toNat + 1 = 4 + 1 := by decide
  have z : (rs a ≤ 0) = (f 0 = 0) := by
    rw [hf 0 (by decide), Nat.add_zero]
    exact propext ⟨fun h => by grind, fun h => by grind⟩
  have e18 : (8 + 10 : Int32) = 18 := by decide
  simp only [m_Mo_addResolution, k_Mo_addResolution_2, k_Mo_addResolution_13, m_Mo_isResolved, om_Mo_addResolution, om_Mo_isResolved, ok_Mo_addResolution_2, ok_Mo_addResolution_13, w_box, e4, q_cl (show a < 2147483648 by omega), q_in (show a < 2147483648 by omega), z, e18, wRt]
  by_cases c : f 0 = 0
  · simp only [c, q_ref0, q_ref1, q_ref2, q_ref3, q10, q20, q30, n10, n20, n30, n40, n13, n43, n41, n23, n12, n32, q_oin, q_oab, q_oref, if_true, if_false, true_and, and_true, and_self, and_false, false_and, not_true_eq_false, not_false_eq_true, ne_eq, reduceIte]
    exact ⟨rfl, by omega⟩
  · simp only [c, q_ref0, q_ref1, q_ref2, q_ref3, q10, q20, q30, n10, n20, n30, n40, n13, n43, n41, n23, n12, n32, q_oin, q_oab, q_oref, if_true, if_false, true_and, and_true, and_self, and_false, false_and, not_true_eq_false, not_false_eq_true, ne_eq, reduceIte]
    have t := m_ratp ha hf 4 0 (apM (wB 18 name) s) rfl (wB_8 _ _ (hs.le (by decide)))
    rw [apM_app]
    exact ⟨t.1, by omega, (hs.le (by decide)).ob _ _, t.2⟩
