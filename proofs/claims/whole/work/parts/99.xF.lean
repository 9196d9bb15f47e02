/-- MAP -/
def okl (B : Nat → Nat) (co cl p : Nat) : Int32 := if co ≤ UB B p 2 then 0 else if B (p + 2) = 0 then (if B (p + 3) = 0 then 1 else 0) else if B (p + 2) = 1 then (if cl ≤ B (p + 3) then 0 else 1) else 0
def amp (B : Nat → Nat) (co cl : Nat) : Nat → Nat → Int32
  | 0, _ => 1
  | d + 1, p => if okl B co cl p = 0 then 0 else amp B co cl d (p + 4)
theorem amp_01 (B : Nat → Nat) (co cl : Nat) : ∀ d p, amp B co cl d p = 0 ∨ amp B co cl d p = 1
  | 0, _ => Or.inr rfl
  | d + 1, p => by
    show (if okl B co cl p = 0 then 0 else amp B co cl d (p + 4)) = 0 ∨ (if okl B co cl p = 0 then 0 else amp B co cl d (p + 4)) = 1
    by_cases a : okl B co cl p = 0
    · rw [if_pos a]; exact Or.inl rfl
    · rw [if_neg a]; exact amp_01 B co cl d (p + 4)
theorem amp_all {B : Nat → Nat} {co cl : Nat} : ∀ d p, ¬ amp B co cl d p = 0 → ∀ k, k < d → ¬ okl B co cl (p + 4 * k) = 0
  | 0, _, _, k, hk => by omega
  | d + 1, p, h, k, hk => by
    have h2 : ¬ (if okl B co cl p = 0 then 0 else amp B co cl d (p + 4)) = 0 := h
    by_cases a : okl B co cl p = 0
    · rw [if_pos a] at h2; exact absurd rfl h2
    · rw [if_neg a] at h2
      by_cases z : k = 0
      · rw [z]; exact a
      · have t := amp_all d (p + 4) h2 (k - 1) (by omega)
        rw [show p + 4 + 4 * (k - 1) = p + 4 * k by omega] at t
        exact t
def LnM (B : Nat → Nat) (p d m : Nat) (mf : Nat → Int32) : Prop := ∀ i, i < d → mf (3 * (m + i)) = nI (UB B (p + 4 * i) 2) ∧ mf (3 * (m + i) + 1) = nI (B (p + 4 * i + 2)) ∧ mf (3 * (m + i) + 2) = nI (B (p + 4 * i + 3))
theorem x_m7 {sz nr : Nat} {fw gf : Nat → Int32} {B : Nat → Nat} (hB : HB sz nr fw gf B) {e zN pN : Nat} (he : e ≤ sz) (hz : zN + 14 ≤ sz) (hp : pN + 3 ≤ sz) : ∀ (d fu p : Nat) (v : Int32), d < fu → p + 4 * d = e → (v = 0 ∨ v = 1) →
    lp_Mo_isMap_7 (nI e) (nI zN) (nI pN) gf fu (nI p) v = (if v = 0 then 0 else amp B (UB B (zN + 8) 2) (B (pN + 2)) d p) ∧ olp_Mo_isMap_7 (nI e) (nI zN) (nI pN) gf fu (nI p) v
  | d, 0, p, v, hd, h, hv => by omega
  | 0, fu + 1, p, v, hd, h, hv => by
    have h1 := hB.1
    have h2 := hB.2.1
    have k : nI e ≤ nI p := by rw [q_le (by omega) (by omega)]; omega
    have n := n_b1 hv
    show lb_Mo_isMap_7 (nI e) (nI zN) (nI pN) gf (lp_Mo_isMap_7 (nI e) (nI zN) (nI pN) gf fu) (nI p) v = (if v = 0 then 0 else 1) ∧ olb_Mo_isMap_7 (nI e) (nI zN) (nI pN) gf (olp_Mo_isMap_7 (nI e) (nI zN) (nI pN) gf fu) (nI p) v
    unfold lb_Mo_isMap_7 olb_Mo_isMap_7
    rw [if_pos k, if_pos k]
    refine ⟨?_, n, trivial⟩
    rcases hv with rfl | rfl <;> rfl
  | d + 1, fu + 1, p, v, hd, h, hv => by
    have h1 := hB.1
    have h2 := hB.2.1
    have k : ¬ nI e ≤ nI p := by rw [q_le (by omega) (by omega)]; omega
    have i0 := x_m7 hB he hz hp d fu (p + 4) 0 (by omega) (by omega) (Or.inl rfl)
    have i1 := x_m7 hB he hz hp d fu (p + 4) 1 (by omega) (by omega) (Or.inr rfl)
    have u := s_u2 hB (p := p) (by omega)
    have uz : m_Mo_u2 gf (nI zN + 8) = nI (UB B (zN + 8) 2) ∧ om_Mo_u2 (nI zN + 8) := by rw [show (8 : Int32) = nI 8 from rfl, q_add]; exact s_u2 hB (by omega)
    have l1 := UB_2lt hB.2.2.1 p
    have l2 := UB_2lt hB.2.2.1 (zN + 8)
    have t2 := hB.2.2.1 (p + 2)
    have t3 := hB.2.2.1 (p + 3)
    have tp := hB.2.2.1 (pN + 2)
    have e4 : nI p + 4 = nI (p + 4) := by rw [show (4 : Int32) = nI 4 from rfl, q_add]
    have g2 : gf (nI p + 2).toNatClampNeg = nI (B (p + 2)) := by rw [q_p2, q_cl (by omega)]; exact (hB.2.2.2 _ (by omega)).2
    have g3 : gf (nI p + 3).toNatClampNeg = nI (B (p + 3)) := by rw [show (3 : Int32) = nI 3 from rfl, q_add, q_cl (by omega)]; exact (hB.2.2.2 _ (by omega)).2
    have gp : gf (nI pN + 2).toNatClampNeg = nI (B (pN + 2)) := by rw [q_p2, q_cl (by omega)]; exact (hB.2.2.2 _ (by omega)).2
    have v2 : vp_in (nI p + 2) 65536 := by rw [q_p2, q_in (by omega)]; omega
    have v3 : vp_in (nI p + 3) 65536 := by rw [show (3 : Int32) = nI 3 from rfl, q_add, q_in (by omega)]; omega
    have vp : vp_in (nI pN + 2) 65536 := by rw [q_p2, q_in (by omega)]; omega
    have c1 : (nI (UB B (zN + 8) 2) ≤ nI (UB B p 2)) = (UB B (zN + 8) 2 ≤ UB B p 2) := q_le (by omega) (by omega)
    have c2 : (nI (B (p + 2)) = 0) = (B (p + 2) = 0) := q_e0 (by omega)
    have c3 : (nI (B (p + 3)) = 0) = (B (p + 3) = 0) := q_e0 (by omega)
    have c4 : (nI (B (p + 2)) = 1) = (B (p + 2) = 1) := by rw [show (1 : Int32) = nI 1 from rfl, q_eq (by omega) (by decide)]
    have c5 : (nI (B (pN + 2)) ≤ nI (B (p + 3))) = (B (pN + 2) ≤ B (p + 3)) := q_le (by omega) (by omega)
    have z0 : (0 : Int32) = 0 := rfl
    have z1 : ¬ (1 : Int32) = 0 := by decide
    rw [if_pos z0] at i0
    rw [if_neg z1] at i1
    show lb_Mo_isMap_7 (nI e) (nI zN) (nI pN) gf (lp_Mo_isMap_7 (nI e) (nI zN) (nI pN) gf fu) (nI p) v = (if v = 0 then 0 else if okl B (UB B (zN + 8) 2) (B (pN + 2)) p = 0 then 0 else amp B (UB B (zN + 8) 2) (B (pN + 2)) d (p + 4)) ∧ olb_Mo_isMap_7 (nI e) (nI zN) (nI pN) gf (olp_Mo_isMap_7 (nI e) (nI zN) (nI pN) gf fu) (nI p) v
    unfold lb_Mo_isMap_7 olb_Mo_isMap_7 k_Mo_isMap_30 ok_Mo_isMap_30 k_Mo_isMap_41 ok_Mo_isMap_41 j_Mo_isMap_96 oj_Mo_isMap_96 j_Mo_isMap_92 oj_Mo_isMap_92 j_Mo_isMap_97 oj_Mo_isMap_97 okl
    rw [if_neg k, if_neg k, u.1, uz.1, g2, g3, gp, e4]
    simp only [c1, c2, c3, c4, c5, v2, v3, vp, u.2, uz.2, true_and]
    rcases hv with rfl | rfl
    · rw [if_pos z0, if_pos z0, if_pos z0]; exact i0
    · rw [if_neg z1, if_neg z1, if_neg z1]
      by_cases x1 : UB B (zN + 8) 2 ≤ UB B p 2
      · rw [if_pos x1, if_pos x1, if_pos x1, if_pos z0]; exact i0
      · rw [if_neg x1, if_neg x1, if_neg x1]
        by_cases x2 : B (p + 2) = 0
        · rw [if_pos x2, if_pos x2, if_pos x2]
          by_cases x3 : B (p + 3) = 0
          · rw [if_pos x3, if_pos x3, if_pos x3, if_neg z1]; exact i1
          · rw [if_neg x3, if_neg x3, if_neg x3, if_pos z0]; exact i0
        · rw [if_neg x2, if_neg x2, if_neg x2]
          by_cases x4 : B (p + 2) = 1
          · rw [if_pos x4, if_pos x4, if_pos x4]
            by_cases x5 : B (pN + 2) ≤ B (p + 3)
            · rw [if_pos x5, if_pos x5, if_pos x5, if_pos z0]; exact i0
            · rw [if_neg x5, if_neg x5, if_neg x5, if_neg z1]; exact i1
          · rw [if_neg x4, if_neg x4, if_neg x4, if_pos z0]; exact i0
theorem x_way {B : Nat → Nat} (h : ∀ k, B k < 256) (p cl : Nat) (hcl : cl < 256) : m_FB_isWay (nI (B (p + 2))) (nI (B (p + 3))) (nI cl) = if B (p + 2) = 0 then (if B (p + 3) = 0 then 1 else 0) else if B (p + 2) = 1 then (if cl ≤ B (p + 3) then 0 else 1) else 0 := by
  have t2 := h (p + 2)
  have t3 := h (p + 3)
  have c2 : (nI (B (p + 2)) = 0) = (B (p + 2) = 0) := q_e0 (by omega)
  have c3 : (nI (B (p + 3)) = 0) = (B (p + 3) = 0) := q_e0 (by omega)
  have c4 : (nI (B (p + 2)) = 1) = (B (p + 2) = 1) := by rw [show (1 : Int32) = nI 1 from rfl, q_eq (by omega) (by decide)]
  have c5 : (nI cl ≤ nI (B (p + 3))) = (cl ≤ B (p + 3)) := q_le (by omega) (by omega)
  have c6 : (nI (B (p + 3)) < 0) = False := q_l0 (by omega)
  unfold m_FB_isWay
  simp only [c2, c3, c4, c5, c6, if_false]
theorem x_m71 {sz nr : Nat} {fw gf : Nat → Int32} {B : Nat → Nat} (hB : HB sz nr fw gf B) {e co cl : Nat} (he : e ≤ sz) (hco : co ≤ 65536) (hcl : cl < 256) (se : Int32) : ∀ (d fu p m : Nat) (mf : Nat → Int32), d < fu → p + 4 * d = e → m + d ≤ 16 →
    ∃ (ma2 : Int32) (mf2 : Nat → Int32), lp_Sc_readMap_71 se (nI e) (nI sz) nr fw (nI co) (nI cl) 48 fu (nI p) (nI m) mf = (if amp B co cl d p = 0 then 5 else 0, se ||| 16, ma2, mf2) ∧ (¬ amp B co cl d p = 0 → ma2 = nI (m + d) ∧ LnM B p d m mf2 ∧ ∀ k, k < 3 * m → mf2 k = mf k)
  | d, 0, p, m, mf, hd, h, hm => by omega
  | 0, fu + 1, p, m, mf, hd, h, hm => by
    have h1 := hB.1
    have h2 := hB.2.1
    have k : nI e ≤ nI p := by rw [q_le (by omega) (by omega)]; omega
    refine ⟨nI m, mf, ?_, fun _ => ⟨rfl, fun i hi => by omega, fun k hk => rfl⟩⟩
    show lb_Sc_readMap_71 se (nI e) (nI sz) nr fw (nI co) (nI cl) 48 (lp_Sc_readMap_71 se (nI e) (nI sz) nr fw (nI co) (nI cl) 48 fu) (nI p) (nI m) mf = _
    unfold lb_Sc_readMap_71
    rw [if_pos k]; rfl
  | d + 1, fu + 1, p, m, mf, hd, h, hm => by
    have h1 := hB.1
    have h2 := hB.2.1
    have k : ¬ nI e ≤ nI p := by rw [q_le (by omega) (by omega)]; omega
    have e4 : nI p + 4 = nI (p + 4) := by rw [show (4 : Int32) = nI 4 from rfl, q_add]
    have l1 := UB_2lt hB.2.2.1 p
    have a1 : m_By_intAt (nI sz) nr fw (nI p) 2 = nI (UB B p 2) := s_int hB (w := 2) (by omega)
    have a2 : m_By_byteAt (nI sz) nr fw (nI p + 2) = nI (B (p + 2)) := by rw [q_p2]; exact s_byte hB (by omega)
    have a3 : m_By_byteAt (nI sz) nr fw (nI p + 3) = nI (B (p + 3)) := by rw [show (3 : Int32) = nI 3 from rfl, q_add]; exact s_byte hB (by omega)
    have c1 : (nI co ≤ nI (UB B p 2)) = (co ≤ UB B p 2) := q_le (by omega) (by omega)
    obtain ⟨ma2, mf2, i1, i2⟩ := x_m71 hB he hco hcl se d fu (p + 4) (m + 1) (upd (upd (upd mf (3 * m) (nI (UB B p 2))) (3 * m + 1) (nI (B (p + 2)))) (3 * m + 2) (nI (B (p + 3)))) (by omega) (by omega) (by omega)
    have e1 : amp B co cl (d + 1) p = if okl B co cl p = 0 then 0 else amp B co cl d (p + 4) := rfl
    have e2 : lp_Sc_readMap_71 se (nI e) (nI sz) nr fw (nI co) (nI cl) 48 (fu + 1) (nI p) (nI m) mf = if okl B co cl p = 0 then (5, se ||| 16, nI m, mf) else lp_Sc_readMap_71 se (nI e) (nI sz) nr fw (nI co) (nI cl) 48 fu (nI (p + 4)) (nI (m + 1)) (upd (upd (upd mf (3 * m) (nI (UB B p 2))) (3 * m + 1) (nI (B (p + 2)))) (3 * m + 2) (nI (B (p + 3)))) := by
      show lb_Sc_readMap_71 se (nI e) (nI sz) nr fw (nI co) (nI cl) 48 (lp_Sc_readMap_71 se (nI e) (nI sz) nr fw (nI co) (nI cl) 48 fu) (nI p) (nI m) mf = _
      unfold lb_Sc_readMap_71 k_Sc_readMap_85 k_Sc_readMap_96 k_Sc_readMap_107 k_Sc_readMap_136 k_Sc_readMap_155 okl
      rw [if_neg k, a1, a2, a3, x_way hB.2.2.1 p cl hcl, q_liadd (by omega), e4]
      simp only [c1]
      by_cases x : co ≤ UB B p 2
      · rw [if_pos x, if_pos x, if_pos rfl]
      · rw [if_neg x, if_neg x]
    rw [e1, e2]
    by_cases a : okl B co cl p = 0
    · rw [if_pos a, if_pos a]
      exact ⟨_, _, rfl, fun q => absurd rfl q⟩
    · rw [if_neg a, if_neg a, i1]
      refine ⟨ma2, mf2, rfl, fun q => ?_⟩
      obtain ⟨j1, j2, j3⟩ := i2 q
      refine ⟨by rw [j1, show m + 1 + d = m + (d + 1) by omega], fun i hi => ?_, fun k hk => ?_⟩
      · by_cases z : i = 0
        · subst z
          rw [Nat.add_zero, Nat.mul_zero, Nat.add_zero, j3 (3 * m) (by omega), j3 (3 * m + 1) (by omega), j3 (3 * m + 2) (by omega)]
          refine ⟨?_, ?_, ?_⟩
          · rw [q_upn _ _ (by omega), q_upn _ _ (by omega), q_upd]
          · rw [q_upn _ _ (by omega), q_upd]
          · rw [q_upd]
        · have t := j2 (i - 1) (by omega)
          rw [show m + 1 + (i - 1) = m + i by omega, show p + 4 + 4 * (i - 1) = p + 4 * i by omega] at t
          exact t
      · rw [j3 k (by omega), q_upn _ _ (by omega), q_upn _ _ (by omega), q_upn _ _ (by omega)]
set_option maxHeartbeats 1000000 in
theorem x_map {sz nr : Nat} {fw gf : Nat → Int32} {B : Nat → Nat} (hB : HB sz nr fw gf B) {f e zN : Nat} (hfe : f ≤ e) (he : e ≤ sz) (hz : zN + 14 ≤ sz) (se bA cA hA rsv cl : Int32) (pA mA : Nat) (hpA : pA < 65536) (hmA : mA < 65536) (hs8 : m_Sc_was se 8 = if pA = 0 then 0 else 1) (hs16 : m_Sc_was se 16 = if mA = 0 then 0 else 1) (hP : pA ≠ 0 → pA + 3 ≤ sz ∧ cl = nI (B (pA + 2))) (ma : Int32) (hma : mA = 0 → ma = nI 0) (mf : Nat → Int32) :
    ∃ (r se2 ma2 : Int32) (mf2 : Nat → Int32), m_Sc_readMap se (nI f) (nI e) (nI sz) nr fw (nI (UB B (zN + 8) 2)) cl ma 48 mf = (r, se2, ma2, mf2)
    ∧ r = hdWhy (m_Mo_isWrong 1668112752 (nI zN) (nI pA) gf 0) (m_Mo_fitsHead 1668112752 (nI f) (nI e) (nI zN) gf) (m_Mo_isTwice 1668112752 bA (nI pA) (nI mA) hA rsv) (m_Mo_isGreat 1668112752 (nI f) (nI e) cA gf) (m_Mo_isValue 1668112752 (nI f) (nI e) (nI zN) (nI pA) gf)
    ∧ hdOk gf 0 (nI zN) bA cA (nI pA) (nI mA) hA rsv 1668112752 (nI f) (nI e)
    ∧ (r = 0 → ∃ d, e = f + 4 * d ∧ 1 ≤ d ∧ d ≤ 16 ∧ mA = 0 ∧ pA ≠ 0 ∧ se2 = se ||| 16 ∧ ma2 = nI d ∧ LnM B f d 0 mf2 ∧ ∀ k, k < d → ¬ okl B (UB B (zN + 8) 2) (B (pA + 2)) (f + 4 * k) = 0) := by
  have h1 := hB.1
  have h2 := hB.2.1
  have cp0 : (nI pA = 0) = (pA = 0) := q_e0 (by omega)
  have cm : (0 < nI mA) = (0 < mA) := by rw [show (0 : Int32) = nI 0 from rfl, q_lt (by decide) (by omega)]
  have c4 : (nI (e - f) < 4) = (e - f < 4) := by rw [show (4 : Int32) = nI 4 from rfl, q_lt (by omega) (by decide)]
  have cd : nI (e - f) / 4 = nI ((e - f) / 4) := by rw [show (4 : Int32) = nI 4 from rfl, q_div (by omega) (by decide)]
  have cr : (nI (e - f) - nI ((e - f) / 4) * 4 = 0) = ((e - f) % 4 = 0) := by
    rw [show (4 : Int32) = nI 4 from rfl, q_mul, q_sub (by omega), q_e0 (by omega)]
    apply propext; omega
  have c16 : (nI ((e - f) / 4) ≤ 16) = ((e - f) / 4 ≤ 16) := by rw [show (16 : Int32) = nI 16 from rfl, q_le (by omega) (by decide)]
  have wr : m_Mo_isWrong 1668112752 (nI zN) (nI pA) gf 0 = if pA = 0 then 1 else 0 := by
    unfold m_Mo_isWrong j_Mo_isWrong_35 k_Mo_isWrong_41 j_Mo_isWrong_78 m_Mo_isTop
    simp only [nx_MAP_SIGN, nx_MAP_KIND, nx_MAP_HEAD, nx_MAP_STREAM, nx_MAP_SIZE, nx_MAP_BITS, nx_MAP_COLOUR, nx_MAP_PALETTE, nx_MAP_CHANNELS, nx_MAP_RESOLUTION, nx_MAP_CAPTURE, nx_MAP_DISPLAY, if_true, if_false, cp0]
  have owr : om_Mo_isWrong 1668112752 (nI zN) (nI pA) gf 0 := by
    unfold om_Mo_isWrong oj_Mo_isWrong_35 ok_Mo_isWrong_41 oj_Mo_isWrong_78 om_Mo_isTop m_Mo_isTop
    simp only [nx_MAP_SIGN, nx_MAP_KIND, nx_MAP_HEAD, nx_MAP_STREAM, nx_MAP_SIZE, nx_MAP_BITS, nx_MAP_COLOUR, nx_MAP_PALETTE, nx_MAP_CHANNELS, nx_MAP_RESOLUTION, nx_MAP_CAPTURE, nx_MAP_DISPLAY, if_true, if_false, ite_self, and_self]
  have tw : m_Mo_isTwice 1668112752 bA (nI pA) (nI mA) hA rsv = if mA = 0 then 0 else 1 := by
    unfold m_Mo_isTwice j_Mo_isTwice_16 j_Mo_isTwice_32 j_Mo_isTwice_48 j_Mo_isTwice_64
    simp only [nx_MAP_SIGN, nx_MAP_KIND, nx_MAP_HEAD, nx_MAP_STREAM, nx_MAP_SIZE, nx_MAP_BITS, nx_MAP_COLOUR, nx_MAP_PALETTE, nx_MAP_CHANNELS, nx_MAP_RESOLUTION, nx_MAP_CAPTURE, nx_MAP_DISPLAY, if_true, if_false, cm]
    by_cases x : mA = 0
    · rw [if_pos x, if_neg (by omega)]
    · rw [if_neg x, if_pos (by omega)]
  have otw : om_Mo_isTwice 1668112752 bA (nI pA) (nI mA) hA rsv := by
    unfold om_Mo_isTwice oj_Mo_isTwice_16 oj_Mo_isTwice_32 oj_Mo_isTwice_48 oj_Mo_isTwice_64
    simp only [nx_MAP_SIGN, nx_MAP_KIND, nx_MAP_HEAD, nx_MAP_STREAM, nx_MAP_SIZE, nx_MAP_BITS, nx_MAP_COLOUR, nx_MAP_PALETTE, nx_MAP_CHANNELS, nx_MAP_RESOLUTION, nx_MAP_CAPTURE, nx_MAP_DISPLAY, if_true, if_false, ite_self]
  have fi : m_Mo_fitsHead 1668112752 (nI f) (nI e) (nI zN) gf = if e - f < 4 then 0 else if (e - f) % 4 = 0 then 1 else 0 := by
    unfold m_Mo_fitsHead
    simp only [nx_MAP_SIGN, nx_MAP_KIND, nx_MAP_HEAD, nx_MAP_STREAM, nx_MAP_SIZE, nx_MAP_BITS, nx_MAP_COLOUR, nx_MAP_PALETTE, nx_MAP_CHANNELS, nx_MAP_RESOLUTION, nx_MAP_CAPTURE, nx_MAP_DISPLAY, if_true, if_false, q_sub hfe, c4, cd, cr]
  have ofi : om_Mo_fitsHead 1668112752 (nI f) (nI e) (nI zN) gf := by
    unfold om_Mo_fitsHead
    simp only [nx_MAP_SIGN, nx_MAP_KIND, nx_MAP_HEAD, nx_MAP_STREAM, nx_MAP_SIZE, nx_MAP_BITS, nx_MAP_COLOUR, nx_MAP_PALETTE, nx_MAP_CHANNELS, nx_MAP_RESOLUTION, nx_MAP_CAPTURE, nx_MAP_DISPLAY, if_true, if_false, ite_self]
  have gr : m_Mo_isGreat 1668112752 (nI f) (nI e) cA gf = if (e - f) / 4 ≤ 16 then 0 else 1 := by
    unfold m_Mo_isGreat
    simp only [nx_MAP_SIGN, nx_MAP_KIND, nx_MAP_HEAD, nx_MAP_STREAM, nx_MAP_SIZE, nx_MAP_BITS, nx_MAP_COLOUR, nx_MAP_PALETTE, nx_MAP_CHANNELS, nx_MAP_RESOLUTION, nx_MAP_CAPTURE, nx_MAP_DISPLAY, if_true, if_false, q_sub hfe, cd, c16]
  have ogr : om_Mo_isGreat 1668112752 (nI f) (nI e) cA gf := by
    unfold om_Mo_isGreat
    simp only [nx_MAP_SIGN, nx_MAP_KIND, nx_MAP_HEAD, nx_MAP_STREAM, nx_MAP_SIZE, nx_MAP_BITS, nx_MAP_COLOUR, nx_MAP_PALETTE, nx_MAP_CHANNELS, nx_MAP_RESOLUTION, nx_MAP_CAPTURE, nx_MAP_DISPLAY, if_true, if_false, ite_self]
  unfold m_Sc_readMap k_Sc_readMap_3
  rw [hs8, wr]
  by_cases x0 : pA = 0
  · rw [if_pos x0, if_pos rfl, if_pos x0]
    exact ⟨_, _, _, _, rfl, rfl, ⟨owr, fun q => absurd (wr.symm.trans q) (by rw [if_pos x0]; decide)⟩, fun q => absurd q (by decide)⟩
  · obtain ⟨hp3, hcl⟩ := hP x0
    rw [if_neg x0, if_neg (by decide), if_neg x0, fi, tw, gr]
    unfold k_Sc_readMap_12 k_Sc_readMap_20 m_Sc_content
    rw [q_sub hfe, cd]
    simp only [c4, cr]
    by_cases a : e - f < 4
    · rw [if_pos a, if_pos a]
      exact ⟨_, _, _, _, rfl, rfl, ⟨owr, fun _ => ⟨ofi, fun q => absurd (fi.trans (if_pos a)) q⟩⟩, fun q => absurd q (by decide)⟩
    · rw [if_neg a, if_neg a]
      by_cases b : (e - f) % 4 = 0
      · rw [if_pos b, if_pos b]
        unfold k_Sc_readMap_33
        rw [hs16]
        by_cases x : mA = 0
        · rw [if_pos x, if_pos rfl]
          unfold k_Sc_readMap_53 m_Sc_content
          rw [q_sub hfe, cd]
          simp only [c16]
          by_cases g : (e - f) / 4 ≤ 16
          · have vv := x_m7 hB he hz hp3 ((e - f) / 4) 70000 f 1 (by omega) (by omega) (Or.inr rfl)
            have hv01 : (if (1 : Int32) = 0 then 0 else amp B (UB B (zN + 8) 2) (B (pA + 2)) ((e - f) / 4) f) = amp B (UB B (zN + 8) 2) (B (pA + 2)) ((e - f) / 4) f := if_neg (by decide)
            have hmp : m_Mo_isMap (nI f) (nI e) (nI zN) (nI pA) gf = amp B (UB B (zN + 8) 2) (B (pA + 2)) ((e - f) / 4) f := by
              unfold m_Mo_isMap
              rw [vv.1, hv01]
            have am01 : ∀ d p, amp B (UB B (zN + 8) 2) (B (pA + 2)) d p = 0 ∨ amp B (UB B (zN + 8) 2) (B (pA + 2)) d p = 1 := amp_01 B _ _
            have va : m_Mo_isValue 1668112752 (nI f) (nI e) (nI zN) (nI pA) gf = amp B (UB B (zN + 8) 2) (B (pA + 2)) ((e - f) / 4) f := by
              unfold m_Mo_isValue k_Mo_isValue_287
              simp only [nx_MAP_SIGN, nx_MAP_KIND, nx_MAP_HEAD, nx_MAP_STREAM, nx_MAP_SIZE, nx_MAP_BITS, nx_MAP_COLOUR, nx_MAP_PALETTE, nx_MAP_CHANNELS, nx_MAP_RESOLUTION, nx_MAP_CAPTURE, nx_MAP_DISPLAY, if_true, if_false]
              exact hmp
            have ova : om_Mo_isValue 1668112752 (nI f) (nI e) (nI zN) (nI pA) gf := by
              unfold om_Mo_isValue ok_Mo_isValue_287 om_Mo_isMap
              simp only [nx_MAP_SIGN, nx_MAP_KIND, nx_MAP_HEAD, nx_MAP_STREAM, nx_MAP_SIZE, nx_MAP_BITS, nx_MAP_COLOUR, nx_MAP_PALETTE, nx_MAP_CHANNELS, nx_MAP_RESOLUTION, nx_MAP_CAPTURE, nx_MAP_DISPLAY, if_true, if_false]
              rw [hmp]
              exact ⟨vv.2, n_b1 (am01 _ _), trivial⟩
            have fu : ((nI e).toInt - (nI f).toInt).toNat + 1 = (e - f) + 1 := by rw [q_toInt (by omega), q_toInt (by omega)]; omega
            have l2 := UB_2lt hB.2.2.1 (zN + 8)
            have tp := hB.2.2.1 (pA + 2)
            obtain ⟨ma2, mf2, j1, j2⟩ := x_m71 hB (co := UB B (zN + 8) 2) (cl := B (pA + 2)) he (by omega) tp se ((e - f) / 4) ((e - f) + 1) f 0 mf (by omega) (by omega) (by omega)
            rw [if_pos g, if_pos g, hma x, hcl, fu, j1, va]
            refine ⟨_, _, ma2, mf2, rfl, rfl, ⟨owr, fun _ => ⟨ofi, fun _ => ⟨otw, fun _ => ⟨ogr, fun _ => ova⟩⟩⟩⟩, fun q => ?_⟩
            have q2 : ¬ amp B (UB B (zN + 8) 2) (B (pA + 2)) ((e - f) / 4) f = 0 := fun w => by
              rw [if_pos w] at q; exact absurd q (by decide)
            obtain ⟨k1, k2, k3⟩ := j2 q2
            exact ⟨(e - f) / 4, by omega, by omega, g, x, x0, rfl, by rw [k1, Nat.zero_add], k2, amp_all _ _ q2⟩
          · rw [if_neg g, if_neg g]
            exact ⟨_, _, _, _, rfl, rfl, ⟨owr, fun _ => ⟨ofi, fun _ => ⟨otw, fun _ => ⟨ogr, fun q => absurd (gr.symm.trans q) (by rw [if_neg g]; decide)⟩⟩⟩⟩, fun q => absurd q (by decide)⟩
        · rw [if_neg x, if_neg (by decide)]
          exact ⟨_, _, _, _, rfl, rfl, ⟨owr, fun _ => ⟨ofi, fun _ => ⟨otw, fun q => absurd (tw.symm.trans q) (by rw [if_neg x]; decide)⟩⟩⟩, fun q => absurd q (by decide)⟩
      · rw [if_neg b, if_neg b]
        exact ⟨_, _, _, _, rfl, rfl, ⟨owr, fun _ => ⟨ofi, fun q => absurd (fi.trans ((if_neg a).trans (if_neg b))) q⟩⟩, fun q => absurd q (by decide)⟩
