/-- CHANNELS -/
def aty (B : Nat → Nat) : Nat → Nat → Int32
  | 0, _ => 1
  | d + 1, p => if m_Mo_isType (nI (UB B (p + 2) 2)) = 0 then 0 else aty B d (p + 6)
def LnC (B : Nat → Nat) (p d m : Nat) (lf : Nat → Int32) : Prop := ∀ i, i < d → lf (3 * (m + i)) = nI (UB B (p + 6 * i) 2) ∧ lf (3 * (m + i) + 1) = nI (UB B (p + 6 * i + 2) 2) ∧ lf (3 * (m + i) + 2) = nI (UB B (p + 6 * i + 4) 2)
theorem x_t298 {sz nr : Nat} {fw gf : Nat → Int32} {B : Nat → Nat} (hB : HB sz nr fw gf B) {e : Nat} (he : e ≤ sz) : ∀ (d fu p : Nat) (v : Int32), d < fu → p + 6 * d = e → (v = 0 ∨ v = 1) →
    lp_Mo_isValue_298 (nI e) gf fu (nI p) v = (if v = 0 then 0 else aty B d p) ∧ olp_Mo_isValue_298 (nI e) gf fu (nI p) v
  | d, 0, p, v, hd, h, hv => by omega
  | 0, fu + 1, p, v, hd, h, hv => by
    have h1 := hB.1
    have h2 := hB.2.1
    have k : nI e ≤ nI p := by rw [q_le (by omega) (by omega)]; omega
    have n := n_b1 hv
    show lb_Mo_isValue_298 (nI e) gf (lp_Mo_isValue_298 (nI e) gf fu) (nI p) v = (if v = 0 then 0 else 1) ∧ olb_Mo_isValue_298 (nI e) gf (olp_Mo_isValue_298 (nI e) gf fu) (nI p) v
    unfold lb_Mo_isValue_298 olb_Mo_isValue_298
    rw [if_pos k, if_pos k]
    refine ⟨?_, n, trivial⟩
    rcases hv with rfl | rfl <;> rfl
  | d + 1, fu + 1, p, v, hd, h, hv => by
    have h1 := hB.1
    have h2 := hB.2.1
    have k : ¬ nI e ≤ nI p := by rw [q_le (by omega) (by omega)]; omega
    have i0 := x_t298 hB he d fu (p + 6) 0 (by omega) (by omega) (Or.inl rfl)
    have i1 := x_t298 hB he d fu (p + 6) 1 (by omega) (by omega) (Or.inr rfl)
    have u := s_u2 hB (p := p + 2) (by omega)
    have oty := (q_isType (nI (UB B (p + 2) 2))).2
    have e6 : nI p + 6 = nI (p + 6) := by rw [show (6 : Int32) = nI 6 from rfl, q_add]
    have z0 : (0 : Int32) = 0 := rfl
    have z1 : ¬ (1 : Int32) = 0 := by decide
    rw [if_pos z0] at i0
    rw [if_neg z1] at i1
    show lb_Mo_isValue_298 (nI e) gf (lp_Mo_isValue_298 (nI e) gf fu) (nI p) v = (if v = 0 then 0 else if m_Mo_isType (nI (UB B (p + 2) 2)) = 0 then 0 else aty B d (p + 6)) ∧ olb_Mo_isValue_298 (nI e) gf (olp_Mo_isValue_298 (nI e) gf fu) (nI p) v
    unfold lb_Mo_isValue_298 olb_Mo_isValue_298 k_Mo_isValue_314 ok_Mo_isValue_314 k_Mo_isValue_317 ok_Mo_isValue_317 j_Mo_isValue_327 oj_Mo_isValue_327 j_Mo_isValue_328 oj_Mo_isValue_328
    rw [if_neg k, if_neg k, q_p2, u.1, e6]
    rcases hv with rfl | rfl
    · rw [if_pos z0, if_pos z0, if_pos z0]; exact i0
    · rw [if_neg z1, if_neg z1, if_neg z1]
      by_cases a : m_Mo_isType (nI (UB B (p + 2) 2)) = 0
      · rw [if_pos a, if_pos a, if_pos a]
        exact ⟨i0.1, u.2, oty, i0.2⟩
      · rw [if_neg a, if_neg a, if_neg a]
        exact ⟨i1.1, u.2, oty, i1.2⟩
theorem x_t74 {sz nr : Nat} {fw gf : Nat → Int32} {B : Nat → Nat} (hB : HB sz nr fw gf B) {e : Nat} (he : e ≤ sz) (se : Int32) : ∀ (d fu p m : Nat) (lf : Nat → Int32), d < fu → p + 6 * d = e → m + d ≤ 16 →
    ∃ (li2 : Int32) (lf2 : Nat → Int32), lp_Sc_readMeanings_74 se (nI e) (nI sz) nr fw 48 fu (nI p) (nI m) lf = (if aty B d p = 0 then 5 else 0, se ||| 32, li2, lf2) ∧ (¬ aty B d p = 0 → li2 = nI (m + d) ∧ LnC B p d m lf2 ∧ ∀ k, k < 3 * m → lf2 k = lf k)
  | d, 0, p, m, lf, hd, h, hm => by omega
  | 0, fu + 1, p, m, lf, hd, h, hm => by
    have h1 := hB.1
    have h2 := hB.2.1
    have k : nI e ≤ nI p := by rw [q_le (by omega) (by omega)]; omega
    refine ⟨nI m, lf, ?_, fun _ => ⟨rfl, fun i hi => by omega, fun k hk => rfl⟩⟩
    show lb_Sc_readMeanings_74 se (nI e) (nI sz) nr fw 48 (lp_Sc_readMeanings_74 se (nI e) (nI sz) nr fw 48 fu) (nI p) (nI m) lf = _
    unfold lb_Sc_readMeanings_74
    rw [if_pos k]; rfl
  | d + 1, fu + 1, p, m, lf, hd, h, hm => by
    have h1 := hB.1
    have h2 := hB.2.1
    have k : ¬ nI e ≤ nI p := by rw [q_le (by omega) (by omega)]; omega
    have e6 : nI p + 6 = nI (p + 6) := by rw [show (6 : Int32) = nI 6 from rfl, q_add]
    have a1 : m_By_intAt (nI sz) nr fw (nI p) 2 = nI (UB B p 2) := s_int hB (w := 2) (by omega)
    have a2 : m_By_intAt (nI sz) nr fw (nI p + 2) 2 = nI (UB B (p + 2) 2) := by rw [q_p2]; exact s_int hB (w := 2) (by omega)
    have a3 : m_By_intAt (nI sz) nr fw (nI p + 4) 2 = nI (UB B (p + 4) 2) := by rw [show (4 : Int32) = nI 4 from rfl, q_add]; exact s_int hB (w := 2) (by omega)
    have ty := (q_isType (nI (UB B (p + 2) 2))).1
    obtain ⟨li2, lf2, i1, i2⟩ := x_t74 hB he se d fu (p + 6) (m + 1) (upd (upd (upd lf (3 * m) (nI (UB B p 2))) (3 * m + 1) (nI (UB B (p + 2) 2))) (3 * m + 2) (nI (UB B (p + 4) 2))) (by omega) (by omega) (by omega)
    have e1 : aty B (d + 1) p = if m_Mo_isType (nI (UB B (p + 2) 2)) = 0 then 0 else aty B d (p + 6) := rfl
    have e2 : lp_Sc_readMeanings_74 se (nI e) (nI sz) nr fw 48 (fu + 1) (nI p) (nI m) lf = if m_Mo_isType (nI (UB B (p + 2) 2)) = 0 then (5, se ||| 32, nI m, lf) else lp_Sc_readMeanings_74 se (nI e) (nI sz) nr fw 48 fu (nI (p + 6)) (nI (m + 1)) (upd (upd (upd lf (3 * m) (nI (UB B p 2))) (3 * m + 1) (nI (UB B (p + 2) 2))) (3 * m + 2) (nI (UB B (p + 4) 2))) := by
      show lb_Sc_readMeanings_74 se (nI e) (nI sz) nr fw 48 (lp_Sc_readMeanings_74 se (nI e) (nI sz) nr fw 48 fu) (nI p) (nI m) lf = _
      unfold lb_Sc_readMeanings_74 k_Sc_readMeanings_90 k_Sc_readMeanings_95 k_Sc_readMeanings_116 k_Sc_readMeanings_128 k_Sc_readMeanings_131
      rw [if_neg k, a2, ty, a1, a3, q_liadd (by omega), e6]
    rw [e1, e2]
    by_cases a : m_Mo_isType (nI (UB B (p + 2) 2)) = 0
    · rw [if_pos a, if_pos a]
      exact ⟨_, _, rfl, fun q => absurd rfl q⟩
    · rw [if_neg a, if_neg a, i1]
      refine ⟨li2, lf2, rfl, fun q => ?_⟩
      obtain ⟨j1, j2, j3⟩ := i2 q
      refine ⟨by rw [j1, show m + 1 + d = m + (d + 1) by omega], fun i hi => ?_, fun k hk => ?_⟩
      · by_cases z : i = 0
        · subst z
          rw [Nat.add_zero, Nat.mul_zero, Nat.add_zero, j3 (3 * m) (by omega), j3 (3 * m + 1) (by omega), j3 (3 * m + 2) (by omega)]
          refine ⟨?_, ?_, ?_⟩
          · rw [q_upn _ _ (by omega), q_upn _ _ (by omega), q_upd]
          · rw [q_upn _ _ (by omega), q_upd]
          · rw [q_upd]
        · have t := j2 (i - 1) (by omega)
          rw [show m + 1 + (i - 1) = m + i by omega, show p + 6 + 6 * (i - 1) = p + 6 * i by omega] at t
          exact t
      · rw [j3 k (by omega), q_upn _ _ (by omega), q_upn _ _ (by omega), q_upn _ _ (by omega)]
set_option maxHeartbeats 1000000 in
theorem x_chan {sz nr : Nat} {fw gf : Nat → Int32} {B : Nat → Nat} (hB : HB sz nr fw gf B) {f e : Nat} (hfe : f ≤ e) (he : e ≤ sz) (se zA bA cA pA mA rsv : Int32) (hA : Nat) (hhA : hA < 65536) (hbs : m_Sc_was se 32 = if hA = 0 then 0 else 1) (li : Int32) (hli : hA = 0 → li = nI 0) (lf : Nat → Int32) :
    ∃ (r se2 li2 : Int32) (lf2 : Nat → Int32), m_Sc_readMeanings se (nI f) (nI e) (nI sz) nr fw li 48 lf = (r, se2, li2, lf2)
    ∧ r = hdWhy (m_Mo_isWrong 1667523942 zA pA gf 0) (m_Mo_fitsHead 1667523942 (nI f) (nI e) zA gf) (m_Mo_isTwice 1667523942 bA pA mA (nI hA) rsv) (m_Mo_isGreat 1667523942 (nI f) (nI e) cA gf) (m_Mo_isValue 1667523942 (nI f) (nI e) zA pA gf)
    ∧ hdOk gf 0 zA bA cA pA mA (nI hA) rsv 1667523942 (nI f) (nI e)
    ∧ (r = 0 → e = f + 2 + 6 * UB B f 2 ∧ hA = 0 ∧ se2 = se ||| 32 ∧ UB B f 2 ≤ 16 ∧ li2 = nI (UB B f 2) ∧ LnC B (f + 2) (UB B f 2) 0 lf2) := by
  have h1 := hB.1
  have h2 := hB.2.1
  have wr : m_Mo_isWrong 1667523942 zA pA gf 0 = 0 := by
    unfold m_Mo_isWrong j_Mo_isWrong_35 k_Mo_isWrong_41 j_Mo_isWrong_78 m_Mo_isTop
    simp only [nx_CHANNELS_SIGN, nx_CHANNELS_KIND, nx_CHANNELS_HEAD, nx_CHANNELS_STREAM, nx_CHANNELS_SIZE, nx_CHANNELS_BITS, nx_CHANNELS_COLOUR, nx_CHANNELS_PALETTE, nx_CHANNELS_MAP, nx_CHANNELS_RESOLUTION, nx_CHANNELS_CAPTURE, nx_CHANNELS_DISPLAY, if_true, if_false]
  have owr : om_Mo_isWrong 1667523942 zA pA gf 0 := by
    unfold om_Mo_isWrong oj_Mo_isWrong_35 ok_Mo_isWrong_41 oj_Mo_isWrong_78 om_Mo_isTop m_Mo_isTop
    simp only [nx_CHANNELS_SIGN, nx_CHANNELS_KIND, nx_CHANNELS_HEAD, nx_CHANNELS_STREAM, nx_CHANNELS_SIZE, nx_CHANNELS_BITS, nx_CHANNELS_COLOUR, nx_CHANNELS_PALETTE, nx_CHANNELS_MAP, nx_CHANNELS_RESOLUTION, nx_CHANNELS_CAPTURE, nx_CHANNELS_DISPLAY, if_true, if_false, ite_self, and_self]
  have ch : (0 < nI hA) = (0 < hA) := by rw [show (0 : Int32) = nI 0 from rfl, q_lt (by decide) (by omega)]
  have c2 : (nI (e - f) < 2) = (e - f < 2) := by rw [show (2 : Int32) = nI 2 from rfl, q_lt (by omega) (by decide)]
  have tw : m_Mo_isTwice 1667523942 bA pA mA (nI hA) rsv = if hA = 0 then 0 else 1 := by
    unfold m_Mo_isTwice j_Mo_isTwice_16 j_Mo_isTwice_32 j_Mo_isTwice_48 j_Mo_isTwice_64
    simp only [nx_CHANNELS_SIGN, nx_CHANNELS_KIND, nx_CHANNELS_HEAD, nx_CHANNELS_STREAM, nx_CHANNELS_SIZE, nx_CHANNELS_BITS, nx_CHANNELS_COLOUR, nx_CHANNELS_PALETTE, nx_CHANNELS_MAP, nx_CHANNELS_RESOLUTION, nx_CHANNELS_CAPTURE, nx_CHANNELS_DISPLAY, if_true, if_false, ch]
    by_cases x : hA = 0
    · rw [if_pos x, if_neg (by omega)]
    · rw [if_neg x, if_pos (by omega)]
  have otw : om_Mo_isTwice 1667523942 bA pA mA (nI hA) rsv := by
    unfold om_Mo_isTwice oj_Mo_isTwice_16 oj_Mo_isTwice_32 oj_Mo_isTwice_48 oj_Mo_isTwice_64
    simp only [nx_CHANNELS_SIGN, nx_CHANNELS_KIND, nx_CHANNELS_HEAD, nx_CHANNELS_STREAM, nx_CHANNELS_SIZE, nx_CHANNELS_BITS, nx_CHANNELS_COLOUR, nx_CHANNELS_PALETTE, nx_CHANNELS_MAP, nx_CHANNELS_RESOLUTION, nx_CHANNELS_CAPTURE, nx_CHANNELS_DISPLAY, if_true, if_false, ite_self]
  unfold m_Sc_readMeanings k_Sc_readMeanings_9 k_Sc_readMeanings_14 m_Sc_content
  rw [q_sub hfe]
  simp only [c2]
  by_cases a : e - f < 2
  · have fi : m_Mo_fitsHead 1667523942 (nI f) (nI e) zA gf = 0 := by
      unfold m_Mo_fitsHead
      simp only [nx_CHANNELS_SIGN, nx_CHANNELS_KIND, nx_CHANNELS_HEAD, nx_CHANNELS_STREAM, nx_CHANNELS_SIZE, nx_CHANNELS_BITS, nx_CHANNELS_COLOUR, nx_CHANNELS_PALETTE, nx_CHANNELS_MAP, nx_CHANNELS_RESOLUTION, nx_CHANNELS_CAPTURE, nx_CHANNELS_DISPLAY, if_true, if_false, q_sub hfe, c2, a]
    have ofi : om_Mo_fitsHead 1667523942 (nI f) (nI e) zA gf := by
      unfold om_Mo_fitsHead
      simp only [nx_CHANNELS_SIGN, nx_CHANNELS_KIND, nx_CHANNELS_HEAD, nx_CHANNELS_STREAM, nx_CHANNELS_SIZE, nx_CHANNELS_BITS, nx_CHANNELS_COLOUR, nx_CHANNELS_PALETTE, nx_CHANNELS_MAP, nx_CHANNELS_RESOLUTION, nx_CHANNELS_CAPTURE, nx_CHANNELS_DISPLAY, if_true, if_false, q_sub hfe, c2, a]
    rw [if_pos a, wr, fi]
    exact ⟨_, _, _, _, rfl, rfl, ⟨owr, fun _ => ⟨ofi, fun q => absurd fi q⟩⟩, fun q => absurd q (by decide)⟩
  · have u := s_u2 hB (p := f) (by omega)
    have l := UB_2lt hB.2.2.1 f
    have i1 : m_By_intAt (nI sz) nr fw (nI f) 2 = nI (UB B f 2) := s_int hB (w := 2) (by omega)
    have cE : (nI (e - f) = 2 + (6 * nI (UB B f 2))) = (e - f = 2 + 6 * UB B f 2) := by
      rw [show (2 : Int32) = nI 2 from rfl, show (6 : Int32) = nI 6 from rfl, q_mul, q_add, q_eq (by omega) (by omega)]
    have c16 : (nI (UB B f 2) ≤ 16) = (UB B f 2 ≤ 16) := by rw [show (16 : Int32) = nI 16 from rfl, q_le (by omega) (by decide)]
    have fi : m_Mo_fitsHead 1667523942 (nI f) (nI e) zA gf = if e - f = 2 + 6 * UB B f 2 then 1 else 0 := by
      unfold m_Mo_fitsHead k_Mo_fitsHead_171
      simp only [nx_CHANNELS_SIGN, nx_CHANNELS_KIND, nx_CHANNELS_HEAD, nx_CHANNELS_STREAM, nx_CHANNELS_SIZE, nx_CHANNELS_BITS, nx_CHANNELS_COLOUR, nx_CHANNELS_PALETTE, nx_CHANNELS_MAP, nx_CHANNELS_RESOLUTION, nx_CHANNELS_CAPTURE, nx_CHANNELS_DISPLAY, if_true, if_false, q_sub hfe, c2, a, u.1, cE]
    have ofi : om_Mo_fitsHead 1667523942 (nI f) (nI e) zA gf := by
      unfold om_Mo_fitsHead ok_Mo_fitsHead_171
      simp only [nx_CHANNELS_SIGN, nx_CHANNELS_KIND, nx_CHANNELS_HEAD, nx_CHANNELS_STREAM, nx_CHANNELS_SIZE, nx_CHANNELS_BITS, nx_CHANNELS_COLOUR, nx_CHANNELS_PALETTE, nx_CHANNELS_MAP, nx_CHANNELS_RESOLUTION, nx_CHANNELS_CAPTURE, nx_CHANNELS_DISPLAY, if_true, if_false, q_sub hfe, c2, a, u.2, ite_self, and_self]
    have gr : m_Mo_isGreat 1667523942 (nI f) (nI e) cA gf = if UB B f 2 ≤ 16 then 0 else 1 := by
      unfold m_Mo_isGreat k_Mo_isGreat_137
      simp only [nx_CHANNELS_SIGN, nx_CHANNELS_KIND, nx_CHANNELS_HEAD, nx_CHANNELS_STREAM, nx_CHANNELS_SIZE, nx_CHANNELS_BITS, nx_CHANNELS_COLOUR, nx_CHANNELS_PALETTE, nx_CHANNELS_MAP, nx_CHANNELS_RESOLUTION, nx_CHANNELS_CAPTURE, nx_CHANNELS_DISPLAY, if_true, if_false, u.1, c16]
    have ogr : om_Mo_isGreat 1667523942 (nI f) (nI e) cA gf := by
      unfold om_Mo_isGreat ok_Mo_isGreat_137
      simp only [nx_CHANNELS_SIGN, nx_CHANNELS_KIND, nx_CHANNELS_HEAD, nx_CHANNELS_STREAM, nx_CHANNELS_SIZE, nx_CHANNELS_BITS, nx_CHANNELS_COLOUR, nx_CHANNELS_PALETTE, nx_CHANNELS_MAP, nx_CHANNELS_RESOLUTION, nx_CHANNELS_CAPTURE, nx_CHANNELS_DISPLAY, if_true, if_false, u.2, ite_self, and_self]
    rw [if_neg a, wr, fi, tw, gr, i1]
    unfold k_Sc_readMeanings_22 k_Sc_readMeanings_39
    simp only [cE, c16]
    by_cases b : e - f = 2 + 6 * UB B f 2
    · rw [if_pos b, if_pos b, hbs]
      by_cases x : hA = 0
      · rw [if_pos x, if_pos rfl]
        by_cases g : UB B f 2 ≤ 16
        · have vv := x_t298 hB he (UB B f 2) 70000 (f + 2) 1 (by omega) (by omega) (Or.inr rfl)
          have va : m_Mo_isValue 1667523942 (nI f) (nI e) zA pA gf = aty B (UB B f 2) (f + 2) := by
            unfold m_Mo_isValue
            simp only [nx_CHANNELS_SIGN, nx_CHANNELS_KIND, nx_CHANNELS_HEAD, nx_CHANNELS_STREAM, nx_CHANNELS_SIZE, nx_CHANNELS_BITS, nx_CHANNELS_COLOUR, nx_CHANNELS_PALETTE, nx_CHANNELS_MAP, nx_CHANNELS_RESOLUTION, nx_CHANNELS_CAPTURE, nx_CHANNELS_DISPLAY, if_true, if_false, q_p2]
            rw [vv.1]; rfl
          have ova : om_Mo_isValue 1667523942 (nI f) (nI e) zA pA gf := by
            unfold om_Mo_isValue
            simp only [nx_CHANNELS_SIGN, nx_CHANNELS_KIND, nx_CHANNELS_HEAD, nx_CHANNELS_STREAM, nx_CHANNELS_SIZE, nx_CHANNELS_BITS, nx_CHANNELS_COLOUR, nx_CHANNELS_PALETTE, nx_CHANNELS_MAP, nx_CHANNELS_RESOLUTION, nx_CHANNELS_CAPTURE, nx_CHANNELS_DISPLAY, if_true, if_false, q_p2]
            exact vv.2
          have fu : ((nI e).toInt - (nI f + 2).toInt).toNat + 1 = (e - (f + 2)) + 1 := by rw [q_p2, q_toInt (by omega), q_toInt (by omega)]; omega
          obtain ⟨li2, lf2, j1, j2⟩ := x_t74 hB he se (UB B f 2) ((e - (f + 2)) + 1) (f + 2) 0 lf (by omega) (by omega) (by omega)
          rw [if_pos g, if_pos g, hli x, fu, q_p2, j1, va]
          refine ⟨_, _, li2, lf2, rfl, rfl, ⟨owr, fun _ => ⟨ofi, fun _ => ⟨otw, fun _ => ⟨ogr, fun _ => ova⟩⟩⟩⟩, fun q => ?_⟩
          have q2 : ¬ aty B (UB B f 2) (f + 2) = 0 := fun w => by
            rw [if_pos w] at q; exact absurd q (by decide)
          obtain ⟨k1, k2, k3⟩ := j2 q2
          exact ⟨by omega, x, rfl, g, by rw [k1, Nat.zero_add], k2⟩
        · rw [if_neg g, if_neg g]
          exact ⟨_, _, _, _, rfl, rfl, ⟨owr, fun _ => ⟨ofi, fun _ => ⟨otw, fun _ => ⟨ogr, fun q => absurd (gr.symm.trans q) (by rw [if_neg g]; decide)⟩⟩⟩⟩, fun q => absurd q (by decide)⟩
      · rw [if_neg x, if_neg (by decide)]
        exact ⟨_, _, _, _, rfl, rfl, ⟨owr, fun _ => ⟨ofi, fun _ => ⟨otw, fun q => absurd (tw.symm.trans q) (by rw [if_neg x]; decide)⟩⟩⟩, fun q => absurd q (by decide)⟩
    · rw [if_neg b, if_neg b]
      exact ⟨_, _, _, _, rfl, rfl, ⟨owr, fun _ => ⟨ofi, fun q => absurd (fi.trans (if_neg b)) q⟩⟩, fun q => absurd q (by decide)⟩
