theorem x_plen {sz nr : Nat} {fw gf : Nat → Int32} {B : Nat → Nat} (hB : HB sz nr fw gf B) {f e : Nat} (hfe : f ≤ e) (he : e ≤ sz) :
    m_Sc_paletteHasItsLength (nI f) (nI e) (nI sz) nr fw = m_Mo_fitsPalette (nI f) (nI e) gf ∧ om_Mo_fitsPalette (nI f) (nI e) gf ∧ (m_Mo_fitsPalette (nI f) (nI e) gf = 0 ∨ m_Mo_fitsPalette (nI f) (nI e) gf = 1) ∧ (¬ m_Mo_fitsPalette (nI f) (nI e) gf = 0 → f + 3 + B (f + 2) ≤ e ∧ e - f = 3 + B (f + 2) + UB B f 2 * sbw B (B (f + 2)) (f + 3)) := by
  have h1 := hB.1
  have h2 := hB.2.1
  have c3 : (nI (e - f) < 3) = (e - f < 3) := by rw [show (3 : Int32) = nI 3 from rfl, q_lt (by omega) (by decide)]
  have c3' : (3 ≤ nI (e - f)) = ¬ (e - f < 3) := by rw [show (3 : Int32) = nI 3 from rfl, q_le (by decide) (by omega)]; apply propext; omega
  unfold m_Sc_paletteHasItsLength k_Sc_paletteHasItsLength_1 m_Sc_content m_Mo_fitsPalette om_Mo_fitsPalette
  rw [q_sub hfe]
  simp only [c3, c3']
  by_cases a : e - f < 3
  · rw [if_neg (fun q => q a), if_pos a, if_pos a]
    exact ⟨rfl, trivial, Or.inl rfl, fun q => absurd rfl q⟩
  · have t := hB.2.2.1 (f + 2)
    have l := UB_2lt hB.2.2.1 f
    have g2 : gf (nI f + 2).toNatClampNeg = nI (B (f + 2)) := by rw [q_p2, q_cl (by omega)]; exact (hB.2.2.2 _ (by omega)).2
    have v2 : vp_in (nI f + 2) 65536 := by rw [q_p2, q_in (by omega)]; omega
    have b2 : m_By_byteAt (nI sz) nr fw (nI f + 2) = nI (B (f + 2)) := by rw [q_p2]; exact s_byte hB (by omega)
    have i2 : m_By_intAt (nI sz) nr fw (nI f) 2 = nI (UB B f 2) := s_int hB (w := 2) (by omega)
    have cl : (3 + nI (B (f + 2)) ≤ nI (e - f)) = (3 + B (f + 2) ≤ e - f) := by rw [show (3 : Int32) = nI 3 from rfl, q_add, q_le (by omega) (by omega)]
    rw [if_pos a, if_neg a, if_neg a, i2, g2]
    unfold k_Sc_paletteHasItsLength_19 k_Sc_paletteHasItsLength_33 k_Sc_paletteHasItsLength_38 m_Sc_content
    rw [q_sub hfe, b2]
    simp only [cl]
    by_cases b : 3 + B (f + 2) ≤ e - f
    · have p1 := x_p54 hB (c := B (f + 2)) (en := UB B f 2) hfe he (by omega) (by omega) (by omega) (B (f + 2)) 0 0 (by omega) (by omega)
      have p2 := x_p39 hB (c := B (f + 2)) hfe he rfl (by omega) (B (f + 2)) 0 0 (by omega) (by omega)
      have p1' : lp_Sc_paletteHasItsLength_54 (nI f) (nI e) (nI sz) nr fw (nI (UB B f 2)) (nI (B (f + 2))) (B (f + 2) + 1) 0 0 = if e - f = 3 + B (f + 2) + UB B f 2 * (0 + sbw B (B (f + 2)) (f + 3 + 0)) then 1 else 0 := p1
      have p2' : lp_Mo_fitsPalette_39 (nI f) (nI e) gf (B (f + 2) + 1) 0 0 = (if e - f = 3 + B (f + 2) + UB B f 2 * (0 + sbw B (B (f + 2)) (f + 3 + 0)) then 1 else 0) ∧ olp_Mo_fitsPalette_39 (nI f) (nI e) gf (B (f + 2) + 1) 0 0 := p2
      rw [if_pos b, if_pos b, if_pos b, q_fuel (by omega), p1', p2'.1]
      rw [Nat.zero_add, Nat.add_zero]
      refine ⟨rfl, ⟨v2, p2'.2⟩, ?_, fun q => ?_⟩
      · by_cases z : e - f = 3 + B (f + 2) + UB B f 2 * sbw B (B (f + 2)) (f + 3)
        · rw [if_pos z]; exact Or.inr rfl
        · rw [if_neg z]; exact Or.inl rfl
      · by_cases z : e - f = 3 + B (f + 2) + UB B f 2 * sbw B (B (f + 2)) (f + 3)
        · exact ⟨by omega, z⟩
        · rw [if_neg z] at q; exact absurd rfl q
    · rw [if_neg b, if_neg b, if_neg b]
      exact ⟨rfl, ⟨v2, trivial⟩, Or.inl rfl, fun q => absurd rfl q⟩
theorem x_p109 {sz nr : Nat} {fw gf : Nat → Int32} {B : Nat → Nat} (hB : HB sz nr fw gf B) {f c n2 : Nat} (hf : f + 3 + c ≤ sz) (hc : c ≤ 8) (se a1 a2 : Int32) (pb1 : Nat → Int32) (nf1 : Nat → Int64) : ∀ (d j : Nat) (pb : Nat → Int32), j + d = c →
    ∃ (pb2 : Nat → Int32) (nf2 : Nat → Int64), lp_Sc_readPalette_109 se (nI f) (nI sz) nr fw 8 (nI c) (a1, a2, pb1, n2, nf1) (d + 1) (nI j) pb = (if abt B d (f + 3 + j) = 0 then 5 else 0, se ||| 8, a1, a2, pb2, n2, nf2) ∧ (¬ abt B d (f + 3 + j) = 0 → (∀ k, k < c → pb2 k = if j ≤ k then nI (B (f + 3 + k)) else pb k) ∧ nf2 = m_Sc_readNumbers (nI f) a1 a2 8 pb2 (nI sz) nr fw n2 nf1)
  | 0, j, pb, h => by
    have k : nI c ≤ nI j := by rw [q_le (by omega) (by omega)]; omega
    refine ⟨pb, m_Sc_readNumbers (nI f) a1 a2 8 pb (nI sz) nr fw n2 nf1, ?_, fun _ => ⟨fun k hk => ?_, rfl⟩⟩
    · show lb_Sc_readPalette_109 se (nI f) (nI sz) nr fw 8 (nI c) (a1, a2, pb1, n2, nf1) (lp_Sc_readPalette_109 se (nI f) (nI sz) nr fw 8 (nI c) (a1, a2, pb1, n2, nf1) 0) (nI j) pb = _
      unfold lb_Sc_readPalette_109
      rw [if_pos k]; rfl
    · rw [if_neg (by omega)]
  | d + 1, j, pb, h => by
    have h1 := hB.1
    have h2 := hB.2.1
    have k : ¬ nI c ≤ nI j := by rw [q_le (by omega) (by omega)]; omega
    have ab := q_bits256 ⟨B (f + 3 + j), hB.2.2.1 (f + 3 + j)⟩
    obtain ⟨pb2, nf2, i1, i2⟩ := x_p109 hB hf hc se a1 a2 pb1 nf1 d (j + 1) (upd pb j (nI (B (f + 3 + j)))) (by omega)
    rw [show f + 3 + (j + 1) = f + 3 + j + 1 by omega] at i1 i2
    have e1 : abt B (d + 1) (f + 3 + j) = if B (f + 3 + j) % 128 ≤ 37 then abt B d (f + 3 + j + 1) else 0 := rfl
    have e2 : lp_Sc_readPalette_109 se (nI f) (nI sz) nr fw 8 (nI c) (a1, a2, pb1, n2, nf1) (d + 1 + 1) (nI j) pb = if (if B (f + 3 + j) % 128 ≤ 37 then (1 : Int32) else 0) = 0 then (5, se ||| 8, a1, a2, pb, n2, nf1) else lp_Sc_readPalette_109 se (nI f) (nI sz) nr fw 8 (nI c) (a1, a2, pb1, n2, nf1) (d + 1) (nI (j + 1)) (upd pb j (nI (B (f + 3 + j)))) := by
      show lb_Sc_readPalette_109 se (nI f) (nI sz) nr fw 8 (nI c) (a1, a2, pb1, n2, nf1) (lp_Sc_readPalette_109 se (nI f) (nI sz) nr fw 8 (nI c) (a1, a2, pb1, n2, nf1) (d + 1)) (nI j) pb = _
      unfold lb_Sc_readPalette_109 k_Sc_readPalette_126 k_Sc_readPalette_133 k_Sc_readPalette_154
      rw [if_neg k, show (3 : Int32) = nI 3 from rfl, q_add, q_add, s_byte hB (by omega), ab.1, q_setIn (by decide) (by omega), ← nI_succ]
    rw [e1, e2]
    by_cases a : B (f + 3 + j) % 128 ≤ 37
    · rw [if_pos a, if_pos a, if_neg (by decide), i1]
      refine ⟨pb2, nf2, rfl, fun q => ⟨fun k hk => ?_, (i2 q).2⟩⟩
      rw [(i2 q).1 k hk]
      by_cases x : k = j
      · rw [if_neg (by omega), if_pos (by omega), x, q_upd]
      · by_cases y : j ≤ k
        · rw [if_pos y, if_pos (by omega)]
        · rw [if_neg y, if_neg (by omega), q_upn _ _ x]
    · rw [if_neg a, if_neg a, if_pos rfl]
      exact ⟨pb, nf1, rfl, fun q => absurd rfl q⟩
def PalN (B : Nat → Nat) (f e : Nat) (en2 cl2 : Int32) (pb2 : Nat → Int32) (nn2 : Nat) (nf2 : Nat → Int64) : Prop :=
  1 ≤ UB B f 2 ∧ UB B f 2 ≤ 1024 ∧ 1 ≤ B (f + 2) ∧ B (f + 2) ≤ 8 ∧ en2 = nI (UB B f 2) ∧ cl2 = nI (B (f + 2)) ∧ e = f + 3 + B (f + 2) + UB B f 2 * sbw B (B (f + 2)) (f + 3) ∧ UB B f 2 * B (f + 2) ≤ nn2 ∧ (∀ k, k < B (f + 2) → pb2 k = nI (B (f + 3 + k)) ∧ B (f + 3 + k) % 128 ≤ 37) ∧ ∀ i t, i < UB B f 2 → t < B (f + 2) → nf2 (i * B (f + 2) + t) = numV B (f + 3) (f + 3 + B (f + 2) + i * sbw B (B (f + 2)) (f + 3)) t
theorem x_in1024 {n : Nat} (h : n < 65536) : m_Mo_in ((nI n).toInt64) 1 1024 = if 1 ≤ n ∧ n ≤ 1024 then 1 else 0 := by
  have e1 : (1 : Int64).toInt = 1 := by decide
  have e2 : (1024 : Int64).toInt = 1024 := by decide
  rw [q_64 (by omega), q_in64]
  simp only [Int64.le_iff_toInt_le, q_i64 (show n < 9223372036854775808 by omega), e1, e2]
  by_cases a : 1 ≤ n ∧ n ≤ 1024
  · rw [if_pos a, if_pos (by omega)]
  · rw [if_neg a, if_neg (by omega)]
theorem x_acol {sz nr : Nat} {fw gf : Nat → Int32} {B : Nat → Nat} (hB : HB sz nr fw gf B) {f : Nat} (hf : f + 3 + B (f + 2) ≤ sz) :
    m_Mo_areColumns (nI f) gf = (if 1 ≤ UB B f 2 ∧ UB B f 2 ≤ 1024 ∧ 1 ≤ B (f + 2) then abt B (B (f + 2)) (f + 3) else 0) ∧ om_Mo_areColumns (nI f) gf := by
  have h1 := hB.1
  have h2 := hB.2.1
  have t := hB.2.2.1 (f + 2)
  have l := UB_2lt hB.2.2.1 f
  have u := s_u2 hB (p := f) (by omega)
  have g2 : gf (nI f + 2).toNatClampNeg = nI (B (f + 2)) := by rw [q_p2, q_cl (by omega)]; exact (hB.2.2.2 _ (by omega)).2
  have v2 : vp_in (nI f + 2) 65536 := by rw [q_p2, q_in (by omega)]; omega
  have a0 : lp_Mo_areColumns_41 (nI f) gf (B (f + 2) + 1) 0 0 = (if (0 : Int32) = 0 then 0 else abt B (B (f + 2)) (f + 3 + 0)) ∧ olp_Mo_areColumns_41 (nI f) gf (B (f + 2) + 1) 0 0 := x_p41 hB (c := B (f + 2)) rfl hf (B (f + 2)) 0 0 (by omega) (Or.inl rfl)
  have a1 : lp_Mo_areColumns_41 (nI f) gf (B (f + 2) + 1) 0 1 = (if (1 : Int32) = 0 then 0 else abt B (B (f + 2)) (f + 3 + 0)) ∧ olp_Mo_areColumns_41 (nI f) gf (B (f + 2) + 1) 0 1 := x_p41 hB (c := B (f + 2)) rfl hf (B (f + 2)) 0 1 (by omega) (Or.inr rfl)
  rw [if_pos rfl] at a0
  rw [if_neg (by decide), Nat.add_zero] at a1
  have c0 : (nI (B (f + 2)) ≤ 0) = (B (f + 2) = 0) := h_le0 (by omega)
  unfold m_Mo_areColumns om_Mo_areColumns k_Mo_areColumns_5 ok_Mo_areColumns_5 k_Mo_areColumns_13 ok_Mo_areColumns_13 j_Mo_areColumns_37 oj_Mo_areColumns_37 j_Mo_areColumns_38 oj_Mo_areColumns_38
  rw [u.1, g2, x_in1024 l, q_oin, q_fuel (by omega)]
  simp only [c0]
  by_cases x : 1 ≤ UB B f 2 ∧ UB B f 2 ≤ 1024
  · have z1 : ¬ (1 : Int32) = 0 := by decide
    rw [if_pos x, if_neg z1, if_neg z1]
    by_cases y : B (f + 2) = 0
    · rw [if_pos y, if_pos y, if_neg (by omega)]
      exact ⟨a0.1, u.2, trivial, v2, a0.2⟩
    · rw [if_neg y, if_neg y, if_pos (by omega)]
      exact ⟨a1.1, u.2, trivial, v2, a1.2⟩
  · rw [if_neg x, if_pos rfl, if_pos rfl, if_neg (by omega)]
    exact ⟨a0.1, u.2, trivial, a0.2⟩
set_option maxHeartbeats 1000000 in
theorem x_pal {sz nr : Nat} {fw gf : Nat → Int32} {B : Nat → Nat} (hB : HB sz nr fw gf B) {f e : Nat} (hfe : f ≤ e) (he : e ≤ sz) (se zA bA cA mA hA rsv en cl : Int32) (pA : Nat) (hpA : pA < 65536) (hs8 : m_Sc_was se 8 = if pA = 0 then 0 else 1) (pb : Nat → Int32) (nn : Nat) (nf : Nat → Int64) (hnn : 8 ≤ nn ∧ nn ≤ 4096) :
    ∃ (r se2 en2 cl2 : Int32) (pb2 : Nat → Int32) (nn2 : Nat) (nf2 : Nat → Int64), m_Sc_readPalette se (nI f) (nI e) (nI sz) nr fw en cl 8 pb nn nf = (r, se2, en2, cl2, pb2, nn2, nf2)
    ∧ r = hdWhy (m_Mo_isWrong 1885564018 zA (nI pA) gf 0) (m_Mo_fitsHead 1885564018 (nI f) (nI e) zA gf) (m_Mo_isTwice 1885564018 bA (nI pA) mA hA rsv) (m_Mo_isGreat 1885564018 (nI f) (nI e) cA gf) (m_Mo_isValue 1885564018 (nI f) (nI e) zA (nI pA) gf)
    ∧ hdOk gf 0 zA bA cA (nI pA) mA hA rsv 1885564018 (nI f) (nI e)
    ∧ (8 ≤ nn2 ∧ nn2 ≤ 4096)
    ∧ (r = 0 → pA = 0 ∧ se2 = se ||| 8 ∧ PalN B f e en2 cl2 pb2 nn2 nf2) := by
  have h1 := hB.1
  have h2 := hB.2.1
  have cp : (0 < nI pA) = (0 < pA) := by rw [show (0 : Int32) = nI 0 from rfl, q_lt (by decide) (by omega)]
  have wr : m_Mo_isWrong 1885564018 zA (nI pA) gf 0 = 0 := by
    unfold m_Mo_isWrong j_Mo_isWrong_35 k_Mo_isWrong_41 j_Mo_isWrong_78 m_Mo_isTop
    simp only [nx_PALETTE_SIGN, nx_PALETTE_KIND, nx_PALETTE_HEAD, nx_PALETTE_STREAM, nx_PALETTE_SIZE, nx_PALETTE_BITS, nx_PALETTE_COLOUR, nx_PALETTE_MAP, nx_PALETTE_CHANNELS, nx_PALETTE_RESOLUTION, nx_PALETTE_CAPTURE, nx_PALETTE_DISPLAY, if_true, if_false]
  have owr : om_Mo_isWrong 1885564018 zA (nI pA) gf 0 := by
    unfold om_Mo_isWrong oj_Mo_isWrong_35 ok_Mo_isWrong_41 oj_Mo_isWrong_78 om_Mo_isTop m_Mo_isTop
    simp only [nx_PALETTE_SIGN, nx_PALETTE_KIND, nx_PALETTE_HEAD, nx_PALETTE_STREAM, nx_PALETTE_SIZE, nx_PALETTE_BITS, nx_PALETTE_COLOUR, nx_PALETTE_MAP, nx_PALETTE_CHANNELS, nx_PALETTE_RESOLUTION, nx_PALETTE_CAPTURE, nx_PALETTE_DISPLAY, if_true, if_false, ite_self, and_self]
  have tw : m_Mo_isTwice 1885564018 bA (nI pA) mA hA rsv = if pA = 0 then 0 else 1 := by
    unfold m_Mo_isTwice j_Mo_isTwice_16 j_Mo_isTwice_32 j_Mo_isTwice_48 j_Mo_isTwice_64
    simp only [nx_PALETTE_SIGN, nx_PALETTE_KIND, nx_PALETTE_HEAD, nx_PALETTE_STREAM, nx_PALETTE_SIZE, nx_PALETTE_BITS, nx_PALETTE_COLOUR, nx_PALETTE_MAP, nx_PALETTE_CHANNELS, nx_PALETTE_RESOLUTION, nx_PALETTE_CAPTURE, nx_PALETTE_DISPLAY, if_true, if_false, cp]
    by_cases x : pA = 0
    · rw [if_pos x, if_neg (by omega)]
    · rw [if_neg x, if_pos (by omega)]
  have otw : om_Mo_isTwice 1885564018 bA (nI pA) mA hA rsv := by
    unfold om_Mo_isTwice oj_Mo_isTwice_16 oj_Mo_isTwice_32 oj_Mo_isTwice_48 oj_Mo_isTwice_64
    simp only [nx_PALETTE_SIGN, nx_PALETTE_KIND, nx_PALETTE_HEAD, nx_PALETTE_STREAM, nx_PALETTE_SIZE, nx_PALETTE_BITS, nx_PALETTE_COLOUR, nx_PALETTE_MAP, nx_PALETTE_CHANNELS, nx_PALETTE_RESOLUTION, nx_PALETTE_CAPTURE, nx_PALETTE_DISPLAY, if_true, if_false, ite_self]
  obtain ⟨pl1, pl2, pl3, pl4⟩ := x_plen hB hfe he
  have fi : m_Mo_fitsHead 1885564018 (nI f) (nI e) zA gf = m_Mo_fitsPalette (nI f) (nI e) gf := by
    unfold m_Mo_fitsHead k_Mo_fitsHead_136
    simp only [nx_PALETTE_SIGN, nx_PALETTE_KIND, nx_PALETTE_HEAD, nx_PALETTE_STREAM, nx_PALETTE_SIZE, nx_PALETTE_BITS, nx_PALETTE_COLOUR, nx_PALETTE_MAP, nx_PALETTE_CHANNELS, nx_PALETTE_RESOLUTION, nx_PALETTE_CAPTURE, nx_PALETTE_DISPLAY, if_true, if_false]
  have ofi : om_Mo_fitsHead 1885564018 (nI f) (nI e) zA gf := by
    unfold om_Mo_fitsHead ok_Mo_fitsHead_136
    simp only [nx_PALETTE_SIGN, nx_PALETTE_KIND, nx_PALETTE_HEAD, nx_PALETTE_STREAM, nx_PALETTE_SIZE, nx_PALETTE_BITS, nx_PALETTE_COLOUR, nx_PALETTE_MAP, nx_PALETTE_CHANNELS, nx_PALETTE_RESOLUTION, nx_PALETTE_CAPTURE, nx_PALETTE_DISPLAY, if_true, if_false]
    exact ⟨pl2, n_b1 pl3, trivial⟩
  rw [wr, fi, tw]
  unfold m_Sc_readPalette k_Sc_readPalette_1
  rw [pl1]
  by_cases a : m_Mo_fitsPalette (nI f) (nI e) gf = 0
  · rw [if_pos a]
    refine ⟨_, _, _, _, _, _, _, rfl, ?_, ⟨owr, fun _ => ⟨ofi, fun q => absurd (fi.trans a) q⟩⟩, hnn, fun q => absurd q (by decide)⟩
    rw [a]; rfl
  · obtain ⟨w1, w2⟩ := pl4 a
    have a1 : m_Mo_fitsPalette (nI f) (nI e) gf = 1 := pl3.resolve_left a
    have t := hB.2.2.1 (f + 2)
    have l := UB_2lt hB.2.2.1 f
    have u := s_u2 hB (p := f) (by omega)
    have g2 : gf (nI f + 2).toNatClampNeg = nI (B (f + 2)) := by rw [q_p2, q_cl (by omega)]; exact (hB.2.2.2 _ (by omega)).2
    have v2 : vp_in (nI f + 2) 65536 := by rw [q_p2, q_in (by omega)]; omega
    have b2 : m_By_byteAt (nI sz) nr fw (nI f + 2) = nI (B (f + 2)) := by rw [q_p2]; exact s_byte hB (by omega)
    have i2 : m_By_intAt (nI sz) nr fw (nI f) 2 = nI (UB B f 2) := s_int hB (w := 2) (by omega)
    have hmul : UB B f 2 * B (f + 2) ≤ 65535 * 255 := Nat.mul_le_mul (by omega) (by omega)
    have d1 : (8 < nI (B (f + 2))) = (8 < B (f + 2)) := by rw [show (8 : Int32) = nI 8 from rfl, q_lt (by decide) (by omega)]
    have d2 : (nI (UB B f 2) * nI (B (f + 2)) ≤ 4096) = (UB B f 2 * B (f + 2) ≤ 4096) := by rw [q_mul, show (4096 : Int32) = nI 4096 from rfl, q_le (by omega) (by decide)]
    have d3 : (nI (UB B f 2) < 1) = (UB B f 2 < 1) := by rw [show (1 : Int32) = nI 1 from rfl, q_lt (by omega) (by decide)]
    have d4 : (1024 < nI (UB B f 2)) = (1024 < UB B f 2) := by rw [show (1024 : Int32) = nI 1024 from rfl, q_lt (by decide) (by omega)]
    have d5 : (1 ≤ nI (B (f + 2))) = (1 ≤ B (f + 2)) := by rw [show (1 : Int32) = nI 1 from rfl, q_le (by decide) (by omega)]
    have gr : m_Mo_isGreat 1885564018 (nI f) (nI e) cA gf = if 8 < B (f + 2) then 1 else if UB B f 2 * B (f + 2) ≤ 4096 then 0 else 1 := by
      unfold m_Mo_isGreat k_Mo_isGreat_172
      simp only [nx_PALETTE_SIGN, nx_PALETTE_KIND, nx_PALETTE_HEAD, nx_PALETTE_STREAM, nx_PALETTE_SIZE, nx_PALETTE_BITS, nx_PALETTE_COLOUR, nx_PALETTE_MAP, nx_PALETTE_CHANNELS, nx_PALETTE_RESOLUTION, nx_PALETTE_CAPTURE, nx_PALETTE_DISPLAY, if_true, if_false, g2, d1, u.1, d2]
    have ogr : om_Mo_isGreat 1885564018 (nI f) (nI e) cA gf := by
      unfold om_Mo_isGreat ok_Mo_isGreat_172
      simp only [nx_PALETTE_SIGN, nx_PALETTE_KIND, nx_PALETTE_HEAD, nx_PALETTE_STREAM, nx_PALETTE_SIZE, nx_PALETTE_BITS, nx_PALETTE_COLOUR, nx_PALETTE_MAP, nx_PALETTE_CHANNELS, nx_PALETTE_RESOLUTION, nx_PALETTE_CAPTURE, nx_PALETTE_DISPLAY, if_true, if_false, v2, u.2, ite_self, and_self]
    have ac := x_acol hB (f := f) (by omega)
    have ac01 : m_Mo_areColumns (nI f) gf = 0 ∨ m_Mo_areColumns (nI f) gf = 1 := by
      rw [ac.1]
      by_cases z : 1 ≤ UB B f 2 ∧ UB B f 2 ≤ 1024 ∧ 1 ≤ B (f + 2)
      · rw [if_pos z]; exact abt_01 B _ _
      · rw [if_neg z]; exact Or.inl rfl
    have va : m_Mo_isValue 1885564018 (nI f) (nI e) zA (nI pA) gf = m_Mo_areColumns (nI f) gf := by
      unfold m_Mo_isValue k_Mo_isValue_282
      simp only [nx_PALETTE_SIGN, nx_PALETTE_KIND, nx_PALETTE_HEAD, nx_PALETTE_STREAM, nx_PALETTE_SIZE, nx_PALETTE_BITS, nx_PALETTE_COLOUR, nx_PALETTE_MAP, nx_PALETTE_CHANNELS, nx_PALETTE_RESOLUTION, nx_PALETTE_CAPTURE, nx_PALETTE_DISPLAY, if_true, if_false]
    have ova : om_Mo_isValue 1885564018 (nI f) (nI e) zA (nI pA) gf := by
      unfold om_Mo_isValue ok_Mo_isValue_282
      simp only [nx_PALETTE_SIGN, nx_PALETTE_KIND, nx_PALETTE_HEAD, nx_PALETTE_STREAM, nx_PALETTE_SIZE, nx_PALETTE_BITS, nx_PALETTE_COLOUR, nx_PALETTE_MAP, nx_PALETTE_CHANNELS, nx_PALETTE_RESOLUTION, nx_PALETTE_CAPTURE, nx_PALETTE_DISPLAY, if_true, if_false]
      exact ⟨ac.2, n_b1 ac01, trivial⟩
    have ho : hdOk gf 0 zA bA cA (nI pA) mA hA rsv 1885564018 (nI f) (nI e) := ⟨owr, fun _ => ⟨ofi, fun _ => ⟨otw, fun _ => ⟨ogr, fun _ => ova⟩⟩⟩⟩
    rw [if_neg a, a1, gr, va, ac.1]
    unfold k_Sc_readPalette_12
    rw [hs8]
    by_cases x : pA = 0
    · rw [if_pos x, if_pos rfl, i2]
      unfold k_Sc_readPalette_40 k_Sc_readPalette_54
      rw [b2]
      simp only [d1, d2, d3, d4, d5]
      by_cases g1 : 8 < B (f + 2)
      · rw [if_pos g1, if_pos g1]
        exact ⟨_, _, _, _, _, _, _, rfl, rfl, ho, hnn, fun q => absurd q (by decide)⟩
      · rw [if_neg g1, if_neg g1]
        by_cases g3 : UB B f 2 * B (f + 2) ≤ 4096
        · rw [if_pos g3, if_pos g3]
          by_cases y1 : UB B f 2 < 1
          · rw [if_pos y1, if_neg (show ¬ (1 ≤ UB B f 2 ∧ UB B f 2 ≤ 1024 ∧ 1 ≤ B (f + 2)) by omega)]
            exact ⟨_, _, _, _, _, _, _, rfl, rfl, ho, hnn, fun q => absurd q (by decide)⟩
          · by_cases y2 : 1024 < UB B f 2
            · rw [if_neg y1, if_pos y2, if_neg (show ¬ (1 ≤ UB B f 2 ∧ UB B f 2 ≤ 1024 ∧ 1 ≤ B (f + 2)) by omega)]
              exact ⟨_, _, _, _, _, _, _, rfl, rfl, ho, hnn, fun q => absurd q (by decide)⟩
            · by_cases y3 : 1 ≤ B (f + 2)
              · rw [if_neg y1, if_neg y2, if_pos y3, if_pos (show 1 ≤ UB B f 2 ∧ UB B f 2 ≤ 1024 ∧ 1 ≤ B (f + 2) by omega)]
                obtain ⟨n2, nf1, r1, r2, r3, r4, r5⟩ := q_become (a := UB B f 2) (b := B (f + 2)) (by omega) (by omega) g3 hnn.1 hnn.2 pb nf
                have nz : ¬ UB B f 2 = 0 := by omega
                rw [if_neg nz] at r1 r2
                rw [r1]
                unfold k_Sc_readPalette_104
                rw [q_fuel (by omega)]
                obtain ⟨pb2, nf2, j1, j2⟩ := x_p109 hB (f := f) (c := B (f + 2)) (n2 := n2) (by omega) (by omega) se (nI (UB B f 2)) (nI (B (f + 2))) (fun k => if k < 8 then 7 else pb k) nf1 (B (f + 2)) 0 (fun k => if k < 8 then 7 else pb k) (by omega)
                rw [show f + 3 + 0 = f + 3 from rfl] at j1 j2
                refine ⟨_, _, _, _, pb2, n2, nf2, j1, ?_, ho, ⟨r3, r4⟩, fun q => ?_⟩
                · rcases abt_01 B (B (f + 2)) (f + 3) with z | z
                  · rw [z]; rfl
                  · rw [z]; rfl
                · have q2 : ¬ abt B (B (f + 2)) (f + 3) = 0 := fun w => by
                    rw [if_pos w] at q; exact absurd q (by decide)
                  obtain ⟨k1, k2⟩ := j2 q2
                  have hall := abt_all (B := B) _ _ q2
                  have hpb : ∀ k, k < B (f + 2) → pb2 k = nI (B (f + 3 + k)) := fun k hk => by rw [k1 k hk, if_pos (by omega)]
                  obtain ⟨nf3, m1, m2, m3⟩ := x_n22 hB (q := f + 3) (c := B (f + 2)) (nn := n2) (en := UB B f 2) (p := f + 3 + B (f + 2)) (pb := pb2) (by omega) (by omega) hpb hall r2 r4 (by omega) (UB B f 2) 0 nf1 (by omega)
                  have rn : m_Sc_readNumbers (nI f) (nI (UB B f 2)) (nI (B (f + 2))) 8 pb2 (nI sz) nr fw n2 nf1 = nf3 := by
                    unfold m_Sc_readNumbers
                    rw [q_fuel (by omega), show (3 : Int32) = nI 3 from rfl, q_add, q_add]
                    rw [Nat.zero_mul, Nat.add_zero] at m1
                    exact m1
                  refine ⟨x, rfl, by omega, by omega, y3, by omega, rfl, rfl, by omega, r2, fun k hk => ⟨hpb k hk, hall k hk⟩, fun i t hi ht => ?_⟩
                  rw [k2, rn]
                  exact m3 i t (by omega) hi ht
              · rw [if_neg y1, if_neg y2, if_neg y3, if_neg (show ¬ (1 ≤ UB B f 2 ∧ UB B f 2 ≤ 1024 ∧ 1 ≤ B (f + 2)) by omega)]
                exact ⟨_, _, _, _, _, _, _, rfl, rfl, ho, hnn, fun q => absurd q (by decide)⟩
        · rw [if_neg g3, if_neg g3]
          exact ⟨_, _, _, _, _, _, _, rfl, rfl, ho, hnn, fun q => absurd q (by decide)⟩
    · rw [if_neg x, if_neg (by decide)]
      exact ⟨_, _, _, _, _, _, _, rfl, rfl, ho, hnn, fun q => absurd q (by decide)⟩
