/-- COLOUR -/
theorem x_18 {n : Nat} (h : n < 4294967296) : m_FB_areColours (nI n) = if 16 ≤ n ∧ n ≤ 18 then 1 else 0 := by
  unfold m_FB_areColours
  by_cases a : n < 2147483648
  · have c1 : (nI n < 16) = (n < 16) := by rw [show (16 : Int32) = nI 16 from rfl, q_lt a (by decide)]
    have c2 : (18 < nI n) = (18 < n) := by rw [show (18 : Int32) = nI 18 from rfl, q_lt (by decide) a]
    simp only [c1, c2]
    by_cases x : n < 16
    · rw [if_pos x, if_neg (by omega)]
    · rw [if_neg x]
      by_cases y : 18 < n
      · rw [if_pos y, if_neg (by omega)]
      · rw [if_neg y, if_pos (by omega)]
  · have c0 : nI n < 0 := by rw [q_neg h]; omega
    have c1 : nI n < 16 := Int32.lt_trans c0 (by decide)
    rw [if_pos c1, if_neg (by omega)]
theorem x_in18 {n : Nat} (h : n < 4294967296) : m_Mo_in (Int64.ofNat n) 16 18 = if 16 ≤ n ∧ n ≤ 18 then 1 else 0 := by
  have e1 : (16 : Int64).toInt = 16 := by decide
  have e2 : (18 : Int64).toInt = 18 := by decide
  rw [q_in64]
  simp only [Int64.le_iff_toInt_le, q_i64 (show n < 9223372036854775808 by omega), e1, e2]
  by_cases a : 16 ≤ n ∧ n ≤ 18
  · rw [if_pos a, if_pos (by omega)]
  · rw [if_neg a, if_neg (by omega)]
theorem x_c95 {sz nr : Nat} {fw gf : Nat → Int32} {B : Nat → Nat} (hB : HB sz nr fw gf B) {e p0 n2 : Nat} (he : e ≤ sz) (hn2 : n2 ≤ 1024) (x y w : Int32) (f2 : Nat → Int32) : ∀ (d fu c : Nat) (row : Nat → Int32), d < fu → p0 + c + d = e → c + d ≤ n2 → sb_Fit row → (∀ k, k < c → row k &&& 255 = nI (B (p0 + k))) →
    ∃ row2, lp_Sc_readColour_95 (nI e) (nI sz) nr fw (x, y, w) (n2, f2) fu (nI (p0 + c)) (nI c) row = (0, x, y, nI (c + d), n2, row2) ∧ sb_Fit row2 ∧ ∀ k, k < c + d → row2 k &&& 255 = nI (B (p0 + k))
  | d, 0, c, row, hd, h, hc, hr, hk => by omega
  | 0, fu + 1, c, row, hd, h, hc, hr, hk => by
    have h1 := hB.1
    have h2 := hB.2.1
    have k : nI e ≤ nI (p0 + c) := by rw [q_le (by omega) (by omega)]; omega
    refine ⟨row, ?_, hr, hk⟩
    show lb_Sc_readColour_95 (nI e) (nI sz) nr fw (x, y, w) (n2, f2) (lp_Sc_readColour_95 (nI e) (nI sz) nr fw (x, y, w) (n2, f2) fu) (nI (p0 + c)) (nI c) row = _
    unfold lb_Sc_readColour_95
    rw [if_pos k]; rfl
  | d + 1, fu + 1, c, row, hd, h, hc, hr, hk => by
    have h1 := hB.1
    have h2 := hB.2.1
    have k : ¬ nI e ≤ nI (p0 + c) := by rw [q_le (by omega) (by omega)]; omega
    have hb := hB.2.2.1 (p0 + c)
    obtain ⟨row2, i1, i2, i3⟩ := x_c95 hB (p0 := p0) he hn2 x y w f2 d fu (c + 1) (upd row c (vp_nar .byte ((nI (B (p0 + c))).toInt8.toInt32))) (by omega) (by omega) (by omega) (q_fitst hr c _) (fun k hk2 => by
      by_cases z : k = c
      · rw [z, q_upd, q_st, bo_nI hb]
      · rw [q_upn _ _ z]; exact hk k (by omega))
    refine ⟨row2, ?_, i2, fun k hk2 => i3 k (by omega)⟩
    rw [show c + (d + 1) = c + 1 + d by omega, ← i1]
    show lb_Sc_readColour_95 (nI e) (nI sz) nr fw (x, y, w) (n2, f2) (lp_Sc_readColour_95 (nI e) (nI sz) nr fw (x, y, w) (n2, f2) fu) (nI (p0 + c)) (nI c) row = _
    unfold lb_Sc_readColour_95 k_Sc_readColour_115 k_Sc_readColour_118
    rw [if_neg k, s_byte hB (by omega), ← nI_succ]
    show lp_Sc_readColour_95 (nI e) (nI sz) nr fw (x, y, w) (n2, f2) fu (nI (p0 + c + 1)) (m_By_add (nI c) n2 row (nI (B (p0 + c)))).1 (m_By_add (nI c) n2 row (nI (B (p0 + c)))).2 = _
    rw [q_badd (by omega) (by omega)]
    rfl
def ColN (B : Nat → Nat) (f e : Nat) (col2 has2 pk2 : Int32) (pn2 : Nat) (pf2 : Nat → Int32) : Prop :=
  (B f = 1 ∧ e = f + 7 ∧ col2 = nI (UB B (f + 3) 4) ∧ 16 ≤ UB B (f + 3) 4 ∧ UB B (f + 3) 4 ≤ 18 ∧ has2 = 0 ∧ pk2 = nI 0) ∨ (B f = 2 ∧ f + 4 ≤ e ∧ col2 = 0 ∧ has2 = 1 ∧ pk2 = nI (e - f - 3) ∧ e - f - 3 ≤ pn2 ∧ ∀ k, k < e - f - 3 → pf2 k &&& 255 = nI (B (f + 3 + k)))
set_option maxHeartbeats 1000000 in
theorem x_colour {sz nr : Nat} {fw gf : Nat → Int32} {B : Nat → Nat} (hB : HB sz nr fw gf B) {f e : Nat} (hfe : f ≤ e) (he : e ≤ sz) (zA bA pA mA hA rsv col has pk : Int32) (cA : Nat) (hcA : cA < 65536) (hcc : m_Pl_hasColours col has = if cA = 0 then 0 else 1) (pn : Nat) (pf : Nat → Int32) (hpn : 64 ≤ pn ∧ pn ≤ 1024) (hfit : sb_Fit pf) :
    ∃ (r col2 has2 pk2 : Int32) (pn2 : Nat) (pf2 : Nat → Int32), m_Sc_readColour (nI f) (nI e) (nI sz) nr fw col has 1024 pk pn pf = (r, col2, has2, pk2, pn2, pf2)
    ∧ r = hdWhy (m_Mo_isWrong 1668246642 zA pA gf 0) (m_Mo_fitsHead 1668246642 (nI f) (nI e) zA gf) (m_Mo_isTwice 1668246642 bA pA mA hA rsv) (m_Mo_isGreat 1668246642 (nI f) (nI e) (nI cA) gf) (m_Mo_isValue 1668246642 (nI f) (nI e) zA pA gf)
    ∧ hdOk gf 0 zA bA (nI cA) pA mA hA rsv 1668246642 (nI f) (nI e)
    ∧ (64 ≤ pn2 ∧ pn2 ≤ 1024) ∧ sb_Fit pf2
    ∧ (r = 0 → f + 4 ≤ e ∧ (((cA ≠ 0 ∨ (B f ≠ 1 ∧ B f ≠ 2)) ∧ col2 = col ∧ has2 = has ∧ pk2 = pk ∧ pn2 = pn ∧ pf2 = pf) ∨ (cA = 0 ∧ ColN B f e col2 has2 pk2 pn2 pf2))) := by
  have h1 := hB.1
  have h2 := hB.2.1
  have wr : m_Mo_isWrong 1668246642 zA pA gf 0 = 0 := by
    unfold m_Mo_isWrong j_Mo_isWrong_35 k_Mo_isWrong_41 j_Mo_isWrong_78 m_Mo_isTop
    simp only [nx_COLOUR_SIGN, nx_COLOUR_KIND, nx_COLOUR_HEAD, nx_COLOUR_STREAM, nx_COLOUR_SIZE, nx_COLOUR_BITS, nx_COLOUR_PALETTE, nx_COLOUR_MAP, nx_COLOUR_CHANNELS, nx_COLOUR_RESOLUTION, nx_COLOUR_CAPTURE, nx_COLOUR_DISPLAY, if_true, if_false]
  have owr : om_Mo_isWrong 1668246642 zA pA gf 0 := by
    unfold om_Mo_isWrong oj_Mo_isWrong_35 ok_Mo_isWrong_41 oj_Mo_isWrong_78 om_Mo_isTop m_Mo_isTop
    simp only [nx_COLOUR_SIGN, nx_COLOUR_KIND, nx_COLOUR_HEAD, nx_COLOUR_STREAM, nx_COLOUR_SIZE, nx_COLOUR_BITS, nx_COLOUR_PALETTE, nx_COLOUR_MAP, nx_COLOUR_CHANNELS, nx_COLOUR_RESOLUTION, nx_COLOUR_CAPTURE, nx_COLOUR_DISPLAY, if_true, if_false, ite_self, and_self]
  have tw : m_Mo_isTwice 1668246642 bA pA mA hA rsv = 0 := by
    unfold m_Mo_isTwice j_Mo_isTwice_16 j_Mo_isTwice_32 j_Mo_isTwice_48 j_Mo_isTwice_64
    simp only [nx_COLOUR_SIGN, nx_COLOUR_KIND, nx_COLOUR_HEAD, nx_COLOUR_STREAM, nx_COLOUR_SIZE, nx_COLOUR_BITS, nx_COLOUR_PALETTE, nx_COLOUR_MAP, nx_COLOUR_CHANNELS, nx_COLOUR_RESOLUTION, nx_COLOUR_CAPTURE, nx_COLOUR_DISPLAY, if_false]
  have otw : om_Mo_isTwice 1668246642 bA pA mA hA rsv := by
    unfold om_Mo_isTwice oj_Mo_isTwice_16 oj_Mo_isTwice_32 oj_Mo_isTwice_48 oj_Mo_isTwice_64
    simp only [nx_COLOUR_SIGN, nx_COLOUR_KIND, nx_COLOUR_HEAD, nx_COLOUR_STREAM, nx_COLOUR_SIZE, nx_COLOUR_BITS, nx_COLOUR_PALETTE, nx_COLOUR_MAP, nx_COLOUR_CHANNELS, nx_COLOUR_RESOLUTION, nx_COLOUR_CAPTURE, nx_COLOUR_DISPLAY, if_false]
  have c4 : (nI (e - f) < 4) = (e - f < 4) := by rw [show (4 : Int32) = nI 4 from rfl, q_lt (by omega) (by decide)]
  have c4' : (4 ≤ nI (e - f)) = ¬ (e - f < 4) := by rw [show (4 : Int32) = nI 4 from rfl, q_le (by decide) (by omega)]; apply propext; omega
  have c7 : (nI (e - f) = 7) = (e - f = 7) := by rw [show (7 : Int32) = nI 7 from rfl, q_eq (by omega) (by decide)]
  have c0 : (nI cA = 0) = (cA = 0) := q_e0 (by omega)
  rw [wr, tw]
  unfold m_Sc_readColour m_Sc_content k_Sc_readColour_1
  rw [q_sub hfe]
  simp only [c4']
  by_cases a : e - f < 4
  · have fi : m_Mo_fitsHead 1668246642 (nI f) (nI e) zA gf = 0 := by
      unfold m_Mo_fitsHead
      simp only [nx_COLOUR_SIGN, nx_COLOUR_KIND, nx_COLOUR_HEAD, nx_COLOUR_STREAM, nx_COLOUR_SIZE, nx_COLOUR_BITS, nx_COLOUR_PALETTE, nx_COLOUR_MAP, nx_COLOUR_CHANNELS, nx_COLOUR_RESOLUTION, nx_COLOUR_CAPTURE, nx_COLOUR_DISPLAY, if_true, if_false, q_sub hfe, c4, a]
    have ofi : om_Mo_fitsHead 1668246642 (nI f) (nI e) zA gf := by
      unfold om_Mo_fitsHead
      simp only [nx_COLOUR_SIGN, nx_COLOUR_KIND, nx_COLOUR_HEAD, nx_COLOUR_STREAM, nx_COLOUR_SIZE, nx_COLOUR_BITS, nx_COLOUR_PALETTE, nx_COLOUR_MAP, nx_COLOUR_CHANNELS, nx_COLOUR_RESOLUTION, nx_COLOUR_CAPTURE, nx_COLOUR_DISPLAY, if_true, if_false, q_sub hfe, c4, a]
    rw [if_neg (fun q => q a), fi]
    exact ⟨_, _, _, _, _, _, rfl, rfl, ⟨owr, fun _ => ⟨ofi, fun q => absurd fi q⟩⟩, hpn, hfit, fun q => absurd q (by decide)⟩
  · have t0 := hB.2.2.1 f
    have gf0 : gf (nI f).toNatClampNeg = nI (B f) := by rw [q_cl (by omega)]; exact (hB.2.2.2 _ (by omega)).2
    have v0 : vp_in (nI f) 65536 := by rw [q_in (by omega)]; omega
    have b0 : m_By_byteAt (nI sz) nr fw (nI f) = nI (B f) := s_byte hB (by omega)
    have d1 : (nI (B f) = 1) = (B f = 1) := by rw [show (1 : Int32) = nI 1 from rfl, q_eq (by omega) (by decide)]
    have d2 : (nI (B f) = 2) = (B f = 2) := by rw [show (2 : Int32) = nI 2 from rfl, q_eq (by omega) (by decide)]
    have c3 : nI (e - f) - 3 = nI (e - f - 3) := by rw [show (3 : Int32) = nI 3 from rfl, q_sub (by omega)]
    have cK : (nI (e - f - 3) ≤ 1024) = (e - f - 3 ≤ 1024) := by rw [show (1024 : Int32) = nI 1024 from rfl, q_le (by omega) (by decide)]
    have fi : m_Mo_fitsHead 1668246642 (nI f) (nI e) zA gf = if B f = 1 then (if e - f = 7 then 1 else 0) else 1 := by
      unfold m_Mo_fitsHead
      simp only [nx_COLOUR_SIGN, nx_COLOUR_KIND, nx_COLOUR_HEAD, nx_COLOUR_STREAM, nx_COLOUR_SIZE, nx_COLOUR_BITS, nx_COLOUR_PALETTE, nx_COLOUR_MAP, nx_COLOUR_CHANNELS, nx_COLOUR_RESOLUTION, nx_COLOUR_CAPTURE, nx_COLOUR_DISPLAY, if_true, if_false, q_sub hfe, c4, a, gf0, d1, c7]
    have ofi : om_Mo_fitsHead 1668246642 (nI f) (nI e) zA gf := by
      unfold om_Mo_fitsHead
      simp only [nx_COLOUR_SIGN, nx_COLOUR_KIND, nx_COLOUR_HEAD, nx_COLOUR_STREAM, nx_COLOUR_SIZE, nx_COLOUR_BITS, nx_COLOUR_PALETTE, nx_COLOUR_MAP, nx_COLOUR_CHANNELS, nx_COLOUR_RESOLUTION, nx_COLOUR_CAPTURE, nx_COLOUR_DISPLAY, if_true, if_false, q_sub hfe, c4, a, v0, ite_self, and_self]
    have gr : m_Mo_isGreat 1668246642 (nI f) (nI e) (nI cA) gf = if B f = 2 then (if cA = 0 then (if e - f - 3 ≤ 1024 then 0 else 1) else 0) else 0 := by
      unfold m_Mo_isGreat
      simp only [nx_COLOUR_SIGN, nx_COLOUR_KIND, nx_COLOUR_HEAD, nx_COLOUR_STREAM, nx_COLOUR_SIZE, nx_COLOUR_BITS, nx_COLOUR_PALETTE, nx_COLOUR_MAP, nx_COLOUR_CHANNELS, nx_COLOUR_RESOLUTION, nx_COLOUR_CAPTURE, nx_COLOUR_DISPLAY, if_true, if_false, q_sub hfe, gf0, d2, c0, c3, cK]
    have ogr : om_Mo_isGreat 1668246642 (nI f) (nI e) (nI cA) gf := by
      unfold om_Mo_isGreat
      simp only [nx_COLOUR_SIGN, nx_COLOUR_KIND, nx_COLOUR_HEAD, nx_COLOUR_STREAM, nx_COLOUR_SIZE, nx_COLOUR_BITS, nx_COLOUR_PALETTE, nx_COLOUR_MAP, nx_COLOUR_CHANNELS, nx_COLOUR_RESOLUTION, nx_COLOUR_CAPTURE, nx_COLOUR_DISPLAY, if_true, if_false, v0, ite_self, and_self]
    rw [if_pos a, b0, fi, gr]
    unfold k_Sc_readColour_18
    simp only [d1, d2]
    by_cases m1 : B f = 1
    · have n2 : ¬ B f = 2 := by omega
      rw [if_pos m1, if_pos m1, if_neg n2]
      unfold m_Sc_readColours m_Sc_content k_Sc_readColours_1
      rw [q_sub hfe]
      simp only [c7]
      by_cases b : e - f = 7
      · have u := s_u4 hB (p := f + 3) (by omega)
        have l := UB_4lt hB.2.2.1 (f + 3)
        have e3 : nI f + 3 = nI (f + 3) := by rw [show (3 : Int32) = nI 3 from rfl, q_add]
        have i3 : m_By_intAt (nI sz) nr fw (nI (f + 3)) 4 = nI (UB B (f + 3) 4) := s_int hB (w := 4) (by omega)
        have va : m_Mo_isValue 1668246642 (nI f) (nI e) zA pA gf = if 16 ≤ UB B (f + 3) 4 ∧ UB B (f + 3) 4 ≤ 18 then 1 else 0 := by
          unfold m_Mo_isValue k_Mo_isValue_260 k_Mo_isValue_269
          simp only [nx_COLOUR_SIGN, nx_COLOUR_KIND, nx_COLOUR_HEAD, nx_COLOUR_STREAM, nx_COLOUR_SIZE, nx_COLOUR_BITS, nx_COLOUR_PALETTE, nx_COLOUR_MAP, nx_COLOUR_CHANNELS, nx_COLOUR_RESOLUTION, nx_COLOUR_CAPTURE, nx_COLOUR_DISPLAY, if_true, if_false, gf0, d1, eq_true m1, e3, u.1, x_in18 l]
          by_cases x : 16 ≤ UB B (f + 3) 4 ∧ UB B (f + 3) 4 ≤ 18
          · rw [if_pos x, if_neg (by decide)]
          · rw [if_neg x, if_pos rfl]
        have ova : om_Mo_isValue 1668246642 (nI f) (nI e) zA pA gf := by
          unfold om_Mo_isValue ok_Mo_isValue_260 ok_Mo_isValue_269
          simp only [nx_COLOUR_SIGN, nx_COLOUR_KIND, nx_COLOUR_HEAD, nx_COLOUR_STREAM, nx_COLOUR_SIZE, nx_COLOUR_BITS, nx_COLOUR_PALETTE, nx_COLOUR_MAP, nx_COLOUR_CHANNELS, nx_COLOUR_RESOLUTION, nx_COLOUR_CAPTURE, nx_COLOUR_DISPLAY, if_true, if_false, v0, e3, u.2, q_oin, ite_self, and_self]
        have ho : hdOk gf 0 zA bA (nI cA) pA mA hA rsv 1668246642 (nI f) (nI e) := ⟨owr, fun _ => ⟨ofi, fun _ => ⟨otw, fun _ => ⟨ogr, fun _ => ova⟩⟩⟩⟩
        rw [if_pos b, if_pos b, e3, i3, va]
        unfold k_Sc_readColours_22 k_Sc_readColours_27
        rw [x_18 l]
        by_cases x : 16 ≤ UB B (f + 3) 4 ∧ UB B (f + 3) 4 ≤ 18
        · rw [if_pos x, if_neg (by decide)]
          unfold k_Sc_readColours_39
          rw [hcc]
          by_cases y : cA = 0
          · have nz : ¬ nI (UB B (f + 3) 4) = 0 := by rw [q_z32 l]; omega
            rw [if_pos y, if_pos rfl]
            unfold m_Pl_tellColours
            rw [if_neg nz]
            exact ⟨_, _, _, _, _, _, rfl, rfl, ho, hpn, hfit, fun _ => ⟨by omega, Or.inr ⟨y, Or.inl ⟨m1, by omega, rfl, x.1, x.2, rfl, rfl⟩⟩⟩⟩
          · rw [if_neg y, if_neg (by decide)]
            exact ⟨_, _, _, _, _, _, rfl, rfl, ho, hpn, hfit, fun _ => ⟨by omega, Or.inl ⟨Or.inl y, rfl, rfl, rfl, rfl, rfl⟩⟩⟩
        · rw [if_neg x, if_pos rfl]
          exact ⟨_, _, _, _, _, _, rfl, rfl, ho, hpn, hfit, fun q => absurd q (show ¬ (5 : Int32) = 0 by decide)⟩
      · have ho : hdOk gf 0 zA bA (nI cA) pA mA hA rsv 1668246642 (nI f) (nI e) := ⟨owr, fun _ => ⟨ofi, fun q => absurd (fi.trans ((if_pos m1).trans (if_neg b))) q⟩⟩
        rw [if_neg b, if_neg b]
        exact ⟨_, _, _, _, _, _, rfl, rfl, ho, hpn, hfit, fun q => absurd q (show ¬ (3 : Int32) = 0 by decide)⟩
    · have va : m_Mo_isValue 1668246642 (nI f) (nI e) zA pA gf = 1 := by
        unfold m_Mo_isValue
        simp only [nx_COLOUR_SIGN, nx_COLOUR_KIND, nx_COLOUR_HEAD, nx_COLOUR_STREAM, nx_COLOUR_SIZE, nx_COLOUR_BITS, nx_COLOUR_PALETTE, nx_COLOUR_MAP, nx_COLOUR_CHANNELS, nx_COLOUR_RESOLUTION, nx_COLOUR_CAPTURE, nx_COLOUR_DISPLAY, if_true, if_false, gf0, d1, m1]
      have ova : om_Mo_isValue 1668246642 (nI f) (nI e) zA pA gf := by
        unfold om_Mo_isValue
        simp only [nx_COLOUR_SIGN, nx_COLOUR_KIND, nx_COLOUR_HEAD, nx_COLOUR_STREAM, nx_COLOUR_SIZE, nx_COLOUR_BITS, nx_COLOUR_PALETTE, nx_COLOUR_MAP, nx_COLOUR_CHANNELS, nx_COLOUR_RESOLUTION, nx_COLOUR_CAPTURE, nx_COLOUR_DISPLAY, if_true, if_false, gf0, d1, m1, v0, and_self]
      have ho : hdOk gf 0 zA bA (nI cA) pA mA hA rsv 1668246642 (nI f) (nI e) := ⟨owr, fun _ => ⟨ofi, fun _ => ⟨otw, fun _ => ⟨ogr, fun _ => ova⟩⟩⟩⟩
      rw [if_neg m1, if_neg m1, va]
      by_cases m2 : B f = 2
      · rw [if_pos m2, if_pos m2]
        unfold k_Sc_readColour_41
        rw [hcc]
        by_cases y : cA = 0
        · rw [if_pos y, if_pos rfl, if_pos y]
          unfold k_Sc_readColour_50 m_Sc_content
          rw [q_sub hfe, c3]
          simp only [cK]
          by_cases g : e - f - 3 ≤ 1024
          · have tc : m_Pl_tellColours 0 = (0, 1, 0) := rfl
            have e3 : nI f + 3 = nI (f + 3) := by rw [show (3 : Int32) = nI 3 from rfl, q_add]
            have fu : ((nI e).toInt - (nI (f + 3)).toInt).toNat + 1 = (e - (f + 3)) + 1 := by rw [q_toInt (by omega), q_toInt (by omega)]; omega
            rw [if_pos g, if_pos g, tc]
            unfold k_Sc_readColour_69 k_Sc_readColour_80 k_Sc_readColour_85 m_Sc_content
            rw [q_sub hfe, c3, e3, fu]
            obtain ⟨n2, f2, r1, r2, r3, r4, r5, r6, r7⟩ := q_room (mo := 1024) (c := 0) (w := e - f - 3) (by decide) hpn.2 (by omega) (by omega) pf
            have r1' : m_By_makeRoom 1024 ((0 : Int32), (1 : Int32), (0 : Int32)).2.2 pn pf (nI (e - f - 3)) = (n2, f2) := r1
            rw [r1']
            obtain ⟨row2, i1, i2, i3⟩ := x_c95 hB (p0 := f + 3) he r4 0 1 0 f2 (e - (f + 3)) ((e - (f + 3)) + 1) 0 f2 (by omega) (by omega) (by omega) (r7 hfit) (fun k hk => by omega)
            refine ⟨_, _, _, _, n2, row2, i1, rfl, ho, ⟨by omega, r4⟩, i2, fun _ => ⟨by omega, Or.inr ⟨y, Or.inr ⟨m2, by omega, rfl, rfl, ?_, by omega, fun k hk => i3 k (by omega)⟩⟩⟩⟩
            rw [show 0 + (e - (f + 3)) = e - f - 3 by omega]
          · have ho2 : hdOk gf 0 zA bA (nI cA) pA mA hA rsv 1668246642 (nI f) (nI e) := ho
            rw [if_neg g, if_neg g]
            exact ⟨_, _, _, _, _, _, rfl, rfl, ho2, hpn, hfit, fun q => absurd q (by decide)⟩
        · rw [if_neg y, if_neg (by decide), if_neg y]
          exact ⟨_, _, _, _, _, _, rfl, rfl, ho, hpn, hfit, fun _ => ⟨by omega, Or.inl ⟨Or.inl y, rfl, rfl, rfl, rfl, rfl⟩⟩⟩
      · rw [if_neg m2, if_neg m2]
        exact ⟨_, _, _, _, _, _, rfl, rfl, ho, hpn, hfit, fun _ => ⟨by omega, Or.inl ⟨Or.inr ⟨m1, m2⟩, rfl, rfl, rfl, rfl, rfl⟩⟩⟩
