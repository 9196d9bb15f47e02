/-- SIZE -/
theorem q_neg {n : Nat} (h : n < 4294967296) : (nI n < 0) = (2147483647 < n) := by
  apply propext
  by_cases a : n < 2147483648
  · rw [q_l0 a]
    constructor
    · intro q; exact absurd q id
    · intro q; omega
  · constructor
    · intro _; omega
    · intro _
      rw [Int32.lt_iff_toInt_lt]
      have e : (nI n).toInt = (n : Int).bmod (2 ^ 32) := Int32.toInt_ofNat
      rw [e, Int.bmod_def, Int32.toInt_zero]
      omega
theorem q_neg0 {n : Nat} (h : n < 4294967296) : (0 ≤ nI n) = ¬ (2147483647 < n) := by
  rw [← q_neg h]
  exact propext Int32.not_lt.symm
theorem q_z32 {n : Nat} (h : n < 4294967296) : (nI n = 0) = (n = 0) := by
  apply propext
  constructor
  · intro q
    have e := congrArg (fun x => x.toBitVec.toNat) q
    have e1 : (nI n).toBitVec.toNat = n % 2 ^ 32 := BitVec.toNat_ofNat n 32
    have e2 : (0 : Int32).toBitVec.toNat = 0 := rfl
    rw [e1, e2] at e
    omega
  · intro q; rw [q]; rfl
theorem q_bL {B : Nat → Nat} (h : ∀ k, B k < 256) (k c : Nat) (hc : c < 2147483648) : (nI (B k) ≤ nI c) = (B k ≤ c) := q_le (by have := h k; omega) hc
theorem q_gt31 {n : Nat} (h : n < 4294967296) : (0 < lg_cmp (Int64.ofNat n) 2147483647) = (2147483647 < n) := by
  have big : (2147483647 : Int64).toInt = 2147483647 := by decide
  rw [q_cmpgt, q_i64 (by omega), big]
  apply propext; omega
theorem q_le0L {n : Nat} (h : n < 4294967296) : (lg_cmp (Int64.ofNat n) 0 ≤ 0) = (n = 0) := by
  rw [q_cmple, q_i64 (by omega), Int64.toInt_zero]
  apply propext; omega
set_option maxHeartbeats 1000000 in
theorem x_size {sz nr : Nat} {fw gf : Nat → Int32} {B : Nat → Nat} (hB : HB sz nr fw gf B) {f e : Nat} (hfe : f ≤ e) (he : e ≤ sz) (se td hi wi co un ri zA cA pA : Int32) (fb : Nat → Int32) :
    ∃ (r se2 td2 hi2 wi2 co2 un2 ri2 : Int32) (fb2 : Nat → Int32), m_Sc_readSize se td (nI f) (nI e) (nI sz) nr fw hi wi co un ri 16 fb = (r, se2, td2, hi2, wi2, co2, un2, ri2, fb2)
    ∧ r = hdWhy 0 (m_Mo_fitsHead 1768449138 (nI f) (nI e) zA gf) 0 (m_Mo_isGreat 1768449138 (nI f) (nI e) cA gf) (m_Mo_isValue 1768449138 (nI f) (nI e) zA pA gf)
    ∧ (om_Mo_fitsHead 1768449138 (nI f) (nI e) zA gf ∧ (¬ m_Mo_fitsHead 1768449138 (nI f) (nI e) zA gf = 0 → om_Mo_isGreat 1768449138 (nI f) (nI e) cA gf ∧ (m_Mo_isGreat 1768449138 (nI f) (nI e) cA gf = 0 → om_Mo_isValue 1768449138 (nI f) (nI e) zA pA gf)))
    ∧ (r = 0 → e = f + 14 ∧ se2 = se ||| 2 ∧ td2 = nI (B (f + 10)) ∧ hi2 = nI (UB B f 4) ∧ wi2 = nI (UB B (f + 4) 4) ∧ co2 = nI (UB B (f + 8) 2) ∧ un2 = nI (B (f + 12)) ∧ ri2 = nI (B (f + 13)) ∧ (∀ k, k < 16 → fb2 k = nI (B (f + 10))) ∧ 1 ≤ UB B (f + 8) 2 ∧ UB B (f + 8) 2 ≤ 16 ∧ B (f + 12) < 2 ∧ B (f + 13) < 2) := by
  have h1 := hB.1
  have h2 := hB.2.1
  have c14 : (nI (e - f) = 14) = (e - f = 14) := by rw [show (14 : Int32) = nI 14 from rfl, q_eq (by omega) (by decide)]
  have fi : m_Mo_fitsHead 1768449138 (nI f) (nI e) zA gf = if e - f = 14 then 1 else 0 := by
    unfold m_Mo_fitsHead
    simp only [nx_SIZE_SIGN, nx_SIZE_KIND, nx_SIZE_HEAD, nx_SIZE_STREAM, nx_SIZE_BITS, nx_SIZE_COLOUR, nx_SIZE_PALETTE, nx_SIZE_MAP, nx_SIZE_CHANNELS, nx_SIZE_RESOLUTION, nx_SIZE_CAPTURE, nx_SIZE_DISPLAY, q_sub hfe, c14, if_true, if_false]
  have ofi : om_Mo_fitsHead 1768449138 (nI f) (nI e) zA gf := by
    unfold om_Mo_fitsHead
    simp only [nx_SIZE_SIGN, nx_SIZE_KIND, nx_SIZE_HEAD, nx_SIZE_STREAM, nx_SIZE_BITS, nx_SIZE_COLOUR, nx_SIZE_PALETTE, nx_SIZE_MAP, nx_SIZE_CHANNELS, nx_SIZE_RESOLUTION, nx_SIZE_CAPTURE, nx_SIZE_DISPLAY, if_true, if_false, ite_self]
  unfold m_Sc_readSize m_Sc_content k_Sc_readSize_1
  rw [fi, q_sub hfe]
  simp only [c14]
  by_cases a : e - f = 14
  · rw [if_pos a, if_pos a]
    have i1 : m_By_intAt (nI sz) nr fw (nI f) 4 = nI (UB B f 4) := s_int hB (w := 4) (by omega)
    have i2 : m_By_intAt (nI sz) nr fw (nI f + 4) 4 = nI (UB B (f + 4) 4) := by rw [show (4 : Int32) = nI 4 from rfl, q_add]; exact s_int hB (w := 4) (by omega)
    have i3 : m_By_intAt (nI sz) nr fw (nI f + 8) 2 = nI (UB B (f + 8) 2) := by rw [show (8 : Int32) = nI 8 from rfl, q_add]; exact s_int hB (w := 2) (by omega)
    have b10 : m_By_byteAt (nI sz) nr fw (nI f + 10) = nI (B (f + 10)) := by rw [show (10 : Int32) = nI 10 from rfl, q_add]; exact s_byte hB (by omega)
    have b11 : m_By_byteAt (nI sz) nr fw (nI f + 11) = nI (B (f + 11)) := by rw [show (11 : Int32) = nI 11 from rfl, q_add]; exact s_byte hB (by omega)
    have b12 : m_By_byteAt (nI sz) nr fw (nI f + 12) = nI (B (f + 12)) := by rw [show (12 : Int32) = nI 12 from rfl, q_add]; exact s_byte hB (by omega)
    have b13 : m_By_byteAt (nI sz) nr fw (nI f + 13) = nI (B (f + 13)) := by rw [show (13 : Int32) = nI 13 from rfl, q_add]; exact s_byte hB (by omega)
    have u1 := s_u4 hB (p := f) (by omega)
    have u2 : m_Mo_u4 gf (nI f + 4) = Int64.ofNat (UB B (f + 4) 4) ∧ om_Mo_u4 gf (nI f + 4) := by rw [show (4 : Int32) = nI 4 from rfl, q_add]; exact s_u4 hB (by omega)
    have u3 : m_Mo_u2 gf (nI f + 8) = nI (UB B (f + 8) 2) ∧ om_Mo_u2 (nI f + 8) := by rw [show (8 : Int32) = nI 8 from rfl, q_add]; exact s_u2 hB (by omega)
    have g10 : gf (nI f + 10).toNatClampNeg = nI (B (f + 10)) := by rw [show (10 : Int32) = nI 10 from rfl, q_add, q_cl (by omega)]; exact (hB.2.2.2 _ (by omega)).2
    have g11 : gf (nI f + 11).toNatClampNeg = nI (B (f + 11)) := by rw [show (11 : Int32) = nI 11 from rfl, q_add, q_cl (by omega)]; exact (hB.2.2.2 _ (by omega)).2
    have g12 : gf (nI f + 12).toNatClampNeg = nI (B (f + 12)) := by rw [show (12 : Int32) = nI 12 from rfl, q_add, q_cl (by omega)]; exact (hB.2.2.2 _ (by omega)).2
    have g13 : gf (nI f + 13).toNatClampNeg = nI (B (f + 13)) := by rw [show (13 : Int32) = nI 13 from rfl, q_add, q_cl (by omega)]; exact (hB.2.2.2 _ (by omega)).2
    have v10 : vp_in (nI f + 10) 65536 := by rw [show (10 : Int32) = nI 10 from rfl, q_add, q_in (by omega)]; omega
    have v11 : vp_in (nI f + 11) 65536 := by rw [show (11 : Int32) = nI 11 from rfl, q_add, q_in (by omega)]; omega
    have v12 : vp_in (nI f + 12) 65536 := by rw [show (12 : Int32) = nI 12 from rfl, q_add, q_in (by omega)]; omega
    have v13 : vp_in (nI f + 13) 65536 := by rw [show (13 : Int32) = nI 13 from rfl, q_add, q_in (by omega)]; omega
    have l1 := UB_4lt hB.2.2.1 f
    have l2 := UB_4lt hB.2.2.1 (f + 4)
    have l3 := UB_2lt hB.2.2.1 (f + 8)
    have t10 := hB.2.2.1 (f + 10)
    have t11 := hB.2.2.1 (f + 11)
    have t12 := hB.2.2.1 (f + 12)
    have t13 := hB.2.2.1 (f + 13)
    have gr : m_Mo_isGreat 1768449138 (nI f) (nI e) cA gf = if 2147483647 < UB B f 4 then 1 else if 2147483647 < UB B (f + 4) 4 then 1 else if UB B (f + 8) 2 ≤ 16 then 0 else 1 := by
      unfold m_Mo_isGreat k_Mo_isGreat_69 k_Mo_isGreat_86 k_Mo_isGreat_104
      simp only [nx_SIZE_SIGN, nx_SIZE_KIND, nx_SIZE_HEAD, nx_SIZE_STREAM, nx_SIZE_BITS, nx_SIZE_COLOUR, nx_SIZE_PALETTE, nx_SIZE_MAP, nx_SIZE_CHANNELS, nx_SIZE_RESOLUTION, nx_SIZE_CAPTURE, nx_SIZE_DISPLAY, if_true, if_false, u1.1, u2.1, u3.1, q_gt31 l1, q_gt31 l2, show (16 : Int32) = nI 16 from rfl, q_le (show UB B (f + 8) 2 < 2147483648 by omega) (show 16 < 2147483648 by decide)]
    have ogr : om_Mo_isGreat 1768449138 (nI f) (nI e) cA gf := by
      unfold om_Mo_isGreat ok_Mo_isGreat_69 ok_Mo_isGreat_86 ok_Mo_isGreat_104
      simp only [nx_SIZE_SIGN, nx_SIZE_KIND, nx_SIZE_HEAD, nx_SIZE_STREAM, nx_SIZE_BITS, nx_SIZE_COLOUR, nx_SIZE_PALETTE, nx_SIZE_MAP, nx_SIZE_CHANNELS, nx_SIZE_RESOLUTION, nx_SIZE_CAPTURE, nx_SIZE_DISPLAY, if_true, if_false, ite_self, u1.2, u2.2, u3.2, and_self]
    have ab := q_bits256 ⟨B (f + 10), t10⟩
    have d1 : (nI (B (f + 10)) = 255) = (B (f + 10) = 255) := by rw [show (255 : Int32) = nI 255 from rfl, q_eq (by omega) (by decide)]
    have d2 : (nI (B (f + 11)) = 7) = (B (f + 11) = 7) := by rw [show (7 : Int32) = nI 7 from rfl, q_eq (by omega) (by decide)]
    have d3 : (2 ≤ nI (B (f + 12))) = (2 ≤ B (f + 12)) := by rw [show (2 : Int32) = nI 2 from rfl, q_le (by decide) (by omega)]
    have d4 : (2 ≤ nI (B (f + 13))) = (2 ≤ B (f + 13)) := by rw [show (2 : Int32) = nI 2 from rfl, q_le (by decide) (by omega)]
    have d5 : (1 < nI (B (f + 12))) = (2 ≤ B (f + 12)) := by rw [show (1 : Int32) = nI 1 from rfl, q_lt (by decide) (by omega)]; rfl
    have d6 : (nI (B (f + 13)) ≤ 1) = ¬ (2 ≤ B (f + 13)) := by rw [show (1 : Int32) = nI 1 from rfl, q_le (by omega) (by decide)]; apply propext; omega
    have d7 : (nI (B (f + 12)) = 1) = (B (f + 12) = 1) := by rw [show (1 : Int32) = nI 1 from rfl, q_eq (by omega) (by decide)]
    have d8 : (nI (B (f + 13)) = 1) = (B (f + 13) = 1) := by rw [show (1 : Int32) = nI 1 from rfl, q_eq (by omega) (by decide)]
    have d9 : ((16 : Int32) < nI (UB B (f + 8) 2)) = ¬ (UB B (f + 8) 2 ≤ 16) := by rw [show (16 : Int32) = nI 16 from rfl, q_lt (by decide) (by omega)]; apply propext; omega
    have d10 : (nI (UB B (f + 8) 2) ≤ 0) = (UB B (f + 8) 2 = 0) := h_le0 (by omega)
    have va : m_Mo_isValue 1768449138 (nI f) (nI e) zA pA gf = if UB B f 4 = 0 then 0 else if UB B (f + 4) 4 = 0 then 0 else if UB B (f + 8) 2 = 0 then 0 else if B (f + 10) = 255 then (if B (f + 11) = 7 then if 2 ≤ B (f + 12) then 0 else if 2 ≤ B (f + 13) then 0 else 1 else 0) else if (if B (f + 10) % 128 ≤ 37 then (1 : Int32) else 0) = 0 then 0 else (if B (f + 11) = 7 then if 2 ≤ B (f + 12) then 0 else if 2 ≤ B (f + 13) then 0 else 1 else 0) := by
      unfold m_Mo_isValue k_Mo_isValue_69 k_Mo_isValue_84 k_Mo_isValue_100 k_Mo_isValue_136 j_Mo_isValue_142
      simp only [nx_SIZE_SIGN, nx_SIZE_KIND, nx_SIZE_HEAD, nx_SIZE_STREAM, nx_SIZE_BITS, nx_SIZE_COLOUR, nx_SIZE_PALETTE, nx_SIZE_MAP, nx_SIZE_CHANNELS, nx_SIZE_RESOLUTION, nx_SIZE_CAPTURE, nx_SIZE_DISPLAY, if_true, if_false, u1.1, u2.1, u3.1, q_le0L l1, q_le0L l2, d10, g10, g11, g12, g13, d1, d2, d3, d4, ab.2]
    have ova : om_Mo_isValue 1768449138 (nI f) (nI e) zA pA gf := by
      unfold om_Mo_isValue ok_Mo_isValue_69 ok_Mo_isValue_84 ok_Mo_isValue_100 ok_Mo_isValue_136 oj_Mo_isValue_142
      simp only [nx_SIZE_SIGN, nx_SIZE_KIND, nx_SIZE_HEAD, nx_SIZE_STREAM, nx_SIZE_BITS, nx_SIZE_COLOUR, nx_SIZE_PALETTE, nx_SIZE_MAP, nx_SIZE_CHANNELS, nx_SIZE_RESOLUTION, nx_SIZE_CAPTURE, nx_SIZE_DISPLAY, if_true, if_false, ite_self, u1.2, u2.2, u3.2, v10, v11, v12, v13, q_oab, true_and, and_self]
    unfold k_Sc_readSize_34 k_Sc_readSize_55 k_Sc_readSize_77 k_Sc_readSize_95 k_Sc_readSize_112 k_Sc_readSize_127 k_Sc_readSize_212 j_Sc_readSize_220 k_Sc_readSize_231 k_Sc_readSize_262
    simp only [i1, i2, i3, b10, b11, b12, b13, d9, q_neg l1, q_neg0 l2, q_z32 l1, q_z32 l2, q_z32 (show UB B (f + 8) 2 < 4294967296 by omega), d1, d2, d5, d6, d7, d8, ab.1, q_fillI (show 16 < 2147483648 by decide)]
    have ho : om_Mo_fitsHead 1768449138 (nI f) (nI e) zA gf ∧ (¬ (1 : Int32) = 0 → om_Mo_isGreat 1768449138 (nI f) (nI e) cA gf ∧ (m_Mo_isGreat 1768449138 (nI f) (nI e) cA gf = 0 → om_Mo_isValue 1768449138 (nI f) (nI e) zA pA gf)) := ⟨ofi, fun _ => ⟨ogr, fun _ => ova⟩⟩
    by_cases g3 : UB B (f + 8) 2 ≤ 16
    · by_cases g1 : 2147483647 < UB B f 4
      · simp only [g3, g1, not_true_eq_false, not_false_eq_true, if_true, if_false] at gr ⊢
        exact ⟨_, _, _, _, _, _, _, _, _, rfl, by rw [gr]; rfl, ho, fun q => absurd q (by decide)⟩
      · by_cases g2 : 2147483647 < UB B (f + 4) 4
        · simp only [g3, g1, g2, not_true_eq_false, not_false_eq_true, if_true, if_false] at gr ⊢
          exact ⟨_, _, _, _, _, _, _, _, _, rfl, by rw [gr]; rfl, ho, fun q => absurd q (by decide)⟩
        · simp only [g3, g1, g2, not_true_eq_false, not_false_eq_true, if_true, if_false] at gr ⊢
          by_cases w1 : UB B f 4 = 0
          · simp only [w1, if_true] at va ⊢
            exact ⟨_, _, _, _, _, _, _, _, _, rfl, by rw [gr, va]; rfl, ho, fun q => absurd q (by decide)⟩
          · by_cases w2 : UB B (f + 4) 4 = 0
            · simp only [w1, w2, if_true, if_false] at va ⊢
              exact ⟨_, _, _, _, _, _, _, _, _, rfl, by rw [gr, va]; rfl, ho, fun q => absurd q (by decide)⟩
            · by_cases w3 : UB B (f + 8) 2 = 0
              · simp only [w1, w2, w3, if_true, if_false] at va ⊢
                exact ⟨_, _, _, _, _, _, _, _, _, rfl, by rw [gr, va]; rfl, ho, fun q => absurd q (by decide)⟩
              · simp only [w1, w2, w3, if_false] at va ⊢
                by_cases w4 : B (f + 11) = 7 ∧ B (f + 12) < 2 ∧ B (f + 13) < 2 ∧ (B (f + 10) = 255 ∨ B (f + 10) % 128 ≤ 37)
                · obtain ⟨x1, x2, x3, x4⟩ := w4
                  have y2 : ¬ 2 ≤ B (f + 12) := by omega
                  have y3 : ¬ 2 ≤ B (f + 13) := by omega
                  have va1 : m_Mo_isValue 1768449138 (nI f) (nI e) zA pA gf = 1 := by
                    rw [va]
                    simp only [x1, y2, y3, if_true, if_false]
                    by_cases z : B (f + 10) = 255
                    · rw [if_pos z]
                    · rw [if_neg z, if_pos (x4.resolve_left z)]; rfl
                  have hw : hdWhy 0 1 0 (m_Mo_isGreat 1768449138 (nI f) (nI e) cA gf) (m_Mo_isValue 1768449138 (nI f) (nI e) zA pA gf) = 0 := by rw [gr, va1]; rfl
                  have e14 : e = f + 14 := by omega
                  have hF : ∀ k, k < 16 → (fun k => if k < 16 then nI (B (f + 10)) else fb k) k = nI (B (f + 10)) := fun k hk => if_pos hk
                  have hu : nI (B (f + 12)) = if B (f + 12) = 1 then 1 else 0 := by
                    by_cases z : B (f + 12) = 1
                    · rw [if_pos z, z]; rfl
                    · rw [if_neg z, show B (f + 12) = 0 by omega]; rfl
                  have hv : nI (B (f + 13)) = if B (f + 13) = 1 then 1 else 0 := by
                    by_cases z : B (f + 13) = 1
                    · rw [if_pos z, z]; rfl
                    · rw [if_neg z, show B (f + 13) = 0 by omega]; rfl
                  have hcl : (if B (f + 10) = 255 then (if B (f + 12) = 1 then if B (f + 13) = 1 then ((0 : Int32), se ||| 2, nI (B (f + 10)), nI (UB B f 4), nI (UB B (f + 4) 4), nI (UB B (f + 8) 2), (1 : Int32), (1 : Int32), fun k => if k < 16 then nI (B (f + 10)) else fb k) else (0, se ||| 2, nI (B (f + 10)), nI (UB B f 4), nI (UB B (f + 4) 4), nI (UB B (f + 8) 2), 1, 0, fun k => if k < 16 then nI (B (f + 10)) else fb k) else if B (f + 13) = 1 then (0, se ||| 2, nI (B (f + 10)), nI (UB B f 4), nI (UB B (f + 4) 4), nI (UB B (f + 8) 2), 0, 1, fun k => if k < 16 then nI (B (f + 10)) else fb k) else (0, se ||| 2, nI (B (f + 10)), nI (UB B f 4), nI (UB B (f + 4) 4), nI (UB B (f + 8) 2), 0, 0, fun k => if k < 16 then nI (B (f + 10)) else fb k)) else (if B (f + 12) = 1 then if B (f + 13) = 1 then (0, se ||| 2, nI (B (f + 10)), nI (UB B f 4), nI (UB B (f + 4) 4), nI (UB B (f + 8) 2), 1, 1, fun k => if k < 16 then nI (B (f + 10)) else fb k) else (0, se ||| 2, nI (B (f + 10)), nI (UB B f 4), nI (UB B (f + 4) 4), nI (UB B (f + 8) 2), 1, 0, fun k => if k < 16 then nI (B (f + 10)) else fb k) else if B (f + 13) = 1 then (0, se ||| 2, nI (B (f + 10)), nI (UB B f 4), nI (UB B (f + 4) 4), nI (UB B (f + 8) 2), 0, 1, fun k => if k < 16 then nI (B (f + 10)) else fb k) else (0, se ||| 2, nI (B (f + 10)), nI (UB B f 4), nI (UB B (f + 4) 4), nI (UB B (f + 8) 2), 0, 0, fun k => if k < 16 then nI (B (f + 10)) else fb k))) = (0, se ||| 2, nI (B (f + 10)), nI (UB B f 4), nI (UB B (f + 4) 4), nI (UB B (f + 8) 2), nI (B (f + 12)), nI (B (f + 13)), fun k => if k < 16 then nI (B (f + 10)) else fb k) := by
                    rw [hu, hv]
                    by_cases z2 : B (f + 12) = 1
                    · by_cases z3 : B (f + 13) = 1
                      · simp only [z2, z3, if_true, ite_self]
                      · simp only [z2, z3, if_true, if_false, ite_self]
                    · by_cases z3 : B (f + 13) = 1
                      · simp only [z2, z3, if_true, if_false, ite_self]
                      · simp only [z2, z3, if_false, ite_self]
                  refine ⟨0, se ||| 2, nI (B (f + 10)), nI (UB B f 4), nI (UB B (f + 4) 4), nI (UB B (f + 8) 2), nI (B (f + 12)), nI (B (f + 13)), _, ?_, hw.symm, ho, fun _ => ⟨e14, rfl, rfl, rfl, rfl, rfl, rfl, rfl, hF, by omega, by first | exact g3 | trivial, x2, x3⟩⟩
                  rw [← hcl]
                  simp only [x1, y2, y3, if_true, if_false, not_false_eq_true]
                  by_cases z : B (f + 10) = 255
                  · rw [if_pos z, if_pos z]
                  · rw [if_neg z, if_neg z, if_pos (x4.resolve_left z), if_neg (by decide)]
                · have va0 : m_Mo_isValue 1768449138 (nI f) (nI e) zA pA gf = 0 := by
                    rw [va]
                    by_cases x1 : B (f + 11) = 7
                    · by_cases x2 : 2 ≤ B (f + 12)
                      · simp only [x1, x2, if_true, ite_self]
                      · by_cases x3 : 2 ≤ B (f + 13)
                        · simp only [x1, x2, x3, if_true, if_false, ite_self]
                        · have x4 : ¬ (B (f + 10) = 255 ∨ B (f + 10) % 128 ≤ 37) := fun q => w4 ⟨x1, by omega, by omega, q⟩
                          rw [if_neg (fun q => x4 (Or.inl q)), if_neg (fun q => x4 (Or.inr q)), if_pos rfl]
                    · simp only [x1, if_false, ite_self]
                  have hw : hdWhy 0 1 0 (m_Mo_isGreat 1768449138 (nI f) (nI e) cA gf) (m_Mo_isValue 1768449138 (nI f) (nI e) zA pA gf) = 5 := by rw [gr, va0]; rfl
                  refine ⟨5, se ||| 2, nI (B (f + 10)), nI (UB B f 4), nI (UB B (f + 4) 4), nI (UB B (f + 8) 2), un, ri, fb, ?_, hw.symm, ho, fun q => absurd q (by decide)⟩
                  by_cases x1 : B (f + 11) = 7
                  · by_cases x2 : 2 ≤ B (f + 12)
                    · simp only [x1, x2, if_true, ite_self]
                    · by_cases x3 : 2 ≤ B (f + 13)
                      · simp only [x1, x2, x3, if_true, if_false, not_true_eq_false, ite_self]
                      · have x4 : ¬ (B (f + 10) = 255 ∨ B (f + 10) % 128 ≤ 37) := fun q => w4 ⟨x1, by omega, by omega, q⟩
                        rw [if_neg (fun q => x4 (Or.inl q)), if_neg (fun q => x4 (Or.inr q)), if_pos rfl]
                  · simp only [x1, if_false, ite_self]
    · have gr1 : m_Mo_isGreat 1768449138 (nI f) (nI e) cA gf = 1 := by
        rw [gr]
        simp only [g3, if_false, ite_self]
      simp only [g3, not_false_eq_true, if_true]
      exact ⟨_, _, _, _, _, _, _, _, _, rfl, by rw [gr1]; rfl, ho, fun q => absurd q (by decide)⟩
  · rw [if_neg a, if_neg a]
    refine ⟨_, _, _, _, _, _, _, _, _, rfl, ?_, ⟨ofi, fun q => absurd rfl q⟩, fun q => absurd q (by decide)⟩
    unfold hdWhy
    rw [if_pos rfl, if_pos rfl]
