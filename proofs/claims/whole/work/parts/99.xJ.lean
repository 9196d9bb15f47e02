def avr (B : Nat → Nat) (f : Nat) : Nat → Nat → Int32
  | 0, _ => 1
  | d + 1, j => if UB B (f + 2 * j) 2 = 0 then 0 else avr B f d (j + 1)
theorem avr_all {B : Nat → Nat} {f : Nat} : ∀ d j, ¬ avr B f d j = 0 → ∀ k, j ≤ k → k < j + d → ¬ UB B (f + 2 * k) 2 = 0
  | 0, _, _, k, h1, h2 => by omega
  | d + 1, j, h, k, h1, h2 => by
    have h3 : ¬ (if UB B (f + 2 * j) 2 = 0 then 0 else avr B f d (j + 1)) = 0 := h
    by_cases x : UB B (f + 2 * j) 2 = 0
    · rw [if_pos x] at h3; exact absurd rfl h3
    · rw [if_neg x] at h3
      by_cases z : k = j
      · rw [z]; exact x
      · exact avr_all d (j + 1) h3 k (by omega) (by omega)
def RatN (B : Nat → Nat) (f : Nat) (fr : Nat → Int32) : Prop := (∀ k, k < 4 → fr k = nI (UB B (f + 2 * k) 2) ∧ ¬ UB B (f + 2 * k) 2 = 0) ∧ fr 4 = (nI (B (f + 8))).toInt8.toInt32 ∧ fr 5 = (nI (B (f + 9))).toInt8.toInt32
theorem x_r33 {sz nr : Nat} {fw gf : Nat → Int32} {B : Nat → Nat} (hB : HB sz nr fw gf B) {f : Nat} (hf : f + 10 ≤ sz) (se bx : Int32) : ∀ (d j : Nat) (fr : Nat → Int32), j + d = 4 →
    ∃ fr2, lp_Sc_readRatio_33 se (nI f) (nI sz) nr fw 6 bx (d + 1) (nI j) fr = (if avr B f d j = 0 then 5 else 0, se ||| bx, fr2) ∧ (¬ avr B f d j = 0 → (∀ k, k < 4 → fr2 k = if j ≤ k then nI (UB B (f + 2 * k) 2) else fr k) ∧ fr2 4 = (nI (B (f + 8))).toInt8.toInt32 ∧ fr2 5 = (nI (B (f + 9))).toInt8.toInt32)
  | 0, j, fr, h => by
    have h1 := hB.1
    have h2 := hB.2.1
    have k : (4 : Int32) ≤ nI j := by rw [show (4 : Int32) = nI 4 from rfl, q_le (by decide) (by omega)]; omega
    have b8 : m_By_byteAt (nI sz) nr fw (nI f + 8) = nI (B (f + 8)) := by rw [show (8 : Int32) = nI 8 from rfl, q_add]; exact s_byte hB (by omega)
    have b9 : m_By_byteAt (nI sz) nr fw (nI f + 9) = nI (B (f + 9)) := by rw [show (9 : Int32) = nI 9 from rfl, q_add]; exact s_byte hB (by omega)
    have s4 : ∀ (g : Nat → Int32) (v : Int32), m_FB_setIn 6 g 4 v = upd g 4 v := fun g v => q_setIn (n := 6) (j := 4) (by decide) (by decide) g v
    have s5 : ∀ (g : Nat → Int32) (v : Int32), m_FB_setIn 6 g 5 v = upd g 5 v := fun g v => q_setIn (n := 6) (j := 5) (by decide) (by decide) g v
    refine ⟨upd (upd fr 4 ((nI (B (f + 8))).toInt8.toInt32)) 5 ((nI (B (f + 9))).toInt8.toInt32), ?_, fun _ => ⟨fun k hk => ?_, ?_, ?_⟩⟩
    · show lb_Sc_readRatio_33 se (nI f) (nI sz) nr fw 6 bx (lp_Sc_readRatio_33 se (nI f) (nI sz) nr fw 6 bx 0) (nI j) fr = _
      unfold lb_Sc_readRatio_33 k_Sc_readRatio_89 k_Sc_readRatio_93 k_Sc_readRatio_109 k_Sc_readRatio_113
      rw [if_pos k, b8, b9, s4, s5]; rfl
    · rw [q_upn _ _ (by omega), q_upn _ _ (by omega), if_neg (by omega)]
    · rw [q_upn _ _ (by omega), q_upd]
    · rw [q_upd]
  | d + 1, j, fr, h => by
    have h1 := hB.1
    have h2 := hB.2.1
    have k : ¬ (4 : Int32) ≤ nI j := by rw [show (4 : Int32) = nI 4 from rfl, q_le (by decide) (by omega)]; omega
    have i2 : m_By_intAt (nI sz) nr fw (nI f + (2 * nI j)) 2 = nI (UB B (f + 2 * j) 2) := by rw [show (2 : Int32) = nI 2 from rfl, q_mul, q_add]; exact s_int hB (w := 2) (by omega)
    have l := UB_2lt hB.2.2.1 (f + 2 * j)
    have c0 : (nI (UB B (f + 2 * j) 2) = 0) = (UB B (f + 2 * j) 2 = 0) := q_e0 (by omega)
    obtain ⟨fr2, i1, i3⟩ := x_r33 hB hf se bx d (j + 1) (upd fr j (nI (UB B (f + 2 * j) 2))) (by omega)
    have e1 : avr B f (d + 1) j = if UB B (f + 2 * j) 2 = 0 then 0 else avr B f d (j + 1) := rfl
    have e2 : lp_Sc_readRatio_33 se (nI f) (nI sz) nr fw 6 bx (d + 1 + 1) (nI j) fr = if UB B (f + 2 * j) 2 = 0 then (5, se ||| bx, fr) else lp_Sc_readRatio_33 se (nI f) (nI sz) nr fw 6 bx (d + 1) (nI (j + 1)) (upd fr j (nI (UB B (f + 2 * j) 2))) := by
      show lb_Sc_readRatio_33 se (nI f) (nI sz) nr fw 6 bx (lp_Sc_readRatio_33 se (nI f) (nI sz) nr fw 6 bx (d + 1)) (nI j) fr = _
      unfold lb_Sc_readRatio_33 k_Sc_readRatio_51 k_Sc_readRatio_67
      rw [if_neg k, i2, q_setIn (by decide) (by omega), ← nI_succ]
      simp only [c0]
    rw [e1, e2]
    by_cases x : UB B (f + 2 * j) 2 = 0
    · rw [if_pos x, if_pos x]
      exact ⟨fr, rfl, fun q => absurd rfl q⟩
    · rw [if_neg x, if_neg x, i1]
      refine ⟨fr2, rfl, fun q => ⟨fun k hk => ?_, (i3 q).2⟩⟩
      rw [(i3 q).1 k hk]
      by_cases y : k = j
      · rw [if_neg (by omega), if_pos (by omega), y, q_upd]
      · by_cases z : j ≤ k
        · rw [if_pos z, if_pos (by omega)]
        · rw [if_neg z, if_neg (by omega), q_upn _ _ y]
/-- a ratio, in the class -/
theorem x_ratio {sz nr : Nat} {fw gf : Nat → Int32} {B : Nat → Nat} (hB : HB sz nr fw gf B) {f e : Nat} (hfe : f ≤ e) (he : e ≤ sz) (se bx : Int32) (aA : Nat) (hbs : m_Sc_was se bx = if aA = 0 then 0 else 1) (fr : Nat → Int32) :
    ∃ fr2, m_Sc_readRatio se (nI f) (nI e) (nI sz) nr fw 6 fr bx = ((if e - f = 10 then (if aA = 0 then (if avr B f 4 0 = 0 then 5 else 0) else 4) else 3), (if e - f = 10 ∧ aA = 0 then se ||| bx else se), fr2) ∧ (e - f = 10 → aA = 0 → ¬ avr B f 4 0 = 0 → RatN B f fr2) := by
  have h1 := hB.1
  have h2 := hB.2.1
  have c10 : (nI (e - f) = 10) = (e - f = 10) := by rw [show (10 : Int32) = nI 10 from rfl, q_eq (by omega) (by decide)]
  unfold m_Sc_readRatio m_Sc_content k_Sc_readRatio_1
  rw [q_sub hfe]
  simp only [c10]
  by_cases x : e - f = 10
  · rw [if_pos x, if_pos x]
    unfold k_Sc_readRatio_13
    rw [hbs]
    by_cases y : aA = 0
    · obtain ⟨fr2, i1, i2⟩ := x_r33 hB (f := f) (by omega) se bx 4 0 fr (by omega)
      have e5 : ((4 : Int32).toInt - (0 : Int32).toInt).toNat + 1 = 4 + 1 := by decide
      rw [if_pos y, if_pos rfl, if_pos y, if_pos (show e - f = 10 ∧ aA = 0 from ⟨x, y⟩), e5]
      refine ⟨fr2, i1, fun _ _ q => ⟨fun k hk => ⟨?_, avr_all 4 0 q k (by omega) (by omega)⟩, (i2 q).2⟩⟩
      rw [(i2 q).1 k hk, if_pos (by omega)]
    · rw [if_neg y, if_neg (by decide), if_neg y, if_neg (show ¬ (e - f = 10 ∧ aA = 0) from fun q => y q.2)]
      exact ⟨fr, rfl, fun _ q => absurd q y⟩
  · rw [if_neg x, if_neg x, if_neg (show ¬ (e - f = 10 ∧ aA = 0) from fun q => x q.1)]
    exact ⟨fr, rfl, fun q => absurd q x⟩
set_option maxHeartbeats 400000 in
theorem x_r129 {sz nr : Nat} {fw gf : Nat → Int32} {B : Nat → Nat} (hB : HB sz nr fw gf B) {f e : Nat} (hf : f + 10 ≤ sz) (kk : Int32 → Int32 → Int32 → Int32 → Int32 → Int32 → Int32 × Int32 × Int32 × Int32 × Int32 × Int32 × Int32 × Int32) (okk : Int32 → Int32 → Int32 → Int32 → Int32 → Int32 → Prop) (p kA dA nm : Int32) :
    j_Mo_inResolution_129 gf kk p kA dA ((0 : Int32), nm, nI f, nI e) 1 0 = j_Mo_inResolution_191 kk p kA dA ((0 : Int32), nm, nI f, nI e) (if avr B f 4 0 = 0 then 5 else 0) ∧ (oj_Mo_inResolution_191 okk kA dA ((0 : Int32), nm, nI f, nI e) (if avr B f 4 0 = 0 then 5 else 0) → oj_Mo_inResolution_129 gf okk kA dA ((0 : Int32), nm, nI f, nI e) 1 0) := by
  have h1 := hB.1
  have h2 := hB.2.1
  have z0 : (0 : Int32) = 0 := rfl
  have z1 : ¬ (1 : Int32) = 0 := by decide
  have u0 := s_u2 hB (p := f) (by omega)
  have u1 : m_Mo_u2 gf (nI f + 2) = nI (UB B (f + 2) 2) ∧ om_Mo_u2 (nI f + 2) := by rw [q_p2]; exact s_u2 hB (by omega)
  have u2 : m_Mo_u2 gf (nI f + 4) = nI (UB B (f + 4) 2) ∧ om_Mo_u2 (nI f + 4) := by rw [show (4 : Int32) = nI 4 from rfl, q_add]; exact s_u2 hB (by omega)
  have u3 : m_Mo_u2 gf (nI f + 6) = nI (UB B (f + 6) 2) ∧ om_Mo_u2 (nI f + 6) := by rw [show (6 : Int32) = nI 6 from rfl, q_add]; exact s_u2 hB (by omega)
  have l0 := UB_2lt hB.2.2.1 f
  have l1 := UB_2lt hB.2.2.1 (f + 2)
  have l2 := UB_2lt hB.2.2.1 (f + 4)
  have l3 := UB_2lt hB.2.2.1 (f + 6)
  have ea : avr B f 4 0 = if UB B f 2 = 0 then 0 else if UB B (f + 2) 2 = 0 then 0 else if UB B (f + 4) 2 = 0 then 0 else if UB B (f + 6) 2 = 0 then 0 else 1 := rfl
  unfold j_Mo_inResolution_129 oj_Mo_inResolution_129
  rw [if_pos z0, if_pos z0, if_neg z1, if_neg z1]
  unfold k_Mo_inResolution_143 ok_Mo_inResolution_143
  dsimp only
  rw [u0.1, ea]
  simp only [q_e0 (show UB B f 2 < 2147483648 by omega)]
  by_cases x0 : UB B f 2 = 0
  · rw [if_pos x0, if_pos x0, if_pos x0, if_pos z0]
    exact ⟨rfl, fun h => ⟨u0.2, h⟩⟩
  · rw [if_neg x0, if_neg x0, if_neg x0]
    unfold k_Mo_inResolution_156 ok_Mo_inResolution_156
    dsimp only
    rw [u1.1]
    simp only [q_e0 (show UB B (f + 2) 2 < 2147483648 by omega)]
    by_cases x1 : UB B (f + 2) 2 = 0
    · rw [if_pos x1, if_pos x1, if_pos x1, if_pos z0]
      exact ⟨rfl, fun h => ⟨u0.2, u1.2, h⟩⟩
    · rw [if_neg x1, if_neg x1, if_neg x1]
      unfold k_Mo_inResolution_169 ok_Mo_inResolution_169
      dsimp only
      rw [u2.1]
      simp only [q_e0 (show UB B (f + 4) 2 < 2147483648 by omega)]
      by_cases x2 : UB B (f + 4) 2 = 0
      · rw [if_pos x2, if_pos x2, if_pos x2, if_pos z0]
        exact ⟨rfl, fun h => ⟨u0.2, u1.2, u2.2, h⟩⟩
      · rw [if_neg x2, if_neg x2, if_neg x2]
        unfold k_Mo_inResolution_183 ok_Mo_inResolution_183
        rw [u3.1]
        simp only [q_e0 (show UB B (f + 6) 2 < 2147483648 by omega)]
        by_cases x3 : UB B (f + 6) 2 = 0
        · rw [if_pos x3, if_pos x3, if_pos x3, if_pos z0]
          exact ⟨rfl, fun h => ⟨u0.2, u1.2, u2.2, u3.2, h⟩⟩
        · rw [if_neg x3, if_neg x3, if_neg x3, if_neg z1]
          exact ⟨rfl, fun h => ⟨u0.2, u1.2, u2.2, u3.2, h⟩⟩
theorem x_191 {f e : Nat} (kk : Int32 → Int32 → Int32 → Int32 → Int32 → Int32 → Int32 × Int32 × Int32 × Int32 × Int32 × Int32 × Int32 × Int32) (okk : Int32 → Int32 → Int32 → Int32 → Int32 → Int32 → Prop) (p nm : Int32) (kA dA : Nat) {v : Int32} (hv : ¬ v ≤ 0) : j_Mo_inResolution_191 kk p (nI kA) (nI dA) ((0 : Int32), nm, nI f, nI e) v = (v, p, nm, nI f, nI e, nI kA, nI dA, 1) ∧ oj_Mo_inResolution_191 okk (nI kA) (nI dA) ((0 : Int32), nm, nI f, nI e) v := by
  unfold j_Mo_inResolution_191 oj_Mo_inResolution_191
  rw [if_neg hv, if_neg hv]
  exact ⟨rfl, trivial, trivial⟩
theorem x_191C {f e : Nat} (kk : Int32 → Int32 → Int32 → Int32 → Int32 → Int32 → Int32 × Int32 × Int32 × Int32 × Int32 × Int32 × Int32 × Int32) (okk : Int32 → Int32 → Int32 → Int32 → Int32 → Int32 → Prop) (p : Int32) (kA dA : Nat) : j_Mo_inResolution_191 kk p (nI kA) (nI dA) ((0 : Int32), 1919251299, nI f, nI e) 0 = kk (nI e) 1919251299 (nI f) (nI e) (nI f) (nI dA) ∧ (okk (nI e) 1919251299 (nI f) (nI e) (nI f) (nI dA) → oj_Mo_inResolution_191 okk (nI kA) (nI dA) ((0 : Int32), 1919251299, nI f, nI e) 0) := by
  have z : (0 : Int32) ≤ 0 := by decide
  unfold j_Mo_inResolution_191 oj_Mo_inResolution_191
  rw [if_pos z, if_pos z]
  unfold j_Mo_inResolution_223 oj_Mo_inResolution_223 j_Mo_inResolution_247 oj_Mo_inResolution_247
  dsimp only
  simp only [nx_CAPTURE_SIGN, nx_CAPTURE_KIND, nx_CAPTURE_HEAD, nx_CAPTURE_STREAM, nx_CAPTURE_SIZE, nx_CAPTURE_BITS, nx_CAPTURE_COLOUR, nx_CAPTURE_PALETTE, nx_CAPTURE_MAP, nx_CAPTURE_CHANNELS, nx_CAPTURE_RESOLUTION, nx_CAPTURE_DISPLAY, if_true, if_false]
  exact ⟨trivial, id⟩
set_option maxHeartbeats 400000 in
theorem x_rbC {sz nr : Nat} {fw gf : Nat → Int32} {B : Nat → Nat} (hB : HB sz nr fw gf B) {f e : Nat} (hfe : f ≤ e) (he : e ≤ sz) (kk : Int32 → Int32 → Int32 → Int32 → Int32 → Int32 → Int32 × Int32 × Int32 × Int32 × Int32 × Int32 × Int32 × Int32) (okk : Int32 → Int32 → Int32 → Int32 → Int32 → Int32 → Prop) (p : Int32) (kA dA : Nat) (hkA : kA < 65536) (hdA : dA < 65536) :
    k_Mo_inResolution_24 gf kk p (nI kA) (nI dA) ((0 : Int32), 1919251299, nI f, nI e) = (if e - f = 10 then (if kA = 0 then (if avr B f 4 0 = 0 then (5, p, 1919251299, nI f, nI e, nI kA, nI dA, 1) else kk (nI e) 1919251299 (nI f) (nI e) (nI f) (nI dA)) else (4, p, 1919251299, nI f, nI e, nI kA, nI dA, 1)) else (3, p, 1919251299, nI f, nI e, nI kA, nI dA, 1)) ∧ ((e - f = 10 → kA = 0 → ¬ avr B f 4 0 = 0 → okk (nI e) 1919251299 (nI f) (nI e) (nI f) (nI dA)) → ok_Mo_inResolution_24 gf okk (nI kA) (nI dA) ((0 : Int32), 1919251299, nI f, nI e)) := by
  have h1 := hB.1
  have h2 := hB.2.1
  have z1 : ((1 : Int32) = 0) = False := eq_false (by decide)
  have c10 : (nI (e - f) = 10) = (e - f = 10) := by rw [show (10 : Int32) = nI 10 from rfl, q_eq (by omega) (by decide)]
  have ck : (0 < nI kA) = (0 < kA) := by rw [show (0 : Int32) = nI 0 from rfl, q_lt (by decide) (by omega)]
  have cd : (nI dA ≤ 0) = (dA = 0) := h_le0 (by omega)
  have itp : m_Mo_isTop 1919251299 = 0 := by
    unfold m_Mo_isTop
    simp only [nx_CAPTURE_SIGN, nx_CAPTURE_KIND, nx_CAPTURE_HEAD, nx_CAPTURE_STREAM, nx_CAPTURE_SIZE, nx_CAPTURE_BITS, nx_CAPTURE_COLOUR, nx_CAPTURE_PALETTE, nx_CAPTURE_MAP, nx_CAPTURE_CHANNELS, nx_CAPTURE_RESOLUTION, nx_CAPTURE_DISPLAY, if_false]
  have otp : om_Mo_isTop 1919251299 := by
    unfold om_Mo_isTop
    simp only [ite_self]
  have r3 := x_191 (f := f) (e := e) kk okk p 1919251299 kA dA (v := 3) (by decide)
  have r4 := x_191 (f := f) (e := e) kk okk p 1919251299 kA dA (v := 4) (by decide)
  have r5 := x_191 (f := f) (e := e) kk okk p 1919251299 kA dA (v := 5) (by decide)
  have r0 := x_191C (f := f) (e := e) kk okk p kA dA
  unfold k_Mo_inResolution_24 ok_Mo_inResolution_24 j_Mo_inResolution_46 oj_Mo_inResolution_46 j_Mo_inResolution_51 oj_Mo_inResolution_51 k_Mo_inResolution_58 ok_Mo_inResolution_58
  dsimp only
  simp only [nx_CAPTURE_SIGN, nx_CAPTURE_KIND, nx_CAPTURE_HEAD, nx_CAPTURE_STREAM, nx_CAPTURE_SIZE, nx_CAPTURE_BITS, nx_CAPTURE_COLOUR, nx_CAPTURE_PALETTE, nx_CAPTURE_MAP, nx_CAPTURE_CHANNELS, nx_CAPTURE_RESOLUTION, nx_CAPTURE_DISPLAY, if_true, if_false, itp, z1, q_sub hfe, c10, otp, true_and]
  by_cases x : e - f = 10
  · rw [if_pos x, if_pos x, if_pos x]
    have t := x_r129 hB (f := f) (e := e) (by omega) kk okk p (nI kA) (nI dA) 1919251299
    unfold j_Mo_inResolution_91 oj_Mo_inResolution_91 j_Mo_inResolution_107 oj_Mo_inResolution_107 j_Mo_inResolution_127 oj_Mo_inResolution_127 j_Mo_inResolution_123 oj_Mo_inResolution_123 j_Mo_inResolution_128 oj_Mo_inResolution_128
    dsimp only
    simp only [nx_CAPTURE_SIGN, nx_CAPTURE_KIND, nx_CAPTURE_HEAD, nx_CAPTURE_STREAM, nx_CAPTURE_SIZE, nx_CAPTURE_BITS, nx_CAPTURE_COLOUR, nx_CAPTURE_PALETTE, nx_CAPTURE_MAP, nx_CAPTURE_CHANNELS, nx_CAPTURE_RESOLUTION, nx_CAPTURE_DISPLAY, if_true, if_false, ck, cd]
    by_cases y : kA = 0
    · have y1 : ¬ 0 < kA := by omega
      rw [if_neg y1, if_neg y1, if_pos y]
      by_cases w : avr B f 4 0 = 0
      · rw [if_pos w] at t ⊢
        exact ⟨t.1.trans r5.1, fun _ => t.2 r5.2⟩
      · rw [if_neg w] at t ⊢
        exact ⟨t.1.trans r0.1, fun h => t.2 (r0.2 (h x y w))⟩
    · have y1 : 0 < kA := by omega
      rw [if_pos y1, if_pos y1, if_neg y]
      unfold j_Mo_inResolution_129 oj_Mo_inResolution_129
      rw [if_neg (by decide), if_neg (by decide)]
      exact ⟨r4.1, fun _ => r4.2⟩
  · rw [if_neg x, if_neg x, if_neg x]
    unfold j_Mo_inResolution_128 oj_Mo_inResolution_128 j_Mo_inResolution_129 oj_Mo_inResolution_129
    rw [if_neg (by decide), if_neg (by decide)]
    exact ⟨r3.1, fun _ => r3.2⟩
theorem x_191D {f e : Nat} (kk : Int32 → Int32 → Int32 → Int32 → Int32 → Int32 → Int32 × Int32 × Int32 × Int32 × Int32 × Int32 × Int32 × Int32) (okk : Int32 → Int32 → Int32 → Int32 → Int32 → Int32 → Prop) (p : Int32) (kA dA : Nat) : j_Mo_inResolution_191 kk p (nI kA) (nI dA) ((0 : Int32), 1919251300, nI f, nI e) 0 = kk (nI e) 1919251300 (nI f) (nI e) (nI kA) (nI f) ∧ (okk (nI e) 1919251300 (nI f) (nI e) (nI kA) (nI f) → oj_Mo_inResolution_191 okk (nI kA) (nI dA) ((0 : Int32), 1919251300, nI f, nI e) 0) := by
  have z : (0 : Int32) ≤ 0 := by decide
  unfold j_Mo_inResolution_191 oj_Mo_inResolution_191
  rw [if_pos z, if_pos z]
  unfold j_Mo_inResolution_223 oj_Mo_inResolution_223 j_Mo_inResolution_247 oj_Mo_inResolution_247
  dsimp only
  simp only [nx_DISPLAY_SIGN, nx_DISPLAY_KIND, nx_DISPLAY_HEAD, nx_DISPLAY_STREAM, nx_DISPLAY_SIZE, nx_DISPLAY_BITS, nx_DISPLAY_COLOUR, nx_DISPLAY_PALETTE, nx_DISPLAY_MAP, nx_DISPLAY_CHANNELS, nx_DISPLAY_RESOLUTION, nx_DISPLAY_CAPTURE, if_true, if_false]
  exact ⟨trivial, id⟩
set_option maxHeartbeats 400000 in
theorem x_rbD {sz nr : Nat} {fw gf : Nat → Int32} {B : Nat → Nat} (hB : HB sz nr fw gf B) {f e : Nat} (hfe : f ≤ e) (he : e ≤ sz) (kk : Int32 → Int32 → Int32 → Int32 → Int32 → Int32 → Int32 × Int32 × Int32 × Int32 × Int32 × Int32 × Int32 × Int32) (okk : Int32 → Int32 → Int32 → Int32 → Int32 → Int32 → Prop) (p : Int32) (kA dA : Nat) (hkA : kA < 65536) (hdA : dA < 65536) :
    k_Mo_inResolution_24 gf kk p (nI kA) (nI dA) ((0 : Int32), 1919251300, nI f, nI e) = (if e - f = 10 then (if dA = 0 then (if avr B f 4 0 = 0 then (5, p, 1919251300, nI f, nI e, nI kA, nI dA, 1) else kk (nI e) 1919251300 (nI f) (nI e) (nI kA) (nI f)) else (4, p, 1919251300, nI f, nI e, nI kA, nI dA, 1)) else (3, p, 1919251300, nI f, nI e, nI kA, nI dA, 1)) ∧ ((e - f = 10 → dA = 0 → ¬ avr B f 4 0 = 0 → okk (nI e) 1919251300 (nI f) (nI e) (nI kA) (nI f)) → ok_Mo_inResolution_24 gf okk (nI kA) (nI dA) ((0 : Int32), 1919251300, nI f, nI e)) := by
  have h1 := hB.1
  have h2 := hB.2.1
  have z1 : ((1 : Int32) = 0) = False := eq_false (by decide)
  have c10 : (nI (e - f) = 10) = (e - f = 10) := by rw [show (10 : Int32) = nI 10 from rfl, q_eq (by omega) (by decide)]
  have ck : (0 < nI kA) = (0 < kA) := by rw [show (0 : Int32) = nI 0 from rfl, q_lt (by decide) (by omega)]
  have cd : (nI dA ≤ 0) = (dA = 0) := h_le0 (by omega)
  have itp : m_Mo_isTop 1919251300 = 0 := by
    unfold m_Mo_isTop
    simp only [nx_DISPLAY_SIGN, nx_DISPLAY_KIND, nx_DISPLAY_HEAD, nx_DISPLAY_STREAM, nx_DISPLAY_SIZE, nx_DISPLAY_BITS, nx_DISPLAY_COLOUR, nx_DISPLAY_PALETTE, nx_DISPLAY_MAP, nx_DISPLAY_CHANNELS, nx_DISPLAY_RESOLUTION, nx_DISPLAY_CAPTURE, if_false]
  have otp : om_Mo_isTop 1919251300 := by
    unfold om_Mo_isTop
    simp only [ite_self]
  have r3 := x_191 (f := f) (e := e) kk okk p 1919251300 kA dA (v := 3) (by decide)
  have r4 := x_191 (f := f) (e := e) kk okk p 1919251300 kA dA (v := 4) (by decide)
  have r5 := x_191 (f := f) (e := e) kk okk p 1919251300 kA dA (v := 5) (by decide)
  have r0 := x_191D (f := f) (e := e) kk okk p kA dA
  unfold k_Mo_inResolution_24 ok_Mo_inResolution_24 j_Mo_inResolution_46 oj_Mo_inResolution_46 j_Mo_inResolution_51 oj_Mo_inResolution_51 k_Mo_inResolution_58 ok_Mo_inResolution_58
  dsimp only
  simp only [nx_DISPLAY_SIGN, nx_DISPLAY_KIND, nx_DISPLAY_HEAD, nx_DISPLAY_STREAM, nx_DISPLAY_SIZE, nx_DISPLAY_BITS, nx_DISPLAY_COLOUR, nx_DISPLAY_PALETTE, nx_DISPLAY_MAP, nx_DISPLAY_CHANNELS, nx_DISPLAY_RESOLUTION, nx_DISPLAY_CAPTURE, if_true, if_false, itp, z1, q_sub hfe, c10, otp, true_and]
  by_cases x : e - f = 10
  · rw [if_pos x, if_pos x, if_pos x]
    have t := x_r129 hB (f := f) (e := e) (by omega) kk okk p (nI kA) (nI dA) 1919251300
    unfold j_Mo_inResolution_91 oj_Mo_inResolution_91 j_Mo_inResolution_107 oj_Mo_inResolution_107 j_Mo_inResolution_127 oj_Mo_inResolution_127 j_Mo_inResolution_123 oj_Mo_inResolution_123 j_Mo_inResolution_128 oj_Mo_inResolution_128
    dsimp only
    simp only [nx_DISPLAY_SIGN, nx_DISPLAY_KIND, nx_DISPLAY_HEAD, nx_DISPLAY_STREAM, nx_DISPLAY_SIZE, nx_DISPLAY_BITS, nx_DISPLAY_COLOUR, nx_DISPLAY_PALETTE, nx_DISPLAY_MAP, nx_DISPLAY_CHANNELS, nx_DISPLAY_RESOLUTION, nx_DISPLAY_CAPTURE, if_true, if_false, ck, cd]
    by_cases y : dA = 0
    · have y1 : ¬ 0 < dA := by omega
      rw [if_pos y, if_pos y, if_pos y]
      by_cases w : avr B f 4 0 = 0
      · rw [if_pos w] at t ⊢
        exact ⟨t.1.trans r5.1, fun _ => t.2 r5.2⟩
      · rw [if_neg w] at t ⊢
        exact ⟨t.1.trans r0.1, fun h => t.2 (r0.2 (h x y w))⟩
    · have y1 : 0 < dA := by omega
      rw [if_neg y, if_neg y, if_neg y]
      unfold j_Mo_inResolution_129 oj_Mo_inResolution_129
      rw [if_neg (by decide), if_neg (by decide)]
      exact ⟨r4.1, fun _ => r4.2⟩
  · rw [if_neg x, if_neg x, if_neg x]
    unfold j_Mo_inResolution_128 oj_Mo_inResolution_128 j_Mo_inResolution_129 oj_Mo_inResolution_129
    rw [if_neg (by decide), if_neg (by decide)]
    exact ⟨r3.1, fun _ => r3.2⟩
theorem x_rbT {sz nr : Nat} {fw gf : Nat → Int32} {B : Nat → Nat} (hB : HB sz nr fw gf B) {f e : Nat} (hfe : f ≤ e) (he : e ≤ sz) (kk : Int32 → Int32 → Int32 → Int32 → Int32 → Int32 → Int32 × Int32 × Int32 × Int32 × Int32 × Int32 × Int32 × Int32) (okk : Int32 → Int32 → Int32 → Int32 → Int32 → Int32 → Prop) (p : Int32) (kA dA : Nat) (hkA : kA < 65536) (hdA : dA < 65536) (nm : Int32) (hT : m_Mo_isTop nm = 1) (hc : (nm = 1919251299) = False) (hd : (nm = 1919251300) = False) :
    k_Mo_inResolution_24 gf kk p (nI kA) (nI dA) ((0 : Int32), nm, nI f, nI e) = (2, p, nm, nI f, nI e, nI kA, nI dA, 1) ∧ ok_Mo_inResolution_24 gf okk (nI kA) (nI dA) ((0 : Int32), nm, nI f, nI e) := by
  have z1 : ((1 : Int32) = 0) = False := eq_false (by decide)
  have otp : om_Mo_isTop nm := by
    unfold om_Mo_isTop
    simp only [ite_self]
  have r2 := x_191 (f := f) (e := e) kk okk p nm kA dA (v := 2) (by decide)
  unfold k_Mo_inResolution_24 ok_Mo_inResolution_24 j_Mo_inResolution_51 oj_Mo_inResolution_51 k_Mo_inResolution_58 ok_Mo_inResolution_58
  dsimp only
  simp only [hc, hd, if_true, if_false, hT, z1, otp, true_and]
  unfold j_Mo_inResolution_128 oj_Mo_inResolution_128 j_Mo_inResolution_129 oj_Mo_inResolution_129
  rw [if_neg (by decide), if_neg (by decide)]
  exact r2
theorem x_rbO {sz nr : Nat} {fw gf : Nat → Int32} {B : Nat → Nat} (hB : HB sz nr fw gf B) {f e : Nat} (hfe : f ≤ e) (he : e ≤ sz) (kk : Int32 → Int32 → Int32 → Int32 → Int32 → Int32 → Int32 × Int32 × Int32 × Int32 × Int32 × Int32 × Int32 × Int32) (okk : Int32 → Int32 → Int32 → Int32 → Int32 → Int32 → Prop) (p : Int32) (kA dA : Nat) (hkA : kA < 65536) (hdA : dA < 65536) (nm : Int32) (hT : m_Mo_isTop nm = 0) (hc : (nm = 1919251299) = False) (hd : (nm = 1919251300) = False) :
    k_Mo_inResolution_24 gf kk p (nI kA) (nI dA) ((0 : Int32), nm, nI f, nI e) = kk (nI e) nm (nI f) (nI e) (nI kA) (nI dA) ∧ (okk (nI e) nm (nI f) (nI e) (nI kA) (nI dA) → ok_Mo_inResolution_24 gf okk (nI kA) (nI dA) ((0 : Int32), nm, nI f, nI e)) := by
  have z : (0 : Int32) ≤ 0 := by decide
  have otp : om_Mo_isTop nm := by
    unfold om_Mo_isTop
    simp only [ite_self]
  unfold k_Mo_inResolution_24 ok_Mo_inResolution_24 j_Mo_inResolution_51 oj_Mo_inResolution_51 k_Mo_inResolution_58 ok_Mo_inResolution_58
  dsimp only
  simp only [hc, hd, if_true, if_false, hT, otp, true_and]
  unfold j_Mo_inResolution_91 oj_Mo_inResolution_91 j_Mo_inResolution_107 oj_Mo_inResolution_107 j_Mo_inResolution_127 oj_Mo_inResolution_127 j_Mo_inResolution_128 oj_Mo_inResolution_128 j_Mo_inResolution_129 oj_Mo_inResolution_129
  dsimp only
  simp only [hc, hd, if_true, if_false]
  unfold j_Mo_inResolution_191 oj_Mo_inResolution_191 j_Mo_inResolution_223 oj_Mo_inResolution_223 j_Mo_inResolution_247 oj_Mo_inResolution_247
  dsimp only
  simp only [hc, hd, if_false]
  rw [if_pos z, if_pos z]
  exact ⟨rfl, id⟩
/-- a box of RESOLUTION, on both sides -/
def RBox (sz nr : Nat) (fw gf : Nat → Int32) (B : Nat → Nat) (f e : Nat) (kk : Int32 → Int32 → Int32 → Int32 → Int32 → Int32 → Int32 × Int32 × Int32 × Int32 × Int32 × Int32 × Int32 × Int32) (okk : Int32 → Int32 → Int32 → Int32 → Int32 → Int32 → Prop) (p : Int32) (kA dA : Nat) (nm se : Int32) (fd fc : Nat → Int32) : Prop :=
  ∃ (r se2 : Int32) (fd2 fc2 : Nat → Int32) (kA2 dA2 : Nat), m_Sc_readInResolution se nm (nI f) (nI e) (nI sz) nr fw 6 fd 6 fc = (r, se2, fd2, fc2)
  ∧ k_Mo_inResolution_24 gf kk p (nI kA) (nI dA) ((0 : Int32), nm, nI f, nI e) = (if r = 0 then kk (nI e) nm (nI f) (nI e) (nI kA2) (nI dA2) else (r, p, nm, nI f, nI e, nI kA, nI dA, 1))
  ∧ ((r = 0 → okk (nI e) nm (nI f) (nI e) (nI kA2) (nI dA2)) → ok_Mo_inResolution_24 gf okk (nI kA) (nI dA) ((0 : Int32), nm, nI f, nI e)) ∧ 0 ≤ r
  ∧ (r = 0 → (kA = 0 ∧ kA2 = f ∧ dA2 = dA ∧ se2 = se ||| 128 ∧ fd2 = fd ∧ e = f + 10 ∧ RatN B f fc2) ∨ (dA = 0 ∧ dA2 = f ∧ kA2 = kA ∧ se2 = se ||| 256 ∧ fc2 = fc ∧ e = f + 10 ∧ RatN B f fd2) ∨ (kA2 = kA ∧ dA2 = dA ∧ se2 = se ∧ fd2 = fd ∧ fc2 = fc))
set_option maxHeartbeats 1000000 in
theorem x_rbox {sz nr : Nat} {fw gf : Nat → Int32} {B : Nat → Nat} (hB : HB sz nr fw gf B) {f e : Nat} (hfe : f ≤ e) (he : e ≤ sz) (kk : Int32 → Int32 → Int32 → Int32 → Int32 → Int32 → Int32 × Int32 × Int32 × Int32 × Int32 × Int32 × Int32 × Int32) (okk : Int32 → Int32 → Int32 → Int32 → Int32 → Int32 → Prop) (p : Int32) (kA dA : Nat) (hkA : kA < 65536) (hdA : dA < 65536) (nm se : Int32) (hsk : m_Sc_was se 128 = if kA = 0 then 0 else 1) (hsd : m_Sc_was se 256 = if dA = 0 then 0 else 1) (fd fc : Nat → Int32) : RBox sz nr fw gf B f e kk okk p kA dA nm se fd fc := by
  unfold RBox
  by_cases nc : nm = 1919251299
  · subst nc
    obtain ⟨fr2, a1, a2⟩ := x_ratio hB hfe he se 128 kA hsk fc
    have b := x_rbC hB hfe he kk okk p kA dA hkA hdA
    have cl : m_Sc_readInResolution se 1919251299 (nI f) (nI e) (nI sz) nr fw 6 fd 6 fc = ((if e - f = 10 then (if kA = 0 then (if avr B f 4 0 = 0 then 5 else 0) else 4) else 3), (if e - f = 10 ∧ kA = 0 then se ||| 128 else se), fd, fr2) := by
      unfold m_Sc_readInResolution
      simp only [nx_CAPTURE_SIGN, nx_CAPTURE_KIND, nx_CAPTURE_HEAD, nx_CAPTURE_STREAM, nx_CAPTURE_SIZE, nx_CAPTURE_BITS, nx_CAPTURE_COLOUR, nx_CAPTURE_PALETTE, nx_CAPTURE_MAP, nx_CAPTURE_CHANNELS, nx_CAPTURE_RESOLUTION, nx_CAPTURE_DISPLAY, if_true, if_false]
      unfold k_Sc_readInResolution_77
      rw [a1]
    by_cases x : e - f = 10
    · rw [if_pos x] at b cl
      by_cases y : kA = 0
      · rw [if_pos y] at b cl
        rw [if_pos (show e - f = 10 ∧ kA = 0 from ⟨x, y⟩)] at cl
        by_cases w : avr B f 4 0 = 0
        · rw [if_pos w] at b cl
          exact ⟨5, _, _, _, 0, 0, cl, b.1, fun _ => b.2 (fun _ _ q => absurd w q), by decide, fun q => absurd q (by decide)⟩
        · rw [if_neg w] at b cl
          exact ⟨0, _, _, _, f, dA, cl, b.1, fun h => b.2 (fun _ _ _ => h rfl), by decide, fun _ => Or.inl ⟨y, rfl, rfl, rfl, rfl, by omega, a2 x y w⟩⟩
      · rw [if_neg y] at b cl
        rw [if_neg (show ¬ (e - f = 10 ∧ kA = 0) from fun q => y q.2)] at cl
        exact ⟨4, _, _, _, 0, 0, cl, b.1, fun _ => b.2 (fun _ q => absurd q y), by decide, fun q => absurd q (by decide)⟩
    · rw [if_neg x] at b cl
      rw [if_neg (show ¬ (e - f = 10 ∧ kA = 0) from fun q => x q.1)] at cl
      exact ⟨3, _, _, _, 0, 0, cl, b.1, fun _ => b.2 (fun q => absurd q x), by decide, fun q => absurd q (by decide)⟩
  · by_cases nd : nm = 1919251300
    · subst nd
      obtain ⟨fr2, a1, a2⟩ := x_ratio hB hfe he se 256 dA hsd fd
      have b := x_rbD hB hfe he kk okk p kA dA hkA hdA
      have cl : m_Sc_readInResolution se 1919251300 (nI f) (nI e) (nI sz) nr fw 6 fd 6 fc = ((if e - f = 10 then (if dA = 0 then (if avr B f 4 0 = 0 then 5 else 0) else 4) else 3), (if e - f = 10 ∧ dA = 0 then se ||| 256 else se), fr2, fc) := by
        unfold m_Sc_readInResolution
        simp only [nx_DISPLAY_SIGN, nx_DISPLAY_KIND, nx_DISPLAY_HEAD, nx_DISPLAY_STREAM, nx_DISPLAY_SIZE, nx_DISPLAY_BITS, nx_DISPLAY_COLOUR, nx_DISPLAY_PALETTE, nx_DISPLAY_MAP, nx_DISPLAY_CHANNELS, nx_DISPLAY_RESOLUTION, nx_DISPLAY_CAPTURE, if_true, if_false]
        unfold k_Sc_readInResolution_92
        rw [a1]
      by_cases x : e - f = 10
      · rw [if_pos x] at b cl
        by_cases y : dA = 0
        · rw [if_pos y] at b cl
          rw [if_pos (show e - f = 10 ∧ dA = 0 from ⟨x, y⟩)] at cl
          by_cases w : avr B f 4 0 = 0
          · rw [if_pos w] at b cl
            exact ⟨5, _, _, _, 0, 0, cl, b.1, fun _ => b.2 (fun _ _ q => absurd w q), by decide, fun q => absurd q (by decide)⟩
          · rw [if_neg w] at b cl
            exact ⟨0, _, _, _, kA, f, cl, b.1, fun h => b.2 (fun _ _ _ => h rfl), by decide, fun _ => Or.inr (Or.inl ⟨y, rfl, rfl, rfl, rfl, by omega, a2 x y w⟩)⟩
        · rw [if_neg y] at b cl
          rw [if_neg (show ¬ (e - f = 10 ∧ dA = 0) from fun q => y q.2)] at cl
          exact ⟨4, _, _, _, 0, 0, cl, b.1, fun _ => b.2 (fun _ q => absurd q y), by decide, fun q => absurd q (by decide)⟩
      · rw [if_neg x] at b cl
        rw [if_neg (show ¬ (e - f = 10 ∧ dA = 0) from fun q => x q.1)] at cl
        exact ⟨3, _, _, _, 0, 0, cl, b.1, fun _ => b.2 (fun q => absurd q x), by decide, fun q => absurd q (by decide)⟩
    · have hc := eq_false nc
      have hd := eq_false nd
      by_cases t1 : nm = 1783636000 ∨ nm = 1718909296 ∨ nm = 1785737832 ∨ nm = 1785737827
      · have hT : m_Mo_isTop nm = 1 := by
          rcases t1 with rfl | rfl | rfl | rfl <;> decide
        have cl : m_Sc_readInResolution se nm (nI f) (nI e) (nI sz) nr fw 6 fd 6 fc = (2, se, fd, fc) := by
          rcases t1 with rfl | rfl | rfl | rfl <;> rfl
        have b := x_rbT hB hfe he kk okk p kA dA hkA hdA nm hT hc hd
        exact ⟨2, _, _, _, 0, 0, cl, b.1, fun _ => b.2, by decide, fun q => absurd q (by decide)⟩
      · have q1 := eq_false (fun q => t1 (Or.inl q))
        have q2 := eq_false (fun q => t1 (Or.inr (Or.inl q)))
        have q3 := eq_false (fun q => t1 (Or.inr (Or.inr (Or.inl q))))
        have q4 := eq_false (fun q => t1 (Or.inr (Or.inr (Or.inr q))))
        have hT : m_Mo_isTop nm = 0 := by
          unfold m_Mo_isTop
          simp only [q1, q2, q3, q4, if_false]
        have cl : m_Sc_readInResolution se nm (nI f) (nI e) (nI sz) nr fw 6 fd 6 fc = (0, se, fd, fc) := by
          unfold m_Sc_readInResolution
          simp only [q1, q2, q3, q4, hc, hd, if_false]
        have b := x_rbO hB hfe he kk okk p kA dA hkA hdA nm hT hc hd
        exact ⟨0, _, _, _, kA, dA, cl, b.1, fun h => b.2 (h rfl), by decide, fun _ => Or.inr (Or.inr ⟨rfl, rfl, rfl, rfl, rfl⟩)⟩
