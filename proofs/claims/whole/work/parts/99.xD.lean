/-- BITS: a row of bytes that are all bits -/
def abt (B : Nat → Nat) : Nat → Nat → Int32
  | 0, _ => 1
  | d + 1, p => if B p % 128 ≤ 37 then abt B d (p + 1) else 0
theorem abt_01 (B : Nat → Nat) : ∀ d p, abt B d p = 0 ∨ abt B d p = 1
  | 0, _ => Or.inr rfl
  | d + 1, p => by
    show (if B p % 128 ≤ 37 then abt B d (p + 1) else 0) = 0 ∨ (if B p % 128 ≤ 37 then abt B d (p + 1) else 0) = 1
    by_cases a : B p % 128 ≤ 37
    · rw [if_pos a]; exact abt_01 B d (p + 1)
    · rw [if_neg a]; exact Or.inl rfl
theorem abt_all {B : Nat → Nat} : ∀ d p, ¬ abt B d p = 0 → ∀ k, k < d → B (p + k) % 128 ≤ 37
  | 0, _, _, k, hk => by omega
  | d + 1, p, h, k, hk => by
    have h2 : ¬ (if B p % 128 ≤ 37 then abt B d (p + 1) else 0) = 0 := h
    by_cases a : B p % 128 ≤ 37
    · rw [if_pos a] at h2
      by_cases z : k = 0
      · rw [z]; exact a
      · have t := abt_all d (p + 1) h2 (k - 1) (by omega)
        rw [show p + 1 + (k - 1) = p + k by omega] at t
        exact t
    · rw [if_neg a] at h2; exact absurd rfl h2
theorem x_b202 {sz nr : Nat} {fw gf : Nat → Int32} {B : Nat → Nat} (hB : HB sz nr fw gf B) {e : Nat} (he : e ≤ sz) : ∀ (d p : Nat) (v : Int32), p + d = e → (v = 0 ∨ v = 1) →
    lp_Mo_isValue_202 (nI e) gf (d + 1) (nI p) v = (if v = 0 then 0 else abt B d p) ∧ olp_Mo_isValue_202 (nI e) gf (d + 1) (nI p) v
  | 0, p, v, h, hv => by
    have h1 := hB.1
    have h2 := hB.2.1
    have k : nI e ≤ nI p := by rw [q_le (by omega) (by omega)]; omega
    have n := n_b1 hv
    show lb_Mo_isValue_202 (nI e) gf (lp_Mo_isValue_202 (nI e) gf 0) (nI p) v = (if v = 0 then 0 else 1) ∧ olb_Mo_isValue_202 (nI e) gf (olp_Mo_isValue_202 (nI e) gf 0) (nI p) v
    unfold lb_Mo_isValue_202 olb_Mo_isValue_202
    rw [if_pos k, if_pos k]
    refine ⟨?_, n, trivial⟩
    rcases hv with rfl | rfl <;> rfl
  | d + 1, p, v, h, hv => by
    have h1 := hB.1
    have h2 := hB.2.1
    have k : ¬ nI e ≤ nI p := by rw [q_le (by omega) (by omega)]; omega
    have ab := q_bits256 ⟨B p, hB.2.2.1 p⟩
    have i0 := x_b202 hB he d (p + 1) 0 (by omega) (Or.inl rfl)
    have i1 := x_b202 hB he d (p + 1) 1 (by omega) (Or.inr rfl)
    have z0 : (0 : Int32) = 0 := rfl
    have z1 : ¬ (1 : Int32) = 0 := by decide
    rw [if_pos z0] at i0
    rw [if_neg z1] at i1
    show lb_Mo_isValue_202 (nI e) gf (lp_Mo_isValue_202 (nI e) gf (d + 1)) (nI p) v = (if v = 0 then 0 else if B p % 128 ≤ 37 then abt B d (p + 1) else 0) ∧ olb_Mo_isValue_202 (nI e) gf (olp_Mo_isValue_202 (nI e) gf (d + 1)) (nI p) v
    unfold lb_Mo_isValue_202 olb_Mo_isValue_202 k_Mo_isValue_220 ok_Mo_isValue_220 j_Mo_isValue_230 oj_Mo_isValue_230
    rw [if_neg k, if_neg k, q_cl (by omega), q_in (by omega), (hB.2.2.2 p (by omega)).2, ← nI_succ, ab.2]
    rcases hv with rfl | rfl
    · rw [if_pos z0, if_pos z0, if_pos z0]; exact i0
    · rw [if_neg z1, if_neg z1, if_neg z1]
      by_cases a : B p % 128 ≤ 37
      · rw [if_pos a, if_neg z1, if_neg z1, if_pos a]
        simp only [q_oab, true_and]
        exact ⟨i1.1, by omega, i1.2⟩
      · rw [if_neg a, if_pos z0, if_pos z0, if_neg a]
        simp only [q_oab, true_and]
        exact ⟨i0.1, by omega, i0.2⟩
theorem x_b50 {sz nr : Nat} {fw gf : Nat → Int32} {B : Nat → Nat} (hB : HB sz nr fw gf B) {f c : Nat} (hf : f + c ≤ sz) (hc : c ≤ 16) (se : Int32) : ∀ (d j : Nat) (fb : Nat → Int32), j + d = c →
    ∃ fb2, lp_Sc_readBits_50 se (nI f) (nI c) (nI sz) nr fw 16 (d + 1) (nI j) fb = (if abt B d (f + j) = 0 then 5 else 0, se ||| 4, fb2) ∧ (¬ abt B d (f + j) = 0 → ∀ k, k < c → fb2 k = if j ≤ k then nI (B (f + k)) else fb k)
  | 0, j, fb, h => by
    have k : nI c ≤ nI j := by rw [q_le (by omega) (by omega)]; omega
    refine ⟨fb, ?_, fun _ k hk => ?_⟩
    · show lb_Sc_readBits_50 se (nI f) (nI c) (nI sz) nr fw 16 (lp_Sc_readBits_50 se (nI f) (nI c) (nI sz) nr fw 16 0) (nI j) fb = _
      unfold lb_Sc_readBits_50
      rw [if_pos k]; rfl
    · rw [if_neg (by omega)]
  | d + 1, j, fb, h => by
    have h1 := hB.1
    have h2 := hB.2.1
    have k : ¬ nI c ≤ nI j := by rw [q_le (by omega) (by omega)]; omega
    have ab := q_bits256 ⟨B (f + j), hB.2.2.1 (f + j)⟩
    obtain ⟨fb2, i1, i2⟩ := x_b50 hB hf hc se d (j + 1) (upd fb j (nI (B (f + j)))) (by omega)
    have e1 : abt B (d + 1) (f + j) = if B (f + j) % 128 ≤ 37 then abt B d (f + (j + 1)) else 0 := rfl
    have e2 : lp_Sc_readBits_50 se (nI f) (nI c) (nI sz) nr fw 16 (d + 1 + 1) (nI j) fb = if (if B (f + j) % 128 ≤ 37 then (1 : Int32) else 0) = 0 then (5, se ||| 4, fb) else lp_Sc_readBits_50 se (nI f) (nI c) (nI sz) nr fw 16 (d + 1) (nI (j + 1)) (upd fb j (nI (B (f + j)))) := by
      show lb_Sc_readBits_50 se (nI f) (nI c) (nI sz) nr fw 16 (lp_Sc_readBits_50 se (nI f) (nI c) (nI sz) nr fw 16 (d + 1)) (nI j) fb = _
      unfold lb_Sc_readBits_50 k_Sc_readBits_71 k_Sc_readBits_76 k_Sc_readBits_93
      rw [if_neg k, q_add, s_byte hB (by omega), ab.1, q_setIn (by decide) (by omega), ← nI_succ]
    rw [e1, e2]
    by_cases a : B (f + j) % 128 ≤ 37
    · rw [if_pos a, if_pos a, if_neg (by decide), i1]
      refine ⟨fb2, rfl, fun q k hk => ?_⟩
      rw [i2 q k hk]
      by_cases x : k = j
      · rw [if_neg (by omega), if_pos (by omega), x, q_upd]
      · by_cases y : j ≤ k
        · rw [if_pos y, if_pos (by omega)]
        · rw [if_neg y, if_neg (by omega), q_upn _ _ x]
    · rw [if_neg a, if_neg a, if_pos rfl]
      exact ⟨fb, rfl, fun q => absurd rfl q⟩
set_option maxHeartbeats 1000000 in
theorem x_bits {sz nr : Nat} {fw gf : Nat → Int32} {B : Nat → Nat} (hB : HB sz nr fw gf B) {f e zN : Nat} (hfe : f ≤ e) (he : e ≤ sz) (hz : zN + 14 ≤ sz) (hc0 : 1 ≤ UB B (zN + 8) 2) (hc : UB B (zN + 8) 2 ≤ 16) (se cA pA mA hA rsv : Int32) (bA : Nat) (hbA : bA < 65536) (hbs : m_Sc_was se 4 = if bA = 0 then 0 else 1) (fb : Nat → Int32) :
    ∃ (r se2 : Int32) (fb2 : Nat → Int32), m_Sc_readBits se (nI (B (zN + 10))) (nI f) (nI e) (nI (UB B (zN + 8) 2)) (nI sz) nr fw 16 fb = (r, se2, fb2)
    ∧ r = hdWhy (m_Mo_isWrong 1651532643 (nI zN) pA gf 0) (m_Mo_fitsHead 1651532643 (nI f) (nI e) (nI zN) gf) (m_Mo_isTwice 1651532643 (nI bA) pA mA hA rsv) (m_Mo_isGreat 1651532643 (nI f) (nI e) cA gf) (m_Mo_isValue 1651532643 (nI f) (nI e) (nI zN) pA gf)
    ∧ hdOk gf 0 (nI zN) (nI bA) cA pA mA hA rsv 1651532643 (nI f) (nI e)
    ∧ (r = 0 → e = f + UB B (zN + 8) 2 ∧ bA = 0 ∧ se2 = se ||| 4 ∧ ∀ k, k < UB B (zN + 8) 2 → fb2 k = nI (B (f + k))) := by
  have h1 := hB.1
  have h2 := hB.2.1
  have t10 := hB.2.2.1 (zN + 10)
  have u3 : m_Mo_u2 gf (nI zN + 8) = nI (UB B (zN + 8) 2) ∧ om_Mo_u2 (nI zN + 8) := by rw [show (8 : Int32) = nI 8 from rfl, q_add]; exact s_u2 hB (by omega)
  have g10 : gf (nI zN + 10).toNatClampNeg = nI (B (zN + 10)) := by rw [show (10 : Int32) = nI 10 from rfl, q_add, q_cl (by omega)]; exact (hB.2.2.2 _ (by omega)).2
  have v10 : vp_in (nI zN + 10) 65536 := by rw [show (10 : Int32) = nI 10 from rfl, q_add, q_in (by omega)]; omega
  have d1 : (nI (B (zN + 10)) = 255) = (B (zN + 10) = 255) := by rw [show (255 : Int32) = nI 255 from rfl, q_eq (by omega) (by decide)]
  have cE : (nI (e - f) = nI (UB B (zN + 8) 2)) = (e - f = UB B (zN + 8) 2) := q_eq (by omega) (by omega)
  have cb : (0 < nI bA) = (0 < bA) := by rw [show (0 : Int32) = nI 0 from rfl, q_lt (by decide) (by omega)]
  have wr : m_Mo_isWrong 1651532643 (nI zN) pA gf 0 = if B (zN + 10) = 255 then 0 else 1 := by
    unfold m_Mo_isWrong j_Mo_isWrong_35 k_Mo_isWrong_41 j_Mo_isWrong_78 m_Mo_isTop
    simp only [nx_BITS_SIGN, nx_BITS_KIND, nx_BITS_HEAD, nx_BITS_STREAM, nx_BITS_SIZE, nx_BITS_COLOUR, nx_BITS_PALETTE, nx_BITS_MAP, nx_BITS_CHANNELS, nx_BITS_RESOLUTION, nx_BITS_CAPTURE, nx_BITS_DISPLAY, if_true, if_false, g10, d1]
  have owr : om_Mo_isWrong 1651532643 (nI zN) pA gf 0 := by
    unfold om_Mo_isWrong oj_Mo_isWrong_35 ok_Mo_isWrong_41 oj_Mo_isWrong_78 om_Mo_isTop m_Mo_isTop
    simp only [nx_BITS_SIGN, nx_BITS_KIND, nx_BITS_HEAD, nx_BITS_STREAM, nx_BITS_SIZE, nx_BITS_COLOUR, nx_BITS_PALETTE, nx_BITS_MAP, nx_BITS_CHANNELS, nx_BITS_RESOLUTION, nx_BITS_CAPTURE, nx_BITS_DISPLAY, if_true, if_false, ite_self, v10, and_self]
  have fi : m_Mo_fitsHead 1651532643 (nI f) (nI e) (nI zN) gf = if e - f = UB B (zN + 8) 2 then 1 else 0 := by
    unfold m_Mo_fitsHead k_Mo_fitsHead_93
    simp only [nx_BITS_SIGN, nx_BITS_KIND, nx_BITS_HEAD, nx_BITS_STREAM, nx_BITS_SIZE, nx_BITS_COLOUR, nx_BITS_PALETTE, nx_BITS_MAP, nx_BITS_CHANNELS, nx_BITS_RESOLUTION, nx_BITS_CAPTURE, nx_BITS_DISPLAY, if_true, if_false, q_sub hfe, u3.1, cE]
  have ofi : om_Mo_fitsHead 1651532643 (nI f) (nI e) (nI zN) gf := by
    unfold om_Mo_fitsHead ok_Mo_fitsHead_93
    simp only [nx_BITS_SIGN, nx_BITS_KIND, nx_BITS_HEAD, nx_BITS_STREAM, nx_BITS_SIZE, nx_BITS_COLOUR, nx_BITS_PALETTE, nx_BITS_MAP, nx_BITS_CHANNELS, nx_BITS_RESOLUTION, nx_BITS_CAPTURE, nx_BITS_DISPLAY, if_true, if_false, ite_self, u3.2, and_self]
  have tw : m_Mo_isTwice 1651532643 (nI bA) pA mA hA rsv = if bA = 0 then 0 else 1 := by
    unfold m_Mo_isTwice j_Mo_isTwice_16 j_Mo_isTwice_32 j_Mo_isTwice_48 j_Mo_isTwice_64
    simp only [nx_BITS_SIGN, nx_BITS_KIND, nx_BITS_HEAD, nx_BITS_STREAM, nx_BITS_SIZE, nx_BITS_COLOUR, nx_BITS_PALETTE, nx_BITS_MAP, nx_BITS_CHANNELS, nx_BITS_RESOLUTION, nx_BITS_CAPTURE, nx_BITS_DISPLAY, if_true, if_false, cb]
    by_cases x : bA = 0
    · rw [if_pos x, if_neg (by omega)]
    · rw [if_neg x, if_pos (by omega)]
  have otw : om_Mo_isTwice 1651532643 (nI bA) pA mA hA rsv := by
    unfold om_Mo_isTwice oj_Mo_isTwice_16 oj_Mo_isTwice_32 oj_Mo_isTwice_48 oj_Mo_isTwice_64
    simp only [nx_BITS_SIGN, nx_BITS_KIND, nx_BITS_HEAD, nx_BITS_STREAM, nx_BITS_SIZE, nx_BITS_COLOUR, nx_BITS_PALETTE, nx_BITS_MAP, nx_BITS_CHANNELS, nx_BITS_RESOLUTION, nx_BITS_CAPTURE, nx_BITS_DISPLAY, if_true, if_false, ite_self]
  have gr : m_Mo_isGreat 1651532643 (nI f) (nI e) cA gf = 0 := by
    unfold m_Mo_isGreat
    simp only [nx_BITS_SIGN, nx_BITS_KIND, nx_BITS_HEAD, nx_BITS_STREAM, nx_BITS_SIZE, nx_BITS_COLOUR, nx_BITS_PALETTE, nx_BITS_MAP, nx_BITS_CHANNELS, nx_BITS_RESOLUTION, nx_BITS_CAPTURE, nx_BITS_DISPLAY, if_false]
  have ogr : om_Mo_isGreat 1651532643 (nI f) (nI e) cA gf := by
    unfold om_Mo_isGreat
    simp only [nx_BITS_SIGN, nx_BITS_KIND, nx_BITS_HEAD, nx_BITS_STREAM, nx_BITS_SIZE, nx_BITS_COLOUR, nx_BITS_PALETTE, nx_BITS_MAP, nx_BITS_CHANNELS, nx_BITS_RESOLUTION, nx_BITS_CAPTURE, nx_BITS_DISPLAY, if_false]
  have fu : ((nI e).toInt - (nI f).toInt).toNat + 1 = (e - f) + 1 := by rw [q_toInt (by omega), q_toInt (by omega)]; omega
  have vv := x_b202 hB he (e - f) f 1 (by omega) (Or.inr rfl)
  have va : m_Mo_isValue 1651532643 (nI f) (nI e) (nI zN) pA gf = abt B (e - f) f := by
    unfold m_Mo_isValue
    rw [if_pos rfl, fu, vv.1]; rfl
  have ova : om_Mo_isValue 1651532643 (nI f) (nI e) (nI zN) pA gf := by
    unfold om_Mo_isValue
    rw [if_pos rfl, fu]; exact vv.2
  have ho : hdOk gf 0 (nI zN) (nI bA) cA pA mA hA rsv 1651532643 (nI f) (nI e) := ⟨owr, fun _ => ⟨ofi, fun _ => ⟨otw, fun _ => ⟨ogr, fun _ => ova⟩⟩⟩⟩
  rw [wr, fi, tw, gr, va]
  unfold m_Sc_readBits
  simp only [d1]
  by_cases a : B (zN + 10) = 255
  · rw [if_pos a, if_pos a]
    unfold k_Sc_readBits_13 m_Sc_content
    rw [q_sub hfe]
    simp only [cE]
    by_cases b : e - f = UB B (zN + 8) 2
    · rw [if_pos b, if_pos b]
      unfold k_Sc_readBits_30
      rw [hbs]
      by_cases x : bA = 0
      · rw [if_pos x, if_pos rfl, q_fuel (by omega)]
        obtain ⟨fb2, i1, i2⟩ := x_b50 hB (f := f) (c := UB B (zN + 8) 2) (by omega) hc se (UB B (zN + 8) 2) 0 fb (by omega)
        rw [show f + 0 = f from rfl] at i1 i2
        refine ⟨_, _, fb2, i1, ?_, ho, ?_⟩
        · rw [b]; rfl
        · intro q
          have q2 : ¬ abt B (UB B (zN + 8) 2) f = 0 := fun w => by
            rw [if_pos w] at q; exact absurd q (by decide)
          refine ⟨by omega, x, rfl, fun k hk => ?_⟩
          rw [i2 q2 k hk, if_pos (by omega)]
      · rw [if_neg x, if_neg (by decide)]
        exact ⟨_, _, _, rfl, rfl, ho, fun q => absurd q (by decide)⟩
    · rw [if_neg b, if_neg b]
      exact ⟨_, _, _, rfl, rfl, ho, fun q => absurd q (by decide)⟩
  · rw [if_neg a, if_neg a]
    exact ⟨_, _, _, rfl, rfl, ho, fun q => absurd q (by decide)⟩
