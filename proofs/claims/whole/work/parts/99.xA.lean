/-- a number of w bytes, the highest first -/
def UB (B : Nat → Nat) (p : Nat) : Nat → Nat
  | 0 => 0
  | w + 1 => UB B p w * 256 + B (p + w)
/-- the file's bytes, in the class and in the reference -/
def HB (sz nr : Nat) (fw gf : Nat → Int32) (B : Nat → Nat) : Prop := sz ≤ nr ∧ nr ≤ 65536 ∧ (∀ k, B k < 256) ∧ ∀ k, k < sz → fw k &&& 255 = nI (B k) ∧ gf k = nI (B k)
theorem HB_of {sz nr : Nat} {fw gf : Nat → Int32} (hF : IF sz nr fw gf) : HB sz nr fw gf (fun k => bo (fw k).toInt) :=
  ⟨hF.1, hF.2.2.1, fun _ => bo_lt _, fun k hk => ⟨q_255 _, by rw [← hF.2.2.2.2 k hk, q_255]⟩⟩
theorem UB_lt {B : Nat → Nat} (h : ∀ k, B k < 256) (p : Nat) : ∀ w, UB B p w < 256 ^ w
  | 0 => by show 0 < 256 ^ 0; decide
  | w + 1 => by
    have h1 := UB_lt h p w
    have h2 := h (p + w)
    show UB B p w * 256 + B (p + w) < 256 ^ (w + 1)
    rw [Nat.pow_succ]
    generalize 256 ^ w = z at h1 ⊢
    omega
theorem UB_2 (B : Nat → Nat) (p : Nat) : UB B p 2 = B p * 256 + B (p + 1) := by
  show (0 * 256 + B p) * 256 + B (p + 1) = _
  omega
theorem UB_4 (B : Nat → Nat) (p : Nat) : UB B p 4 = UB B p 2 * 65536 + UB B (p + 2) 2 := by
  show ((((0 * 256 + B p) * 256 + B (p + 1)) * 256 + B (p + 2)) * 256 + B (p + 3)) = ((0 * 256 + B p) * 256 + B (p + 1)) * 65536 + ((0 * 256 + B (p + 2)) * 256 + B (p + 3))
  omega
theorem UB_8 (B : Nat → Nat) (p : Nat) : UB B p 8 = UB B p 4 * 4294967296 + UB B (p + 4) 4 := by
  show ((((((((0 * 256 + B p) * 256 + B (p + 1)) * 256 + B (p + 2)) * 256 + B (p + 3)) * 256 + B (p + 4)) * 256 + B (p + 5)) * 256 + B (p + 6)) * 256 + B (p + 7)) = ((((0 * 256 + B p) * 256 + B (p + 1)) * 256 + B (p + 2)) * 256 + B (p + 3)) * 4294967296 + ((((0 * 256 + B (p + 4)) * 256 + B (p + 5)) * 256 + B (p + 6)) * 256 + B (p + 7))
  omega
theorem q_cat (u b : Nat) (hb : b < 256) : (Int64.ofNat u <<< ((8 : Int32).toInt64 &&& 63)) ||| Int64.ofNat b = Int64.ofNat (u * 256 + b) := by
  have e : ((8 : Int32).toInt64 &&& 63) = Int64.ofNat 8 := by decide
  rw [e]
  apply Int64.toBitVec_inj.1
  rw [Int64.toBitVec_or, q_shl _ (by decide)]
  apply BitVec.eq_of_toNat_eq
  rw [BitVec.toNat_or, BitVec.toNat_shiftLeft]
  show ((BitVec.ofNat 64 u).toNat <<< 8 % 2 ^ 64) ||| (BitVec.ofNat 64 b).toNat = (BitVec.ofNat 64 (u * 256 + b)).toNat
  rw [BitVec.toNat_ofNat, BitVec.toNat_ofNat, BitVec.toNat_ofNat, Nat.shiftLeft_eq]
  have h1 : u % 2 ^ 64 * 2 ^ 8 % 2 ^ 64 = (u % 2 ^ 56) <<< 8 := by rw [Nat.shiftLeft_eq]; omega
  have h2 : b % 2 ^ 64 = b := by omega
  rw [h1, h2, ← Nat.shiftLeft_add_eq_or_of_lt (show b < 2 ^ 8 by omega), Nat.shiftLeft_eq]
  omega
theorem q_cat16 (u b : Nat) (hb : b < 65536) : (Int64.ofNat u <<< ((16 : Int32).toInt64 &&& 63)) ||| Int64.ofNat b = Int64.ofNat (u * 65536 + b) := by
  have e : ((16 : Int32).toInt64 &&& 63) = Int64.ofNat 16 := by decide
  rw [e]
  apply Int64.toBitVec_inj.1
  rw [Int64.toBitVec_or, q_shl _ (by decide)]
  apply BitVec.eq_of_toNat_eq
  rw [BitVec.toNat_or, BitVec.toNat_shiftLeft]
  show ((BitVec.ofNat 64 u).toNat <<< 16 % 2 ^ 64) ||| (BitVec.ofNat 64 b).toNat = (BitVec.ofNat 64 (u * 65536 + b)).toNat
  rw [BitVec.toNat_ofNat, BitVec.toNat_ofNat, BitVec.toNat_ofNat, Nat.shiftLeft_eq]
  have h1 : u % 2 ^ 64 * 2 ^ 16 % 2 ^ 64 = (u % 2 ^ 48) <<< 16 := by rw [Nat.shiftLeft_eq]; omega
  have h2 : b % 2 ^ 64 = b := by omega
  rw [h1, h2, ← Nat.shiftLeft_add_eq_or_of_lt (show b < 2 ^ 16 by omega), Nat.shiftLeft_eq]
  omega
theorem q_shl32 (v : Int32) : (v <<< ((8 : Int32) &&& 31)).toBitVec = v.toBitVec <<< 8 := by
  have e : ((8 : Int32) &&& 31) = 8 := by decide
  rw [e, Int32.toBitVec_shiftLeft]
  show v.toBitVec <<< ((8 : Int32).toBitVec.smod 32).toNat = _
  have e2 : ((8 : Int32).toBitVec.smod 32).toNat = 8 := by decide
  rw [e2]
theorem q_cat32 {a b : Nat} (ha : a < 256) (hb : b < 256) : (nI a <<< ((8 : Int32) &&& 31)) ||| nI b = nI (a * 256 + b) := by
  apply Int32.toBitVec_inj.1
  rw [Int32.toBitVec_or, q_shl32]
  apply BitVec.eq_of_toNat_eq
  rw [BitVec.toNat_or, BitVec.toNat_shiftLeft]
  show ((BitVec.ofNat 32 a).toNat <<< 8 % 2 ^ 32) ||| (BitVec.ofNat 32 b).toNat = (BitVec.ofNat 32 (a * 256 + b)).toNat
  rw [BitVec.toNat_ofNat, BitVec.toNat_ofNat, BitVec.toNat_ofNat, Nat.shiftLeft_eq]
  have h1 : a % 2 ^ 32 * 2 ^ 8 % 2 ^ 32 = a <<< 8 := by rw [Nat.shiftLeft_eq]; omega
  have h2 : b % 2 ^ 32 = b := by omega
  rw [h1, h2, ← Nat.shiftLeft_add_eq_or_of_lt (show b < 2 ^ 8 by omega), Nat.shiftLeft_eq]
  omega
theorem q_t32 (n : Nat) : (Int64.ofNat n).toInt32 = nI n := by
  apply Int32.toBitVec_inj.1
  apply BitVec.eq_of_toNat_eq
  rw [Int64.toBitVec_toInt32]
  show ((BitVec.ofNat 64 n).signExtend 32).toNat = (BitVec.ofNat 32 n).toNat
  rw [BitVec.signExtend_eq_setWidth_of_le _ (by decide), BitVec.toNat_setWidth, BitVec.toNat_ofNat, BitVec.toNat_ofNat]
  omega
theorem q_i64 {n : Nat} (h : n < 9223372036854775808) : (Int64.ofNat n).toInt = (n : Int) := Int64.toInt_ofNat_of_lt (by omega)
theorem q_i64n {n : Nat} (h : 9223372036854775808 ≤ n) (h2 : n < 18446744073709551616) : (Int64.ofNat n).toInt < 0 := by
  have e : (Int64.ofNat n).toInt = (n : Int).bmod (2 ^ 64) := Int64.toInt_ofNat
  rw [e, Int.bmod_def]
  omega
theorem q_cmple (x y : Int64) : (lg_cmp x y ≤ 0) = (x.toInt ≤ y.toInt) := by
  rw [← Int64.le_iff_toInt_le]
  unfold lg_cmp; grind
theorem q_cmpgt (x y : Int64) : (0 < lg_cmp x y) = (y.toInt < x.toInt) := by
  rw [← Int64.lt_iff_toInt_lt]
  unfold lg_cmp; grind
theorem s_byte {sz nr : Nat} {fw gf : Nat → Int32} {B : Nat → Nat} (hB : HB sz nr fw gf B) {k : Nat} (hk : k < sz) : m_By_byteAt (nI sz) nr fw (nI k) = nI (B k) := by
  have h1 := hB.1
  have h2 := hB.2.1
  rw [q_bat hk h1 (by omega), (hB.2.2.2 k hk).1]
theorem s_u2 {sz nr : Nat} {fw gf : Nat → Int32} {B : Nat → Nat} (hB : HB sz nr fw gf B) {p : Nat} (hp : p + 2 ≤ sz) : m_Mo_u2 gf (nI p) = nI (UB B p 2) ∧ om_Mo_u2 (nI p) := by
  have h1 := hB.1
  have h2 := hB.2.1
  unfold m_Mo_u2 om_Mo_u2
  rw [← nI_succ, q_cl (by omega), q_cl (by omega), q_in (by omega), q_in (by omega), (hB.2.2.2 p (by omega)).2, (hB.2.2.2 (p + 1) (by omega)).2, q_cat32 (hB.2.2.1 _) (hB.2.2.1 _), UB_2]
  exact ⟨rfl, by omega, by omega, trivial⟩
theorem UB_2lt {B : Nat → Nat} (h : ∀ k, B k < 256) (p : Nat) : UB B p 2 < 65536 := UB_lt h p 2
theorem UB_4lt {B : Nat → Nat} (h : ∀ k, B k < 256) (p : Nat) : UB B p 4 < 4294967296 := UB_lt h p 4
theorem s_u4 {sz nr : Nat} {fw gf : Nat → Int32} {B : Nat → Nat} (hB : HB sz nr fw gf B) {p : Nat} (hp : p + 4 ≤ sz) : m_Mo_u4 gf (nI p) = Int64.ofNat (UB B p 4) ∧ om_Mo_u4 gf (nI p) := by
  have a := s_u2 hB (p := p) (by omega)
  have b := s_u2 hB (p := p + 2) (by omega)
  have l1 := UB_2lt hB.2.2.1 p
  have l2 := UB_2lt hB.2.2.1 (p + 2)
  unfold m_Mo_u4 om_Mo_u4 k_Mo_u4_2 ok_Mo_u4_2 k_Mo_u4_13 ok_Mo_u4_13
  rw [q_p2, a.1, b.1, q_64 (by omega), q_64 (by omega), q_cat16 _ _ l2, UB_4]
  exact ⟨rfl, a.2, b.2, trivial⟩
theorem s_nump {sz nr : Nat} {fw gf : Nat → Int32} {B : Nat → Nat} (hB : HB sz nr fw gf B) {p w : Nat} (hp : p + w ≤ sz) : ∀ (d i : Nat), i + d = w → lp_By_numberAt_5 (nI sz) nr fw (nI p) (nI w) (d + 1) (nI (p + i)) (Int64.ofNat (UB B p i)) = Int64.ofNat (UB B p w)
  | 0, i, h => by
    have h1 := hB.1
    have h2 := hB.2.1
    have k : nI p + nI w ≤ nI (p + i) := by rw [q_add, q_le (by omega) (by omega)]; omega
    show lb_By_numberAt_5 (nI sz) nr fw (nI p) (nI w) (lp_By_numberAt_5 (nI sz) nr fw (nI p) (nI w) 0) (nI (p + i)) (Int64.ofNat (UB B p i)) = _
    unfold lb_By_numberAt_5
    rw [if_pos k, show i = w by omega]
  | d + 1, i, h => by
    have h1 := hB.1
    have h2 := hB.2.1
    have k : ¬ nI p + nI w ≤ nI (p + i) := by rw [q_add, q_le (by omega) (by omega)]; omega
    have k0 : ¬ nI (p + i) < 0 := by rw [q_l0 (by omega)]; exact id
    have k1 : ¬ nI sz ≤ nI (p + i) := by rw [q_le (by omega) (by omega)]; omega
    have k2 : ¬ nI nr ≤ nI (p + i) := by rw [q_le (by omega) (by omega)]; omega
    have ih := s_nump hB hp d (i + 1) (by omega)
    have hb := hB.2.2.1 (p + i)
    show lb_By_numberAt_5 (nI sz) nr fw (nI p) (nI w) (lp_By_numberAt_5 (nI sz) nr fw (nI p) (nI w) (d + 1)) (nI (p + i)) (Int64.ofNat (UB B p i)) = _
    unfold lb_By_numberAt_5 j_By_numberAt_56
    rw [if_neg k, if_neg k0, if_neg k1, if_neg k2, q_cl (by omega), (hB.2.2.2 (p + i) (by omega)).1, q_64 (by omega), q_cat _ _ hb, ← nI_succ]
    exact ih
theorem s_num {sz nr : Nat} {fw gf : Nat → Int32} {B : Nat → Nat} (hB : HB sz nr fw gf B) {p w : Nat} (hp : p + w ≤ sz) : m_By_numberAt (nI sz) nr fw (nI p) (nI w) = Int64.ofNat (UB B p w) := by
  have h1 := hB.1
  have h2 := hB.2.1
  have e : ((nI p + nI w).toInt - (nI p).toInt).toNat + 1 = w + 1 := by
    rw [q_add, q_toInt (by omega), q_toInt (by omega)]; omega
  unfold m_By_numberAt
  rw [e]
  exact s_nump hB hp w 0 (by omega)
theorem s_int {sz nr : Nat} {fw gf : Nat → Int32} {B : Nat → Nat} (hB : HB sz nr fw gf B) {p w : Nat} (hp : p + w ≤ sz) : m_By_intAt (nI sz) nr fw (nI p) (nI w) = nI (UB B p w) := by
  unfold m_By_intAt k_By_intAt_3
  rw [s_num hB hp, q_t32]
/-- the class's test of a length -/
theorem s_107 {p lim N ld : Nat} (hp : p ≤ lim) (hl : lim ≤ 65536) (hN : N < 9223372036854775808) (hd : ld ≤ 16) (tf te x : Int32) :
    j_Sc_open_107 (nI p) tf te (nI lim) x (nI ld) (Int64.ofNat N) = if N ≤ lim - p then (if ld ≤ N then (0, x, nI (p + ld), nI (p + N)) else (3, x, tf, te)) else (1, x, tf, te) := by
  have c1 : ¬ lg_cmp (Int64.ofNat N) 0 < 0 := by
    rw [q_cmpl, q_i64 hN, Int64.toInt_zero]; omega
  have c2 : (lg_cmp (Int64.ofNat N) ((nI lim - nI p : Int32).toInt64) ≤ 0) = (N ≤ lim - p) := by
    rw [q_sub hp, q_cmple, q_i64 hN, Int32.toInt_toInt64, q_toInt (by omega)]
    apply propext; omega
  have c3 : (0 ≤ lg_cmp (Int64.ofNat N) ((nI ld : Int32).toInt64)) = (ld ≤ N) := by
    rw [q_cmpg, q_i64 hN, Int32.toInt_toInt64, q_toInt (by omega)]
    apply propext; omega
  unfold j_Sc_open_107
  rw [if_neg c1]
  simp only [c2, c3, q_t32, q_add]
theorem s_107b {p lim N ld : Nat} (hp : p ≤ lim) (hl : lim ≤ 65536) (hN : N < 18446744073709551616) (hN2 : 4294967296 ≤ N) (tf te x : Int32) :
    j_Sc_open_107 (nI p) tf te (nI lim) x (nI ld) (Int64.ofNat N) = (1, x, tf, te) := by
  unfold j_Sc_open_107
  by_cases h : N < 9223372036854775808
  · have c1 : ¬ lg_cmp (Int64.ofNat N) 0 < 0 := by
      rw [q_cmpl, q_i64 h, Int64.toInt_zero]; omega
    have c2 : ¬ (lg_cmp (Int64.ofNat N) ((nI lim - nI p : Int32).toInt64) ≤ 0) := by
      rw [q_sub hp, q_cmple, q_i64 h, Int32.toInt_toInt64, q_toInt (by omega)]
      omega
    rw [if_neg c1, if_neg c2]
  · have c1 : lg_cmp (Int64.ofNat N) 0 < 0 := by
      rw [q_cmpl, Int64.toInt_zero]; exact q_i64n (by omega) hN
    rw [if_pos c1]
/-- the reference's -/
theorem s_144 {p lim N : Nat} (M : Nat) (hp : p ≤ lim) (hl : lim ≤ 65536) (hN : N < 4294967296) (te : Int32) :
    j_Mo_frame_144 te (nI p) (nI lim) (Int64.ofNat N) (Int64.ofNat M) = if N ≤ lim - p then (if 8 ≤ N then (0, nI M, nI (p + 8), nI (p + N)) else (3, nI M, nI (p + 8), nI (p + N))) else (1, nI M, nI (p + 8), te) := by
  have c2 : (lg_cmp ((nI p).toInt64 + Int64.ofNat N) ((nI lim).toInt64) ≤ 0) = (N ≤ lim - p) := by
    rw [q_64 (by omega), ← Int64.ofNat_add, q_cmple, q_i64 (by omega), Int32.toInt_toInt64, q_toInt (by omega)]
    apply propext; omega
  have c3 : (0 ≤ lg_cmp (Int64.ofNat N) 8) = (8 ≤ N) := by
    have e8 : (8 : Int64).toInt = 8 := by decide
    rw [q_cmpg, q_i64 (by omega), e8]
    apply propext; omega
  unfold j_Mo_frame_144
  simp only [c2, c3, q_t32, q_add, show (8 : Int32) = nI 8 from rfl]
theorem s_72 {sz nr : Nat} {fw gf : Nat → Int32} {B : Nat → Nat} (hB : HB sz nr fw gf B) {p lim : Nat} (M : Nat) (hp : p + 16 ≤ lim) (hl : lim ≤ sz) (te : Int32) :
    k_Mo_frame_72 te gf (nI p) (nI lim) (Int64.ofNat M) (Int64.ofNat (UB B (p + 12) 4)) = (if UB B (p + 12) 4 ≤ lim - p then (if 16 ≤ UB B (p + 12) 4 then (0, nI M, nI (p + 16), nI (p + UB B (p + 12) 4)) else (3, nI M, nI (p + 16), nI (p + UB B (p + 12) 4))) else (1, nI M, nI (p + 8), te)) ∧ ok_Mo_frame_72 gf (nI p) (nI lim) (Int64.ofNat (UB B (p + 12) 4)) := by
  have h1 := hB.1
  have h2 := hB.2.1
  have a := s_u4 hB (p := p + 12) (by omega)
  have l1 := UB_4lt hB.2.2.1 (p + 12)
  have c2 : (lg_cmp ((nI p).toInt64 + Int64.ofNat (UB B (p + 12) 4)) ((nI lim).toInt64) ≤ 0) = (UB B (p + 12) 4 ≤ lim - p) := by
    rw [q_64 (by omega), ← Int64.ofNat_add, q_cmple, q_i64 (by omega), Int32.toInt_toInt64, q_toInt (by omega)]
    apply propext; omega
  have c3 : (0 ≤ lg_cmp (Int64.ofNat (UB B (p + 12) 4)) 16) = (16 ≤ UB B (p + 12) 4) := by
    have e8 : (16 : Int64).toInt = 16 := by decide
    rw [q_cmpg, q_i64 (by omega), e8]
    apply propext; omega
  have e12 : nI p + 12 = nI (p + 12) := by rw [show (12 : Int32) = nI 12 from rfl, q_add]
  unfold k_Mo_frame_72 ok_Mo_frame_72 k_Mo_frame_89 ok_Mo_frame_89
  rw [e12, a.1]
  simp only [c2, c3, q_t32, q_add, show (8 : Int32) = nI 8 from rfl, show (16 : Int32) = nI 16 from rfl, ite_self, and_true]
  refine ⟨trivial, ?_⟩
  split
  · exact a.2
  · trivial
/-- a box begins: both see the same -/
def FrameOK (sz nr : Nat) (fw gf : Nat → Int32) (lv top hE rE : Int32) (p lim : Nat) : Prop :=
  om_Mo_frame gf (nI p) (nI lim) top ∧ ∀ (n1 f1 e1 n2 f2 e2 : Int32),
  ((∃ c a1 a2 a3 b1 b2 b3 : Int32, (c = 1 ∨ c = 3) ∧ m_Mo_frame n1 f1 e1 gf (nI p) (nI lim) top = (c, a1, a2, a3) ∧ m_Sc_open lv (nI p) hE rE n2 f2 e2 (nI sz) nr fw = (c, b1, b2, b3))
  ∨ (∃ (nm : Int32) (f e : Nat), p + 8 ≤ f ∧ f ≤ e ∧ e ≤ lim ∧ m_Mo_frame n1 f1 e1 gf (nI p) (nI lim) top = (0, nm, nI f, nI e) ∧ m_Sc_open lv (nI p) hE rE n2 f2 e2 (nI sz) nr fw = (0, nm, nI f, nI e)))
theorem s_frA {N M ld : Nat} {p lim : Nat} (hp : p ≤ lim) (tf te x y : Int32) (hM : M = 8 ∨ M = 16) (hl : p + M ≤ lim) {R C : Int32 × Int32 × Int32 × Int32} (hd : ld = M)
    (hR : R = if N ≤ lim - p then (if M ≤ N then (0, x, nI (p + M), nI (p + N)) else (3, x, nI (p + M), nI (p + N))) else (1, x, nI (p + 8), y))
    (hC : C = if N ≤ lim - p then (if ld ≤ N then (0, x, nI (p + ld), nI (p + N)) else (3, x, tf, te)) else (1, x, tf, te)) :
    (∃ c a1 a2 a3 b1 b2 b3 : Int32, (c = 1 ∨ c = 3) ∧ R = (c, a1, a2, a3) ∧ C = (c, b1, b2, b3)) ∨ (∃ (nm : Int32) (f e : Nat), p + 8 ≤ f ∧ f ≤ e ∧ e ≤ lim ∧ R = (0, nm, nI f, nI e) ∧ C = (0, nm, nI f, nI e)) := by
  subst hd
  by_cases a : N ≤ lim - p
  · rw [if_pos a] at hR hC
    by_cases b : ld ≤ N
    · rw [if_pos b] at hR hC
      exact Or.inr ⟨x, p + ld, p + N, by omega, by omega, by omega, hR, hC⟩
    · rw [if_neg b] at hR hC
      exact Or.inl ⟨3, _, _, _, _, _, _, Or.inr rfl, hR, hC⟩
  · rw [if_neg a] at hR hC
    exact Or.inl ⟨1, _, _, _, _, _, _, Or.inl rfl, hR, hC⟩
theorem q_ze {z y : Nat} (hz : z < 4294967296) (hy : y < 4294967296) : (lg_cmp (Int64.ofNat z) (Int64.ofNat y) = 0) = (z = y) := by
  rw [q_cmpe]
  apply propext
  constructor
  · intro h
    have h3 := congrArg Int64.toInt h
    rw [q_i64 (by omega), q_i64 (by omega)] at h3
    omega
  · intro h; rw [h]
theorem q_ze1 {z : Nat} (hz : z < 4294967296) : (lg_cmp (Int64.ofNat z) 1 = 0) = (z = 1) := q_ze (y := 1) hz (by decide)
theorem q_ze0 {z : Nat} (hz : z < 4294967296) : (lg_cmp (Int64.ofNat z) 0 = 0) = (z = 0) := q_ze (y := 0) hz (by decide)
theorem s_mf {sz nr : Nat} {fw gf : Nat → Int32} {B : Nat → Nat} (hB : HB sz nr fw gf B) {p lim : Nat} (a : p + 8 ≤ lim) (hl : lim ≤ sz) (top : Int32) :
    (∀ n1 f1 e1 : Int32, m_Mo_frame n1 f1 e1 gf (nI p) (nI lim) top = k_Mo_frame_22 e1 gf (nI p) (nI lim) top (Int64.ofNat (UB B p 4)) (Int64.ofNat (UB B (p + 4) 4))) ∧ (ok_Mo_frame_22 gf (nI p) (nI lim) top (Int64.ofNat (UB B p 4)) (Int64.ofNat (UB B (p + 4) 4)) → om_Mo_frame gf (nI p) (nI lim) top) := by
  have h1 := hB.1
  have h2 := hB.2.1
  have e8 : nI p + 8 = nI (p + 8) := by rw [show (8 : Int32) = nI 8 from rfl, q_add]
  have e4 : nI p + 4 = nI (p + 4) := by rw [show (4 : Int32) = nI 4 from rfl, q_add]
  have a1 := s_u4 hB (p := p) (by omega)
  have a2 := s_u4 hB (p := p + 4) (by omega)
  have k : nI p + 8 ≤ nI lim := by rw [e8, q_le (by omega) (by omega)]; exact a
  unfold m_Mo_frame om_Mo_frame k_Mo_frame_12 ok_Mo_frame_12
  rw [e4, a1.1, a2.1, if_pos k]
  refine ⟨fun n1 f1 e1 => by rw [if_pos k], fun h => ⟨a1.2, a2.2, h⟩⟩
theorem s_so {sz nr : Nat} {fw gf : Nat → Int32} {B : Nat → Nat} (hB : HB sz nr fw gf B) {lv hE rE : Int32} {p lim : Nat} (a : p + 8 ≤ lim) (hl : lim ≤ sz) (hlim : m_Sc_limit lv hE rE (nI sz) = nI lim) (n2 f2 e2 : Int32) :
    m_Sc_open lv (nI p) hE rE n2 f2 e2 (nI sz) nr fw = k_Sc_open_43 lv (nI p) f2 e2 (nI sz) nr fw (nI lim) (Int64.ofNat (UB B p 4)) (nI (UB B (p + 4) 4)) := by
  have h1 := hB.1
  have h2 := hB.2.1
  have e4 : nI p + 4 = nI (p + 4) := by rw [show (4 : Int32) = nI 4 from rfl, q_add]
  have b1 : m_By_numberAt (nI sz) nr fw (nI p) 4 = Int64.ofNat (UB B p 4) := s_num hB (w := 4) (by omega)
  have b2 : m_By_intAt (nI sz) nr fw (nI (p + 4)) 4 = nI (UB B (p + 4) 4) := s_int hB (w := 4) (by omega)
  have k : (8 : Int32) ≤ nI lim - nI p := by rw [q_sub (by omega), show (8 : Int32) = nI 8 from rfl, q_le (by decide) (by omega)]; omega
  unfold m_Sc_open k_Sc_open_1 k_Sc_open_27
  rw [hlim, if_pos k, e4, b1, b2]
set_option maxHeartbeats 1000000 in
theorem s_fr1 {sz nr : Nat} {fw gf : Nat → Int32} {B : Nat → Nat} (hB : HB sz nr fw gf B) {lv top : Int32} {p lim : Nat} (a : p + 8 ≤ lim) (hl : lim ≤ sz) (hL : UB B p 4 = 1) :
    ok_Mo_frame_22 gf (nI p) (nI lim) top (Int64.ofNat (UB B p 4)) (Int64.ofNat (UB B (p + 4) 4)) ∧ ∀ (e1 f2 e2 : Int32),
    ((∃ c a1 a2 a3 b1 b2 b3 : Int32, (c = 1 ∨ c = 3) ∧ k_Mo_frame_22 e1 gf (nI p) (nI lim) top (Int64.ofNat (UB B p 4)) (Int64.ofNat (UB B (p + 4) 4)) = (c, a1, a2, a3) ∧ k_Sc_open_43 lv (nI p) f2 e2 (nI sz) nr fw (nI lim) (Int64.ofNat (UB B p 4)) (nI (UB B (p + 4) 4)) = (c, b1, b2, b3))
    ∨ (∃ (nm : Int32) (f e : Nat), p + 8 ≤ f ∧ f ≤ e ∧ e ≤ lim ∧ k_Mo_frame_22 e1 gf (nI p) (nI lim) top (Int64.ofNat (UB B p 4)) (Int64.ofNat (UB B (p + 4) 4)) = (0, nm, nI f, nI e) ∧ k_Sc_open_43 lv (nI p) f2 e2 (nI sz) nr fw (nI lim) (Int64.ofNat (UB B p 4)) (nI (UB B (p + 4) 4)) = (0, nm, nI f, nI e))) := by
  have h1 := hB.1
  have h2 := hB.2.1
  have e8 : nI p + 8 = nI (p + 8) := by rw [show (8 : Int32) = nI 8 from rfl, q_add]
  have e12 : nI p + 12 = nI (p + 12) := by rw [show (12 : Int32) = nI 12 from rfl, q_add]
  have e16 : nI p + 16 = nI (p + 16) := by rw [show (16 : Int32) = nI 16 from rfl, q_add]
  have k1 : lg_cmp (Int64.ofNat (UB B p 4)) 1 = 0 := by rw [q_ze1 (UB_4lt hB.2.2.1 p)]; exact hL
  by_cases b : p + 16 ≤ lim
  · have k2 : ¬ nI lim < nI p + 16 := by rw [e16, q_lt (by omega) (by omega)]; omega
    have k3 : (16 : Int32) ≤ nI lim - nI p := by rw [q_sub (by omega), show (16 : Int32) = nI 16 from rfl, q_le (by decide) (by omega)]; omega
    have a3 := s_u4 hB (p := p + 8) (by omega)
    have a4 := s_u4 hB (p := p + 12) (by omega)
    have l3 := UB_4lt hB.2.2.1 (p + 8)
    have l4 := UB_4lt hB.2.2.1 (p + 12)
    have b3 : m_By_numberAt (nI sz) nr fw (nI (p + 8)) 8 = Int64.ofNat (UB B (p + 8) 8) := s_num hB (w := 8) (by omega)
    have k4 : (0 < lg_cmp (Int64.ofNat (UB B (p + 8) 4)) 0) = (0 < UB B (p + 8) 4) := by
      rw [q_cmpgt, q_i64 (by omega), Int64.toInt_zero]
      apply propext; omega
    have u8 : UB B (p + 8) 8 = UB B (p + 8) 4 * 4294967296 + UB B (p + 12) 4 := UB_8 B (p + 8)
    unfold k_Mo_frame_22 ok_Mo_frame_22 k_Mo_frame_57 ok_Mo_frame_57 k_Sc_open_43 k_Sc_open_80
    rw [if_pos k1, if_neg k2, e8, e12, a3.1, a4.1]
    by_cases z : 0 < UB B (p + 8) 4
    · have k5 : 0 < lg_cmp (Int64.ofNat (UB B (p + 8) 4)) 0 := by rw [k4]; exact z
      rw [if_pos k5]
      refine ⟨⟨a3.2, trivial⟩, fun e1 f2 e2 => Or.inl ?_⟩
      rw [if_pos k1, if_neg k2, if_pos k5, if_pos k1, if_pos k3, b3]
      have t := s_107b (p := p) (lim := lim) (N := UB B (p + 8) 8) (ld := 16) (by omega) (by omega) (by omega) (by omega) f2 e2 (nI (UB B (p + 4) 4))
      exact ⟨1, _, _, _, _, _, _, Or.inl rfl, rfl, t⟩
    · have k5 : ¬ 0 < lg_cmp (Int64.ofNat (UB B (p + 8) 4)) 0 := by rw [k4]; exact z
      have w := fun e1 => s_72 hB (UB B (p + 4) 4) b hl e1
      rw [if_neg k5]
      refine ⟨⟨a3.2, a4.2, (w 0).2⟩, fun e1 f2 e2 => ?_⟩
      rw [if_pos k1, if_neg k2, if_neg k5, if_pos k1, if_pos k3, b3, u8, show UB B (p + 8) 4 * 4294967296 + UB B (p + 12) 4 = UB B (p + 12) 4 by omega]
      have t := s_107 (p := p) (lim := lim) (N := UB B (p + 12) 4) (ld := 16) (by omega) (by omega) (by omega) (by omega) f2 e2 (nI (UB B (p + 4) 4))
      exact s_frA (by omega) f2 e2 (nI (UB B (p + 4) 4)) e1 (Or.inr rfl) b rfl (w e1).1 t
  · have k2 : nI lim < nI p + 16 := by rw [e16, q_lt (by omega) (by omega)]; omega
    have k3 : ¬ (16 : Int32) ≤ nI lim - nI p := by rw [q_sub (by omega), show (16 : Int32) = nI 16 from rfl, q_le (by decide) (by omega)]; omega
    unfold k_Mo_frame_22 ok_Mo_frame_22 k_Sc_open_43
    rw [if_pos k1, if_pos k2]
    refine ⟨trivial, fun e1 f2 e2 => Or.inl ?_⟩
    rw [if_pos k1, if_pos k2, if_pos k1, if_neg k3]
    exact ⟨1, _, _, _, _, _, _, Or.inl rfl, rfl, rfl⟩
theorem s_o144 (p1 p2 : Int32) (x : Int64) : oj_Mo_frame_144 p1 p2 x := by
  unfold oj_Mo_frame_144
  simp only [ite_self]
set_option maxHeartbeats 1000000 in
theorem s_fr2 {sz nr : Nat} {fw gf : Nat → Int32} {B : Nat → Nat} (hB : HB sz nr fw gf B) {lv top : Int32} {p lim : Nat} (a : p + 8 ≤ lim) (hl : lim ≤ sz) (hL : ¬ UB B p 4 = 1) (ht : (lv = 0 ∧ top = 1) ∨ (¬ lv = 0 ∧ top = 0)) :
    ok_Mo_frame_22 gf (nI p) (nI lim) top (Int64.ofNat (UB B p 4)) (Int64.ofNat (UB B (p + 4) 4)) ∧ ∀ (e1 f2 e2 : Int32),
    ((∃ c a1 a2 a3 b1 b2 b3 : Int32, (c = 1 ∨ c = 3) ∧ k_Mo_frame_22 e1 gf (nI p) (nI lim) top (Int64.ofNat (UB B p 4)) (Int64.ofNat (UB B (p + 4) 4)) = (c, a1, a2, a3) ∧ k_Sc_open_43 lv (nI p) f2 e2 (nI sz) nr fw (nI lim) (Int64.ofNat (UB B p 4)) (nI (UB B (p + 4) 4)) = (c, b1, b2, b3))
    ∨ (∃ (nm : Int32) (f e : Nat), p + 8 ≤ f ∧ f ≤ e ∧ e ≤ lim ∧ k_Mo_frame_22 e1 gf (nI p) (nI lim) top (Int64.ofNat (UB B p 4)) (Int64.ofNat (UB B (p + 4) 4)) = (0, nm, nI f, nI e) ∧ k_Sc_open_43 lv (nI p) f2 e2 (nI sz) nr fw (nI lim) (Int64.ofNat (UB B p 4)) (nI (UB B (p + 4) 4)) = (0, nm, nI f, nI e))) := by
  have h1 := hB.1
  have h2 := hB.2.1
  have l1 := UB_4lt hB.2.2.1 p
  have e8 : nI p + 8 = nI (p + 8) := by rw [show (8 : Int32) = nI 8 from rfl, q_add]
  have k1 : ¬ lg_cmp (Int64.ofNat (UB B p 4)) 1 = 0 := by rw [q_ze1 l1]; exact hL
  have w := fun e1 => s_144 (p := p) (lim := lim) (N := UB B p 4) (UB B (p + 4) 4) (by omega) (by omega) l1 e1
  have t := fun f2 e2 => s_107 (p := p) (lim := lim) (N := UB B p 4) (ld := 8) (by omega) (by omega) (by omega) (by omega) f2 e2 (nI (UB B (p + 4) 4))
  have g := fun (e1 f2 e2 : Int32) => s_frA (p := p) (lim := lim) (by omega) f2 e2 (nI (UB B (p + 4) 4)) e1 (Or.inl rfl) a rfl (w e1) (t f2 e2)
  have o := s_o144 (nI p) (nI lim) (Int64.ofNat (UB B p 4))
  unfold k_Mo_frame_22 ok_Mo_frame_22 k_Sc_open_43
  rw [if_neg k1]
  by_cases z : UB B p 4 = 0
  · have k0 : lg_cmp (Int64.ofNat (UB B p 4)) 0 = 0 := by rw [q_ze0 l1]; exact z
    rcases ht with ⟨rfl, rfl⟩ | ⟨hv, rfl⟩
    · have z1 : ¬ (1 : Int32) = 0 := by decide
      have z0 : (0 : Int32) = 0 := rfl
      rw [if_pos k0, if_neg z1]
      refine ⟨trivial, fun e1 f2 e2 => Or.inr ?_⟩
      rw [if_neg k1, if_pos k0, if_neg z1, if_neg k1, if_pos k0, if_pos z0, q_t32, e8, q_sub (by omega), q_64 (by omega)]
      have t2 := s_107 (p := p) (lim := lim) (N := lim - p) (ld := 8) (by omega) (by omega) (by omega) (by omega) f2 e2 (nI (UB B (p + 4) 4))
      rw [if_pos (Nat.le_refl _), if_pos (show 8 ≤ lim - p by omega), show p + (lim - p) = lim by omega] at t2
      exact ⟨nI (UB B (p + 4) 4), p + 8, lim, by omega, by omega, by omega, rfl, t2⟩
    · have z0 : (0 : Int32) = 0 := rfl
      rw [if_pos k0, if_pos z0]
      refine ⟨o, fun e1 f2 e2 => ?_⟩
      rw [if_neg k1, if_pos k0, if_pos z0, if_neg k1, if_pos k0, if_neg hv]
      exact g e1 f2 e2
  · have k0 : ¬ lg_cmp (Int64.ofNat (UB B p 4)) 0 = 0 := by rw [q_ze0 l1]; exact z
    rw [if_neg k0]
    refine ⟨o, fun e1 f2 e2 => ?_⟩
    rw [if_neg k1, if_neg k0, if_neg k1, if_neg k0]
    exact g e1 f2 e2
theorem s_frame {sz nr : Nat} {fw gf : Nat → Int32} {B : Nat → Nat} (hB : HB sz nr fw gf B) {lv top hE rE : Int32} {p lim : Nat} (hp : p ≤ lim) (hl : lim ≤ sz) (hlim : m_Sc_limit lv hE rE (nI sz) = nI lim) (ht : (lv = 0 ∧ top = 1) ∨ (¬ lv = 0 ∧ top = 0)) : FrameOK sz nr fw gf lv top hE rE p lim := by
  have h1 := hB.1
  have h2 := hB.2.1
  by_cases a : p + 8 ≤ lim
  · have m := s_mf hB a hl top
    have s := s_so hB a hl hlim
    by_cases c : UB B p 4 = 1
    · have t := s_fr1 hB (lv := lv) (top := top) a hl c
      refine ⟨m.2 t.1, fun n1 f1 e1 n2 f2 e2 => ?_⟩
      rw [m.1, s]
      exact t.2 e1 f2 e2
    · have t := s_fr2 hB a hl c ht
      refine ⟨m.2 t.1, fun n1 f1 e1 n2 f2 e2 => ?_⟩
      rw [m.1, s]
      exact t.2 e1 f2 e2
  · have k : ¬ nI p + 8 ≤ nI lim := by rw [show (8 : Int32) = nI 8 from rfl, q_add, q_le (by omega) (by omega)]; exact a
    have k2 : ¬ (8 : Int32) ≤ nI lim - nI p := by rw [q_sub hp, show (8 : Int32) = nI 8 from rfl, q_le (by decide) (by omega)]; omega
    unfold FrameOK m_Mo_frame om_Mo_frame m_Sc_open k_Sc_open_1
    rw [hlim, if_neg k]
    refine ⟨trivial, fun n1 f1 e1 n2 f2 e2 => Or.inl ?_⟩
    rw [if_neg k, if_neg k2]
    exact ⟨1, _, _, _, _, _, _, Or.inl rfl, rfl, rfl⟩
