/-- the boxes of the file itself -/
theorem q_e32 {a b : Nat} (ha : a < 4294967296) (hb : b < 4294967296) : (nI a = nI b) = (a = b) := by
  apply propext
  constructor
  · intro q
    have e := congrArg (fun x => x.toBitVec.toNat) q
    have e1 : (nI a).toBitVec.toNat = a % 2 ^ 32 := BitVec.toNat_ofNat a 32
    have e2 : (nI b).toBitVec.toNat = b % 2 ^ 32 := BitVec.toNat_ofNat b 32
    rw [e1, e2] at e
    omega
  · intro q; rw [q]
def akn (B : Nat → Nat) : Nat → Nat → Int32
  | 0, _ => 0
  | d + 1, p => if UB B p 4 = 1785737760 then 1 else akn B d (p + 4)
theorem akn_01 (B : Nat → Nat) : ∀ d p, akn B d p = 0 ∨ akn B d p = 1
  | 0, _ => Or.inl rfl
  | d + 1, p => by
    show (if UB B p 4 = 1785737760 then 1 else akn B d (p + 4)) = 0 ∨ (if UB B p 4 = 1785737760 then 1 else akn B d (p + 4)) = 1
    by_cases a : UB B p 4 = 1785737760
    · rw [if_pos a]; exact Or.inr rfl
    · rw [if_neg a]; exact akn_01 B d (p + 4)
theorem t_10 {sz nr : Nat} {fw gf : Nat → Int32} {B : Nat → Nat} (hB : HB sz nr fw gf B) {e : Nat} (he : e ≤ sz) : ∀ (d fu p : Nat) (v : Int32), d < fu → p + 4 * d = e → (v = 0 ∨ v = 1) →
    lp_Mo_isKind_10 (nI e) gf fu (nI p) v = (if v = 0 then akn B d p else 1) ∧ olp_Mo_isKind_10 (nI e) gf fu (nI p) v
  | d, 0, p, v, hd, h, hv => by omega
  | 0, fu + 1, p, v, hd, h, hv => by
    have h1 := hB.1
    have h2 := hB.2.1
    have k : nI e ≤ nI p := by rw [q_le (by omega) (by omega)]; omega
    have n := n_b1 hv
    show lb_Mo_isKind_10 (nI e) gf (lp_Mo_isKind_10 (nI e) gf fu) (nI p) v = (if v = 0 then 0 else 1) ∧ olb_Mo_isKind_10 (nI e) gf (olp_Mo_isKind_10 (nI e) gf fu) (nI p) v
    unfold lb_Mo_isKind_10 olb_Mo_isKind_10
    rw [if_pos k, if_pos k]
    refine ⟨?_, n, trivial⟩
    rcases hv with rfl | rfl <;> rfl
  | d + 1, fu + 1, p, v, hd, h, hv => by
    have h1 := hB.1
    have h2 := hB.2.1
    have k : ¬ nI e ≤ nI p := by rw [q_le (by omega) (by omega)]; omega
    have i0 := t_10 hB he d fu (p + 4) 0 (by omega) (by omega) (Or.inl rfl)
    have i1 := t_10 hB he d fu (p + 4) 1 (by omega) (by omega) (Or.inr rfl)
    have u := s_u4 hB (p := p) (by omega)
    have l := UB_4lt hB.2.2.1 p
    have e4 : nI p + 4 = nI (p + 4) := by rw [show (4 : Int32) = nI 4 from rfl, q_add]
    have cn : (nI (UB B p 4) = 1785737760) = (UB B p 4 = 1785737760) := q_e32 (b := 1785737760) l (by decide)
    have z0 : (0 : Int32) = 0 := rfl
    have z1 : ¬ (1 : Int32) = 0 := by decide
    rw [if_pos z0] at i0
    rw [if_neg z1] at i1
    show lb_Mo_isKind_10 (nI e) gf (lp_Mo_isKind_10 (nI e) gf fu) (nI p) v = (if v = 0 then (if UB B p 4 = 1785737760 then 1 else akn B d (p + 4)) else 1) ∧ olb_Mo_isKind_10 (nI e) gf (olp_Mo_isKind_10 (nI e) gf fu) (nI p) v
    unfold lb_Mo_isKind_10 olb_Mo_isKind_10 k_Mo_isKind_24 ok_Mo_isKind_24 j_Mo_isKind_34 oj_Mo_isKind_34 j_Mo_isKind_39 oj_Mo_isKind_39
    rw [if_neg k, if_neg k, u.1, q_t32, e4]
    simp only [cn]
    rcases hv with rfl | rfl
    · rw [if_pos z0, if_pos z0, if_pos z0]
      by_cases a : UB B p 4 = 1785737760
      · rw [if_pos a, if_pos a, if_pos a]; exact ⟨i1.1, u.2, i1.2⟩
      · rw [if_neg a, if_neg a, if_neg a]; exact ⟨i0.1, u.2, i0.2⟩
    · rw [if_neg z1, if_neg z1, if_neg z1]; exact i1
theorem t_39 {sz nr : Nat} {fw gf : Nat → Int32} {B : Nat → Nat} (hB : HB sz nr fw gf B) {e : Nat} (he : e ≤ sz) : ∀ (d fu p : Nat), d < fu → p + 4 * d = e → lp_Sc_readKind_39 (nI e) (nI sz) nr fw fu (nI p) = if akn B d p = 0 then 5 else 0
  | d, 0, p, hd, h => by omega
  | 0, fu + 1, p, hd, h => by
    have h1 := hB.1
    have h2 := hB.2.1
    have k : nI e ≤ nI p := by rw [q_le (by omega) (by omega)]; omega
    show lb_Sc_readKind_39 (nI e) (nI sz) nr fw (lp_Sc_readKind_39 (nI e) (nI sz) nr fw fu) (nI p) = if (0 : Int32) = 0 then 5 else 0
    unfold lb_Sc_readKind_39
    rw [if_pos k]; rfl
  | d + 1, fu + 1, p, hd, h => by
    have h1 := hB.1
    have h2 := hB.2.1
    have k : ¬ nI e ≤ nI p := by rw [q_le (by omega) (by omega)]; omega
    have ih := t_39 hB he d fu (p + 4) (by omega) (by omega)
    have i4 : m_By_intAt (nI sz) nr fw (nI p) 4 = nI (UB B p 4) := s_int hB (w := 4) (by omega)
    have l := UB_4lt hB.2.2.1 p
    have e4 : nI p + 4 = nI (p + 4) := by rw [show (4 : Int32) = nI 4 from rfl, q_add]
    have cn : (nI (UB B p 4) = 1785737760) = (UB B p 4 = 1785737760) := q_e32 (b := 1785737760) l (by decide)
    show lb_Sc_readKind_39 (nI e) (nI sz) nr fw (lp_Sc_readKind_39 (nI e) (nI sz) nr fw fu) (nI p) = if (if UB B p 4 = 1785737760 then (1 : Int32) else akn B d (p + 4)) = 0 then 5 else 0
    unfold lb_Sc_readKind_39 k_Sc_readKind_53
    rw [if_neg k, i4, e4, ih]
    simp only [cn]
    by_cases a : UB B p 4 = 1785737760
    · rw [if_pos a, if_pos a, if_neg (by decide)]
    · rw [if_neg a, if_neg a]
/-- SIGN and KIND -/
theorem t_sign {sz nr : Nat} {fw gf : Nat → Int32} {B : Nat → Nat} (hB : HB sz nr fw gf B) {f e : Nat} (hfe : f ≤ e) (he : e ≤ sz) (nm p2 p3 : Int32) :
    m_Sc_readSign nm (nI f) (nI e) (nI sz) nr fw = m_Mo_atTop nm (nI f) (nI e) gf 0 p2 p3 ∧ om_Mo_atTop nm (nI f) (nI e) gf 0 p2 p3 ∧ 0 ≤ m_Mo_atTop nm (nI f) (nI e) gf 0 p2 p3 ∧ (m_Mo_atTop nm (nI f) (nI e) gf 0 p2 p3 = 0 → nm = 1783636000) := by
  have h1 := hB.1
  have h2 := hB.2.1
  have k2 : ¬ (2 : Int32) ≤ 0 := by decide
  have z1 : ¬ (1 : Int32) = 0 := by decide
  have z0 : (0 : Int32) = 0 := rfl
  have c4 : (nI (e - f) = 4) = (e - f = 4) := by rw [show (4 : Int32) = nI 4 from rfl, q_eq (by omega) (by decide)]
  unfold m_Sc_readSign m_Sc_content m_Mo_atTop om_Mo_atTop j_Mo_atTop_20 oj_Mo_atTop_20 j_Mo_atTop_83 oj_Mo_atTop_83
  rw [if_neg k2, if_neg k2, if_pos z0, if_pos z0, q_sub hfe]
  by_cases a : nm = 1783636000
  · rw [if_pos a, if_pos a, if_pos a, if_pos z0, if_pos z0]
    unfold k_Sc_readSign_12
    simp only [c4]
    by_cases b : e - f = 4
    · have u := s_u4 hB (p := f) (by omega)
      have l := UB_4lt hB.2.2.1 f
      have i4 : m_By_intAt (nI sz) nr fw (nI f) 4 = nI (UB B f 4) := s_int hB (w := 4) (by omega)
      have cn : (nI (UB B f 4) = 218793738) = (UB B f 4 = 218793738) := q_e32 (b := 218793738) l (by decide)
      have cl : (lg_cmp (Int64.ofNat (UB B f 4)) 218793738 = 0) = (UB B f 4 = 218793738) := q_ze (y := 218793738) l (by decide)
      rw [if_pos b, if_pos b, if_pos b, if_neg z1, if_neg z1]
      simp only [if_true]
      unfold k_Sc_readSign_30 k_Mo_atTop_101 ok_Mo_atTop_101
      rw [i4, u.1]
      simp only [cn, cl, ite_self]
      refine ⟨trivial, ⟨u.2, trivial⟩, ?_, fun _ => a⟩
      split <;> decide
    · rw [if_neg b, if_neg b, if_neg b]
      simp only [if_true]
      exact ⟨trivial, trivial, by decide, fun q => absurd q (by decide)⟩
  · rw [if_neg a, if_neg a, if_neg a]
    exact ⟨rfl, trivial, by decide, fun q => absurd q (by decide)⟩
theorem t_kind {sz nr : Nat} {fw gf : Nat → Int32} {B : Nat → Nat} (hB : HB sz nr fw gf B) {f e : Nat} (hfe : f ≤ e) (he : e ≤ sz) (nm p2 p3 : Int32) :
    m_Sc_readKind nm (nI f) (nI e) (nI sz) nr fw = m_Mo_atTop nm (nI f) (nI e) gf 1 p2 p3 ∧ om_Mo_atTop nm (nI f) (nI e) gf 1 p2 p3 ∧ 0 ≤ m_Mo_atTop nm (nI f) (nI e) gf 1 p2 p3 ∧ (m_Mo_atTop nm (nI f) (nI e) gf 1 p2 p3 = 0 → nm = 1718909296) := by
  have h1 := hB.1
  have h2 := hB.2.1
  have k2 : ¬ (2 : Int32) ≤ 1 := by decide
  have z1 : ¬ (1 : Int32) = 0 := by decide
  have z0 : (0 : Int32) = 0 := rfl
  have c12 : (nI (e - f) < 12) = (e - f < 12) := by rw [show (12 : Int32) = nI 12 from rfl, q_lt (by omega) (by decide)]
  have cd : nI (e - f) / 4 = nI ((e - f) / 4) := by rw [show (4 : Int32) = nI 4 from rfl, q_div (by omega) (by decide)]
  have cr : (nI (e - f) - nI ((e - f) / 4) * 4 = 0) = ((e - f) % 4 = 0) := by
    rw [show (4 : Int32) = nI 4 from rfl, q_mul, q_sub (by omega), q_e0 (by omega)]
    apply propext; omega
  unfold m_Sc_readKind m_Sc_content m_Mo_atTop om_Mo_atTop j_Mo_atTop_20 oj_Mo_atTop_20 j_Mo_atTop_82 oj_Mo_atTop_82 j_Mo_atTop_83 oj_Mo_atTop_83
  rw [if_neg k2, if_neg k2, if_neg z1, if_neg z1, q_sub hfe, cd]
  by_cases a : nm = 1718909296
  · rw [if_pos a, if_pos a, if_pos a, if_neg z1, if_neg z1]
    unfold k_Sc_readKind_12 k_Sc_readKind_21 m_Sc_content
    rw [q_sub hfe, cd]
    simp only [c12, cr]
    by_cases b : e - f < 12
    · rw [if_pos b, if_pos b, if_pos b]
      simp only [if_true]
      exact ⟨trivial, trivial, by decide, fun q => absurd q (by decide)⟩
    · rw [if_neg b, if_neg b, if_neg b]
      by_cases g : (e - f) % 4 = 0
      · have e8 : nI f + 8 = nI (f + 8) := by rw [show (8 : Int32) = nI 8 from rfl, q_add]
        have fu : ((nI e).toInt - (nI (f + 8)).toInt).toNat + 1 = (e - (f + 8)) + 1 := by rw [q_toInt (by omega), q_toInt (by omega)]; omega
        have r := t_10 hB he ((e - (f + 8)) / 4) 70000 (f + 8) 0 (by omega) (by omega) (Or.inl rfl)
        have c := t_39 hB he ((e - (f + 8)) / 4) ((e - (f + 8)) + 1) (f + 8) (by omega) (by omega)
        rw [if_pos z0] at r
        rw [if_pos g, if_pos g, if_pos g, e8, fu, c]
        simp only [n_10, if_false]
        unfold k_Mo_atTop_120 ok_Mo_atTop_120 m_Mo_isKind om_Mo_isKind
        rw [e8, r.1]
        refine ⟨rfl, ⟨r.2, ?_⟩, ?_, fun _ => a⟩
        · split <;> trivial
        · split <;> decide
      · rw [if_neg g, if_neg g, if_neg g]
        simp only [if_true]
        exact ⟨trivial, trivial, by decide, fun q => absurd q (by decide)⟩
  · rw [if_neg a, if_neg a, if_neg a]
    exact ⟨rfl, trivial, by decide, fun q => absurd q (by decide)⟩
