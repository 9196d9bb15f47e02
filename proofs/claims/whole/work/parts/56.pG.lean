theorem q_cmpl (x y : Int64) : (lg_cmp x y < 0) = (x.toInt < y.toInt) := by
  rw [← Int64.lt_iff_toInt_lt]
  unfold lg_cmp; grind
theorem q_cmpg (x y : Int64) : (0 ≤ lg_cmp x y) = (y.toInt ≤ x.toInt) := by
  rw [← Int64.le_iff_toInt_le]
  unfold lg_cmp; grind
theorem q_cmpe (x y : Int64) : (lg_cmp x y = 0) = (x = y) := by
  unfold lg_cmp; grind
theorem q_uns (x : BitVec 64) {u : Nat} (hu : u ≤ 64) : ((x <<< u) >>> u = x) ↔ x.toNat < 2 ^ (64 - u) := by
  constructor
  · intro h
    have h1 := congrArg BitVec.toNat h
    rw [← h1]
    exact BitVec.toNat_ushiftRight_lt _ _ hu
  · intro h
    apply BitVec.eq_of_toNat_eq
    have h2 : x.toNat * 2 ^ u < 2 ^ 64 := by
      have h3 : 2 ^ 64 = 2 ^ (64 - u) * 2 ^ u := by rw [← Nat.pow_add]; congr 1; omega
      rw [h3]
      exact Nat.mul_lt_mul_of_pos_right h (Nat.two_pow_pos u)
    rw [BitVec.toNat_ushiftRight, BitVec.toNat_shiftLeft, Nat.shiftRight_eq_div_pow, Nat.shiftLeft_eq, Nat.mod_eq_of_lt h2, Nat.mul_div_cancel _ (Nat.two_pow_pos u)]
theorem q_shlI (x : BitVec 64) (u : Nat) : (x <<< u).toInt = (x.toInt * 2 ^ u).bmod (2 ^ 64) := by
  have e1 : x.toInt = (x.toNat : Int).bmod (2 ^ 64) := BitVec.toInt_eq_toNat_bmod x
  rw [BitVec.toInt_eq_toNat_bmod, BitVec.toNat_shiftLeft, Nat.shiftLeft_eq, e1, Int.bmod_mul_bmod]
  rw [Int.natCast_emod, Int.natCast_mul, Int.natCast_pow]
  exact Int.emod_bmod _ _
theorem q_sgd (x : BitVec 64) {u r : Nat} (hu : r + u = 63) : ((x <<< u).sshiftRight u = x) ↔ (-(2 ^ r : Int) ≤ x.toInt ∧ x.toInt < 2 ^ r) := by
  have hp : (0 : Int) < ((2 ^ u : Nat) : Int) := by exact_mod_cast Nat.two_pow_pos u
  have hpp : (2 : Int) ^ 63 = 2 ^ r * ((2 ^ u : Nat) : Int) := by
    rw [Int.natCast_pow, show ((2 : Nat) : Int) = 2 from rfl, ← Int.pow_add, hu]
  constructor
  · intro h
    have h1 := congrArg BitVec.toInt h
    rw [BitVec.toInt_sshiftRight, Int.shiftRight_eq_div_pow] at h1
    have l1 := BitVec.toInt_lt (x := x <<< u)
    have l2 := BitVec.le_toInt (x <<< u)
    have l1 : (x <<< u).toInt < 2 ^ 63 := by simpa using l1
    have l2 : -(2 : Int) ^ 63 ≤ (x <<< u).toInt := by simpa using l2
    rw [← h1]
    constructor
    · rw [Int.le_ediv_iff_mul_le hp, Int.neg_mul, ← hpp]; exact l2
    · rw [Int.ediv_lt_iff_lt_mul hp, ← hpp]; exact l1
  · rintro ⟨h1, h2⟩
    apply BitVec.eq_of_toInt_eq
    have e1 : (2 : Int) ^ u = ((2 ^ u : Nat) : Int) := by rw [Int.natCast_pow]; rfl
    have b1 : x.toInt * ((2 ^ u : Nat) : Int) < 2 ^ 63 := by rw [hpp]; exact Int.mul_lt_mul_of_pos_right h2 hp
    have b2 : -(2 : Int) ^ 63 ≤ x.toInt * ((2 ^ u : Nat) : Int) := by
      rw [hpp, ← Int.neg_mul]; exact Int.mul_le_mul_of_nonneg_right h1 (Int.le_of_lt hp)
    rw [BitVec.toInt_sshiftRight, Int.shiftRight_eq_div_pow, q_shlI, e1, Int.bmod_eq_of_le (by omega) (by omega), Int.mul_ediv_cancel _ (by omega)]
theorem q_sm : ∀ u : Fin 64, ((Int64.ofNat u.val).toBitVec.smod 64).toNat = u.val := by decide +kernel
theorem q_smU : ∀ u : Fin 64, ((UInt64.ofNat u.val).toBitVec % 64).toNat = u.val := by decide +kernel
theorem q_shl (v : Int64) {u : Nat} (hu : u < 64) : (v <<< Int64.ofNat u).toBitVec = v.toBitVec <<< u := by
  rw [Int64.toBitVec_shiftLeft]
  show v.toBitVec <<< ((Int64.ofNat u).toBitVec.smod 64).toNat = _
  rw [q_sm ⟨u, hu⟩]
theorem q_shr (v : Int64) {u : Nat} (hu : u < 64) : (v >>> Int64.ofNat u).toBitVec = v.toBitVec.sshiftRight u := by
  rw [Int64.toBitVec_shiftRight, BitVec.sshiftRight_eq', q_sm ⟨u, hu⟩]
theorem q_shrU (v : UInt64) {u : Nat} (hu : u < 64) : (v >>> UInt64.ofNat u).toBitVec = v.toBitVec >>> u := by
  rw [UInt64.toBitVec_shiftRight]
  show v.toBitVec >>> ((UInt64.ofNat u).toBitVec % 64).toNat = _
  rw [q_smU ⟨u, hu⟩]
theorem q_amt : ∀ t : Fin 256, t.val % 128 ≤ 37 →
    ((64 - (if m_FB_bitCount (nI t.val) < 64 then m_FB_bitCount (nI t.val) else 64) : Int32).toInt64 &&& 63) = Int64.ofNat (63 - t.val % 128)
    ∧ ((64 - (if m_FB_bitCount (nI t.val) < 64 then m_FB_bitCount (nI t.val) else 64) : Int32).toInt64.toUInt64 &&& Int64.toUInt64 63) = UInt64.ofNat (63 - t.val % 128)
    ∧ (decide ((nI t.val &&& 128) = 0) = decide (t.val < 128))
    ∧ (decide (nI t.val ≤ 127) = decide (t.val < 128))
    ∧ ((1 : Int64) <<< (((nI t.val &&& 127) + 1 : Int32).toInt64 &&& 63)) = Int64.ofNat (2 ^ (t.val % 128 + 1))
    ∧ ((1 : Int64) <<< (((nI t.val &&& 127) + 0 : Int32).toInt64 &&& 63)) = Int64.ofNat (2 ^ (t.val % 128))
    ∧ (-((1 : Int64) <<< (((nI t.val &&& 127) + 0 : Int32).toInt64 &&& 63))).toInt = -(2 ^ (t.val % 128) : Int) := by decide +kernel
theorem q_lowU (t : Nat) (ht : t < 256) (h37 : t % 128 ≤ 37) (h : t < 128) (v : Int64) : (m_FB_lowestBits v (nI t)).toBitVec = (v.toBitVec <<< (63 - t % 128)) >>> (63 - t % 128) := by
  obtain ⟨a1, a2, a3, a4, a5, a6, a7⟩ := q_amt ⟨t, ht⟩ h37
  have a3 : (nI t &&& 128) = 0 := by
    have := a3.trans (decide_eq_true h); exact of_decide_eq_true this
  unfold m_FB_lowestBits k_FB_lowestBits_5
  rw [if_pos a3, a1, a2]
  show ((v <<< Int64.ofNat (63 - t % 128)).toUInt64 >>> UInt64.ofNat (63 - t % 128)).toBitVec = _
  rw [q_shrU _ (by omega)]
  show (v <<< Int64.ofNat (63 - t % 128)).toBitVec >>> _ = _
  rw [q_shl _ (by omega)]
theorem q_lowS (t : Nat) (ht : t < 256) (h37 : t % 128 ≤ 37) (h : ¬ t < 128) (v : Int64) : (m_FB_lowestBits v (nI t)).toBitVec = (v.toBitVec <<< (63 - t % 128)).sshiftRight (63 - t % 128) := by
  obtain ⟨a1, a2, a3, a4, a5, a6, a7⟩ := q_amt ⟨t, ht⟩ h37
  have a3 : ¬ (nI t &&& 128) = 0 := by
    have := a3.trans (decide_eq_false h); exact of_decide_eq_false this
  unfold m_FB_lowestBits k_FB_lowestBits_5
  rw [if_neg a3, a1, q_shr _ (by omega), q_shl _ (by omega)]
theorem q_fits (t : Nat) (ht : t < 256) (h37 : t % 128 ≤ 37) (v : Int64) :
    m_FB_fits v (nI t) = if t < 128 then (if 0 ≤ v.toInt ∧ v.toInt < 2 ^ (t % 128 + 1) then 1 else 0) else (if -(2 ^ (t % 128) : Int) ≤ v.toInt ∧ v.toInt < 2 ^ (t % 128) then 1 else 0) := by
  unfold m_FB_fits k_FB_fits_3
  simp only [q_cmpe]
  by_cases h : t < 128
  · rw [if_pos h]
    have e : (v = m_FB_lowestBits v (nI t)) ↔ (0 ≤ v.toInt ∧ v.toInt < 2 ^ (t % 128 + 1)) := by
      rw [← Int64.toBitVec_inj, q_lowU t ht h37 h, eq_comm, q_uns _ (by omega), show 64 - (63 - t % 128) = t % 128 + 1 by omega]
      have h1 : v.toInt = v.toBitVec.toInt := rfl
      have h2 : (2 : Nat) ^ (t % 128 + 1) ≤ 2 ^ 38 := Nat.pow_le_pow_right (by decide) (by omega)
      have h3 : ((2 : Int) ^ (t % 128 + 1)) = ((2 ^ (t % 128 + 1) : Nat) : Int) := by rw [Int.natCast_pow]; rfl
      rw [h1, BitVec.toInt_eq_toNat_cond, h3]
      have h4 := v.toBitVec.isLt
      generalize (2 : Nat) ^ (t % 128 + 1) = P at *
      split <;> omega
    by_cases c : 0 ≤ v.toInt ∧ v.toInt < 2 ^ (t % 128 + 1)
    · rw [if_pos c, if_pos (e.2 c)]
    · rw [if_neg c, if_neg (fun h => c (e.1 h))]
  · rw [if_neg h]
    have e : (v = m_FB_lowestBits v (nI t)) ↔ (-(2 ^ (t % 128) : Int) ≤ v.toInt ∧ v.toInt < 2 ^ (t % 128)) := by
      rw [← Int64.toBitVec_inj, q_lowS t ht h37 h, eq_comm, q_sgd (r := t % 128) _ (by omega)]
      exact Iff.rfl
    by_cases c : -(2 ^ (t % 128) : Int) ≤ v.toInt ∧ v.toInt < 2 ^ (t % 128)
    · rw [if_pos c, if_pos (e.2 c)]
    · rw [if_neg c, if_neg (fun h => c (e.1 h))]
theorem q_p63 {r : Nat} (hr : r ≤ 38) : (Int64.ofNat (2 ^ r)).toInt = 2 ^ r := by
  have h2 : (2 : Nat) ^ r ≤ 2 ^ 38 := Nat.pow_le_pow_right (by decide) hr
  rw [Int64.toInt_ofNat_of_lt (by omega), Int.natCast_pow]; rfl
theorem p_entry {e c n : Nat} {pb : Nat → Int32} {nf : Nat → Int64} {cb : Nat → Int32} {ng : Nat → Int64} (hQ : IQ e c pb n nf cb ng) (p1 p2 : Int32) (p3 : Int64) :
    om_Mo_entry (nI e) (nI c) cb p1 p2 p3 ∧ ∃ k nf2 ng2, m_La_entry (nI e) (nI c) 8 pb n nf p1 p2 p3 = (k, nf2) ∧ m_Mo_entry (nI e) (nI c) cb ng p1 p2 p3 = (k, ng2) ∧ IQ e c pb n nf2 cb ng2 := by
  have hs := hQ
  obtain ⟨i1, i2, i3, i4, i5, i6, i7, i8⟩ := hQ
  simp only [m_La_entry, k_La_entry_4, m_FB_entry, k_FB_entry_9, k_FB_entry_37, k_FB_entry_40, k_FB_entry_66, m_Mo_entry, k_Mo_entry_3, j_Mo_entry_23, j_Mo_entry_43, j_Mo_entry_94, j_Mo_entry_95, j_Mo_entry_117, k_Mo_entry_117, j_Mo_entry_73, om_Mo_entry, ok_Mo_entry_3, oj_Mo_entry_23, oj_Mo_entry_43, oj_Mo_entry_94, oj_Mo_entry_95, oj_Mo_entry_117, ok_Mo_entry_117, oj_Mo_entry_73, q_has, q_oisN, q_ref0, q_ref1, q_ref2, q_ref3, q10, q20, q30, n10, n20, n30, n40, n13, n43, n41, n23, n12, n32, q_oin, q_oab, q_oref, if_true, if_false, true_and, and_true, and_self, and_false, false_and, not_true_eq_false, not_false_eq_true, ne_eq, reduceIte, q_cmpl, q_cmpg]
  rcases q_isN (e := e) (c := c) (by omega) (by omega) p1 p2 with h | ⟨h, i, j, rfl, rfl, hi, hj⟩
  · simp only [h, q_ref0, q_ref1, q_ref2, q_ref3, q10, q20, q30, n10, n20, n30, n40, n13, n43, n41, n23, n12, n32, q_oin, q_oab, q_oref, if_true, if_false, true_and, and_true, and_self, and_false, false_and, not_true_eq_false, not_false_eq_true, ne_eq, reduceIte, ite_self]
    exact ⟨1, nf, ng, rfl, rfl, hs⟩
  · have hx := q_ix hi hj
    have hx2 : c * i = i * c := Nat.mul_comm c i
    obtain ⟨w1, t, w2, ht, h37⟩ := i7 j hj
    have w3 : cb j = nI t := by rw [← w1, w2]
    obtain ⟨a1, a2, a3, a4, a5, a6, a7⟩ := q_amt ⟨t, ht⟩ h37
    have good : IQ e c pb n (vp_updL nf (i * c + j) p3) cb (vp_updL ng (i * c + j) p3) :=
      ⟨i1, i2, i3, i4, i5, i6, i7, fun k hk => by
        by_cases ek : k = i * c + j
        · subst ek; rw [q_updL, q_updL]
        · rw [q_upnL _ _ ek, q_upnL _ _ ek]; exact i8 k hk⟩
    simp only [h, q_ref0, q_ref1, q_ref2, q_ref3, q10, q20, q30, n10, n20, n30, n40, n13, n43, n41, n23, n12, n32, q_oin, q_oab, q_oref, if_true, if_false, true_and, and_true, and_self, and_false, false_and, not_true_eq_false, not_false_eq_true, ne_eq, reduceIte, q_setN hi hj i4 i6, q_valIn (show 8 < 2147483648 by decide) (show j < 8 by omega), q_cl (show j < 2147483648 by omega), q_in (show j < 2147483648 by omega), w2, w3, q_mul, q_add, hx2, q_in (show i * c + j < 2147483648 by omega), q_cl (show i * c + j < 2147483648 by omega), q_fits t ht h37]
    by_cases h5 : t < 128
    · have h6 : nI t ≤ 127 := of_decide_eq_true (a4.trans (decide_eq_true h5))
      simp only [h5, h6, q_ref0, q_ref1, q_ref2, q_ref3, q10, q20, q30, n10, n20, n30, n40, n13, n43, n41, n23, n12, n32, q_oin, q_oab, q_oref, if_true, if_false, true_and, and_true, and_self, and_false, false_and, not_true_eq_false, not_false_eq_true, ne_eq, reduceIte, a5, q_p63 (show t % 128 + 1 ≤ 38 by omega), Int64.toInt_zero]
      by_cases k1 : p3.toInt < 0
      · have k2 : ¬ (0 ≤ p3.toInt ∧ p3.toInt < 2 ^ (t % 128 + 1)) := by omega
        simp only [k1, k2, q_ref0, q_ref1, q_ref2, q_ref3, q10, q20, q30, n10, n20, n30, n40, n13, n43, n41, n23, n12, n32, q_oin, q_oab, q_oref, if_true, if_false, true_and, and_true, and_self, and_false, false_and, not_true_eq_false, not_false_eq_true, ne_eq, reduceIte]
        exact ⟨by omega, 2, nf, ng, rfl, rfl, hs⟩
      · by_cases k3 : (2 : Int) ^ (t % 128 + 1) ≤ p3.toInt
        · have k2 : ¬ (0 ≤ p3.toInt ∧ p3.toInt < 2 ^ (t % 128 + 1)) := by omega
          simp only [k1, k2, k3, q_ref0, q_ref1, q_ref2, q_ref3, q10, q20, q30, n10, n20, n30, n40, n13, n43, n41, n23, n12, n32, q_oin, q_oab, q_oref, if_true, if_false, true_and, and_true, and_self, and_false, false_and, not_true_eq_false, not_false_eq_true, ne_eq, reduceIte]
          exact ⟨by omega, 2, nf, ng, rfl, rfl, hs⟩
        · have k2 : 0 ≤ p3.toInt ∧ p3.toInt < 2 ^ (t % 128 + 1) := by omega
          simp only [k1, k2, k3, q_ref0, q_ref1, q_ref2, q_ref3, q10, q20, q30, n10, n20, n30, n40, n13, n43, n41, n23, n12, n32, q_oin, q_oab, q_oref, if_true, if_false, true_and, and_true, and_self, and_false, false_and, not_true_eq_false, not_false_eq_true, ne_eq, reduceIte]
          exact ⟨by omega, 0, _, _, rfl, rfl, good⟩
    · have h6 : ¬ nI t ≤ 127 := of_decide_eq_false (a4.trans (decide_eq_false h5))
      have a8 := a7
      rw [a6] at a8
      simp only [h5, h6, q_ref0, q_ref1, q_ref2, q_ref3, q10, q20, q30, n10, n20, n30, n40, n13, n43, n41, n23, n12, n32, q_oin, q_oab, q_oref, if_true, if_false, true_and, and_true, and_self, and_false, false_and, not_true_eq_false, not_false_eq_true, ne_eq, reduceIte, a6, a8, q_p63 (show t % 128 ≤ 38 by omega)]
      by_cases k1 : p3.toInt < -(2 ^ (t % 128) : Int)
      · have k2 : ¬ (-(2 ^ (t % 128) : Int) ≤ p3.toInt ∧ p3.toInt < 2 ^ (t % 128)) := by omega
        simp only [k1, k2, q_ref0, q_ref1, q_ref2, q_ref3, q10, q20, q30, n10, n20, n30, n40, n13, n43, n41, n23, n12, n32, q_oin, q_oab, q_oref, if_true, if_false, true_and, and_true, and_self, and_false, false_and, not_true_eq_false, not_false_eq_true, ne_eq, reduceIte]
        exact ⟨by omega, 2, nf, ng, rfl, rfl, hs⟩
      · by_cases k3 : (2 : Int) ^ (t % 128) ≤ p3.toInt
        · have k2 : ¬ (-(2 ^ (t % 128) : Int) ≤ p3.toInt ∧ p3.toInt < 2 ^ (t % 128)) := by omega
          simp only [k1, k2, k3, q_ref0, q_ref1, q_ref2, q_ref3, q10, q20, q30, n10, n20, n30, n40, n13, n43, n41, n23, n12, n32, q_oin, q_oab, q_oref, if_true, if_false, true_and, and_true, and_self, and_false, false_and, not_true_eq_false, not_false_eq_true, ne_eq, reduceIte]
          exact ⟨by omega, 2, nf, ng, rfl, rfl, hs⟩
        · have k2 : -(2 ^ (t % 128) : Int) ≤ p3.toInt ∧ p3.toInt < 2 ^ (t % 128) := by omega
          simp only [k1, k2, k3, q_ref0, q_ref1, q_ref2, q_ref3, q10, q20, q30, n10, n20, n30, n40, n13, n43, n41, n23, n12, n32, q_oin, q_oab, q_oref, if_true, if_false, true_and, and_true, and_self, and_false, false_and, not_true_eq_false, not_false_eq_true, ne_eq, reduceIte]
          exact ⟨by omega, 0, _, _, rfl, rfl, good⟩
