/-- comparisons and sums of numbers that are not negative, as those of Nat -/
theorem q_le {a b : Nat} (ha : a < 2147483648) (hb : b < 2147483648) : (nI a ≤ nI b) = (a ≤ b) := propext (Int32.ofNat_le_iff_le ha hb)
theorem q_lt {a b : Nat} (ha : a < 2147483648) (hb : b < 2147483648) : (nI a < nI b) = (a < b) := propext (Int32.ofNat_lt_iff_lt ha hb)
theorem q_cl {a : Nat} (ha : a < 2147483648) : (nI a).toNatClampNeg = a := nI_clamp ha
theorem q_eq {a b : Nat} (ha : a < 2147483648) (hb : b < 2147483648) : (nI a = nI b) = (a = b) :=
  propext ⟨fun h => by have h2 := congrArg Int32.toNatClampNeg h; rwa [q_cl ha, q_cl hb] at h2, fun h => h ▸ rfl⟩
theorem q_l0 {a : Nat} (ha : a < 2147483648) : (nI a < 0) = False := by
  have h : (0 : Int32) = nI 0 := rfl
  rw [h, q_lt ha (by decide)]; simp
theorem q_0l {a : Nat} (ha : a < 2147483648) : (0 ≤ nI a) = True := by
  have h : (0 : Int32) = nI 0 := rfl
  rw [h, q_le (by decide) ha]; simp
theorem q_e0 {a : Nat} (ha : a < 2147483648) : (nI a = 0) = (a = 0) := by
  have h : (0 : Int32) = nI 0 := rfl
  rw [h, q_eq ha (by decide)]
theorem q_of {x : Int32} (h : ¬ x < 0) : ∃ j, x = nI j ∧ j < 2147483648 :=
  ⟨x.toNatClampNeg, (Int32.ofNat_toNatClampNeg x (Int32.not_lt.1 h)).symm, x.toNatClampNeg_lt⟩
theorem il_p {α : Type} {a b : Nat} {x y : α} (ha : a < 2147483648) (hb : b < 2147483648) (h : a ≤ b) : (if nI a ≤ nI b then x else y) = x := if_pos (by rw [q_le ha hb]; exact h)
theorem il_n {α : Type} {a b : Nat} {x y : α} (ha : a < 2147483648) (hb : b < 2147483648) (h : b < a) : (if nI a ≤ nI b then x else y) = y := if_neg (by rw [q_le ha hb]; omega)
theorem it_p {α : Type} {a b : Nat} {x y : α} (ha : a < 2147483648) (hb : b < 2147483648) (h : a < b) : (if nI a < nI b then x else y) = x := if_pos (by rw [q_lt ha hb]; exact h)
theorem it_n {α : Type} {a b : Nat} {x y : α} (ha : a < 2147483648) (hb : b < 2147483648) (h : b ≤ a) : (if nI a < nI b then x else y) = y := if_neg (by rw [q_lt ha hb]; omega)
theorem i0_n {α : Type} {a : Nat} {x y : α} (ha : a < 2147483648) : (if nI a < 0 then x else y) = y := if_neg (by rw [q_l0 ha]; exact id)
theorem ie_p {α : Type} {a : Nat} {x y : α} (ha : a < 2147483648) (h : a = 0) : (if nI a = 0 then x else y) = x := if_pos (by rw [q_e0 ha]; exact h)
theorem ie_n {α : Type} {a : Nat} {x y : α} (ha : a < 2147483648) (h : a ≠ 0) : (if nI a = 0 then x else y) = y := if_neg (by rw [q_e0 ha]; exact h)
theorem q_add (a b : Nat) : nI a + nI b = nI (a + b) := (Int32.ofNat_add a b).symm
theorem q_mul (a b : Nat) : nI a * nI b = nI (a * b) := (Int32.ofNat_mul a b).symm
theorem q_sub {a b : Nat} (h : b ≤ a) : nI a - nI b = nI (a - b) := (Int32.ofNat_sub a b h).symm
theorem q_div {a b : Nat} (ha : a < 2147483648) (hb : b < 2147483648) : nI a / nI b = nI (a / b) := (Int32.ofNat_div ha hb).symm
theorem q_mod {a b : Nat} (ha : a < 2147483648) (hb : b < 2147483648) : nI a % nI b = nI (a % b) := (Int32.ofNat_mod ha hb).symm
theorem q_in {a n : Nat} (ha : a < 2147483648) : vp_in (nI a) n = (a < n) := by
  unfold vp_in
  rw [q_l0 ha, q_cl ha]
  exact propext ⟨fun h => Nat.lt_of_not_le (fun q => h (Or.inr q)), fun h q => q.elim id (fun q => absurd h (Nat.not_lt.mpr q))⟩
theorem q_toInt {a : Nat} (ha : a < 2147483648) : (nI a).toInt = a := nI_toInt ha
theorem q_64 {a : Nat} (ha : a < 2147483648) : (nI a).toInt64 = Int64.ofNat a := by
  rw [← Int64.ofNat_int32ToNatClampNeg (nI a) (by rw [q_0l ha]; trivial), q_cl ha]
/-- the reference's test of a range -/
theorem q_in64 (x l h : Int64) : m_Mo_in x l h = if l ≤ x ∧ x ≤ h then 1 else 0 := by
  unfold m_Mo_in lg_cmp
  grind
theorem q_in32 (x l h : Int32) : m_Mo_in x.toInt64 l.toInt64 h.toInt64 = if l ≤ x ∧ x ≤ h then 1 else 0 := by
  rw [q_in64]
  simp only [Int64.le_iff_toInt_le, Int32.toInt_toInt64, Int32.le_iff_toInt_le]
theorem q_inI (x : Int32) (l h : Int32) (l2 h2 : Int64) (e1 : l2 = l.toInt64) (e2 : h2 = h.toInt64) : m_Mo_in x.toInt64 l2 h2 = if l ≤ x ∧ x ≤ h then 1 else 0 := by
  rw [e1, e2, q_in32]
theorem q_in1_16 (x : Int32) : m_Mo_in x.toInt64 1 16 = if 1 ≤ x ∧ x ≤ 16 then 1 else 0 := q_inI x 1 16 1 16 (by decide) (by decide)
theorem q_in16_18 (x : Int32) : m_Mo_in x.toInt64 16 18 = if 16 ≤ x ∧ x ≤ 18 then 1 else 0 := q_inI x 16 18 16 18 (by decide) (by decide)
theorem q_in0_255 (x : Int32) : m_Mo_in x.toInt64 0 255 = if 0 ≤ x ∧ x ≤ 255 then 1 else 0 := q_inI x 0 255 0 255 (by decide) (by decide)
theorem q_in0_1024 (x : Int32) : m_Mo_in x.toInt64 0 1024 = if 0 ≤ x ∧ x ≤ 1024 then 1 else 0 := q_inI x 0 1024 0 1024 (by decide) (by decide)
theorem q_in1_1024 (x : Int32) : m_Mo_in x.toInt64 1 1024 = if 1 ≤ x ∧ x ≤ 1024 then 1 else 0 := q_inI x 1 1024 1 1024 (by decide) (by decide)
theorem q_in1_8 (x : Int32) : m_Mo_in x.toInt64 1 8 = if 1 ≤ x ∧ x ≤ 8 then 1 else 0 := q_inI x 1 8 1 8 (by decide) (by decide)
theorem q_in1_2 (x : Int32) : m_Mo_in x.toInt64 1 2 = if 1 ≤ x ∧ x ≤ 2 then 1 else 0 := q_inI x 1 2 1 2 (by decide) (by decide)
theorem q_in0_1 (x : Int32) : m_Mo_in x.toInt64 0 1 = if 0 ≤ x ∧ x ≤ 1 then 1 else 0 := q_inI x 0 1 0 1 (by decide) (by decide)
theorem q_in0_2 (x : Int32) : m_Mo_in x.toInt64 0 2 = if 0 ≤ x ∧ x ≤ 2 then 1 else 0 := q_inI x 0 2 0 2 (by decide) (by decide)
theorem q_in0_10 (x : Int32) : m_Mo_in x.toInt64 0 10 = if 0 ≤ x ∧ x ≤ 10 then 1 else 0 := q_inI x 0 10 0 10 (by decide) (by decide)
theorem q_in0_15 (x : Int32) : m_Mo_in x.toInt64 0 15 = if 0 ≤ x ∧ x ≤ 15 then 1 else 0 := q_inI x 0 15 0 15 (by decide) (by decide)
theorem q_in30_35 (x : Int32) : m_Mo_in x.toInt64 30 35 = if 30 ≤ x ∧ x ≤ 35 then 1 else 0 := q_inI x 30 35 30 35 (by decide) (by decide)
theorem q_in40_45 (x : Int32) : m_Mo_in x.toInt64 40 45 = if 40 ≤ x ∧ x ≤ 45 then 1 else 0 := q_inI x 40 45 40 45 (by decide) (by decide)
theorem q_in0_65535 (x : Int32) : m_Mo_in x.toInt64 0 65535 = if 0 ≤ x ∧ x ≤ 65535 then 1 else 0 := q_inI x 0 65535 0 65535 (by decide) (by decide)
theorem q_in1_65535 (x : Int32) : m_Mo_in x.toInt64 1 65535 = if 1 ≤ x ∧ x ≤ 65535 then 1 else 0 := q_inI x 1 65535 1 65535 (by decide) (by decide)
theorem q_in0_65536 (x : Int32) : m_Mo_in x.toInt64 0 65536 = if 0 ≤ x ∧ x ≤ 65536 then 1 else 0 := q_inI x 0 65536 0 65536 (by decide) (by decide)
theorem q_inp (x : Int32) : m_Mo_in x.toInt64 (-128) 127 = if -128 ≤ x ∧ x ≤ 127 then 1 else 0 := q_inI x (-128) 127 (-128) 127 (by decide) (by decide)
theorem q_oin (x l h : Int64) : om_Mo_in x l h = True := by unfold om_Mo_in; simp
theorem q_oab (x : Int32) : om_Mo_areBits x = True := by unfold om_Mo_areBits; simp
theorem q_oref (x : Int32) : om_Mo_refuse x = True := by unfold om_Mo_refuse; simp
theorem q_ref0 : m_Mo_refuse 0 = (0, 0) := by decide
theorem q_ref1 : m_Mo_refuse 1 = (1, 1) := by decide
theorem q_ref2 : m_Mo_refuse 2 = (1, 2) := by decide
theorem q_ref3 : m_Mo_refuse 3 = (1, 3) := by decide
theorem q10 : ((1 : Int32) = 0) = False := eq_false (by decide)
theorem q20 : ((2 : Int32) = 0) = False := eq_false (by decide)
theorem q30 : ((3 : Int32) = 0) = False := eq_false (by decide)
theorem n10 : ((1 : Nat) = 0) = False := eq_false (by decide)
theorem n20 : ((2 : Nat) = 0) = False := eq_false (by decide)
theorem n30 : ((3 : Nat) = 0) = False := eq_false (by decide)
theorem n40 : ((4 : Nat) = 0) = False := eq_false (by decide)
theorem n13 : ((1 : Nat) = 3) = False := eq_false (by decide)
theorem n43 : ((4 : Nat) = 3) = False := eq_false (by decide)
theorem n41 : ((4 : Nat) = 1) = False := eq_false (by decide)
theorem n23 : ((2 : Nat) = 3) = False := eq_false (by decide)
theorem n12 : ((1 : Nat) = 2) = False := eq_false (by decide)
theorem n32 : ((3 : Nat) = 2) = False := eq_false (by decide)
/-- bits and masks -/
theorem q_sgn (x y : Int32) (hx : x < 0) (hy : y < 0) : x &&& y < 0 := by
  rw [Int32.lt_iff_toInt_lt] at hx hy ⊢
  have e : ∀ z : Int32, (z.toInt < (0 : Int32).toInt) ↔ z.toBitVec.msb = true := fun z => by
    rw [BitVec.msb_eq_toInt, decide_eq_true_iff]; exact Iff.rfl
  rw [e] at hx hy ⊢
  rw [Int32.toBitVec_and, BitVec.msb_and, hx, hy]; rfl
theorem q_andn {a b : Nat} (ha : a < 2147483648) (hb : b < 2147483648) : nI a &&& nI b = nI (a &&& b) := by
  apply Int32.toBitVec_inj.1
  show BitVec.ofNat 32 a &&& BitVec.ofNat 32 b = BitVec.ofNat 32 (a &&& b)
  apply BitVec.eq_of_toNat_eq
  rw [BitVec.toNat_and, BitVec.toNat_ofNat, BitVec.toNat_ofNat, BitVec.toNat_ofNat, Nat.mod_eq_of_lt (by omega), Nat.mod_eq_of_lt (by omega)]
  exact (Nat.mod_eq_of_lt (Nat.lt_of_le_of_lt Nat.and_le_left (by omega))).symm
theorem q_and255 {a : Nat} (ha : a < 2147483648) : nI a &&& 255 = nI (a % 256) := by
  have h : (255 : Int32) = nI 255 := rfl
  rw [h, q_andn ha (by decide), show (255 : Nat) = 2 ^ 8 - 1 from rfl, Nat.and_two_pow_sub_one_eq_mod]
/-- the lowest eight bits -/
def bo (x : Int) : Nat := (x % 256).toNat
theorem bo_lt (x : Int) : bo x < 256 := by unfold bo; omega
theorem q_255 (x : Int32) : x &&& 255 = nI (bo x.toInt) := by
  apply Int32.toBitVec_inj.1
  apply BitVec.eq_of_toNat_eq
  rw [Int32.toBitVec_and, BitVec.toNat_and]
  have h1 : ((255 : Int32).toBitVec).toNat = 2 ^ 8 - 1 := rfl
  rw [h1, Nat.and_two_pow_sub_one_eq_mod]
  show _ = (BitVec.ofNat 32 (bo x.toInt)).toNat
  rw [BitVec.toNat_ofNat, Nat.mod_eq_of_lt (a := bo x.toInt) (b := 2 ^ 32) (by have := bo_lt x.toInt; omega)]
  unfold bo
  have h2 : x.toInt = x.toBitVec.toInt := rfl
  rw [h2, BitVec.toInt_eq_toNat_bmod, Int.bmod_def]
  have h3 := x.toBitVec.isLt
  split <;> omega
theorem q_b8 (x : Int32) : bo (x.toInt8.toInt32).toInt = bo x.toInt := by
  have h : (x.toInt8.toInt32).toInt = x.toInt.bmod (2 ^ 8) := by
    rw [Int8.toInt_toInt32]; exact Int32.toInt_toInt8 x
  rw [h]; unfold bo
  rw [Int.bmod_def]
  omega
theorem q_b32 (x : Int64) : bo (x.toInt32).toInt = bo x.toInt := by
  have h : (x.toInt32).toInt = x.toInt.bmod (2 ^ 32) := Int64.toInt_toInt32 x
  rw [h]; unfold bo
  rw [Int.bmod_def]
  omega
theorem q_255L (x : Int64) : (x &&& 255).toInt32 = nI (bo x.toInt) := by
  rw [Int64.toInt32_and, show ((255 : Int64).toInt32) = 255 from by decide, q_255, q_b32]
theorem q_nar (x : Int32) : vp_nar .byte x = x.toInt8.toInt32 := rfl
theorem q_st (x : Int32) : (vp_nar .byte (x.toInt8.toInt32)) &&& 255 = nI (bo x.toInt) := by
  rw [q_nar, q_255, q_b8, q_b8]
theorem bo_nI {a : Nat} (ha : a < 256) : bo (nI a).toInt = a := by
  unfold bo; rw [q_toInt (by omega)]; omega
/-- the bits of a number: 0 .. 37, with 128 or without -/
def VB (b : Int32) : Prop := ∃ n : Nat, b = nI n ∧ n < 256 ∧ n % 128 ≤ 37
theorem q_bits256 : ∀ n : Fin 256, m_FB_areBits (nI n.val) = (if n.val % 128 ≤ 37 then 1 else 0) ∧ m_Mo_areBits (nI n.val) = (if n.val % 128 ≤ 37 then 1 else 0) := by decide +kernel
theorem q_areMo (b : Int32) : m_Mo_areBits b = 0 ∨ (m_Mo_areBits b = 1 ∧ VB b) := by
  by_cases h : b < 0
  · exact Or.inl (by unfold m_Mo_areBits; rw [if_pos h])
  · by_cases h2 : 256 ≤ b
    · exact Or.inl (by unfold m_Mo_areBits; rw [if_neg h, if_pos h2])
    · obtain ⟨n, rfl, hn⟩ := q_of h
      have h3 : n < 256 := by
        have e : (256 : Int32) = nI 256 := rfl
        rw [e, q_le (by decide) hn] at h2; omega
      have h4 := (q_bits256 ⟨n, h3⟩).2
      by_cases h5 : n % 128 ≤ 37
      · exact Or.inr ⟨by rw [h4, if_pos h5], n, rfl, h3, h5⟩
      · exact Or.inl (by rw [h4, if_neg h5])
theorem q_areBits (b : Int32) : m_FB_areBits b = m_Mo_areBits b := by
  by_cases h : b < 0
  · have h1 : m_Mo_areBits b = 0 := by unfold m_Mo_areBits; rw [if_pos h]
    rw [h1]; unfold m_FB_areBits
    rw [if_pos (q_sgn b (-129) h (by decide))]
  · obtain ⟨n, rfl, hn⟩ := q_of h
    by_cases h3 : n < 256
    · rw [(q_bits256 ⟨n, h3⟩).2, (q_bits256 ⟨n, h3⟩).1]
    · have e : (256 : Int32) = nI 256 := rfl
      have h1 : m_Mo_areBits (nI n) = 0 := by
        unfold m_Mo_areBits; rw [if_neg h, if_pos (by rw [e, q_le (by decide) hn]; omega)]
      rw [h1]
      have e2 : nI n &&& (-129) = nI (n &&& 2147483519) := by
        apply Int32.toBitVec_inj.1
        apply BitVec.eq_of_toNat_eq
        rw [Int32.toBitVec_and, BitVec.toNat_and]
        have a1 : ((-129 : Int32).toBitVec).toNat = 4294967167 := rfl
        have a2 : ((nI n).toBitVec).toNat = n := by
          show (BitVec.ofNat 32 n).toNat = n
          rw [BitVec.toNat_ofNat, Nat.mod_eq_of_lt (by omega)]
        have a3 : ((nI (n &&& 2147483519)).toBitVec).toNat = n &&& 2147483519 := by
          show (BitVec.ofNat 32 _).toNat = _
          rw [BitVec.toNat_ofNat, Nat.mod_eq_of_lt (Nat.lt_of_le_of_lt Nat.and_le_left (by omega))]
        rw [a1, a2, a3]
        have a4 : n &&& 2147483647 = n := by
          rw [show (2147483647 : Nat) = 2 ^ 31 - 1 from rfl, Nat.and_two_pow_sub_one_eq_mod, Nat.mod_eq_of_lt (by omega)]
        conv => lhs; rw [← a4]
        rw [Nat.and_assoc]; rfl
      have e3 : (n &&& 2147483519) / 256 = n / 256 := by
        have c1 : (n &&& 2147483519) >>> 8 = n >>> 8 &&& 2147483519 >>> 8 := Nat.shiftRight_and_distrib
        rw [show (2147483519 >>> 8 : Nat) = 2 ^ 23 - 1 from rfl, Nat.and_two_pow_sub_one_eq_mod, Nat.shiftRight_eq_div_pow, Nat.shiftRight_eq_div_pow, show (2 ^ 8 : Nat) = 256 from rfl, show (2 ^ 23 : Nat) = 8388608 from rfl] at c1
        omega
      have e5 : n &&& 2147483519 ≤ n := Nat.and_le_left
      unfold m_FB_areBits
      rw [e2, if_neg (by rw [q_l0 (by omega)]; exact id), if_pos]
      have e6 : (37 : Int32) = nI 37 := rfl
      rw [e6, q_lt (by decide) (by omega)]; omega
