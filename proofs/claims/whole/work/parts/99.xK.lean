/-- what the reference makes of a ratio -/
theorem x_k36 {sz nr : Nat} {fw gf : Nat → Int32} {B : Nat → Nat} (hB : HB sz nr fw gf B) {a t : Nat} (ha0 : a ≠ 0) (ha : a + 10 ≤ sz) (ht : t ≤ 6) : ∀ (d j : Nat) (rs : Nat → Int32), j + d = 2 →
    ∃ rs2, lp_Mo_makeResolution_36 gf (nI a) (nI t) (d + 1) (nI j) rs = rs2 ∧ olp_Mo_makeResolution_36 gf (nI a) (nI t) (d + 1) (nI j) rs ∧ (∀ k, j ≤ k → k < 2 → rs2 (t + 4 + k) = (nI (B (a + 8 + k))).toInt8.toInt32) ∧ (∀ k, (k < t + 4 + j ∨ t + 6 ≤ k) → rs2 k = rs k)
  | 0, j, rs, h => by
    have k : (2 : Int32) ≤ nI j := by rw [show (2 : Int32) = nI 2 from rfl, q_le (by decide) (by omega)]; omega
    refine ⟨rs, ?_, ?_, fun k h1 h2 => by omega, fun k hk => rfl⟩
    · show lb_Mo_makeResolution_36 gf (nI a) (nI t) (lp_Mo_makeResolution_36 gf (nI a) (nI t) 0) (nI j) rs = _
      unfold lb_Mo_makeResolution_36
      rw [if_pos k]
    · show olb_Mo_makeResolution_36 gf (nI a) (nI t) (olp_Mo_makeResolution_36 gf (nI a) (nI t) 0) (nI j) rs
      unfold olb_Mo_makeResolution_36
      rw [if_pos k]; trivial
  | d + 1, j, rs, h => by
    have h1 := hB.1
    have h2 := hB.2.1
    have k : ¬ (2 : Int32) ≤ nI j := by rw [show (2 : Int32) = nI 2 from rfl, q_le (by decide) (by omega)]; omega
    have k0 : ¬ nI a ≤ 0 := by rw [h_le0 (by omega)]; exact ha0
    have e1 : nI t + 4 + nI j = nI (t + 4 + j) := by rw [show (4 : Int32) = nI 4 from rfl, q_add, q_add]
    have e2 : nI a + 8 + nI j = nI (a + 8 + j) := by rw [show (8 : Int32) = nI 8 from rfl, q_add, q_add]
    obtain ⟨rs2, i1, i2, i3, i4⟩ := x_k36 hB ha0 ha ht d (j + 1) (upd rs (t + 4 + j) ((nI (B (a + 8 + j))).toInt8.toInt32)) (by omega)
    refine ⟨rs2, ?_, ?_, fun k h1 h2 => ?_, fun k hk => ?_⟩
    · rw [← i1]
      show lb_Mo_makeResolution_36 gf (nI a) (nI t) (lp_Mo_makeResolution_36 gf (nI a) (nI t) (d + 1)) (nI j) rs = _
      unfold lb_Mo_makeResolution_36
      rw [if_neg k, if_neg k0, e1, e2, q_cl (by omega), q_cl (by omega), (hB.2.2.2 (a + 8 + j) (by omega)).2, ← nI_succ]
    · show olb_Mo_makeResolution_36 gf (nI a) (nI t) (olp_Mo_makeResolution_36 gf (nI a) (nI t) (d + 1)) (nI j) rs
      unfold olb_Mo_makeResolution_36
      rw [if_neg k, if_neg k0, e1, e2, q_cl (by omega), q_cl (by omega), (hB.2.2.2 (a + 8 + j) (by omega)).2, ← nI_succ, q_in (by omega), q_in (by omega)]
      exact ⟨by omega, by omega, i2⟩
    · by_cases z : k = j
      · rw [z, i4 (t + 4 + j) (by omega), q_upd]
      · exact i3 k (by omega) h2
    · rw [i4 k (by omega), q_upn _ _ (by omega)]
theorem x_k2 {sz nr : Nat} {fw gf : Nat → Int32} {B : Nat → Nat} (hB : HB sz nr fw gf B) {a t : Nat} (ha0 : a ≠ 0) (ha : a + 10 ≤ sz) (ht : t ≤ 6) : ∀ (d j : Nat) (rs : Nat → Int32), j + d = 4 →
    ∃ rs2, lp_Mo_makeResolution_2 gf (nI a) (nI t) (d + 1) (nI j) rs = rs2 ∧ olp_Mo_makeResolution_2 gf (nI a) (nI t) (d + 1) (nI j) rs ∧ (∀ k, j ≤ k → k < 4 → rs2 (t + k) = nI (UB B (a + 2 * k) 2)) ∧ (∀ k, k < 2 → rs2 (t + 4 + k) = (nI (B (a + 8 + k))).toInt8.toInt32) ∧ (∀ k, (k < t + j ∨ t + 6 ≤ k) → rs2 k = rs k)
  | 0, j, rs, h => by
    have k : (4 : Int32) ≤ nI j := by rw [show (4 : Int32) = nI 4 from rfl, q_le (by decide) (by omega)]; omega
    have e3 : ((2 : Int32).toInt - (0 : Int32).toInt).toNat + 1 = 2 + 1 := by decide
    obtain ⟨rs2, i1, i2, i3, i4⟩ := x_k36 hB ha0 ha ht 2 0 rs (by omega)
    refine ⟨rs2, ?_, ?_, fun k h1 h2 => by omega, fun k hk => i3 k (by omega) hk, fun k hk => i4 k (by omega)⟩
    · show lb_Mo_makeResolution_2 gf (nI a) (nI t) (lp_Mo_makeResolution_2 gf (nI a) (nI t) 0) (nI j) rs = _
      unfold lb_Mo_makeResolution_2 j_Mo_makeResolution_34
      rw [if_pos k, e3]; exact i1
    · show olb_Mo_makeResolution_2 gf (nI a) (nI t) (olp_Mo_makeResolution_2 gf (nI a) (nI t) 0) (nI j) rs
      unfold olb_Mo_makeResolution_2 oj_Mo_makeResolution_34
      rw [if_pos k, e3]; exact i2
  | d + 1, j, rs, h => by
    have h1 := hB.1
    have h2 := hB.2.1
    have k : ¬ (4 : Int32) ≤ nI j := by rw [show (4 : Int32) = nI 4 from rfl, q_le (by decide) (by omega)]; omega
    have k0 : ¬ nI a ≤ 0 := by rw [h_le0 (by omega)]; exact ha0
    have u : m_Mo_u2 gf (nI a + (2 * nI j)) = nI (UB B (a + 2 * j) 2) ∧ om_Mo_u2 (nI a + (2 * nI j)) := by rw [show (2 : Int32) = nI 2 from rfl, q_mul, q_add]; exact s_u2 hB (by omega)
    obtain ⟨rs2, i1, i2, i3, i4, i5⟩ := x_k2 hB ha0 ha ht d (j + 1) (upd rs (t + j) (nI (UB B (a + 2 * j) 2))) (by omega)
    refine ⟨rs2, ?_, ?_, fun k h1 h2 => ?_, i4, fun k hk => ?_⟩
    · rw [← i1]
      show lb_Mo_makeResolution_2 gf (nI a) (nI t) (lp_Mo_makeResolution_2 gf (nI a) (nI t) (d + 1)) (nI j) rs = _
      unfold lb_Mo_makeResolution_2 k_Mo_makeResolution_24
      rw [if_neg k, if_neg k0, u.1, q_add, q_cl (by omega), ← nI_succ]
    · show olb_Mo_makeResolution_2 gf (nI a) (nI t) (olp_Mo_makeResolution_2 gf (nI a) (nI t) (d + 1)) (nI j) rs
      unfold olb_Mo_makeResolution_2 ok_Mo_makeResolution_24
      rw [if_neg k, if_neg k0, u.1]
      refine ⟨u.2, ?_⟩
      rw [q_add, q_cl (by omega), ← nI_succ, q_in (by omega)]
      exact ⟨by omega, i2⟩
    · by_cases z : k = j
      · rw [z, i5 (t + j) (by omega), q_upd]
      · exact i3 k (by omega) h2
    · rw [i5 k (by omega), q_upn _ _ (by omega)]
theorem x_mkr {sz nr : Nat} {fw gf : Nat → Int32} {B : Nat → Nat} (hB : HB sz nr fw gf B) {a t : Nat} (ha : a ≠ 0 → a + 10 ≤ sz) (ht : t ≤ 6) (rs : Nat → Int32) :
    ∃ rs2, m_Mo_makeResolution gf rs (nI a) (nI t) = rs2 ∧ om_Mo_makeResolution gf rs (nI a) (nI t) ∧ (a = 0 → rs2 = rs) ∧ (a ≠ 0 → (∀ k, k < 4 → rs2 (t + k) = nI (UB B (a + 2 * k) 2)) ∧ (∀ k, k < 2 → rs2 (t + 4 + k) = (nI (B (a + 8 + k))).toInt8.toInt32)) ∧ (∀ k, (k < t ∨ t + 6 ≤ k) → rs2 k = rs k) := by
  have e5 : ((4 : Int32).toInt - (0 : Int32).toInt).toNat + 1 = 4 + 1 := by decide
  unfold m_Mo_makeResolution om_Mo_makeResolution
  rw [e5]
  by_cases z : a = 0
  · subst z
    have k : ¬ (4 : Int32) ≤ 0 := by decide
    have k2 : ¬ (2 : Int32) ≤ 0 := by decide
    have k0 : nI 0 ≤ 0 := by decide
    have e3 : ((2 : Int32).toInt - (0 : Int32).toInt).toNat + 1 = 2 + 1 := by decide
    refine ⟨rs, ?_, ?_, fun _ => rfl, fun q => absurd rfl q, fun k hk => rfl⟩
    · show lb_Mo_makeResolution_2 gf (nI 0) (nI t) (lp_Mo_makeResolution_2 gf (nI 0) (nI t) 4) 0 rs = _
      unfold lb_Mo_makeResolution_2 j_Mo_makeResolution_34
      rw [if_neg k, if_pos k0, e3]
      show lb_Mo_makeResolution_36 gf (nI 0) (nI t) (lp_Mo_makeResolution_36 gf (nI 0) (nI t) 2) 0 rs = _
      unfold lb_Mo_makeResolution_36
      rw [if_neg k2, if_pos k0]
    · show olb_Mo_makeResolution_2 gf (nI 0) (nI t) (olp_Mo_makeResolution_2 gf (nI 0) (nI t) 4) 0 rs
      unfold olb_Mo_makeResolution_2 oj_Mo_makeResolution_34
      rw [if_neg k, if_pos k0, e3]
      show olb_Mo_makeResolution_36 gf (nI 0) (nI t) (olp_Mo_makeResolution_36 gf (nI 0) (nI t) 2) 0 rs
      unfold olb_Mo_makeResolution_36
      rw [if_neg k2, if_pos k0]; trivial
  · obtain ⟨rs2, i1, i2, i3, i4, i5⟩ := x_k2 hB z (ha z) ht 4 0 rs (by omega)
    exact ⟨rs2, i1, i2, fun q => absurd q z, fun _ => ⟨fun k hk => i3 k (by omega) hk, i4⟩, fun k hk => i5 k (by omega)⟩
