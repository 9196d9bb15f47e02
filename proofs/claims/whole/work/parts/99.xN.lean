def MkH (B : Nat → Nat) (sz pA mA dd : Nat) : Prop := (1 ≤ UB B pA 2 ∧ UB B pA 2 ≤ 1024) ∧ (1 ≤ B (pA + 2) ∧ B (pA + 2) ≤ 8) ∧ UB B pA 2 * B (pA + 2) ≤ 4096 ∧ (∀ t, t < B (pA + 2) → B (pA + 3 + t) % 128 ≤ 37) ∧ pA + 3 + B (pA + 2) + UB B pA 2 * sbw B (B (pA + 2)) (pA + 3) ≤ sz ∧ mA + 4 * dd ≤ sz ∧ dd ≤ 16
def MkP (B : Nat → Nat) (pA mA dd : Nat) (en2 cl2 ma2 : Int32) (cb2 : Nat → Int32) (ng2 : Nat → Int64) (mg2 : Nat → Int32) : Prop := (pA = 0 → en2 = 0 ∧ cl2 = 0 ∧ ma2 = 0) ∧ (pA ≠ 0 → en2 = nI (UB B pA 2) ∧ cl2 = nI (B (pA + 2)) ∧ ma2 = nI dd ∧ (∀ t, t < B (pA + 2) → cb2 t = nI (B (pA + 3 + t))) ∧ (∀ x, x < UB B pA 2 * B (pA + 2) → ng2 x = numV B (pA + 3) (pA + 3 + B (pA + 2) + x / B (pA + 2) * sbw B (B (pA + 2)) (pA + 3)) (x % B (pA + 2))) ∧ LnM B mA dd 0 mg2)
theorem x_q215 {sz nr : Nat} {fw gf : Nat → Int32} {B : Nat → Nat} (hB : HB sz nr fw gf B) {hA kA dA pA mA dd : Nat} {mE : Int32} (zI : Int32) (x10 x25 : Int64) (x41 col pr : Int32) (gb pg cb mg lg : Nat → Int32) (ng : Nat → Int64) (rs0 : Nat → Int32) (hrs : ∀ k, k < 12 → rs0 k = 0) (hA6 : hA < 65536) (hh : hA ≠ 0 → hA + 2 + 6 * UB B hA 2 ≤ sz ∧ UB B hA 2 ≤ 16) (hk : kA ≠ 0 → kA + 10 ≤ sz) (hd : dA ≠ 0 → dA + 10 ≤ sz) (hp6 : pA < 65536) (hP : pA ≠ 0 → MkH B sz pA mA dd ∧ mE = nI (mA + 4 * dd)) :
    ∃ (n : Nat) (lg2 rs2 : Nat → Int32) (en2 cl2 ma2 : Int32) (cb2 : Nat → Int32) (ng2 : Nat → Int64) (mg2 : Nat → Int32), j_Mo_make_215 zI (nI pA) (nI mA) mE (nI hA) (nI kA) (nI dA) gf cb ng mg lg ((0 : Int32), (0 : Int32), (0 : Int32), (0 : Int32), (0 : Int32), (0 : Int32), (-1 : Int32), (0 : Int32), (0 : Int32), (0 : Int32), (0 : Int32), rs0) x10 x25 x41 gb col pr pg = (x10.toInt32, x25.toInt32, x41, gf (zI + 12).toNatClampNeg, gf (zI + 13).toNatClampNeg, col, pr, en2, cl2, ma2, (nI n), rs2, gb, cb2, ng2, mg2, lg2, pg) ∧ oj_Mo_make_215 (nI pA) (nI mA) mE (nI hA) (nI kA) (nI dA) gf cb ng mg lg ((0 : Int32), (0 : Int32), (0 : Int32), (0 : Int32), (0 : Int32), (0 : Int32), (-1 : Int32), (0 : Int32), (0 : Int32), (0 : Int32), (0 : Int32), rs0) col pr pg ∧ n = (if hA = 0 then 0 else UB B hA 2) ∧ (∀ i, i < n → lg2 (3 * i) = nI (UB B (hA + 2 + 6 * i) 2) ∧ lg2 (3 * i + 1) = nI (UB B (hA + 2 + 6 * i + 2) 2) ∧ lg2 (3 * i + 2) = nI (UB B (hA + 2 + 6 * i + 4) 2)) ∧ RsN B kA dA rs2 ∧ MkP B pA mA dd en2 cl2 ma2 cb2 ng2 mg2 := by
  unfold j_Mo_make_215 oj_Mo_make_215
  by_cases z : pA = 0
  · have k : nI pA ≤ 0 := by rw [h_le0 (by omega)]; exact z
    obtain ⟨n, lg2, rs2, i1, i2, i3, i4, i5⟩ := x_q226 hB zI x10 x25 x41 col pr 0 0 0 gb pg cb mg ng rs0 hrs lg hA6 hh hk hd
    rw [if_pos k, if_pos k]
    exact ⟨n, lg2, rs2, 0, 0, 0, cb, ng, mg, i1, i2, i3, i4, i5, fun _ => ⟨rfl, rfl, rfl⟩, fun q => absurd z q⟩
  · have k : ¬ nI pA ≤ 0 := by rw [h_le0 (by omega)]; exact z
    obtain ⟨⟨q1, q2, q3, q4, q5, q6, q7⟩, q8⟩ := hP z
    obtain ⟨cb2, ng2, mg2, j1, j2, j3, j4, j5⟩ := x_mkpal hB q1 q2 q3 q4 q5 q6 q7 cb mg ng
    obtain ⟨n, lg2, rs2, i1, i2, i3, i4, i5⟩ := x_q226 hB zI x10 x25 x41 col pr (nI (UB B pA 2)) (nI (B (pA + 2))) (nI dd) gb pg cb2 mg2 ng2 rs0 hrs lg hA6 hh hk hd
    rw [if_neg k, if_neg k, q8]
    unfold k_Mo_make_223 ok_Mo_make_223
    dsimp only
    rw [j1]
    exact ⟨n, lg2, rs2, nI (UB B pA 2), nI (B (pA + 2)), nI dd, cb2, ng2, mg2, i1, ⟨j2, i2⟩, i3, i4, i5, fun q => absurd q z, fun _ => ⟨rfl, rfl, rfl, j3, j4, j5⟩⟩
theorem x_q182 {sz nr : Nat} {fw gf : Nat → Int32} {B : Nat → Nat} (hB : HB sz nr fw gf B) {cA ce w hA kA dA pA mA : Nat} {mE : Int32} (zI : Int32) (x10 x25 : Int64) (x41 : Int32) (gb cb mg lg : Nat → Int32) (ng : Nat → Int64) (rs0 : Nat → Int32) (hw : cA + 3 + w = ce) (hce : ce ≤ sz) (hw2 : w ≤ 1024) : ∀ (d j : Nat) (pg : Nat → Int32), j + d = w →
    ∃ pg2, lp_Mo_make_182 zI (nI cA) (nI ce) (nI pA) (nI mA) mE (nI hA) (nI kA) (nI dA) gf cb ng mg lg ((0 : Int32), (0 : Int32), (0 : Int32), (0 : Int32), (0 : Int32), (0 : Int32), (-1 : Int32), (0 : Int32), (0 : Int32), (0 : Int32), (0 : Int32), rs0) x10 x25 x41 gb (d + 1) (nI j) pg = j_Mo_make_215 zI (nI pA) (nI mA) mE (nI hA) (nI kA) (nI dA) gf cb ng mg lg ((0 : Int32), (0 : Int32), (0 : Int32), (0 : Int32), (0 : Int32), (0 : Int32), (-1 : Int32), (0 : Int32), (0 : Int32), (0 : Int32), (0 : Int32), rs0) x10 x25 x41 gb 0 (nI w) pg2 ∧ (oj_Mo_make_215 (nI pA) (nI mA) mE (nI hA) (nI kA) (nI dA) gf cb ng mg lg ((0 : Int32), (0 : Int32), (0 : Int32), (0 : Int32), (0 : Int32), (0 : Int32), (-1 : Int32), (0 : Int32), (0 : Int32), (0 : Int32), (0 : Int32), rs0) 0 (nI w) pg2 → olp_Mo_make_182 (nI cA) (nI ce) (nI pA) (nI mA) mE (nI hA) (nI kA) (nI dA) gf cb ng mg lg ((0 : Int32), (0 : Int32), (0 : Int32), (0 : Int32), (0 : Int32), (0 : Int32), (-1 : Int32), (0 : Int32), (0 : Int32), (0 : Int32), (0 : Int32), rs0) (d + 1) (nI j) pg) ∧ (∀ k, j ≤ k → k < w → pg2 k = nI (B (cA + 3 + k))) ∧ ∀ k, k < j → pg2 k = pg k
  | 0, j, pg, h => by
    have h1 := hB.1
    have h2 := hB.2.1
    have ew : nI ce - nI cA - 3 = nI w := by rw [q_sub (by omega), show (3 : Int32) = nI 3 from rfl, q_sub (by omega)]; exact congrArg nI (by omega)
    have k : nI w ≤ nI j := by rw [q_le (by omega) (by omega)]; omega
    refine ⟨pg, ?_, fun q => ?_, fun k h1 h2 => by omega, fun k hk => rfl⟩
    · show lb_Mo_make_182 zI (nI cA) (nI ce) (nI pA) (nI mA) mE (nI hA) (nI kA) (nI dA) gf cb ng mg lg ((0 : Int32), (0 : Int32), (0 : Int32), (0 : Int32), (0 : Int32), (0 : Int32), (-1 : Int32), (0 : Int32), (0 : Int32), (0 : Int32), (0 : Int32), rs0) x10 x25 x41 gb (lp_Mo_make_182 zI (nI cA) (nI ce) (nI pA) (nI mA) mE (nI hA) (nI kA) (nI dA) gf cb ng mg lg ((0 : Int32), (0 : Int32), (0 : Int32), (0 : Int32), (0 : Int32), (0 : Int32), (-1 : Int32), (0 : Int32), (0 : Int32), (0 : Int32), (0 : Int32), rs0) x10 x25 x41 gb 0) (nI j) pg = _
      unfold lb_Mo_make_182
      rw [ew, if_pos k]
    · show olb_Mo_make_182 (nI cA) (nI ce) (nI pA) (nI mA) mE (nI hA) (nI kA) (nI dA) gf cb ng mg lg ((0 : Int32), (0 : Int32), (0 : Int32), (0 : Int32), (0 : Int32), (0 : Int32), (-1 : Int32), (0 : Int32), (0 : Int32), (0 : Int32), (0 : Int32), rs0) (olp_Mo_make_182 (nI cA) (nI ce) (nI pA) (nI mA) mE (nI hA) (nI kA) (nI dA) gf cb ng mg lg ((0 : Int32), (0 : Int32), (0 : Int32), (0 : Int32), (0 : Int32), (0 : Int32), (-1 : Int32), (0 : Int32), (0 : Int32), (0 : Int32), (0 : Int32), rs0) 0) (nI j) pg
      unfold olb_Mo_make_182
      rw [ew, if_pos k]
      exact q
  | d + 1, j, pg, h => by
    have h1 := hB.1
    have h2 := hB.2.1
    have ew : nI ce - nI cA - 3 = nI w := by rw [q_sub (by omega), show (3 : Int32) = nI 3 from rfl, q_sub (by omega)]; exact congrArg nI (by omega)
    have k : ¬ nI w ≤ nI j := by rw [q_le (by omega) (by omega)]; omega
    have e3 : nI cA + 3 + nI j = nI (cA + 3 + j) := by rw [show (3 : Int32) = nI 3 from rfl, q_add, q_add]
    obtain ⟨pg2, i1, i2, i3, i4⟩ := x_q182 hB (hA := hA) (kA := kA) (dA := dA) (pA := pA) (mA := mA) (mE := mE) zI x10 x25 x41 gb cb mg lg ng rs0 hw hce hw2 d (j + 1) (upd pg j (nI (B (cA + 3 + j)))) (by omega)
    refine ⟨pg2, ?_, fun q => ?_, fun k h1 h2 => ?_, fun k hk => ?_⟩
    · rw [← i1]
      show lb_Mo_make_182 zI (nI cA) (nI ce) (nI pA) (nI mA) mE (nI hA) (nI kA) (nI dA) gf cb ng mg lg ((0 : Int32), (0 : Int32), (0 : Int32), (0 : Int32), (0 : Int32), (0 : Int32), (-1 : Int32), (0 : Int32), (0 : Int32), (0 : Int32), (0 : Int32), rs0) x10 x25 x41 gb (lp_Mo_make_182 zI (nI cA) (nI ce) (nI pA) (nI mA) mE (nI hA) (nI kA) (nI dA) gf cb ng mg lg ((0 : Int32), (0 : Int32), (0 : Int32), (0 : Int32), (0 : Int32), (0 : Int32), (-1 : Int32), (0 : Int32), (0 : Int32), (0 : Int32), (0 : Int32), rs0) x10 x25 x41 gb (d + 1)) (nI j) pg = _
      unfold lb_Mo_make_182
      rw [ew, if_neg k, e3, q_cl (show j < 2147483648 by omega), q_cl (show cA + 3 + j < 2147483648 by omega), (hB.2.2.2 (cA + 3 + j) (by omega)).2, ← nI_succ]
    · show olb_Mo_make_182 (nI cA) (nI ce) (nI pA) (nI mA) mE (nI hA) (nI kA) (nI dA) gf cb ng mg lg ((0 : Int32), (0 : Int32), (0 : Int32), (0 : Int32), (0 : Int32), (0 : Int32), (-1 : Int32), (0 : Int32), (0 : Int32), (0 : Int32), (0 : Int32), rs0) (olp_Mo_make_182 (nI cA) (nI ce) (nI pA) (nI mA) mE (nI hA) (nI kA) (nI dA) gf cb ng mg lg ((0 : Int32), (0 : Int32), (0 : Int32), (0 : Int32), (0 : Int32), (0 : Int32), (-1 : Int32), (0 : Int32), (0 : Int32), (0 : Int32), (0 : Int32), rs0) (d + 1)) (nI j) pg
      unfold olb_Mo_make_182
      rw [ew, if_neg k, e3, q_cl (show j < 2147483648 by omega), q_cl (show cA + 3 + j < 2147483648 by omega), (hB.2.2.2 (cA + 3 + j) (by omega)).2, ← nI_succ, q_in (show cA + 3 + j < 2147483648 by omega), q_in (show j < 2147483648 by omega)]
      exact ⟨by omega, by omega, i2 q⟩
    · by_cases z : k = j
      · rw [z, i4 j (by omega), q_upd]
      · exact i3 k (by omega) h2
    · rw [i4 k (by omega), q_upn _ _ (by omega)]
theorem x_q49 {sz nr : Nat} {fw gf : Nat → Int32} {B : Nat → Nat} (hB : HB sz nr fw gf B) {zA bA cA n hA kA dA pA mA : Nat} {cE mE : Int32} (x10 x25 : Int64) (cb mg lg pg : Nat → Int32) (ng : Nat → Int64) (rs0 : Nat → Int32) (hz : zA + 14 ≤ sz) (hb : bA ≠ 0 → bA + n ≤ sz) (hn : n ≤ 16) (hb6 : bA < 65536) (hc6 : cA < 65536) : ∀ (d j : Nat) (gb : Nat → Int32), j + d = n →
    ∃ gb2, lp_Mo_make_49 (nI zA) (nI bA) (nI cA) cE (nI pA) (nI mA) mE (nI hA) (nI kA) (nI dA) gf cb ng mg lg pg ((0 : Int32), (0 : Int32), (0 : Int32), (0 : Int32), (0 : Int32), (0 : Int32), (-1 : Int32), (0 : Int32), (0 : Int32), (0 : Int32), (0 : Int32), rs0) x10 x25 (nI n) (d + 1) (nI j) gb = (if gf (nI cA).toNatClampNeg = 1 then k_Mo_make_155 (nI zA) (nI pA) (nI mA) mE (nI hA) (nI kA) (nI dA) gf cb ng mg lg pg ((0 : Int32), (0 : Int32), (0 : Int32), (0 : Int32), (0 : Int32), (0 : Int32), (-1 : Int32), (0 : Int32), (0 : Int32), (0 : Int32), (0 : Int32), rs0) x10 x25 (nI n) gb2 (m_Mo_u4 gf (nI cA + 3)) else lp_Mo_make_182 (nI zA) (nI cA) cE (nI pA) (nI mA) mE (nI hA) (nI kA) (nI dA) gf cb ng mg lg ((0 : Int32), (0 : Int32), (0 : Int32), (0 : Int32), (0 : Int32), (0 : Int32), (-1 : Int32), (0 : Int32), (0 : Int32), (0 : Int32), (0 : Int32), rs0) x10 x25 (nI n) gb2 (((cE - nI cA - 3).toInt - (0 : Int32).toInt).toNat + 1) 0 pg) ∧ ((if gf (nI cA).toNatClampNeg = 1 then (om_Mo_u4 gf (nI cA + 3) ∧ ok_Mo_make_155 (nI pA) (nI mA) mE (nI hA) (nI kA) (nI dA) gf cb ng mg lg pg ((0 : Int32), (0 : Int32), (0 : Int32), (0 : Int32), (0 : Int32), (0 : Int32), (-1 : Int32), (0 : Int32), (0 : Int32), (0 : Int32), (0 : Int32), rs0) (m_Mo_u4 gf (nI cA + 3))) else olp_Mo_make_182 (nI cA) cE (nI pA) (nI mA) mE (nI hA) (nI kA) (nI dA) gf cb ng mg lg ((0 : Int32), (0 : Int32), (0 : Int32), (0 : Int32), (0 : Int32), (0 : Int32), (-1 : Int32), (0 : Int32), (0 : Int32), (0 : Int32), (0 : Int32), rs0) (((cE - nI cA - 3).toInt - (0 : Int32).toInt).toNat + 1) 0 pg) → olp_Mo_make_49 (nI zA) (nI bA) (nI cA) cE (nI pA) (nI mA) mE (nI hA) (nI kA) (nI dA) gf cb ng mg lg pg ((0 : Int32), (0 : Int32), (0 : Int32), (0 : Int32), (0 : Int32), (0 : Int32), (-1 : Int32), (0 : Int32), (0 : Int32), (0 : Int32), (0 : Int32), rs0) (nI n) (d + 1) (nI j) gb) ∧ (∀ k, j ≤ k → k < n → gb2 k = if bA = 0 then nI (B (zA + 10)) else nI (B (bA + k))) ∧ ∀ k, k < j → gb2 k = gb k
  | 0, j, gb, h => by
    have h1 := hB.1
    have h2 := hB.2.1
    have k : nI n ≤ nI j := by rw [q_le (by omega) (by omega)]; omega
    have v12 : vp_in (nI zA + 12) 65536 := by rw [show (12 : Int32) = nI 12 from rfl, q_add, q_in (by omega)]; omega
    have v13 : vp_in (nI zA + 13) 65536 := by rw [show (13 : Int32) = nI 13 from rfl, q_add, q_in (by omega)]; omega
    have vc : vp_in (nI cA) 65536 := by rw [q_in (by omega)]; omega
    refine ⟨gb, ?_, fun q => ?_, fun k h1 h2 => by omega, fun k hk => rfl⟩
    · show lb_Mo_make_49 (nI zA) (nI bA) (nI cA) cE (nI pA) (nI mA) mE (nI hA) (nI kA) (nI dA) gf cb ng mg lg pg ((0 : Int32), (0 : Int32), (0 : Int32), (0 : Int32), (0 : Int32), (0 : Int32), (-1 : Int32), (0 : Int32), (0 : Int32), (0 : Int32), (0 : Int32), rs0) x10 x25 (nI n) (lp_Mo_make_49 (nI zA) (nI bA) (nI cA) cE (nI pA) (nI mA) mE (nI hA) (nI kA) (nI dA) gf cb ng mg lg pg ((0 : Int32), (0 : Int32), (0 : Int32), (0 : Int32), (0 : Int32), (0 : Int32), (-1 : Int32), (0 : Int32), (0 : Int32), (0 : Int32), (0 : Int32), rs0) x10 x25 (nI n) 0) (nI j) gb = _
      unfold lb_Mo_make_49
      rw [if_pos k]
    · show olb_Mo_make_49 (nI zA) (nI bA) (nI cA) cE (nI pA) (nI mA) mE (nI hA) (nI kA) (nI dA) gf cb ng mg lg pg ((0 : Int32), (0 : Int32), (0 : Int32), (0 : Int32), (0 : Int32), (0 : Int32), (-1 : Int32), (0 : Int32), (0 : Int32), (0 : Int32), (0 : Int32), rs0) (nI n) (olp_Mo_make_49 (nI zA) (nI bA) (nI cA) cE (nI pA) (nI mA) mE (nI hA) (nI kA) (nI dA) gf cb ng mg lg pg ((0 : Int32), (0 : Int32), (0 : Int32), (0 : Int32), (0 : Int32), (0 : Int32), (-1 : Int32), (0 : Int32), (0 : Int32), (0 : Int32), (0 : Int32), rs0) (nI n) 0) (nI j) gb
      unfold olb_Mo_make_49
      rw [if_pos k]
      exact ⟨v12, v13, vc, q⟩
  | d + 1, j, gb, h => by
    have h1 := hB.1
    have h2 := hB.2.1
    have k : ¬ nI n ≤ nI j := by rw [q_le (by omega) (by omega)]; omega
    have cb0 : (nI bA ≤ 0) = (bA = 0) := h_le0 (by omega)
    have e10 : nI zA + 10 = nI (zA + 10) := by rw [show (10 : Int32) = nI 10 from rfl, q_add]
    obtain ⟨gb2, i1, i2, i3, i4⟩ := x_q49 hB (zA := zA) (bA := bA) (cA := cA) (hA := hA) (kA := kA) (dA := dA) (pA := pA) (mA := mA) (cE := cE) (mE := mE) x10 x25 cb mg lg pg ng rs0 hz hb hn hb6 hc6 d (j + 1) (upd gb j (if bA = 0 then nI (B (zA + 10)) else nI (B (bA + j)))) (by omega)
    refine ⟨gb2, ?_, fun q => ?_, fun k h1 h2 => ?_, fun k hk => ?_⟩
    · rw [← i1]
      show lb_Mo_make_49 (nI zA) (nI bA) (nI cA) cE (nI pA) (nI mA) mE (nI hA) (nI kA) (nI dA) gf cb ng mg lg pg ((0 : Int32), (0 : Int32), (0 : Int32), (0 : Int32), (0 : Int32), (0 : Int32), (-1 : Int32), (0 : Int32), (0 : Int32), (0 : Int32), (0 : Int32), rs0) x10 x25 (nI n) (lp_Mo_make_49 (nI zA) (nI bA) (nI cA) cE (nI pA) (nI mA) mE (nI hA) (nI kA) (nI dA) gf cb ng mg lg pg ((0 : Int32), (0 : Int32), (0 : Int32), (0 : Int32), (0 : Int32), (0 : Int32), (-1 : Int32), (0 : Int32), (0 : Int32), (0 : Int32), (0 : Int32), rs0) x10 x25 (nI n) (d + 1)) (nI j) gb = _
      unfold lb_Mo_make_49
      rw [if_neg k, e10, q_add, q_cl (show j < 2147483648 by omega), q_cl (show zA + 10 < 2147483648 by omega), (hB.2.2.2 (zA + 10) (by omega)).2, ← nI_succ]
      by_cases z : bA = 0
      · rw [if_pos (show nI bA ≤ 0 by rw [cb0]; exact z), if_pos z]
      · rw [if_neg (show ¬ nI bA ≤ 0 by rw [cb0]; exact z), if_neg z, q_cl (show bA + j < 2147483648 by omega), (hB.2.2.2 (bA + j) (by have := hb z; omega)).2]
    · have i2' := i2 q
      show olb_Mo_make_49 (nI zA) (nI bA) (nI cA) cE (nI pA) (nI mA) mE (nI hA) (nI kA) (nI dA) gf cb ng mg lg pg ((0 : Int32), (0 : Int32), (0 : Int32), (0 : Int32), (0 : Int32), (0 : Int32), (-1 : Int32), (0 : Int32), (0 : Int32), (0 : Int32), (0 : Int32), rs0) (nI n) (olp_Mo_make_49 (nI zA) (nI bA) (nI cA) cE (nI pA) (nI mA) mE (nI hA) (nI kA) (nI dA) gf cb ng mg lg pg ((0 : Int32), (0 : Int32), (0 : Int32), (0 : Int32), (0 : Int32), (0 : Int32), (-1 : Int32), (0 : Int32), (0 : Int32), (0 : Int32), (0 : Int32), rs0) (nI n) (d + 1)) (nI j) gb
      unfold olb_Mo_make_49
      rw [if_neg k, e10, q_add, q_cl (show j < 2147483648 by omega), q_cl (show zA + 10 < 2147483648 by omega), (hB.2.2.2 (zA + 10) (by omega)).2, ← nI_succ, q_in (show zA + 10 < 2147483648 by omega), q_in (show j < 2147483648 by omega), q_in (show bA + j < 2147483648 by omega)]
      by_cases z : bA = 0
      · rw [if_pos (show nI bA ≤ 0 by rw [cb0]; exact z)]
        rw [if_pos z] at i2'
        exact ⟨by omega, by omega, i2'⟩
      · rw [if_neg (show ¬ nI bA ≤ 0 by rw [cb0]; exact z), q_cl (show bA + j < 2147483648 by omega), (hB.2.2.2 (bA + j) (by have := hb z; omega)).2]
        rw [if_neg z] at i2'
        exact ⟨by have := hb z; omega, by omega, i2'⟩
    · by_cases z : k = j
      · rw [z, i4 j (by omega), q_upd]
      · exact i3 k (by omega) h2
    · rw [i4 k (by omega), q_upn _ _ (by omega)]
