set_option maxHeartbeats 1000000 in
theorem x_make {sz nr : Nat} {fw gf : Nat → Int32} {B : Nat → Nat} (hB : HB sz nr fw gf B) {zA bA cA ce hA kA dA pA mA dd : Nat} {cE mE : Int32} (hz : zA + 14 ≤ sz) (hz1 : UB B (zA + 8) 2 ≤ 16) (hb6 : bA < 65536) (hb : bA ≠ 0 → bA + UB B (zA + 8) 2 ≤ sz) (hc6 : cA < 65536) (hC : (B cA = 1 ∧ cA + 7 ≤ sz) ∨ (B cA = 2 ∧ cE = nI ce ∧ cA + 4 ≤ ce ∧ ce ≤ sz ∧ ce - cA - 3 ≤ 1024)) (hA6 : hA < 65536) (hh : hA ≠ 0 → hA + 2 + 6 * UB B hA 2 ≤ sz ∧ UB B hA 2 ≤ 16) (hk : kA ≠ 0 → kA + 10 ≤ sz) (hd : dA ≠ 0 → dA + 10 ≤ sz) (hp6 : pA < 65536) (hP : pA ≠ 0 → MkH B sz pA mA dd ∧ mE = nI (mA + 4 * dd)) (rs gb cb mg lg pg : Nat → Int32) (ng : Nat → Int64) :
    ∃ (n : Nat) (lg2 rs2 : Nat → Int32) (en2 cl2 ma2 : Int32) (cb2 : Nat → Int32) (ng2 : Nat → Int64) (mg2 gb2 pg2 : Nat → Int32) (col2 pr2 : Int32), m_Mo_make (nI zA) (nI bA) (nI cA) cE (nI pA) (nI mA) mE (nI hA) (nI kA) (nI dA) rs gf gb cb ng mg lg pg = (nI (UB B zA 4), nI (UB B (zA + 4) 4), nI (UB B (zA + 8) 2), nI (B (zA + 12)), nI (B (zA + 13)), col2, pr2, en2, cl2, ma2, nI n, rs2, gb2, cb2, ng2, mg2, lg2, pg2) ∧ om_Mo_make (nI zA) (nI bA) (nI cA) cE (nI pA) (nI mA) mE (nI hA) (nI kA) (nI dA) rs gf gb cb ng mg lg pg ∧ (∀ k, k < UB B (zA + 8) 2 → gb2 k = if bA = 0 then nI (B (zA + 10)) else nI (B (bA + k))) ∧ (B cA = 1 → col2 = nI (UB B (cA + 3) 4) ∧ pr2 = -1) ∧ (B cA = 2 → col2 = 0 ∧ pr2 = nI (ce - cA - 3) ∧ ∀ k, k < ce - cA - 3 → pg2 k = nI (B (cA + 3 + k))) ∧ n = (if hA = 0 then 0 else UB B hA 2) ∧ (∀ i, i < n → lg2 (3 * i) = nI (UB B (hA + 2 + 6 * i) 2) ∧ lg2 (3 * i + 1) = nI (UB B (hA + 2 + 6 * i + 2) 2) ∧ lg2 (3 * i + 2) = nI (UB B (hA + 2 + 6 * i + 4) 2)) ∧ RsN B kA dA rs2 ∧ MkP B pA mA dd en2 cl2 ma2 cb2 ng2 mg2 := by
  have h1 := hB.1
  have h2 := hB.2.1
  have em := q_moempty rs
  have u1 := s_u4 hB (p := zA) (by omega)
  have u2 : m_Mo_u4 gf (nI zA + 4) = Int64.ofNat (UB B (zA + 4) 4) ∧ om_Mo_u4 gf (nI zA + 4) := by rw [show (4 : Int32) = nI 4 from rfl, q_add]; exact s_u4 hB (by omega)
  have u3 : m_Mo_u2 gf (nI zA + 8) = nI (UB B (zA + 8) 2) ∧ om_Mo_u2 (nI zA + 8) := by rw [show (8 : Int32) = nI 8 from rfl, q_add]; exact s_u2 hB (by omega)
  have g12 : gf (nI zA + 12).toNatClampNeg = nI (B (zA + 12)) := by rw [show (12 : Int32) = nI 12 from rfl, q_add, q_cl (by omega)]; exact (hB.2.2.2 _ (by omega)).2
  have g13 : gf (nI zA + 13).toNatClampNeg = nI (B (zA + 13)) := by rw [show (13 : Int32) = nI 13 from rfl, q_add, q_cl (by omega)]; exact (hB.2.2.2 _ (by omega)).2
  have hcs : cA < sz := by rcases hC with w | w <;> omega
  have gc : gf (nI cA).toNatClampNeg = nI (B cA) := by rw [q_cl (by omega)]; exact (hB.2.2.2 _ hcs).2
  have tc := hB.2.2.1 cA
  have hrs : ∀ k, k < 12 → (fun k => if k < 12 then (0 : Int32) else rs k) k = 0 := fun k hk => if_pos hk
  obtain ⟨gb2, i1, i2, i3, i4⟩ := x_q49 hB (zA := zA) (bA := bA) (cA := cA) (n := UB B (zA + 8) 2) (hA := hA) (kA := kA) (dA := dA) (pA := pA) (mA := mA) (cE := cE) (mE := mE) (Int64.ofNat (UB B zA 4)) (Int64.ofNat (UB B (zA + 4) 4)) cb mg lg pg ng (fun k => if k < 12 then (0 : Int32) else rs k) hz hb hz1 hb6 hc6 (UB B (zA + 8) 2) 0 gb (by omega)
  have gb3 : ∀ k, k < UB B (zA + 8) 2 → gb2 k = if bA = 0 then nI (B (zA + 10)) else nI (B (bA + k)) := fun k hk => i3 k (by omega) hk
  unfold m_Mo_make om_Mo_make k_Mo_make_1 ok_Mo_make_1 k_Mo_make_10 ok_Mo_make_10 k_Mo_make_25 ok_Mo_make_25 k_Mo_make_41 ok_Mo_make_41
  rw [em.1, u1.1, u2.1, u3.1, q_fuel (by omega)]
  have i1' := i1
  rw [gc] at i1' i2
  rcases hC with ⟨c1, c2⟩ | ⟨c1, c2, c3, c4, c5⟩
  · have kc : nI (B cA) = 1 := by rw [c1]; rfl
    have n2 : ¬ B cA = 2 := by omega
    have u4 : m_Mo_u4 gf (nI cA + 3) = Int64.ofNat (UB B (cA + 3) 4) ∧ om_Mo_u4 gf (nI cA + 3) := by rw [show (3 : Int32) = nI 3 from rfl, q_add]; exact s_u4 hB (by omega)
    rw [if_pos kc, u4.1] at i1' i2
    obtain ⟨n, lg2, rs2, en2, cl2, ma2, cb2, ng2, mg2, j1, j2, j3, j4, j5, j6⟩ := x_q215 hB (hA := hA) (kA := kA) (dA := dA) (pA := pA) (mA := mA) (dd := dd) (mE := mE) (nI zA) (Int64.ofNat (UB B zA 4)) (Int64.ofNat (UB B (zA + 4) 4)) (nI (UB B (zA + 8) 2)) (Int64.ofNat (UB B (cA + 3) 4)).toInt32 (-1) gb2 pg cb mg lg ng (fun k => if k < 12 then (0 : Int32) else rs k) hrs hA6 hh hk hd hp6 hP
    have e := i1'.trans j1
    rw [q_t32, q_t32, q_t32, g12, g13] at e
    exact ⟨n, lg2, rs2, en2, cl2, ma2, cb2, ng2, mg2, gb2, pg, _, _, e, ⟨em.2, u1.2, u2.2, u3.2, i2 ⟨u4.2, j2⟩⟩, gb3, fun _ => ⟨rfl, rfl⟩, fun q => absurd q n2, j3, j4, j5, j6⟩
  · have kc : ¬ nI (B cA) = 1 := by rw [c1]; decide
    have n1 : ¬ B cA = 1 := by omega
    subst c2
    have ew : nI ce - nI cA - 3 = nI (ce - cA - 3) := by rw [q_sub (by omega), show (3 : Int32) = nI 3 from rfl, q_sub (by omega)]
    rw [if_neg kc, ew, q_fuel (by omega)] at i1' i2
    obtain ⟨pg2, k1, k2, k3, k4⟩ := x_q182 hB (cA := cA) (ce := ce) (w := ce - cA - 3) (hA := hA) (kA := kA) (dA := dA) (pA := pA) (mA := mA) (mE := mE) (nI zA) (Int64.ofNat (UB B zA 4)) (Int64.ofNat (UB B (zA + 4) 4)) (nI (UB B (zA + 8) 2)) gb2 cb mg lg ng (fun k => if k < 12 then (0 : Int32) else rs k) (by omega) c4 c5 (ce - cA - 3) 0 pg (by omega)
    obtain ⟨n, lg2, rs2, en2, cl2, ma2, cb2, ng2, mg2, j1, j2, j3, j4, j5, j6⟩ := x_q215 hB (hA := hA) (kA := kA) (dA := dA) (pA := pA) (mA := mA) (dd := dd) (mE := mE) (nI zA) (Int64.ofNat (UB B zA 4)) (Int64.ofNat (UB B (zA + 4) 4)) (nI (UB B (zA + 8) 2)) 0 (nI (ce - cA - 3)) gb2 pg2 cb mg lg ng (fun k => if k < 12 then (0 : Int32) else rs k) hrs hA6 hh hk hd hp6 hP
    have e := i1'.trans (k1.trans j1)
    rw [q_t32, q_t32, g12, g13] at e
    exact ⟨n, lg2, rs2, en2, cl2, ma2, cb2, ng2, mg2, gb2, pg2, _, _, e, ⟨em.2, u1.2, u2.2, u3.2, i2 (k2 j2)⟩, gb3, fun q => absurd q n1, fun _ => ⟨rfl, rfl, fun k hk => k3 k (by omega) hk⟩, j3, j4, j5, j6⟩
