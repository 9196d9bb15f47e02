theorem x_q248 {sz nr : Nat} {fw gf : Nat → Int32} {B : Nat → Nat} (hB : HB sz nr fw gf B) {n hA kA dA : Nat} (zI : Int32) (x10 x25 : Int64) (x41 col pr en cl ma : Int32) (gb pg cb mg : Nat → Int32) (ng : Nat → Int64) (rs0 : Nat → Int32) (hn : n ≤ 16) (hh : hA + 2 + 6 * n ≤ sz) (hR : om_Mo_makeResolution gf rs0 (nI kA) 0 ∧ ok_Mo_make_300 (nI dA) gf (m_Mo_makeResolution gf rs0 (nI kA) 0)) : ∀ (d j : Nat) (lg : Nat → Int32), j + d = n →
    ∃ lg2, lp_Mo_make_248 zI (nI hA) (nI kA) (nI dA) gf ((0 : Int32), (0 : Int32), (0 : Int32), (0 : Int32), (0 : Int32), (0 : Int32), (-1 : Int32), (0 : Int32), (0 : Int32), (0 : Int32), (0 : Int32), rs0) x10 x25 x41 gb col pr pg en cl ma cb ng mg (nI n) (d + 1) (nI j) (nI j) lg = k_Mo_make_300 zI (nI dA) gf x10 x25 x41 gb col pr pg en cl ma cb ng mg (nI n) lg2 (m_Mo_makeResolution gf rs0 (nI kA) 0) ∧ olp_Mo_make_248 (nI hA) (nI kA) (nI dA) gf ((0 : Int32), (0 : Int32), (0 : Int32), (0 : Int32), (0 : Int32), (0 : Int32), (-1 : Int32), (0 : Int32), (0 : Int32), (0 : Int32), (0 : Int32), rs0) (nI n) (d + 1) (nI j) (nI j) lg ∧ (∀ i, j ≤ i → i < n → lg2 (3 * i) = nI (UB B (hA + 2 + 6 * i) 2) ∧ lg2 (3 * i + 1) = nI (UB B (hA + 2 + 6 * i + 2) 2) ∧ lg2 (3 * i + 2) = nI (UB B (hA + 2 + 6 * i + 4) 2)) ∧ ∀ k, k < 3 * j → lg2 k = lg k
  | 0, j, lg, h => by
    have h1 := hB.1
    have h2 := hB.2.1
    have k : nI n ≤ nI j := by rw [q_le (by omega) (by omega)]; omega
    refine ⟨lg, ?_, ?_, fun i h1 h2 => by omega, fun k hk => rfl⟩
    · show lb_Mo_make_248 zI (nI hA) (nI kA) (nI dA) gf ((0 : Int32), (0 : Int32), (0 : Int32), (0 : Int32), (0 : Int32), (0 : Int32), (-1 : Int32), (0 : Int32), (0 : Int32), (0 : Int32), (0 : Int32), rs0) x10 x25 x41 gb col pr pg en cl ma cb ng mg (nI n) (lp_Mo_make_248 zI (nI hA) (nI kA) (nI dA) gf ((0 : Int32), (0 : Int32), (0 : Int32), (0 : Int32), (0 : Int32), (0 : Int32), (-1 : Int32), (0 : Int32), (0 : Int32), (0 : Int32), (0 : Int32), rs0) x10 x25 x41 gb col pr pg en cl ma cb ng mg (nI n) 0) (nI j) (nI j) lg = _
      unfold lb_Mo_make_248
      rw [if_pos k, show j = n by omega]
    · show olb_Mo_make_248 (nI hA) (nI kA) (nI dA) gf ((0 : Int32), (0 : Int32), (0 : Int32), (0 : Int32), (0 : Int32), (0 : Int32), (-1 : Int32), (0 : Int32), (0 : Int32), (0 : Int32), (0 : Int32), rs0) (nI n) (olp_Mo_make_248 (nI hA) (nI kA) (nI dA) gf ((0 : Int32), (0 : Int32), (0 : Int32), (0 : Int32), (0 : Int32), (0 : Int32), (-1 : Int32), (0 : Int32), (0 : Int32), (0 : Int32), (0 : Int32), rs0) (nI n) 0) (nI j) (nI j) lg
      unfold olb_Mo_make_248
      rw [if_pos k]; exact hR
  | d + 1, j, lg, h => by
    have h1 := hB.1
    have h2 := hB.2.1
    have k : ¬ nI n ≤ nI j := by rw [q_le (by omega) (by omega)]; omega
    have e0 : nI hA + 2 + 6 * nI j = nI (hA + 2 + 6 * j) := by rw [q_p2, show (6 : Int32) = nI 6 from rfl, q_mul, q_add]
    have u0 := s_u2 hB (p := hA + 2 + 6 * j) (by omega)
    have u1 : m_Mo_u2 gf (nI (hA + 2 + 6 * j) + 2) = nI (UB B (hA + 2 + 6 * j + 2) 2) ∧ om_Mo_u2 (nI (hA + 2 + 6 * j) + 2) := by rw [q_p2]; exact s_u2 hB (by omega)
    have u2 : m_Mo_u2 gf (nI (hA + 2 + 6 * j) + 4) = nI (UB B (hA + 2 + 6 * j + 4) 2) ∧ om_Mo_u2 (nI (hA + 2 + 6 * j) + 4) := by rw [show (4 : Int32) = nI 4 from rfl, q_add]; exact s_u2 hB (by omega)
    have c0 : (3 * nI j : Int32).toNatClampNeg = 3 * j := by rw [q_3m, q_cl (by omega)]
    have c1 : (3 * nI j + 1 : Int32).toNatClampNeg = 3 * j + 1 := by rw [q_3m, q_p1, q_cl (by omega)]
    have c2 : (3 * nI j + 2 : Int32).toNatClampNeg = 3 * j + 2 := by rw [q_3m, q_p2, q_cl (by omega)]
    have ot : om_Mo_tell (nI j) := by
      unfold om_Mo_tell
      rw [q_3m, q_p1, q_p2, q_in (by omega), q_in (by omega), q_in (by omega)]
      exact ⟨by omega, by omega, by omega, trivial⟩
    obtain ⟨lg2, i1, i2, i3, i4⟩ := x_q248 hB zI x10 x25 x41 col pr en cl ma gb pg cb mg ng rs0 hn hh hR d (j + 1) (upd (upd (upd lg (3 * j) (nI (UB B (hA + 2 + 6 * j) 2))) (3 * j + 1) (nI (UB B (hA + 2 + 6 * j + 2) 2))) (3 * j + 2) (nI (UB B (hA + 2 + 6 * j + 4) 2))) (by omega)
    refine ⟨lg2, ?_, ?_, fun i h1 h2 => ?_, fun k hk => ?_⟩
    · rw [← i1]
      show lb_Mo_make_248 zI (nI hA) (nI kA) (nI dA) gf ((0 : Int32), (0 : Int32), (0 : Int32), (0 : Int32), (0 : Int32), (0 : Int32), (-1 : Int32), (0 : Int32), (0 : Int32), (0 : Int32), (0 : Int32), rs0) x10 x25 x41 gb col pr pg en cl ma cb ng mg (nI n) (lp_Mo_make_248 zI (nI hA) (nI kA) (nI dA) gf ((0 : Int32), (0 : Int32), (0 : Int32), (0 : Int32), (0 : Int32), (0 : Int32), (-1 : Int32), (0 : Int32), (0 : Int32), (0 : Int32), (0 : Int32), rs0) x10 x25 x41 gb col pr pg en cl ma cb ng mg (nI n) (d + 1)) (nI j) (nI j) lg = _
      unfold lb_Mo_make_248 k_Mo_make_268 k_Mo_make_275 k_Mo_make_282
      rw [if_neg k, e0, u0.1, u1.1, u2.1, c0, c1, c2, ← nI_succ]
    · show olb_Mo_make_248 (nI hA) (nI kA) (nI dA) gf ((0 : Int32), (0 : Int32), (0 : Int32), (0 : Int32), (0 : Int32), (0 : Int32), (-1 : Int32), (0 : Int32), (0 : Int32), (0 : Int32), (0 : Int32), rs0) (nI n) (olp_Mo_make_248 (nI hA) (nI kA) (nI dA) gf ((0 : Int32), (0 : Int32), (0 : Int32), (0 : Int32), (0 : Int32), (0 : Int32), (-1 : Int32), (0 : Int32), (0 : Int32), (0 : Int32), (0 : Int32), rs0) (nI n) (d + 1)) (nI j) (nI j) lg
      unfold olb_Mo_make_248 ok_Mo_make_268 ok_Mo_make_275 ok_Mo_make_282
      rw [if_neg k, e0, u0.1, u1.1, u2.1, c0, c1, c2, ← nI_succ]
      exact ⟨u0.2, u1.2, u2.2, ot, i2⟩
    · by_cases z : i = j
      · rw [z, i4 (3 * j) (by omega), i4 (3 * j + 1) (by omega), i4 (3 * j + 2) (by omega)]
        refine ⟨?_, ?_, ?_⟩
        · rw [q_upn _ _ (by omega), q_upn _ _ (by omega), q_upd]
        · rw [q_upn _ _ (by omega), q_upd]
        · rw [q_upd]
      · exact i3 i (by omega) h2
    · rw [i4 k (by omega), q_upn _ _ (by omega), q_upn _ _ (by omega), q_upn _ _ (by omega)]
def RsN (B : Nat → Nat) (kA dA : Nat) (rs2 : Nat → Int32) : Prop := (kA = 0 → ∀ k, k < 6 → rs2 k = 0) ∧ (kA ≠ 0 → (∀ k, k < 4 → rs2 k = nI (UB B (kA + 2 * k) 2)) ∧ ∀ k, k < 2 → rs2 (4 + k) = (nI (B (kA + 8 + k))).toInt8.toInt32) ∧ (dA = 0 → ∀ k, k < 6 → rs2 (6 + k) = 0) ∧ (dA ≠ 0 → (∀ k, k < 4 → rs2 (6 + k) = nI (UB B (dA + 2 * k) 2)) ∧ ∀ k, k < 2 → rs2 (10 + k) = (nI (B (dA + 8 + k))).toInt8.toInt32)
theorem x_q226 {sz nr : Nat} {fw gf : Nat → Int32} {B : Nat → Nat} (hB : HB sz nr fw gf B) {hA kA dA : Nat} (zI : Int32) (x10 x25 : Int64) (x41 col pr en cl ma : Int32) (gb pg cb mg : Nat → Int32) (ng : Nat → Int64) (rs0 : Nat → Int32) (hrs : ∀ k, k < 12 → rs0 k = 0) (lg : Nat → Int32) (hA6 : hA < 65536) (hh : hA ≠ 0 → hA + 2 + 6 * UB B hA 2 ≤ sz ∧ UB B hA 2 ≤ 16) (hk : kA ≠ 0 → kA + 10 ≤ sz) (hd : dA ≠ 0 → dA + 10 ≤ sz) :
    ∃ (n : Nat) (lg2 rs2 : Nat → Int32), j_Mo_make_226 zI (nI hA) (nI kA) (nI dA) gf lg ((0 : Int32), (0 : Int32), (0 : Int32), (0 : Int32), (0 : Int32), (0 : Int32), (-1 : Int32), (0 : Int32), (0 : Int32), (0 : Int32), (0 : Int32), rs0) x10 x25 x41 gb col pr pg en cl ma cb ng mg = (x10.toInt32, x25.toInt32, x41, gf (zI + 12).toNatClampNeg, gf (zI + 13).toNatClampNeg, col, pr, en, cl, ma, (nI n), rs2, gb, cb, ng, mg, lg2, pg) ∧ oj_Mo_make_226 (nI hA) (nI kA) (nI dA) gf lg ((0 : Int32), (0 : Int32), (0 : Int32), (0 : Int32), (0 : Int32), (0 : Int32), (-1 : Int32), (0 : Int32), (0 : Int32), (0 : Int32), (0 : Int32), rs0) en cl ma cb ng mg ∧ n = (if hA = 0 then 0 else UB B hA 2) ∧ (∀ i, i < n → lg2 (3 * i) = nI (UB B (hA + 2 + 6 * i) 2) ∧ lg2 (3 * i + 1) = nI (UB B (hA + 2 + 6 * i + 2) 2) ∧ lg2 (3 * i + 2) = nI (UB B (hA + 2 + 6 * i + 4) 2)) ∧ RsN B kA dA rs2 := by
  have h1 := hB.1
  have h2 := hB.2.1
  obtain ⟨ra, a1, a2, a3, a4, a5⟩ := x_mkr hB (a := kA) (t := 0) hk (by omega) rs0
  obtain ⟨rb, b1, b2, b3, b4, b5⟩ := x_mkr hB (a := dA) (t := 6) hd (by omega) ra
  have a1' : m_Mo_makeResolution gf rs0 (nI kA) 0 = ra := a1
  have b1' : m_Mo_makeResolution gf ra (nI dA) 6 = rb := b1
  have hR : om_Mo_makeResolution gf rs0 (nI kA) 0 ∧ ok_Mo_make_300 (nI dA) gf (m_Mo_makeResolution gf rs0 (nI kA) 0) := by
    rw [a1']
    unfold ok_Mo_make_300 ok_Mo_make_310
    exact ⟨a2, b2, trivial⟩
  have hN : RsN B kA dA rb := by
    refine ⟨fun z k hk => ?_, fun z => ⟨fun k hk => ?_, fun k hk => ?_⟩, fun z k hk => ?_, fun z => ⟨fun k hk => ?_, fun k hk => ?_⟩⟩
    · rw [b5 k (by omega), a3 z]; exact hrs k (by omega)
    · rw [b5 k (by omega)]; have t := (a4 z).1 k hk; rw [Nat.zero_add] at t; exact t
    · rw [b5 (4 + k) (by omega)]; have t := (a4 z).2 k hk; rw [Nat.zero_add] at t; exact t
    · rw [b3 z, a5 (6 + k) (by omega)]; exact hrs (6 + k) (by omega)
    · exact (b4 z).1 k hk
    · exact (b4 z).2 k hk
  have q0 : ∀ n : Nat, n ≤ 16 → (n ≠ 0 → hA + 2 + 6 * n ≤ sz) → ∃ lg2, j_Mo_make_245 zI (nI hA) (nI kA) (nI dA) gf lg ((0 : Int32), (0 : Int32), (0 : Int32), (0 : Int32), (0 : Int32), (0 : Int32), (-1 : Int32), (0 : Int32), (0 : Int32), (0 : Int32), (0 : Int32), rs0) x10 x25 x41 gb col pr pg en cl ma cb ng mg (nI n) = (x10.toInt32, x25.toInt32, x41, gf (zI + 12).toNatClampNeg, gf (zI + 13).toNatClampNeg, col, pr, en, cl, ma, (nI n), rb, gb, cb, ng, mg, lg2, pg) ∧ oj_Mo_make_245 (nI hA) (nI kA) (nI dA) gf lg ((0 : Int32), (0 : Int32), (0 : Int32), (0 : Int32), (0 : Int32), (0 : Int32), (-1 : Int32), (0 : Int32), (0 : Int32), (0 : Int32), (0 : Int32), rs0) (nI n) ∧ (∀ i, i < n → lg2 (3 * i) = nI (UB B (hA + 2 + 6 * i) 2) ∧ lg2 (3 * i + 1) = nI (UB B (hA + 2 + 6 * i + 2) 2) ∧ lg2 (3 * i + 2) = nI (UB B (hA + 2 + 6 * i + 4) 2)) := fun n hn hs => by
    unfold j_Mo_make_245 oj_Mo_make_245
    rw [q_fuel (by omega)]
    by_cases z : n = 0
    · have k : nI n ≤ 0 := by rw [h_le0 (by omega)]; exact z
      refine ⟨lg, ?_, ?_, fun i hi => by omega⟩
      · rw [z]
        show lb_Mo_make_248 zI (nI hA) (nI kA) (nI dA) gf ((0 : Int32), (0 : Int32), (0 : Int32), (0 : Int32), (0 : Int32), (0 : Int32), (-1 : Int32), (0 : Int32), (0 : Int32), (0 : Int32), (0 : Int32), rs0) x10 x25 x41 gb col pr pg en cl ma cb ng mg (nI 0) (lp_Mo_make_248 zI (nI hA) (nI kA) (nI dA) gf ((0 : Int32), (0 : Int32), (0 : Int32), (0 : Int32), (0 : Int32), (0 : Int32), (-1 : Int32), (0 : Int32), (0 : Int32), (0 : Int32), (0 : Int32), rs0) x10 x25 x41 gb col pr pg en cl ma cb ng mg (nI 0) 0) 0 0 lg = _
        unfold lb_Mo_make_248
        rw [if_pos (show nI 0 ≤ 0 by decide)]
        unfold k_Mo_make_300 k_Mo_make_310
        rw [← b1', ← a1']
        rfl
      · rw [z]
        show olb_Mo_make_248 (nI hA) (nI kA) (nI dA) gf ((0 : Int32), (0 : Int32), (0 : Int32), (0 : Int32), (0 : Int32), (0 : Int32), (-1 : Int32), (0 : Int32), (0 : Int32), (0 : Int32), (0 : Int32), rs0) (nI 0) (olp_Mo_make_248 (nI hA) (nI kA) (nI dA) gf ((0 : Int32), (0 : Int32), (0 : Int32), (0 : Int32), (0 : Int32), (0 : Int32), (-1 : Int32), (0 : Int32), (0 : Int32), (0 : Int32), (0 : Int32), rs0) (nI 0) 0) 0 0 lg
        unfold olb_Mo_make_248
        rw [if_pos (show nI 0 ≤ 0 by decide)]
        exact hR
    · obtain ⟨lg2, i1, i2, i3, i4⟩ := x_q248 hB zI x10 x25 x41 col pr en cl ma gb pg cb mg ng rs0 hn (hs z) hR n 0 lg (by omega)
      refine ⟨lg2, ?_, i2, fun i hi => i3 i (by omega) hi⟩
      refine i1.trans ?_
      unfold k_Mo_make_300 k_Mo_make_310
      rw [a1', b1']
  unfold j_Mo_make_226 oj_Mo_make_226
  by_cases z : hA = 0
  · have k : nI hA ≤ 0 := by rw [h_le0 (by omega)]; exact z
    obtain ⟨lg2, i1, i2, i3⟩ := q0 0 (by omega) (fun q => absurd rfl q)
    rw [if_pos k, if_pos k]
    exact ⟨0, lg2, rb, i1, i2, by rw [if_pos z], i3, hN⟩
  · have k : ¬ nI hA ≤ 0 := by rw [h_le0 (by omega)]; exact z
    have u := s_u2 hB (p := hA) (by have := (hh z).1; omega)
    obtain ⟨lg2, i1, i2, i3⟩ := q0 (UB B hA 2) (hh z).2 (fun _ => (hh z).1)
    rw [if_neg k, if_neg k]
    unfold k_Mo_make_238 ok_Mo_make_238
    rw [u.1]
    exact ⟨_, lg2, rb, i1, ⟨u.2, i2⟩, by rw [if_neg z], i3, hN⟩
