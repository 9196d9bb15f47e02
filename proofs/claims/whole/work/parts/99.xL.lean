/-- what the reference makes of a palette -/
theorem q_shf : ∀ t : Fin 256, t.val % 128 ≤ 37 → ((63 - (nI t.val &&& 127) : Int32).toInt64 &&& 63) = Int64.ofNat (63 - t.val % 128) ∧ ((63 - (nI t.val &&& 127) : Int32).toInt64.toUInt64 &&& Int64.toUInt64 63) = UInt64.ofNat (63 - t.val % 128) ∧ (decide (nI t.val ≤ 127) = decide (t.val < 128)) := by decide +kernel
theorem x_low {t : Nat} (ht : t < 256) (h37 : t % 128 ≤ 37) (v : Int64) :
    (nI t ≤ 127 → ((v <<< ((63 - (nI t &&& 127) : Int32).toInt64 &&& 63) : Int64).toUInt64 >>> ((63 - (nI t &&& 127) : Int32).toInt64.toUInt64 &&& Int64.toUInt64 63)).toInt64 = m_FB_lowestBits v (nI t)) ∧ (¬ nI t ≤ 127 → ((v <<< ((63 - (nI t &&& 127) : Int32).toInt64 &&& 63)) >>> ((63 - (nI t &&& 127) : Int32).toInt64 &&& 63)) = m_FB_lowestBits v (nI t)) := by
  obtain ⟨a1, a2, a3⟩ := q_shf ⟨t, ht⟩ h37
  have a1 : ((63 - (nI t &&& 127) : Int32).toInt64 &&& 63) = Int64.ofNat (63 - t % 128) := a1
  have a2 : ((63 - (nI t &&& 127) : Int32).toInt64.toUInt64 &&& Int64.toUInt64 63) = UInt64.ofNat (63 - t % 128) := a2
  have a3 : (decide (nI t ≤ 127) = decide (t < 128)) := a3
  rw [a1, a2]
  refine ⟨fun h => ?_, fun h => ?_⟩
  · have hl : t < 128 := of_decide_eq_true (a3.symm.trans (decide_eq_true h))
    apply Int64.toBitVec_inj.1
    rw [q_lowU t ht h37 hl]
    show ((v <<< Int64.ofNat (63 - t % 128)).toUInt64 >>> UInt64.ofNat (63 - t % 128)).toBitVec = _
    rw [q_shrU _ (by omega)]
    show (v <<< Int64.ofNat (63 - t % 128)).toBitVec >>> _ = _
    rw [q_shl _ (by omega)]
  · have hl : ¬ t < 128 := of_decide_eq_false (a3.symm.trans (decide_eq_false h))
    apply Int64.toBitVec_inj.1
    rw [q_lowS t ht h37 hl, q_shr _ (by omega), q_shl _ (by omega)]
theorem x_g107 {sz nr : Nat} {fw gf : Nat → Int32} {B : Nat → Nat} (hB : HB sz nr fw gf B) {pA q c t k p0 : Nat} {cbs mg : Nat → Int32} {ma x6 : Int32} {ng : Nat → Int64} (hc0 : c ≠ 0) (hc : c ≤ 8) (hk : k < 4096) (hkt : k % c = t) (hcb : cbs t = nI (B (q + t))) (hv : B (q + t) % 128 ≤ 37) (hp : p0 + bwd B (q + t) ≤ sz) (g2 : gf (nI pA + 2).toNatClampNeg = nI c)
    (kk : Int32 → Int32 → (Nat → Int64) → Int32 × Int32 × Int32 × (Nat → Int32) × (Nat → Int64) × (Nat → Int32)) (okk : Int32 → Int32 → (Nat → Int64) → Prop) : ∀ (d fu j : Nat), d < fu → j + d = bwd B (q + t) →
    lp_Mo_makePalette_107 ma (nI pA) gf mg x6 cbs kk (nI k) ng fu (nI j) (Int64.ofNat (UB B p0 j)) (nI (p0 + j)) = kk (nI (k + 1)) (nI (p0 + bwd B (q + t))) (vp_updL ng k (m_FB_lowestBits (Int64.ofNat (UB B p0 (bwd B (q + t)))) (nI (B (q + t))))) ∧ (okk (nI (k + 1)) (nI (p0 + bwd B (q + t))) (vp_updL ng k (m_FB_lowestBits (Int64.ofNat (UB B p0 (bwd B (q + t)))) (nI (B (q + t))))) → olp_Mo_makePalette_107 (nI pA) gf cbs okk (nI k) ng fu (nI j) (Int64.ofNat (UB B p0 j)) (nI (p0 + j)))
  | d, 0, j, hd, h => by omega
  | 0, fu + 1, j, hd, h => by
    have h1 := hB.1
    have h2 := hB.2.1
    have b5 : bwd B (q + t) ≤ 5 := by unfold bwd; omega
    have kd : nI k / nI c = nI (k / c) := q_div (by omega) (by omega)
    have hle : k / c * c ≤ k := Nat.div_mul_le_self k c
    have ki : nI k - nI (k / c) * nI c = nI t := by
      rw [q_mul, q_sub hle]
      refine congrArg nI ?_
      have := Nat.div_add_mod k c
      rw [Nat.mul_comm] at this
      omega
    have tc : t < c := by rw [← hkt]; exact Nat.mod_lt _ (by omega)
    have bw := (q_bw hB.2.2.1 (q + t)).2
    have kx : nI (bwd B (q + t)) ≤ nI j := by rw [q_le (by omega) (by omega)]; omega
    have lo := x_low (hB.2.2.1 (q + t)) hv (Int64.ofNat (UB B p0 j))
    show lb_Mo_makePalette_107 ma (nI pA) gf mg x6 cbs kk (nI k) ng (lp_Mo_makePalette_107 ma (nI pA) gf mg x6 cbs kk (nI k) ng fu) (nI j) (Int64.ofNat (UB B p0 j)) (nI (p0 + j)) = _ ∧ (_ → olb_Mo_makePalette_107 (nI pA) gf cbs okk (nI k) ng (olp_Mo_makePalette_107 (nI pA) gf cbs okk (nI k) ng fu) (nI j) (Int64.ofNat (UB B p0 j)) (nI (p0 + j)))
    unfold lb_Mo_makePalette_107 olb_Mo_makePalette_107 k_Mo_makePalette_110 ok_Mo_makePalette_110 om_Mo_bytesOf
    rw [g2, kd, ki, q_cl (show t < 2147483648 by omega), hcb, bw, if_pos kx, if_pos kx, ← nI_succ, q_cl (show k < 2147483648 by omega), q_in (show k < 2147483648 by omega), show j = bwd B (q + t) by omega]
    rw [show j = bwd B (q + t) by omega] at lo
    by_cases z : nI (B (q + t)) ≤ 127
    · rw [if_pos z, if_pos z, lo.1 z]
      exact ⟨rfl, fun w => ⟨trivial, hk, w⟩⟩
    · rw [if_neg z, if_neg z, lo.2 z]
      exact ⟨rfl, fun w => ⟨trivial, hk, w⟩⟩
  | d + 1, fu + 1, j, hd, h => by
    have h1 := hB.1
    have h2 := hB.2.1
    have b5 : bwd B (q + t) ≤ 5 := by unfold bwd; omega
    have kd : nI k / nI c = nI (k / c) := q_div (by omega) (by omega)
    have hle : k / c * c ≤ k := Nat.div_mul_le_self k c
    have ki : nI k - nI (k / c) * nI c = nI t := by
      rw [q_mul, q_sub hle]
      refine congrArg nI ?_
      have := Nat.div_add_mod k c
      rw [Nat.mul_comm] at this
      omega
    have tc : t < c := by rw [← hkt]; exact Nat.mod_lt _ (by omega)
    have bw := (q_bw hB.2.2.1 (q + t)).2
    have kx : ¬ nI (bwd B (q + t)) ≤ nI j := by rw [q_le (by omega) (by omega)]; omega
    have hb := hB.2.2.1 (p0 + j)
    have ih := x_g107 hB (ma := ma) (mg := mg) (x6 := x6) (ng := ng) hc0 hc hk hkt hcb hv hp g2 kk okk d fu (j + 1) (by omega) (by omega)
    show lb_Mo_makePalette_107 ma (nI pA) gf mg x6 cbs kk (nI k) ng (lp_Mo_makePalette_107 ma (nI pA) gf mg x6 cbs kk (nI k) ng fu) (nI j) (Int64.ofNat (UB B p0 j)) (nI (p0 + j)) = _ ∧ (_ → olb_Mo_makePalette_107 (nI pA) gf cbs okk (nI k) ng (olp_Mo_makePalette_107 (nI pA) gf cbs okk (nI k) ng fu) (nI j) (Int64.ofNat (UB B p0 j)) (nI (p0 + j)))
    unfold lb_Mo_makePalette_107 olb_Mo_makePalette_107 k_Mo_makePalette_110 ok_Mo_makePalette_110 om_Mo_bytesOf
    rw [g2, kd, ki, q_cl (show t < 2147483648 by omega), hcb, bw, if_neg kx, if_neg kx, q_cl (show p0 + j < 2147483648 by omega), q_in (show p0 + j < 2147483648 by omega), (hB.2.2.2 (p0 + j) (by omega)).2, q_64 (by omega), q_cat _ _ hb, ← nI_succ, ← nI_succ]
    exact ⟨ih.1, fun w => ⟨trivial, by omega, ih.2 w⟩⟩
/-- the place of a number -/
def posN (B : Nat → Nat) (q c p k : Nat) : Nat := p + k / c * sbw B c q + sbw B (k % c) q
theorem posN_s (B : Nat → Nat) (q p : Nat) {c : Nat} (hc : c ≠ 0) (k : Nat) : posN B q c p (k + 1) = posN B q c p k + bwd B (q + k % c) := by
  have hm := Nat.mod_lt k (show c > 0 by omega)
  have e := Nat.div_add_mod k c
  unfold posN
  by_cases z : k % c + 1 < c
  · have e1 : (k + 1) / c = k / c := by
      rw [show k + 1 = (k % c + 1) + c * (k / c) by omega, Nat.add_mul_div_left _ _ (by omega), Nat.div_eq_of_lt z, Nat.zero_add]
    have e2 : (k + 1) % c = k % c + 1 := by
      rw [show k + 1 = (k % c + 1) + c * (k / c) by omega, Nat.add_mul_mod_self_left, Nat.mod_eq_of_lt z]
    rw [e1, e2, sbw_1]
    omega
  · have z2 : k % c + 1 = c := by omega
    have e1 : (k + 1) / c = k / c + 1 := by
      rw [show k + 1 = c * (k / c + 1) by rw [Nat.mul_add, Nat.mul_one]; omega, Nat.mul_div_cancel_left _ (by omega)]
    have e2 : (k + 1) % c = 0 := by
      rw [show k + 1 = c * (k / c + 1) by rw [Nat.mul_add, Nat.mul_one]; omega, Nat.mul_mod_right]
    have e3 : sbw B c q = sbw B (k % c) q + bwd B (q + k % c) := by rw [← sbw_1, z2]
    rw [e1, e2, Nat.add_mul, Nat.one_mul]
    have e0 : sbw B 0 q = 0 := rfl
    omega
theorem posN_le (B : Nat → Nat) (q p : Nat) {c en k : Nat} (hc : c ≠ 0) (hk : k < en * c) : posN B q c p k + bwd B (q + k % c) ≤ p + en * sbw B c q := by
  have hm := Nat.mod_lt k (show c > 0 by omega)
  have hd : k / c < en := Nat.div_lt_of_lt_mul (by rw [Nat.mul_comm]; exact hk)
  have h1 : (k / c + 1) * sbw B c q ≤ en * sbw B c q := Nat.mul_le_mul_right _ hd
  have h2 : sbw B (k % c + 1) q ≤ sbw B c q := sbw_mono B q (by omega)
  rw [sbw_1] at h2
  rw [Nat.add_mul, Nat.one_mul] at h1
  unfold posN
  omega
theorem x_g76 {sz nr : Nat} {fw gf : Nat → Int32} {B : Nat → Nat} (hB : HB sz nr fw gf B) {pA q c en p : Nat} {cbs mg : Nat → Int32} {ma mA mE : Int32} (hc0 : c ≠ 0) (hc : c ≤ 8) (hec : en * c ≤ 4096) (hen : en ≤ 1024) (hcb : ∀ t, t < c → cbs t = nI (B (q + t))) (hv : ∀ t, t < c → B (q + t) % 128 ≤ 37) (hp : p + en * sbw B c q ≤ sz) (g2 : gf (nI pA + 2).toNatClampNeg = nI c) : ∀ (d k : Nat) (ng : Nat → Int64), k + d = en * c →
    ∃ ng2, lp_Mo_makePalette_76 ma (nI pA) mA mE gf mg (nI en) cbs (d + 1) (nI k) (nI (posN B q c p k)) ng = lp_Mo_makePalette_191 (nI pA) mE gf (nI en) cbs ng2 70000 mA ma mg ∧ (olp_Mo_makePalette_191 mE gf 70000 mA ma mg → olp_Mo_makePalette_76 ma (nI pA) mA mE gf mg (nI en) cbs (d + 1) (nI k) (nI (posN B q c p k)) ng) ∧ (∀ x, k ≤ x → x < en * c → ng2 x = numV B q (p + x / c * sbw B c q) (x % c)) ∧ (∀ x, x < k → ng2 x = ng x)
  | 0, k, ng, h => by
    have h1 := hB.1
    have h2 := hB.2.1
    have kx : nI en * nI c ≤ nI k := by rw [q_mul, q_le (by omega) (by omega)]; omega
    refine ⟨ng, ?_, fun w => ?_, fun x h1 h2 => by omega, fun x hx => rfl⟩
    · show lb_Mo_makePalette_76 ma (nI pA) mA mE gf mg (nI en) cbs (lp_Mo_makePalette_76 ma (nI pA) mA mE gf mg (nI en) cbs 0) (nI k) (nI (posN B q c p k)) ng = _
      unfold lb_Mo_makePalette_76
      rw [g2, if_pos kx]
    · show olb_Mo_makePalette_76 ma (nI pA) mA mE gf mg (nI en) cbs (olp_Mo_makePalette_76 ma (nI pA) mA mE gf mg (nI en) cbs 0) (nI k) (nI (posN B q c p k)) ng
      unfold olb_Mo_makePalette_76
      rw [g2, if_pos kx]
      exact w
  | d + 1, k, ng, h => by
    have h1 := hB.1
    have h2 := hB.2.1
    have kx : ¬ nI en * nI c ≤ nI k := by rw [q_mul, q_le (by omega) (by omega)]; omega
    have tc := Nat.mod_lt k (show c > 0 by omega)
    have ps := posN_s B q p hc0 k
    have pl := posN_le B q p (en := en) (k := k) hc0 (by omega)
    have kd : nI k / nI c = nI (k / c) := q_div (by omega) (by omega)
    have hle : k / c * c ≤ k := Nat.div_mul_le_self k c
    have ki : nI k - nI (k / c) * nI c = nI (k % c) := by
      rw [q_mul, q_sub hle]
      refine congrArg nI ?_
      have := Nat.div_add_mod k c
      rw [Nat.mul_comm] at this
      omega
    have cz : ¬ nI c = 0 := by rw [q_e0 (by omega)]; exact hc0
    have b5 : bwd B (q + k % c) ≤ 5 := by have := hv (k % c) tc; unfold bwd; omega
    obtain ⟨ng2, i1, i2, i3, i4⟩ := x_g76 hB (ma := ma) (mA := mA) (mE := mE) (mg := mg) hc0 hc hec hen hcb hv hp g2 d (k + 1) (vp_updL ng k (m_FB_lowestBits (Int64.ofNat (UB B (posN B q c p k) (bwd B (q + k % c)))) (nI (B (q + k % c))))) (by omega)
    rw [ps] at i1 i2
    have g := x_g107 hB (pA := pA) (q := q) (c := c) (t := k % c) (k := k) (p0 := posN B q c p k) (cbs := cbs) (mg := mg) (ma := ma) (x6 := nI en) (ng := ng) hc0 hc (by omega) rfl (hcb _ tc) (hv _ tc) (by omega) g2 (lp_Mo_makePalette_76 ma (nI pA) mA mE gf mg (nI en) cbs (d + 1)) (olp_Mo_makePalette_76 ma (nI pA) mA mE gf mg (nI en) cbs (d + 1)) (bwd B (q + k % c)) 70000 0 (by omega) (by omega)
    refine ⟨ng2, ?_, fun w => ?_, fun x h1 h2 => ?_, fun x hx => ?_⟩
    · show lb_Mo_makePalette_76 ma (nI pA) mA mE gf mg (nI en) cbs (lp_Mo_makePalette_76 ma (nI pA) mA mE gf mg (nI en) cbs (d + 1)) (nI k) (nI (posN B q c p k)) ng = _
      unfold lb_Mo_makePalette_76
      rw [g2, if_neg kx]
      exact g.1.trans i1
    · show olb_Mo_makePalette_76 ma (nI pA) mA mE gf mg (nI en) cbs (olp_Mo_makePalette_76 ma (nI pA) mA mE gf mg (nI en) cbs (d + 1)) (nI k) (nI (posN B q c p k)) ng
      unfold olb_Mo_makePalette_76
      rw [g2, if_neg kx, kd, ki, q_in (by omega)]
      exact ⟨cz, by omega, g.2 (i2 w)⟩
    · by_cases z : x = k
      · rw [z, i4 k (by omega), q_updL]
        rfl
      · exact i3 x (by omega) h2
    · rw [i4 x (by omega), q_upnL _ _ (by omega)]
theorem x_g191 {sz nr : Nat} {fw gf : Nat → Int32} {B : Nat → Nat} (hB : HB sz nr fw gf B) {pA e : Nat} {x6 : Int32} {cbs : Nat → Int32} {ng : Nat → Int64} (he : e ≤ sz) : ∀ (d fu p m : Nat) (mg : Nat → Int32), d < fu → p + 4 * d = e → m + d ≤ 16 →
    ∃ mg2, lp_Mo_makePalette_191 (nI pA) (nI e) gf x6 cbs ng fu (nI p) (nI m) mg = (x6, gf (nI pA + 2).toNatClampNeg, nI (m + d), cbs, ng, mg2) ∧ olp_Mo_makePalette_191 (nI e) gf fu (nI p) (nI m) mg ∧ LnM B p d m mg2 ∧ ∀ k, k < 3 * m → mg2 k = mg k
  | d, 0, p, m, mg, hd, h, hm => by omega
  | 0, fu + 1, p, m, mg, hd, h, hm => by
    have h1 := hB.1
    have h2 := hB.2.1
    have k : nI e ≤ nI p := by rw [q_le (by omega) (by omega)]; omega
    refine ⟨mg, ?_, ?_, fun i hi => by omega, fun k hk => rfl⟩
    · show lb_Mo_makePalette_191 (nI pA) (nI e) gf x6 cbs ng (lp_Mo_makePalette_191 (nI pA) (nI e) gf x6 cbs ng fu) (nI p) (nI m) mg = _
      unfold lb_Mo_makePalette_191
      rw [if_pos k]; rfl
    · show olb_Mo_makePalette_191 (nI e) gf (olp_Mo_makePalette_191 (nI e) gf fu) (nI p) (nI m) mg
      unfold olb_Mo_makePalette_191
      rw [if_pos k]; trivial
  | d + 1, fu + 1, p, m, mg, hd, h, hm => by
    have h1 := hB.1
    have h2 := hB.2.1
    have k : ¬ nI e ≤ nI p := by rw [q_le (by omega) (by omega)]; omega
    have u := s_u2 hB (p := p) (by omega)
    have e4 : nI p + 4 = nI (p + 4) := by rw [show (4 : Int32) = nI 4 from rfl, q_add]
    have c0 : (3 * nI m : Int32).toNatClampNeg = 3 * m := by rw [q_3m, q_cl (by omega)]
    have c1 : (3 * nI m + 1 : Int32).toNatClampNeg = 3 * m + 1 := by rw [q_3m, q_p1, q_cl (by omega)]
    have c2 : (3 * nI m + 2 : Int32).toNatClampNeg = 3 * m + 2 := by rw [q_3m, q_p2, q_cl (by omega)]
    have g2 : gf (nI p + 2).toNatClampNeg = nI (B (p + 2)) := by rw [q_p2, q_cl (by omega)]; exact (hB.2.2.2 _ (by omega)).2
    have g3 : gf (nI p + 3).toNatClampNeg = nI (B (p + 3)) := by rw [show (3 : Int32) = nI 3 from rfl, q_add, q_cl (by omega)]; exact (hB.2.2.2 _ (by omega)).2
    have v2 : vp_in (nI p + 2) 65536 := by rw [q_p2, q_in (by omega)]; omega
    have v3 : vp_in (nI p + 3) 65536 := by rw [show (3 : Int32) = nI 3 from rfl, q_add, q_in (by omega)]; omega
    have w0 : vp_in (3 * nI m) 48 := by rw [q_3m, q_in (by omega)]; omega
    have w1 : vp_in (3 * nI m + 1) 48 := by rw [q_3m, q_p1, q_in (by omega)]; omega
    have w2 : vp_in (3 * nI m + 2) 48 := by rw [q_3m, q_p2, q_in (by omega)]; omega
    obtain ⟨mg2, i1, i2, i3, i4⟩ := x_g191 hB (pA := pA) (x6 := x6) (cbs := cbs) (ng := ng) he d fu (p + 4) (m + 1) (upd (upd (upd mg (3 * m) (nI (UB B p 2))) (3 * m + 1) (nI (B (p + 2)))) (3 * m + 2) (nI (B (p + 3)))) (by omega) (by omega) (by omega)
    refine ⟨mg2, ?_, ?_, fun i hi => ?_, fun k hk => ?_⟩
    · rw [show m + (d + 1) = m + 1 + d by omega, ← i1]
      show lb_Mo_makePalette_191 (nI pA) (nI e) gf x6 cbs ng (lp_Mo_makePalette_191 (nI pA) (nI e) gf x6 cbs ng fu) (nI p) (nI m) mg = _
      unfold lb_Mo_makePalette_191 k_Mo_makePalette_211
      rw [if_neg k, u.1, g2, g3, c0, c1, c2, e4, ← nI_succ]
    · show olb_Mo_makePalette_191 (nI e) gf (olp_Mo_makePalette_191 (nI e) gf fu) (nI p) (nI m) mg
      unfold olb_Mo_makePalette_191 ok_Mo_makePalette_211
      rw [if_neg k, u.1, g2, g3, c0, c1, c2, e4, ← nI_succ]
      exact ⟨u.2, w0, v2, w1, v3, w2, i2⟩
    · by_cases z : i = 0
      · subst z
        rw [Nat.add_zero, Nat.mul_zero, Nat.add_zero, i4 (3 * m) (by omega), i4 (3 * m + 1) (by omega), i4 (3 * m + 2) (by omega)]
        refine ⟨?_, ?_, ?_⟩
        · rw [q_upn _ _ (by omega), q_upn _ _ (by omega), q_upd]
        · rw [q_upn _ _ (by omega), q_upd]
        · rw [q_upd]
      · have t := i3 (i - 1) (by omega)
        rw [show m + 1 + (i - 1) = m + i by omega, show p + 4 + 4 * (i - 1) = p + 4 * i by omega] at t
        exact t
    · rw [i4 k (by omega), q_upn _ _ (by omega), q_upn _ _ (by omega), q_upn _ _ (by omega)]
theorem x_g29 {sz nr : Nat} {fw gf : Nat → Int32} {B : Nat → Nat} (hB : HB sz nr fw gf B) {pA c en : Nat} {mg : Nat → Int32} {ng : Nat → Int64} {ma mA mE : Int32} (hc : c ≤ 8) (hen : en ≤ 1024) (hp : pA + 3 + c ≤ sz) (g2 : gf (nI pA + 2).toNatClampNeg = nI c) : ∀ (d j : Nat) (cb : Nat → Int32), j + d = c →
    ∃ cb2, lp_Mo_makePalette_29 ma (nI pA) mA mE gf ng mg (nI en) (d + 1) (nI j) cb = lp_Mo_makePalette_76 ma (nI pA) mA mE gf mg (nI en) cb2 (en * c + 1) 0 (nI (pA + 3 + c)) ng ∧ (olp_Mo_makePalette_76 ma (nI pA) mA mE gf mg (nI en) cb2 (en * c + 1) 0 (nI (pA + 3 + c)) ng → olp_Mo_makePalette_29 ma (nI pA) mA mE gf ng mg (nI en) (d + 1) (nI j) cb) ∧ (∀ t, j ≤ t → t < c → cb2 t = nI (B (pA + 3 + t))) ∧ ∀ t, t < j → cb2 t = cb t
  | 0, j, cb, h => by
    have h1 := hB.1
    have h2 := hB.2.1
    have k : nI c ≤ nI j := by rw [q_le (by omega) (by omega)]; omega
    have hm : en * c ≤ 1024 * 8 := Nat.mul_le_mul hen hc
    have fu : ((nI en * nI c).toInt - (0 : Int32).toInt).toNat + 1 = en * c + 1 := by rw [q_mul, q_fuel (by omega)]
    have e3 : nI pA + 3 + nI c = nI (pA + 3 + c) := by rw [show (3 : Int32) = nI 3 from rfl, q_add, q_add]
    refine ⟨cb, ?_, fun w => ?_, fun t h1 h2 => by omega, fun t ht => rfl⟩
    · show lb_Mo_makePalette_29 ma (nI pA) mA mE gf ng mg (nI en) (lp_Mo_makePalette_29 ma (nI pA) mA mE gf ng mg (nI en) 0) (nI j) cb = _
      unfold lb_Mo_makePalette_29
      rw [g2, if_pos k, fu, e3]
    · show olb_Mo_makePalette_29 ma (nI pA) mA mE gf ng mg (nI en) (olp_Mo_makePalette_29 ma (nI pA) mA mE gf ng mg (nI en) 0) (nI j) cb
      unfold olb_Mo_makePalette_29
      rw [g2, if_pos k, fu, e3]
      exact w
  | d + 1, j, cb, h => by
    have h1 := hB.1
    have h2 := hB.2.1
    have k : ¬ nI c ≤ nI j := by rw [q_le (by omega) (by omega)]; omega
    have e3 : nI pA + 3 + nI j = nI (pA + 3 + j) := by rw [show (3 : Int32) = nI 3 from rfl, q_add, q_add]
    obtain ⟨cb2, i1, i2, i3, i4⟩ := x_g29 hB (mg := mg) (ng := ng) (ma := ma) (mA := mA) (mE := mE) hc hen hp g2 d (j + 1) (upd cb j (nI (B (pA + 3 + j)))) (by omega)
    refine ⟨cb2, ?_, fun w => ?_, fun t h1 h2 => ?_, fun t ht => ?_⟩
    · rw [← i1]
      show lb_Mo_makePalette_29 ma (nI pA) mA mE gf ng mg (nI en) (lp_Mo_makePalette_29 ma (nI pA) mA mE gf ng mg (nI en) (d + 1)) (nI j) cb = _
      unfold lb_Mo_makePalette_29
      rw [g2, if_neg k, e3, q_cl (show j < 2147483648 by omega), q_cl (show pA + 3 + j < 2147483648 by omega), (hB.2.2.2 (pA + 3 + j) (by omega)).2, ← nI_succ]
    · show olb_Mo_makePalette_29 ma (nI pA) mA mE gf ng mg (nI en) (olp_Mo_makePalette_29 ma (nI pA) mA mE gf ng mg (nI en) (d + 1)) (nI j) cb
      unfold olb_Mo_makePalette_29
      rw [g2, if_neg k, e3, q_cl (show j < 2147483648 by omega), q_cl (show pA + 3 + j < 2147483648 by omega), (hB.2.2.2 (pA + 3 + j) (by omega)).2, ← nI_succ, q_in (show pA + 3 + j < 2147483648 by omega), q_in (show j < 2147483648 by omega)]
      exact ⟨by omega, by omega, i2 w⟩
    · by_cases z : t = j
      · rw [z, i4 j (by omega), q_upd]
      · exact i3 t (by omega) h2
    · rw [i4 t (by omega), q_upn _ _ (by omega)]
theorem x_mkpal {sz nr : Nat} {fw gf : Nat → Int32} {B : Nat → Nat} (hB : HB sz nr fw gf B) {pA mA dd : Nat} (hp1 : 1 ≤ UB B pA 2 ∧ UB B pA 2 ≤ 1024) (hp2 : 1 ≤ B (pA + 2) ∧ B (pA + 2) ≤ 8) (hec : UB B pA 2 * B (pA + 2) ≤ 4096) (hv : ∀ t, t < B (pA + 2) → B (pA + 3 + t) % 128 ≤ 37) (hp : pA + 3 + B (pA + 2) + UB B pA 2 * sbw B (B (pA + 2)) (pA + 3) ≤ sz) (hm : mA + 4 * dd ≤ sz) (hd : dd ≤ 16) (cb mg : Nat → Int32) (ng : Nat → Int64) :
    ∃ (cb2 : Nat → Int32) (ng2 : Nat → Int64) (mg2 : Nat → Int32), m_Mo_makePalette 0 (nI pA) (nI mA) (nI (mA + 4 * dd)) gf cb ng mg = (nI (UB B pA 2), nI (B (pA + 2)), nI dd, cb2, ng2, mg2) ∧ om_Mo_makePalette 0 (nI pA) (nI mA) (nI (mA + 4 * dd)) gf cb ng mg ∧ (∀ t, t < B (pA + 2) → cb2 t = nI (B (pA + 3 + t))) ∧ (∀ x, x < UB B pA 2 * B (pA + 2) → ng2 x = numV B (pA + 3) (pA + 3 + B (pA + 2) + x / B (pA + 2) * sbw B (B (pA + 2)) (pA + 3)) (x % B (pA + 2))) ∧ LnM B mA dd 0 mg2 := by
  have h1 := hB.1
  have h2 := hB.2.1
  have u := s_u2 hB (p := pA) (by omega)
  have g2 : gf (nI pA + 2).toNatClampNeg = nI (B (pA + 2)) := by rw [q_p2, q_cl (by omega)]; exact (hB.2.2.2 _ (by omega)).2
  have v2 : vp_in (nI pA + 2) 65536 := by rw [q_p2, q_in (by omega)]; omega
  obtain ⟨cb2, a1, a2, a3, a4⟩ := x_g29 hB (pA := pA) (c := B (pA + 2)) (en := UB B pA 2) (mg := mg) (ng := ng) (ma := 0) (mA := nI mA) (mE := nI (mA + 4 * dd)) hp2.2 hp1.2 (by omega) g2 (B (pA + 2)) 0 cb (by omega)
  obtain ⟨ng2, b1, b2, b3, b4⟩ := x_g76 hB (pA := pA) (q := pA + 3) (c := B (pA + 2)) (en := UB B pA 2) (p := pA + 3 + B (pA + 2)) (cbs := cb2) (mg := mg) (ma := 0) (mA := nI mA) (mE := nI (mA + 4 * dd)) (by omega) hp2.2 hec hp1.2 (fun t ht => a3 t (by omega) ht) hv hp g2 (UB B pA 2 * B (pA + 2)) 0 ng (by omega)
  obtain ⟨mg2, c1, c2, c3, c4⟩ := x_g191 hB (pA := pA) (x6 := nI (UB B pA 2)) (cbs := cb2) (ng := ng2) hm dd 70000 mA 0 mg (by omega) (by omega) (by omega)
  have p0 : posN B (pA + 3) (B (pA + 2)) (pA + 3 + B (pA + 2)) 0 = pA + 3 + B (pA + 2) := by
    unfold posN
    rw [Nat.zero_div, Nat.zero_mod, Nat.zero_mul]
    rfl
  rw [p0] at b1 b2
  rw [g2, Nat.zero_add] at c1
  unfold m_Mo_makePalette om_Mo_makePalette k_Mo_makePalette_6 ok_Mo_makePalette_6
  rw [u.1, g2, q_fuel (by omega)]
  exact ⟨cb2, ng2, mg2, a1.trans (b1.trans c1), ⟨u.2, v2, a2 (b2 c2)⟩, fun t ht => a3 t (by omega) ht, fun x hx => b3 x (by omega) hx, c3⟩
