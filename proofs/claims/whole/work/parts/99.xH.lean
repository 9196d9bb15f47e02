/-- PALETTE -/
def bwd (B : Nat → Nat) (p : Nat) : Nat := B p % 128 / 8 + 1
def sbw (B : Nat → Nat) : Nat → Nat → Nat
  | 0, _ => 0
  | d + 1, p => bwd B p + sbw B d (p + 1)
theorem sbw_le (B : Nat → Nat) : ∀ d p, sbw B d p ≤ 16 * d
  | 0, _ => Nat.le_refl _
  | d + 1, p => by
    have h := sbw_le B d (p + 1)
    show bwd B p + sbw B d (p + 1) ≤ _
    unfold bwd
    omega
theorem sbw_1 (B : Nat → Nat) : ∀ d p, sbw B (d + 1) p = sbw B d p + bwd B (p + d)
  | 0, p => by
    show bwd B p + 0 = 0 + bwd B (p + 0)
    rw [Nat.add_zero, Nat.add_zero, Nat.zero_add]
  | d + 1, p => by
    have h := sbw_1 B d (p + 1)
    show bwd B p + sbw B (d + 1) (p + 1) = (bwd B p + sbw B d (p + 1)) + bwd B (p + (d + 1))
    rw [h, show p + (d + 1) = p + 1 + d by omega]
    omega
theorem sbw_mono (B : Nat → Nat) (q : Nat) {a b : Nat} (h : a ≤ b) : sbw B a q ≤ sbw B b q := by
  induction b with
  | zero => rw [show a = 0 by omega]; exact Nat.le_refl _
  | succ b ih =>
    by_cases x : a = b + 1
    · rw [x]; exact Nat.le_refl _
    · have h2 := ih (by omega)
      have h3 := sbw_1 B b q
      omega
theorem q_bw {B : Nat → Nat} (h : ∀ k, B k < 256) (p : Nat) : m_FB_bytesFor (nI (B p)) = nI (bwd B p) ∧ m_Mo_bytesOf (nI (B p)) = nI (bwd B p) := by
  have t := q_bf ⟨B p, h p⟩
  exact ⟨t.1, t.2.1⟩
theorem x_p54 {sz nr : Nat} {fw gf : Nat → Int32} {B : Nat → Nat} (hB : HB sz nr fw gf B) {f e en c : Nat} (hfe : f ≤ e) (he : e ≤ sz) (hc : c ≤ 255) (hce : f + 3 + c ≤ e) (hen : en ≤ 65535) : ∀ (d j acc : Nat), j + d = c → acc ≤ 16 * j →
    lp_Sc_paletteHasItsLength_54 (nI f) (nI e) (nI sz) nr fw (nI en) (nI c) (d + 1) (nI j) (nI acc) = if e - f = 3 + c + en * (acc + sbw B d (f + 3 + j)) then 1 else 0
  | 0, j, acc, h, ha => by
    have h1 := hB.1
    have h2 := hB.2.1
    have k : nI c ≤ nI j := by rw [q_le (by omega) (by omega)]; omega
    have hm : en * acc ≤ 65535 * 4080 := Nat.mul_le_mul hen (by omega)
    have cE : (nI (e - f) = (3 + nI c) + (nI en * nI acc)) = (e - f = 3 + c + en * acc) := by
      rw [show (3 : Int32) = nI 3 from rfl, q_add, q_mul, q_add, q_eq (by omega) (by omega)]
    show lb_Sc_paletteHasItsLength_54 (nI f) (nI e) (nI sz) nr fw (nI en) (nI c) (lp_Sc_paletteHasItsLength_54 (nI f) (nI e) (nI sz) nr fw (nI en) (nI c) 0) (nI j) (nI acc) = if e - f = 3 + c + en * (acc + 0) then 1 else 0
    unfold lb_Sc_paletteHasItsLength_54 k_Sc_paletteHasItsLength_89 m_Sc_content
    rw [if_pos k, q_sub hfe, Nat.add_zero]
    simp only [cE]
  | d + 1, j, acc, h, ha => by
    have h1 := hB.1
    have h2 := hB.2.1
    have k : ¬ nI c ≤ nI j := by rw [q_le (by omega) (by omega)]; omega
    have bw := (q_bw hB.2.2.1 (f + 3 + j)).1
    have b16 : bwd B (f + 3 + j) ≤ 16 := by unfold bwd; omega
    have ih := x_p54 hB hfe he hc hce hen d (j + 1) (acc + bwd B (f + 3 + j)) (by omega) (by omega)
    show lb_Sc_paletteHasItsLength_54 (nI f) (nI e) (nI sz) nr fw (nI en) (nI c) (lp_Sc_paletteHasItsLength_54 (nI f) (nI e) (nI sz) nr fw (nI en) (nI c) (d + 1)) (nI j) (nI acc) = if e - f = 3 + c + en * (acc + (bwd B (f + 3 + j) + sbw B d (f + 3 + j + 1))) then 1 else 0
    unfold lb_Sc_paletteHasItsLength_54 k_Sc_paletteHasItsLength_74 k_Sc_paletteHasItsLength_77
    rw [if_neg k, show (3 : Int32) = nI 3 from rfl, q_add, q_add, s_byte hB (by omega), bw, q_add, ← nI_succ, ih, Nat.add_assoc acc, show f + 3 + (j + 1) = f + 3 + j + 1 by omega]
theorem x_p39 {sz nr : Nat} {fw gf : Nat → Int32} {B : Nat → Nat} (hB : HB sz nr fw gf B) {f e c : Nat} (hfe : f ≤ e) (he : e ≤ sz) (hcB : c = B (f + 2)) (hce : f + 3 + c ≤ e) : ∀ (d j acc : Nat), j + d = c → acc ≤ 16 * j →
    lp_Mo_fitsPalette_39 (nI f) (nI e) gf (d + 1) (nI j) (Int64.ofNat acc) = (if e - f = 3 + c + UB B f 2 * (acc + sbw B d (f + 3 + j)) then 1 else 0) ∧ olp_Mo_fitsPalette_39 (nI f) (nI e) gf (d + 1) (nI j) (Int64.ofNat acc)
  | 0, j, acc, h, ha => by
    have h1 := hB.1
    have h2 := hB.2.1
    have t := hB.2.2.1 (f + 2)
    have k : nI c ≤ nI j := by rw [q_le (by omega) (by omega)]; omega
    have g2 : gf (nI f + 2).toNatClampNeg = nI c := by rw [q_p2, q_cl (by omega), hcB]; exact (hB.2.2.2 _ (by omega)).2
    have v2 : vp_in (nI f + 2) 65536 := by rw [q_p2, q_in (by omega)]; omega
    have u := s_u2 hB (p := f) (by omega)
    have l := UB_2lt hB.2.2.1 f
    have hm : acc * UB B f 2 ≤ 4080 * 65535 := Nat.mul_le_mul (by omega) (by omega)
    have cE : (lg_cmp ((nI (e - f)).toInt64) (((3 + nI c : Int32).toInt64) + (Int64.ofNat acc * (nI (UB B f 2)).toInt64)) = 0) = (e - f = 3 + c + UB B f 2 * acc) := by
      rw [show (3 : Int32) = nI 3 from rfl, q_add, q_64 (by omega), q_64 (by omega), q_64 (by omega), ← Int64.ofNat_mul, ← Int64.ofNat_add, q_ze (by omega) (by omega), Nat.mul_comm acc]
    show lb_Mo_fitsPalette_39 (nI f) (nI e) gf (lp_Mo_fitsPalette_39 (nI f) (nI e) gf 0) (nI j) (Int64.ofNat acc) = (if e - f = 3 + c + UB B f 2 * (acc + 0) then 1 else 0) ∧ olb_Mo_fitsPalette_39 (nI f) (nI e) gf (olp_Mo_fitsPalette_39 (nI f) (nI e) gf 0) (nI j) (Int64.ofNat acc)
    unfold lb_Mo_fitsPalette_39 olb_Mo_fitsPalette_39 k_Mo_fitsPalette_104 ok_Mo_fitsPalette_104
    rw [g2, if_pos k, if_pos k, u.1, q_sub hfe, Nat.add_zero]
    simp only [cE, ite_self]
    exact ⟨trivial, v2, v2, u.2, trivial⟩
  | d + 1, j, acc, h, ha => by
    have h1 := hB.1
    have h2 := hB.2.1
    have t := hB.2.2.1 (f + 2)
    have k : ¬ nI c ≤ nI j := by rw [q_le (by omega) (by omega)]; omega
    have g2 : gf (nI f + 2).toNatClampNeg = nI c := by rw [q_p2, q_cl (by omega), hcB]; exact (hB.2.2.2 _ (by omega)).2
    have v2 : vp_in (nI f + 2) 65536 := by rw [q_p2, q_in (by omega)]; omega
    have e3 : nI f + 3 + nI j = nI (f + 3 + j) := by rw [show (3 : Int32) = nI 3 from rfl, q_add, q_add]
    have v3 : vp_in (nI (f + 3 + j)) 65536 := by rw [q_in (by omega)]; omega
    have bw := (q_bw hB.2.2.1 (f + 3 + j)).2
    have b16 : bwd B (f + 3 + j) ≤ 16 := by unfold bwd; omega
    have ih := x_p39 hB hfe he hcB hce d (j + 1) (acc + bwd B (f + 3 + j)) (by omega) (by omega)
    show lb_Mo_fitsPalette_39 (nI f) (nI e) gf (lp_Mo_fitsPalette_39 (nI f) (nI e) gf (d + 1)) (nI j) (Int64.ofNat acc) = (if e - f = 3 + c + UB B f 2 * (acc + (bwd B (f + 3 + j) + sbw B d (f + 3 + j + 1))) then 1 else 0) ∧ olb_Mo_fitsPalette_39 (nI f) (nI e) gf (olp_Mo_fitsPalette_39 (nI f) (nI e) gf (d + 1)) (nI j) (Int64.ofNat acc)
    unfold lb_Mo_fitsPalette_39 olb_Mo_fitsPalette_39 k_Mo_fitsPalette_70 ok_Mo_fitsPalette_70 om_Mo_bytesOf
    rw [g2, if_neg k, if_neg k, e3, q_cl (by omega), (hB.2.2.2 (f + 3 + j) (by omega)).2, bw, q_64 (by omega), ← Int64.ofNat_add, ← nI_succ, ih.1, Nat.add_assoc acc, show f + 3 + (j + 1) = f + 3 + j + 1 by omega]
    exact ⟨rfl, v2, v3, trivial, ih.2⟩
theorem x_p41 {sz nr : Nat} {fw gf : Nat → Int32} {B : Nat → Nat} (hB : HB sz nr fw gf B) {f c : Nat} (hcB : c = B (f + 2)) (hce : f + 3 + c ≤ sz) : ∀ (d j : Nat) (v : Int32), j + d = c → (v = 0 ∨ v = 1) →
    lp_Mo_areColumns_41 (nI f) gf (d + 1) (nI j) v = (if v = 0 then 0 else abt B d (f + 3 + j)) ∧ olp_Mo_areColumns_41 (nI f) gf (d + 1) (nI j) v
  | 0, j, v, h, hv => by
    have h1 := hB.1
    have h2 := hB.2.1
    have t := hB.2.2.1 (f + 2)
    have k : nI c ≤ nI j := by rw [q_le (by omega) (by omega)]; omega
    have g2 : gf (nI f + 2).toNatClampNeg = nI c := by rw [q_p2, q_cl (by omega), hcB]; exact (hB.2.2.2 _ (by omega)).2
    have v2 : vp_in (nI f + 2) 65536 := by rw [q_p2, q_in (by omega)]; omega
    have n := n_b1 hv
    show lb_Mo_areColumns_41 (nI f) gf (lp_Mo_areColumns_41 (nI f) gf 0) (nI j) v = (if v = 0 then 0 else 1) ∧ olb_Mo_areColumns_41 (nI f) gf (olp_Mo_areColumns_41 (nI f) gf 0) (nI j) v
    unfold lb_Mo_areColumns_41 olb_Mo_areColumns_41
    rw [g2, if_pos k, if_pos k]
    refine ⟨?_, v2, n, trivial⟩
    rcases hv with rfl | rfl <;> rfl
  | d + 1, j, v, h, hv => by
    have h1 := hB.1
    have h2 := hB.2.1
    have t := hB.2.2.1 (f + 2)
    have k : ¬ nI c ≤ nI j := by rw [q_le (by omega) (by omega)]; omega
    have g2 : gf (nI f + 2).toNatClampNeg = nI c := by rw [q_p2, q_cl (by omega), hcB]; exact (hB.2.2.2 _ (by omega)).2
    have v2 : vp_in (nI f + 2) 65536 := by rw [q_p2, q_in (by omega)]; omega
    have e3 : nI f + 3 + nI j = nI (f + 3 + j) := by rw [show (3 : Int32) = nI 3 from rfl, q_add, q_add]
    have v3 : vp_in (nI (f + 3 + j)) 65536 := by rw [q_in (by omega)]; omega
    have ab := q_bits256 ⟨B (f + 3 + j), hB.2.2.1 (f + 3 + j)⟩
    have i0 := x_p41 hB hcB hce d (j + 1) 0 (by omega) (Or.inl rfl)
    have i1 := x_p41 hB hcB hce d (j + 1) 1 (by omega) (Or.inr rfl)
    have z0 : (0 : Int32) = 0 := rfl
    have z1 : ¬ (1 : Int32) = 0 := by decide
    rw [if_pos z0] at i0
    rw [if_neg z1, show f + 3 + (j + 1) = f + 3 + j + 1 by omega] at i1
    show lb_Mo_areColumns_41 (nI f) gf (lp_Mo_areColumns_41 (nI f) gf (d + 1)) (nI j) v = (if v = 0 then 0 else if B (f + 3 + j) % 128 ≤ 37 then abt B d (f + 3 + j + 1) else 0) ∧ olb_Mo_areColumns_41 (nI f) gf (olp_Mo_areColumns_41 (nI f) gf (d + 1)) (nI j) v
    unfold lb_Mo_areColumns_41 olb_Mo_areColumns_41 k_Mo_areColumns_73 ok_Mo_areColumns_73 j_Mo_areColumns_83 oj_Mo_areColumns_83
    rw [g2, if_neg k, if_neg k, e3, q_cl (by omega), (hB.2.2.2 (f + 3 + j) (by omega)).2, ab.2, ← nI_succ]
    rcases hv with rfl | rfl
    · rw [if_pos z0, if_pos z0, if_pos z0]; exact ⟨i0.1, v2, i0.2⟩
    · rw [if_neg z1, if_neg z1, if_neg z1]
      by_cases a : B (f + 3 + j) % 128 ≤ 37
      · rw [if_pos a, if_neg z1, if_neg z1, if_pos a]
        simp only [q_oab, true_and]
        exact ⟨i1.1, v2, v3, i1.2⟩
      · rw [if_neg a, if_pos z0, if_pos z0, if_neg a]
        simp only [q_oab, true_and]
        exact ⟨i0.1, v2, v3, i0.2⟩
/-- the numbers -/
def numV (B : Nat → Nat) (q p t : Nat) : Int64 := m_FB_lowestBits (Int64.ofNat (UB B (p + sbw B t q) (bwd B (q + t)))) (nI (B (q + t)))
theorem x_n33 {sz nr : Nat} {fw gf : Nat → Int32} {B : Nat → Nat} (hB : HB sz nr fw gf B) {q c nn en i p : Nat} {pb : Nat → Int32} (hc : c ≤ 8) (hpb : ∀ k, k < c → pb k = nI (B (q + k))) (hvb : ∀ k, k < c → B (q + k) % 128 ≤ 37) (hi : i < en) (hn : en * c ≤ nn) (hn2 : nn ≤ 4096) (hp : p + sbw B c q ≤ sz) (kk : Int32 → Int32 → (Nat → Int64) → Nat → Int64) : ∀ (d j : Nat) (nf : Nat → Int64), j + d = c →
    ∃ nf2, lp_Sc_readNumbers_33 (nI c) 8 pb (nI sz) nr fw nn kk (nI i) (d + 1) (nI j) (nI (p + sbw B j q)) nf = kk (nI i + 1) (nI (p + sbw B c q)) nf2 ∧ (∀ x, x < i * c + j → nf2 x = nf x) ∧ (∀ t, j ≤ t → t < c → nf2 (i * c + t) = numV B q p t)
  | 0, j, nf, h => by
    have k : nI c ≤ nI j := by rw [q_le (by omega) (by omega)]; omega
    refine ⟨nf, ?_, fun x hx => rfl, fun t h1 h2 => by omega⟩
    show lb_Sc_readNumbers_33 (nI c) 8 pb (nI sz) nr fw nn kk (nI i) (lp_Sc_readNumbers_33 (nI c) 8 pb (nI sz) nr fw nn kk (nI i) 0) (nI j) (nI (p + sbw B j q)) nf = _
    unfold lb_Sc_readNumbers_33
    rw [if_pos k, show j = c by omega]
  | d + 1, j, nf, h => by
    have h1 := hB.1
    have h2 := hB.2.1
    have k : ¬ nI c ≤ nI j := by rw [q_le (by omega) (by omega)]; omega
    have bw := (q_bw hB.2.2.1 (q + j)).1
    have s1 := sbw_1 B j q
    have hv := hvb j (by omega)
    have b5 : bwd B (q + j) ≤ 5 := by unfold bwd; omega
    have mono : sbw B (j + 1) q ≤ sbw B c q := sbw_mono B q (by omega)
    have ix := q_ix hi (show j < c by omega)
    obtain ⟨nf2, i1, i2, i3⟩ := x_n33 hB hc hpb hvb hi hn hn2 hp kk d (j + 1) (vp_updL nf (i * c + j) (numV B q p j)) (by omega)
    refine ⟨nf2, ?_, fun x hx => ?_, fun t t1 t2 => ?_⟩
    · rw [← i1]
      show lb_Sc_readNumbers_33 (nI c) 8 pb (nI sz) nr fw nn kk (nI i) (lp_Sc_readNumbers_33 (nI c) 8 pb (nI sz) nr fw nn kk (nI i) (d + 1)) (nI j) (nI (p + sbw B j q)) nf = _
      unfold lb_Sc_readNumbers_33 k_Sc_readNumbers_48 k_Sc_readNumbers_55 k_Sc_readNumbers_71 k_Sc_readNumbers_76 k_Sc_readNumbers_79
      rw [if_neg k, q_valIn (by decide) (by omega), hpb j (by omega), bw, s_num hB (by omega), q_setN hi (by omega) hn hn2, q_add, ← nI_succ, Nat.add_assoc, ← s1]
      rfl
    · rw [i2 x (by omega), q_upnL _ _ (by omega)]
    · by_cases z : t = j
      · rw [z, i2 (i * c + j) (by omega), q_updL]
      · exact i3 t (by omega) t2
theorem x_n22 {sz nr : Nat} {fw gf : Nat → Int32} {B : Nat → Nat} (hB : HB sz nr fw gf B) {q c nn en p : Nat} {pb : Nat → Int32} (hc : c ≤ 8) (he : en ≤ 1024) (hpb : ∀ k, k < c → pb k = nI (B (q + k))) (hvb : ∀ k, k < c → B (q + k) % 128 ≤ 37) (hn : en * c ≤ nn) (hn2 : nn ≤ 4096) (hp : p + en * sbw B c q ≤ sz) : ∀ (d i : Nat) (nf : Nat → Int64), i + d = en →
    ∃ nf2, lp_Sc_readNumbers_22 (nI en) (nI c) 8 pb (nI sz) nr fw nn (d + 1) (nI i) (nI (p + i * sbw B c q)) nf = nf2 ∧ (∀ x, x < i * c → nf2 x = nf x) ∧ (∀ i2 t, i ≤ i2 → i2 < en → t < c → nf2 (i2 * c + t) = numV B q (p + i2 * sbw B c q) t)
  | 0, i, nf, h => by
    have k : nI en ≤ nI i := by rw [q_le (by omega) (by omega)]; omega
    refine ⟨nf, ?_, fun x hx => rfl, fun i2 t h1 h2 => by omega⟩
    show lb_Sc_readNumbers_22 (nI en) (nI c) 8 pb (nI sz) nr fw nn (lp_Sc_readNumbers_22 (nI en) (nI c) 8 pb (nI sz) nr fw nn 0) (nI i) (nI (p + i * sbw B c q)) nf = _
    unfold lb_Sc_readNumbers_22
    rw [if_pos k]
  | d + 1, i, nf, h => by
    have h1 := hB.1
    have h2 := hB.2.1
    have k : ¬ nI en ≤ nI i := by rw [q_le (by omega) (by omega)]; omega
    have hm : (i + 1) * sbw B c q ≤ en * sbw B c q := Nat.mul_le_mul_right _ (by omega)
    have hm2 : (i + 1) * sbw B c q = i * sbw B c q + sbw B c q := by rw [Nat.add_mul, Nat.one_mul]
    have hm3 : (i + 1) * c = i * c + c := by rw [Nat.add_mul, Nat.one_mul]
    obtain ⟨nf1, i1, i2, i3⟩ := x_n33 hB (i := i) (p := p + i * sbw B c q) hc hpb hvb (by omega) hn hn2 (by omega) (lp_Sc_readNumbers_22 (nI en) (nI c) 8 pb (nI sz) nr fw nn (d + 1)) c 0 nf (by omega)
    obtain ⟨nf2, j1, j2, j3⟩ := x_n22 hB hc he hpb hvb hn hn2 hp d (i + 1) nf1 (by omega)
    refine ⟨nf2, ?_, fun x hx => ?_, fun i4 t t1 t2 t3 => ?_⟩
    · rw [← j1]
      show lb_Sc_readNumbers_22 (nI en) (nI c) 8 pb (nI sz) nr fw nn (lp_Sc_readNumbers_22 (nI en) (nI c) 8 pb (nI sz) nr fw nn (d + 1)) (nI i) (nI (p + i * sbw B c q)) nf = _
      unfold lb_Sc_readNumbers_22
      rw [if_neg k, q_fuel (by omega)]
      have z : p + i * sbw B c q + sbw B 0 q = p + i * sbw B c q := Nat.add_zero _
      rw [z] at i1
      rw [show (0 : Int32) = nI 0 from rfl, i1, ← nI_succ, hm2, Nat.add_assoc]
    · rw [j2 x (by omega), i2 x (by omega)]
    · by_cases z : i4 = i
      · rw [z, j2 (i * c + t) (by omega), i3 t (by omega) t3]
      · exact j3 i4 t (by omega) t2 t3
