/-- the end of HEAD -/
def nsk (g : Nat → Nat) (k : Nat) : Nat → Nat → Int32
  | 0, _ => 1
  | d + 1, j => if g j = g k then 0 else nsk g k d (j + 1)
def gal (g : Nat → Nat) (ch : Nat) : Nat → Nat → Int32
  | 0, _ => 1
  | d + 1, k => if ch ≤ g k then 0 else (if nsk g k k 0 = 0 then 0 else gal g ch d (k + 1))
def sfo (g : Nat → Nat) : Nat → Nat → Int32
  | 0, _ => 0
  | d + 1, k => if nsk g k k 0 = 0 then 1 else sfo g d (k + 1)
def afn (g : Nat → Nat) (ch : Nat) : Nat → Nat → Int32
  | 0, _ => 1
  | d + 1, k => if ch ≤ g k then 0 else afn g ch d (k + 1)
theorem sfo_01 (g : Nat → Nat) : ∀ d k, sfo g d k = 0 ∨ sfo g d k = 1
  | 0, _ => Or.inl rfl
  | d + 1, k => by
    show (if nsk g k k 0 = 0 then 1 else sfo g d (k + 1)) = 0 ∨ (if nsk g k k 0 = 0 then 1 else sfo g d (k + 1)) = 1
    by_cases a : nsk g k k 0 = 0
    · rw [if_pos a]; exact Or.inr rfl
    · rw [if_neg a]; exact sfo_01 g d (k + 1)
theorem gal_eq (g : Nat → Nat) (ch : Nat) : ∀ d k, (gal g ch d k = 0) ↔ (afn g ch d k = 0 ∨ ¬ sfo g d k = 0)
  | 0, _ => by
    show ((1 : Int32) = 0) ↔ ((1 : Int32) = 0 ∨ ¬ (0 : Int32) = 0)
    decide
  | d + 1, k => by
    have ih := gal_eq g ch d (k + 1)
    show ((if ch ≤ g k then 0 else (if nsk g k k 0 = 0 then 0 else gal g ch d (k + 1))) = 0) ↔ ((if ch ≤ g k then 0 else afn g ch d (k + 1)) = 0 ∨ ¬ (if nsk g k k 0 = 0 then 1 else sfo g d (k + 1)) = 0)
    by_cases a : ch ≤ g k
    · rw [if_pos a, if_pos a]
      exact ⟨fun _ => Or.inl rfl, fun _ => rfl⟩
    · rw [if_neg a, if_neg a]
      by_cases b : nsk g k k 0 = 0
      · rw [if_pos b, if_pos b]
        exact ⟨fun _ => Or.inr (by decide), fun _ => rfl⟩
      · rw [if_neg b, if_neg b]; exact ih
theorem b_124 {sz nr : Nat} {fw gf : Nat → Int32} {B : Nat → Nat} (hB : HB sz nr fw gf B) {hA k : Nat} (hk : k < 16) (hh : hA + 2 + 6 * (k + 1) ≤ sz) (kk : Int32 → Int32 → Int32) (okk : Int32 → Int32 → Prop) : ∀ (d j : Nat) (v : Int32), j + d = k → (v = 0 ∨ v = 1) →
    lp_Mo_behindHead_124 (nI hA) gf kk (nI k) (nI (UB B (hA + 2 + 6 * k) 2)) (d + 1) (nI j) v = kk (nI (k + 1)) (if v = 0 then 0 else nsk (fun i => UB B (hA + 2 + 6 * i) 2) k d j) ∧ (okk (nI (k + 1)) (if v = 0 then 0 else nsk (fun i => UB B (hA + 2 + 6 * i) 2) k d j) → olp_Mo_behindHead_124 (nI hA) gf okk (nI k) (nI (UB B (hA + 2 + 6 * k) 2)) (d + 1) (nI j) v)
  | 0, j, v, h, hv => by
    have h1 := hB.1
    have h2 := hB.2.1
    have kx : nI k ≤ nI j := by rw [q_le (by omega) (by omega)]; omega
    have e : (if v = 0 then (0 : Int32) else 1) = v := by rcases hv with rfl | rfl <;> rfl
    show lb_Mo_behindHead_124 (nI hA) gf kk (nI k) (nI (UB B (hA + 2 + 6 * k) 2)) (lp_Mo_behindHead_124 (nI hA) gf kk (nI k) (nI (UB B (hA + 2 + 6 * k) 2)) 0) (nI j) v = kk (nI (k + 1)) (if v = 0 then 0 else 1) ∧ (okk (nI (k + 1)) (if v = 0 then 0 else 1) → olb_Mo_behindHead_124 (nI hA) gf okk (nI k) (nI (UB B (hA + 2 + 6 * k) 2)) (olp_Mo_behindHead_124 (nI hA) gf okk (nI k) (nI (UB B (hA + 2 + 6 * k) 2)) 0) (nI j) v)
    unfold lb_Mo_behindHead_124 olb_Mo_behindHead_124
    rw [if_pos kx, if_pos kx, e, ← nI_succ]
    exact ⟨rfl, id⟩
  | d + 1, j, v, h, hv => by
    have h1 := hB.1
    have h2 := hB.2.1
    have kx : ¬ nI k ≤ nI j := by rw [q_le (by omega) (by omega)]; omega
    have e0 : nI hA + 2 + 6 * nI j = nI (hA + 2 + 6 * j) := by rw [q_p2, show (6 : Int32) = nI 6 from rfl, q_mul, q_add]
    have u := s_u2 hB (p := hA + 2 + 6 * j) (by omega)
    have l1 := UB_2lt hB.2.2.1 (hA + 2 + 6 * j)
    have l2 := UB_2lt hB.2.2.1 (hA + 2 + 6 * k)
    have ce : (nI (UB B (hA + 2 + 6 * j) 2) = nI (UB B (hA + 2 + 6 * k) 2)) = (UB B (hA + 2 + 6 * j) 2 = UB B (hA + 2 + 6 * k) 2) := q_eq (by omega) (by omega)
    have i0 := b_124 hB hk hh kk okk d (j + 1) 0 (by omega) (Or.inl rfl)
    have i1 := b_124 hB hk hh kk okk d (j + 1) 1 (by omega) (Or.inr rfl)
    have z0 : (0 : Int32) = 0 := rfl
    have z1 : ¬ (1 : Int32) = 0 := by decide
    rw [if_pos z0] at i0
    rw [if_neg z1] at i1
    show lb_Mo_behindHead_124 (nI hA) gf kk (nI k) (nI (UB B (hA + 2 + 6 * k) 2)) (lp_Mo_behindHead_124 (nI hA) gf kk (nI k) (nI (UB B (hA + 2 + 6 * k) 2)) (d + 1)) (nI j) v = kk (nI (k + 1)) (if v = 0 then 0 else if UB B (hA + 2 + 6 * j) 2 = UB B (hA + 2 + 6 * k) 2 then 0 else nsk (fun i => UB B (hA + 2 + 6 * i) 2) k d (j + 1)) ∧ (okk (nI (k + 1)) (if v = 0 then 0 else if UB B (hA + 2 + 6 * j) 2 = UB B (hA + 2 + 6 * k) 2 then 0 else nsk (fun i => UB B (hA + 2 + 6 * i) 2) k d (j + 1)) → olb_Mo_behindHead_124 (nI hA) gf okk (nI k) (nI (UB B (hA + 2 + 6 * k) 2)) (olp_Mo_behindHead_124 (nI hA) gf okk (nI k) (nI (UB B (hA + 2 + 6 * k) 2)) (d + 1)) (nI j) v)
    unfold lb_Mo_behindHead_124 olb_Mo_behindHead_124 k_Mo_behindHead_147 ok_Mo_behindHead_147 j_Mo_behindHead_159 oj_Mo_behindHead_159
    rw [if_neg kx, if_neg kx, e0, u.1, ← nI_succ]
    simp only [ce]
    rcases hv with rfl | rfl
    · rw [if_pos z0, if_pos z0, if_pos z0]; exact i0
    · rw [if_neg z1, if_neg z1, if_neg z1]
      by_cases a : UB B (hA + 2 + 6 * j) 2 = UB B (hA + 2 + 6 * k) 2
      · rw [if_pos a, if_pos a, if_pos a]
        exact ⟨i0.1, fun w => ⟨u.2, i0.2 w⟩⟩
      · rw [if_neg a, if_neg a, if_neg a]
        exact ⟨i1.1, fun w => ⟨u.2, i1.2 w⟩⟩
theorem nsk_01 (g : Nat → Nat) (k : Nat) : ∀ d j, nsk g k d j = 0 ∨ nsk g k d j = 1
  | 0, _ => Or.inr rfl
  | d + 1, j => by
    show (if g j = g k then 0 else nsk g k d (j + 1)) = 0 ∨ (if g j = g k then 0 else nsk g k d (j + 1)) = 1
    by_cases a : g j = g k
    · rw [if_pos a]; exact Or.inl rfl
    · rw [if_neg a]; exact nsk_01 g k d (j + 1)
theorem b_80 {sz nr : Nat} {fw gf : Nat → Int32} {B : Nat → Nat} (hB : HB sz nr fw gf B) {zI mI mE : Int32} {hA n ch : Nat} (hn : n ≤ 16) (hh : n ≠ 0 → hA + 2 + 6 * n ≤ sz) (hch : ch ≤ 65536) (hc : m_Mo_channelsThere zI mI mE gf = nI ch ∧ om_Mo_channelsThere zI mI gf) : ∀ (d k : Nat) (v : Int32), k + d = n → (v = 0 ∨ v = 1) →
    lp_Mo_behindHead_80 zI mI mE (nI hA) gf (nI n) (d + 1) (nI k) v = (if (if v = 0 then 0 else gal (fun i => UB B (hA + 2 + 6 * i) 2) ch d k) = 0 then 5 else 0) ∧ olp_Mo_behindHead_80 zI mI mE (nI hA) gf (nI n) (d + 1) (nI k) v
  | 0, k, v, h, hv => by
    have kx : nI n ≤ nI k := by rw [q_le (by omega) (by omega)]; omega
    have e : (if v = 0 then (0 : Int32) else 1) = v := by rcases hv with rfl | rfl <;> rfl
    show lb_Mo_behindHead_80 zI mI mE (nI hA) gf (nI n) (lp_Mo_behindHead_80 zI mI mE (nI hA) gf (nI n) 0) (nI k) v = (if (if v = 0 then (0 : Int32) else 1) = 0 then 5 else 0) ∧ olb_Mo_behindHead_80 zI mI mE (nI hA) gf (nI n) (olp_Mo_behindHead_80 zI mI mE (nI hA) gf (nI n) 0) (nI k) v
    unfold lb_Mo_behindHead_80 olb_Mo_behindHead_80
    rw [if_pos kx, if_pos kx, e]
    exact ⟨rfl, by split <;> trivial⟩
  | d + 1, k, v, h, hv => by
    have h1 := hB.1
    have h2 := hB.2.1
    have hs := hh (by omega)
    have kx : ¬ nI n ≤ nI k := by rw [q_le (by omega) (by omega)]; omega
    have e0 : nI hA + 2 + 6 * nI k = nI (hA + 2 + 6 * k) := by rw [q_p2, show (6 : Int32) = nI 6 from rfl, q_mul, q_add]
    have u := s_u2 hB (p := hA + 2 + 6 * k) (by omega)
    have l := UB_2lt hB.2.2.1 (hA + 2 + 6 * k)
    have cl : (nI ch ≤ nI (UB B (hA + 2 + 6 * k) 2)) = (ch ≤ UB B (hA + 2 + 6 * k) 2) := q_le (by omega) (by omega)
    have i0 := b_80 hB (zI := zI) (mI := mI) (mE := mE) hn hh hch hc d (k + 1) 0 (by omega) (Or.inl rfl)
    have i1 := b_80 hB (zI := zI) (mI := mI) (mE := mE) hn hh hch hc d (k + 1) 1 (by omega) (Or.inr rfl)
    have z0 : (0 : Int32) = 0 := rfl
    have z1 : ¬ (1 : Int32) = 0 := by decide
    have t0 := b_124 hB (hA := hA) (k := k) (by omega) (by omega) (lp_Mo_behindHead_80 zI mI mE (nI hA) gf (nI n) (d + 1)) (olp_Mo_behindHead_80 zI mI mE (nI hA) gf (nI n) (d + 1)) k 0 0 (by omega) (Or.inl rfl)
    have t1 := b_124 hB (hA := hA) (k := k) (by omega) (by omega) (lp_Mo_behindHead_80 zI mI mE (nI hA) gf (nI n) (d + 1)) (olp_Mo_behindHead_80 zI mI mE (nI hA) gf (nI n) (d + 1)) k 0 1 (by omega) (Or.inr rfl)
    rw [if_pos z0] at t0 i0
    rw [if_neg z1] at t1 i1
    rw [if_pos z0] at i0
    have f0 : lp_Mo_behindHead_124 (nI hA) gf (lp_Mo_behindHead_80 zI mI mE (nI hA) gf (nI n) (d + 1)) (nI k) (nI (UB B (hA + 2 + 6 * k) 2)) (k + 1) 0 0 = 5 ∧ olp_Mo_behindHead_124 (nI hA) gf (olp_Mo_behindHead_80 zI mI mE (nI hA) gf (nI n) (d + 1)) (nI k) (nI (UB B (hA + 2 + 6 * k) 2)) (k + 1) 0 0 := ⟨t0.1.trans i0.1, t0.2 i0.2⟩
    show lb_Mo_behindHead_80 zI mI mE (nI hA) gf (nI n) (lp_Mo_behindHead_80 zI mI mE (nI hA) gf (nI n) (d + 1)) (nI k) v = (if (if v = 0 then 0 else if ch ≤ UB B (hA + 2 + 6 * k) 2 then 0 else (if nsk (fun i => UB B (hA + 2 + 6 * i) 2) k k 0 = 0 then 0 else gal (fun i => UB B (hA + 2 + 6 * i) 2) ch d (k + 1))) = 0 then 5 else 0) ∧ olb_Mo_behindHead_80 zI mI mE (nI hA) gf (nI n) (olp_Mo_behindHead_80 zI mI mE (nI hA) gf (nI n) (d + 1)) (nI k) v
    unfold lb_Mo_behindHead_80 olb_Mo_behindHead_80 k_Mo_behindHead_97 ok_Mo_behindHead_97 k_Mo_behindHead_109 ok_Mo_behindHead_109 j_Mo_behindHead_119 oj_Mo_behindHead_119 j_Mo_behindHead_120 oj_Mo_behindHead_120
    rw [if_neg kx, if_neg kx, e0, u.1, hc.1, q_fuel (by omega)]
    simp only [cl]
    rcases hv with rfl | rfl
    · rw [if_pos z0, if_pos z0, if_pos z0, if_pos z0]
      exact ⟨f0.1, u.2, f0.2⟩
    · rw [if_neg z1, if_neg z1, if_neg z1]
      by_cases a : ch ≤ UB B (hA + 2 + 6 * k) 2
      · rw [if_pos a, if_pos a, if_pos a, if_pos z0]
        exact ⟨f0.1, u.2, hc.2, f0.2⟩
      · rw [if_neg a, if_neg a, if_neg a]
        rcases nsk_01 (fun i => UB B (hA + 2 + 6 * i) 2) k k 0 with b | b
        · rw [b] at t1
          rw [if_pos b, if_pos z0]
          exact ⟨t1.1.trans i0.1, u.2, hc.2, t1.2 i0.2⟩
        · rw [b] at t1
          rw [if_neg (show ¬ nsk (fun i => UB B (hA + 2 + 6 * i) 2) k k 0 = 0 by rw [b]; exact z1)]
          exact ⟨t1.1.trans i1.1, u.2, hc.2, t1.2 i1.2⟩
/-- the class's lines -/
theorem b_afn {B : Nat → Nat} (h : ∀ k, B k < 256) {hA n ch : Nat} (hch : ch ≤ 65536) {lf : Nat → Int32} (hl : LnC B (hA + 2) n 0 lf) : ∀ d k, k + d = n → afb lf (nI ch) d k = afn (fun i => UB B (hA + 2 + 6 * i) 2) ch d k
  | 0, _, _ => rfl
  | d + 1, k, hk => by
    have ih := b_afn h hch hl d (k + 1) (by omega)
    have e := (hl k (by omega)).1
    rw [Nat.zero_add] at e
    have l := UB_2lt h (hA + 2 + 6 * k)
    show (if lf (3 * k) < nI ch then afb lf (nI ch) d (k + 1) else 0) = (if ch ≤ UB B (hA + 2 + 6 * k) 2 then 0 else afn (fun i => UB B (hA + 2 + 6 * i) 2) ch d (k + 1))
    rw [e, ih]
    have cl : (nI (UB B (hA + 2 + 6 * k) 2) < nI ch) = (UB B (hA + 2 + 6 * k) 2 < ch) := q_lt (by omega) (by omega)
    simp only [cl]
    by_cases a : ch ≤ UB B (hA + 2 + 6 * k) 2
    · rw [if_pos a, if_neg (by omega)]
    · rw [if_neg a, if_pos (by omega)]
theorem b_12 {B : Nat → Nat} (h : ∀ k, B k < 256) {hA n k : Nat} (hk : k < n) (hn : n ≤ 16) {lf : Nat → Int32} (hl : LnC B (hA + 2) n 0 lf) (kk : Int32 → Int32) : ∀ (d j : Nat), j + d = k → lp_Li_someFirstTwice_12 48 lf kk (nI k) (d + 1) (nI j) = if nsk (fun i => UB B (hA + 2 + 6 * i) 2) k d j = 0 then 1 else kk (nI (k + 1))
  | 0, j, hj => by
    have kx : nI k ≤ nI j := by rw [q_le (by omega) (by omega)]; omega
    show lb_Li_someFirstTwice_12 48 lf kk (nI k) (lp_Li_someFirstTwice_12 48 lf kk (nI k) 0) (nI j) = if (1 : Int32) = 0 then 1 else kk (nI (k + 1))
    unfold lb_Li_someFirstTwice_12
    rw [if_pos kx, if_neg (by decide), ← nI_succ]
  | d + 1, j, hj => by
    have kx : ¬ nI k ≤ nI j := by rw [q_le (by omega) (by omega)]; omega
    have ih := b_12 h hk hn hl kk d (j + 1) (by omega)
    have p1 : m_Li_part 48 lf (nI k) 0 = lf (3 * k) := q_part (w := 0) (by omega) lf
    have p2 : m_Li_part 48 lf (nI j) 0 = lf (3 * j) := q_part (w := 0) (by omega) lf
    have e1 := (hl k (by omega)).1
    have e2 := (hl j (by omega)).1
    rw [Nat.zero_add] at e1 e2
    have l1 := UB_2lt h (hA + 2 + 6 * k)
    have l2 := UB_2lt h (hA + 2 + 6 * j)
    show lb_Li_someFirstTwice_12 48 lf kk (nI k) (lp_Li_someFirstTwice_12 48 lf kk (nI k) (d + 1)) (nI j) = if (if UB B (hA + 2 + 6 * j) 2 = UB B (hA + 2 + 6 * k) 2 then 0 else nsk (fun i => UB B (hA + 2 + 6 * i) 2) k d (j + 1)) = 0 then 1 else kk (nI (k + 1))
    unfold lb_Li_someFirstTwice_12 k_Li_someFirstTwice_20 k_Li_someFirstTwice_26
    have ce : (nI (UB B (hA + 2 + 6 * k) 2) = nI (UB B (hA + 2 + 6 * j) 2)) = (UB B (hA + 2 + 6 * k) 2 = UB B (hA + 2 + 6 * j) 2) := q_eq (by omega) (by omega)
    rw [if_neg kx, p1, p2, e1, e2, ← nI_succ, ih]
    simp only [ce]
    by_cases a : UB B (hA + 2 + 6 * j) 2 = UB B (hA + 2 + 6 * k) 2
    · rw [if_pos a, if_pos a.symm, if_pos rfl]
    · rw [if_neg a, if_neg (fun q => a q.symm)]
theorem b_2 {B : Nat → Nat} (h : ∀ k, B k < 256) {hA n : Nat} (hn : n ≤ 16) {lf : Nat → Int32} (hl : LnC B (hA + 2) n 0 lf) : ∀ (d k : Nat), k + d = n → lp_Li_someFirstTwice_2 (nI n) 48 lf (d + 1) (nI k) = sfo (fun i => UB B (hA + 2 + 6 * i) 2) d k
  | 0, k, hk => by
    have kx : nI n ≤ nI k := by rw [q_le (by omega) (by omega)]; omega
    show lb_Li_someFirstTwice_2 (nI n) 48 lf (lp_Li_someFirstTwice_2 (nI n) 48 lf 0) (nI k) = 0
    unfold lb_Li_someFirstTwice_2
    rw [if_pos kx]
  | d + 1, k, hk => by
    have kx : ¬ nI n ≤ nI k := by rw [q_le (by omega) (by omega)]; omega
    have ih := b_2 h hn hl d (k + 1) (by omega)
    have t := b_12 h (hA := hA) (n := n) (k := k) (by omega) hn hl (lp_Li_someFirstTwice_2 (nI n) 48 lf (d + 1)) k 0 (by omega)
    show lb_Li_someFirstTwice_2 (nI n) 48 lf (lp_Li_someFirstTwice_2 (nI n) 48 lf (d + 1)) (nI k) = (if nsk (fun i => UB B (hA + 2 + 6 * i) 2) k k 0 = 0 then 1 else sfo (fun i => UB B (hA + 2 + 6 * i) 2) d (k + 1))
    unfold lb_Li_someFirstTwice_2
    rw [if_neg kx, q_fuel (by omega), ← ih]
    exact t
theorem b_eoh {sz nr : Nat} {fw gf : Nat → Int32} {B : Nat → Nat} (hB : HB sz nr fw gf B) {n ch hA : Nat} {co ma : Int32} {lf : Nat → Int32} (hn : n ≤ 16) (hch : ch ≤ 65536) (hcc : m_Pl_channelCount co ma = nI ch) (hl : LnC B (hA + 2) n 0 lf) :
    k_Sc_endOfHead_80 (nI n) 48 lf (m_Pl_channelCount co ma) = if gal (fun i => UB B (hA + 2 + 6 * i) 2) ch n 0 = 0 then 5 else 0 := by
  have s : m_Li_someFirstTwice (nI n) 48 lf = sfo (fun i => UB B (hA + 2 + 6 * i) 2) n 0 := by
    unfold m_Li_someFirstTwice
    rw [q_fuel (by omega)]
    exact b_2 hB.2.2.1 hn hl n 0 (by omega)
  have g := gal_eq (fun i => UB B (hA + 2 + 6 * i) 2) ch n 0
  unfold k_Sc_endOfHead_80 k_Sc_endOfHead_83 k_Sc_endOfHead_98
  rw [hcc, w_afb0 hn, b_afn hB.2.2.1 hch hl n 0 (by omega), s]
  by_cases a : afn (fun i => UB B (hA + 2 + 6 * i) 2) ch n 0 = 0
  · rw [if_pos a, if_pos (g.2 (Or.inl a))]
  · rw [if_neg a]
    by_cases b : sfo (fun i => UB B (hA + 2 + 6 * i) 2) n 0 = 0
    · rw [if_pos b, if_neg (fun q => (g.1 q).elim a (fun w => w b))]
    · rw [if_neg b, if_pos (g.2 (Or.inr b))]
