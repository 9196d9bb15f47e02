theorem h_q {has pr : Int32} {pk : Nat} (hpk : pk ≤ 1024) (hP : (has = 0 ∧ pk = 0 ∧ pr = -1) ∨ (has = 1 ∧ pr = nI pk)) : ∃ q : Nat, ((has = 0 ∧ pr = -1 ∧ nI q = 7) ∨ (has = 1 ∧ pr = nI pk ∧ nI q = 3 + nI pk)) ∧ 8 + q = lCo has pk ∧ nI q = if 0 ≤ pr then 3 + pr else 7 := by
  rcases hP with ⟨rfl, rfl, rfl⟩ | ⟨rfl, rfl⟩
  · exact ⟨7, Or.inl ⟨rfl, rfl, rfl⟩, rfl, by decide⟩
  · have z : (0 : Int32) ≤ nI pk := by rw [q_0l (by omega)]; trivial
    have e : nI (3 + pk) = 3 + nI pk := by rw [show (3 : Int32) = nI 3 from rfl, q_add]
    refine ⟨3 + pk, Or.inr ⟨rfl, rfl, e⟩, ?_, by rw [if_pos z]; exact e⟩
    unfold lCo
    rw [if_neg (by decide)]
    omega
theorem h_e1 (al : Int32) (co : Nat) : nI (lBi al co) = if al = 0 then 8 + nI co else 0 := by
  unfold lBi
  by_cases a : al = 0
  · rw [if_pos a, if_pos a, show (8 : Int32) = nI 8 from rfl, q_add]
  · rw [if_neg a, if_neg a]; rfl
theorem h_le0 {a : Nat} (ha : a < 2147483648) : (nI a ≤ 0) = (a = 0) := by
  rw [show (0 : Int32) = nI 0 from rfl, q_le ha (by decide)]; simp
theorem h_e3 {en cl ma : Nat} (he : en ≤ 1024) {ps : Int32} {pb : Nat → Int32} (hp : ps = nI (3 + cl + en * swid pb cl 0)) : nI (lPa en cl pb + lMa en ma) = if nI en ≤ 0 then 0 else (16 + ps) + (4 * nI ma) := by
  unfold lPa lMa
  by_cases a : en = 0
  · have a1 : nI en ≤ 0 := by rw [h_le0 (by omega)]; exact a
    rw [if_pos a, if_pos a, if_pos a1]; rfl
  · have a1 : ¬ nI en ≤ 0 := by rw [h_le0 (by omega)]; exact a
    rw [if_neg a, if_neg a, if_neg a1, hp, show (16 : Int32) = nI 16 from rfl, show (4 : Int32) = nI 4 from rfl, q_mul, q_add, q_add]
    refine congrArg nI ?_
    generalize en * swid pb cl 0 = z
    omega
theorem h_e4 {li : Nat} (hl : li ≤ 16) : nI (lMe li) = if nI li ≤ 0 then 0 else 10 + (6 * nI li) := by
  unfold lMe
  by_cases a : li = 0
  · have a1 : nI li ≤ 0 := by rw [h_le0 (by omega)]; exact a
    rw [if_pos a, if_pos a1]; rfl
  · have a1 : ¬ nI li ≤ 0 := by rw [h_le0 (by omega)]; exact a
    rw [if_neg a, if_neg a1, show (10 : Int32) = nI 10 from rfl, show (6 : Int32) = nI 6 from rfl, q_mul, q_add]
theorem h_e5 (fc fd : Nat → Int32) : nI (lRe fc fd) = if (nI (wRl fc) + nI (wRl fd)) ≤ 0 then 0 else 8 + (nI (wRl fc) + nI (wRl fd)) := by
  have r1 := wRl_le fc
  have r2 := wRl_le fd
  unfold lRe
  rw [q_add]
  by_cases a : wRl fc + wRl fd = 0
  · have a1 : nI (wRl fc + wRl fd) ≤ 0 := by rw [h_le0 (by omega)]; exact a
    rw [if_pos a, if_pos a1]; rfl
  · have a1 : ¬ nI (wRl fc + wRl fd) ≤ 0 := by rw [h_le0 (by omega)]; exact a
    rw [if_neg a, if_neg a1, show (8 : Int32) = nI 8 from rfl, q_add]
theorem h_el {al has : Int32} {co pk en cl ma li q : Nat} {pb fc fd : Nat → Int32} (h2 : 8 + q = lCo has pk) : (8 : Int32) + ((((((22 + nI (lBi al co)) + 8) + nI q) + nI (lPa en cl pb + lMa en ma)) + nI (lMe li)) + nI (lRe fc fd)) = nI (lHd al has co pk en cl ma li pb fc fd) := by
  rw [show (22 : Int32) = nI 22 from rfl, show (8 : Int32) = nI 8 from rfl]
  simp only [q_add]
  unfold lHd
  refine congrArg nI ?_
  omega
set_option maxHeartbeats 1000000 in
theorem m_hd {co pk en cl ma li : Nat} {hi wi un ri col pr has : Int32} {fb gb pf pg pb cb mf mg lf lg fc fd rs : Nat → Int32} {nf ng : Nat → Int64} (hB : IB co fb gb) (he : en ≤ 1024) (hc : cl ≤ 8) (hb : ∀ k, k < cl → pb k = cb k ∧ VB (pb k)) (hn : en * cl ≤ 4096) (hng : ∀ k, k < en * cl → nf k = ng k) (hm : ma ≤ 16) (hmg : ∀ k, k < 3 * ma → mf k = mg k) (hl : li ≤ 16) (hL : ∀ k, k < 3 * li → lf k = lg k) (hR : IR fc fd rs) (hpk : pk ≤ 1024) (hp : ∀ k, k < pk → pf k = pg k) (hP : (has = 0 ∧ pk = 0 ∧ pr = -1) ∨ (has = 1 ∧ pr = nI pk)) {al b0 : Int32} (hal : al = m_Mo_areAlike (nI co) gb) (hb0 : b0 = if al = 0 then 255 else gb 0) :
    AH 64000 (wHd hi wi un ri col al has b0 co pk en cl ma li fb pf pb mf lf fc fd nf) (fun s => m_Mo_addHead hi wi (nI co) un ri col pr (nI en) (nI cl) (nI ma) (nI li) s.1 gb rs cb s.2 pg ng mg lg) (fun s => om_Mo_addHead hi wi (nI co) un ri col pr (nI en) (nI cl) (nI ma) (nI li) s.1 gb rs cb s.2 pg ng mg lg) := by
  obtain ⟨_, hom, hx⟩ := w_alike hB
  rw [← hal] at hx
  obtain ⟨q, h1, h2, h3⟩ := h_q hpk hP
  have hps := m_pls (e := en) hc hb
  have e6 : (6 : Int32).toNatClampNeg = 6 := by decide
  have e0 : (0 : Int32).toNatClampNeg = 0 := by decide
  have r1 : nI (wRl fc) = if m_Mo_isResolved rs 0 = 0 then 0 else 18 := q_rsv (by rw [e0]; exact (hR.1 0 (by omega)).1) (by rw [e0]; exact hR.2.1)
  have r2 : nI (wRl fd) = if m_Mo_isResolved rs 6 = 0 then 0 else 18 := q_rsv (by rw [e6]; exact (hR.1 0 (by omega)).2) (by rw [e6]; exact hR.2.2)
  obtain ⟨K, hK⟩ : ∃ K : Nat, K = 60000 := ⟨_, rfl⟩
  have hco := hB.1
  have A0 : AH K (wPa en cl pb nf ++ (wMa en ma mf ++ (wMe li lf ++ wRe fc fd))) (fun s => if (nI en) ≤ 0 then (j_Mo_addHead_377 (nI li) rs lg (nI (wRl fc)) (nI (wRl fd)) s.1 s.2) else (k_Mo_addHead_374 (nI li) rs lg (nI (wRl fc)) (nI (wRl fd)) (m_Mo_addPalette (nI en) (nI cl) (nI ma) s.1 cb s.2 ng mg))) (fun s => if (nI en) ≤ 0 then (oj_Mo_addHead_377 (nI li) rs lg (nI (wRl fc)) (nI (wRl fd)) s.1 s.2) else (om_Mo_addPalette (nI en) (nI cl) (nI ma) s.1 cb s.2 ng mg ∧ (ok_Mo_addHead_374 (nI li) rs lg (nI (wRl fc)) (nI (wRl fd)) (m_Mo_addPalette (nI en) (nI cl) (nI ma) s.1 cb s.2 ng mg)))) := fun s hs => m_366 he hc hm hb hn hng hmg hl hL hR (s := s) (hs.le (by omega))
  have A3 : AH _ _ (fun s => k_Mo_addHead_146 hi wi (nI co) un ri col pr (nI en) (nI cl) (nI ma) (nI li) gb rs cb pg ng mg lg al (nI q) (nI (wRl fc)) (nI (wRl fd)) s) (fun s => ok_Mo_addHead_146 hi wi (nI co) un ri col pr (nI en) (nI cl) (nI ma) (nI li) gb rs cb pg ng mg lg al (nI q) (nI (wRl fc)) (nI (wRl fd)) s) := h_sz hb0 (h_bits hx hB.1 hB.2 (h_col hpk hp h1 A0))
  have X : AH _ _ (fun s => k_Mo_addHead_1 hi wi (nI co) un ri col pr (nI en) (nI cl) (nI ma) (nI li) s.1 gb rs cb s.2 pg ng mg lg al) (fun s => ok_Mo_addHead_1 hi wi (nI co) un ri col pr (nI en) (nI cl) (nI ma) (nI li) s.1 gb rs cb s.2 pg ng mg lg al) := h_1 h3 (h_23 (h_26 r1 (h_38 (h_41 r2 (h_53 (h_e1 al co) (h_72 (h_e3 he hps.1) (fun _ => hps.2) (h_103 (h_e4 hl) (h_125 (h_e5 fc fd) (h_138 A3)))))))))
  have Y : ∀ {N : Nat} {L : List Nat}, AH N L (fun s => k_Mo_addHead_1 hi wi (nI co) un ri col pr (nI en) (nI cl) (nI ma) (nI li) s.1 gb rs cb s.2 pg ng mg lg al) (fun s => ok_Mo_addHead_1 hi wi (nI co) un ri col pr (nI en) (nI cl) (nI ma) (nI li) s.1 gb rs cb s.2 pg ng mg lg al) → AH N L (fun s => m_Mo_addHead hi wi (nI co) un ri col pr (nI en) (nI cl) (nI ma) (nI li) s.1 gb rs cb s.2 pg ng mg lg) (fun s => om_Mo_addHead hi wi (nI co) un ri col pr (nI en) (nI cl) (nI ma) (nI li) s.1 gb rs cb s.2 pg ng mg lg) := fun H s hs => by
    have t := H.at hs
    show m_Mo_addHead hi wi (nI co) un ri col pr (nI en) (nI cl) (nI ma) (nI li) s.1 gb rs cb s.2 pg ng mg lg = _ ∧ om_Mo_addHead hi wi (nI co) un ri col pr (nI en) (nI cl) (nI ma) (nI li) s.1 gb rs cb s.2 pg ng mg lg
    unfold m_Mo_addHead om_Mo_addHead
    rw [← hal]
    exact ⟨t.1, hom, t.2⟩
  refine AH.eq (AH.le (Y X) (by omega)) ?_
  unfold wHd
  rw [h_el h2]
