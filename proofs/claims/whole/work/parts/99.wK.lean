theorem wRt_0 (name : Int32) {f : Nat → Int32} (h : wRl f = 0) : wRt name f = [] := by
  unfold wRl at h; unfold wRt
  by_cases a : f 0 = 0
  · rw [if_pos a]
  · rw [if_neg a] at h; omega
set_option maxHeartbeats 400000 in
theorem m_412 {li : Nat} (hl : li ≤ 16) {lf lg : Nat → Int32} (hL : ∀ k, k < 3 * li → lf k = lg k) {fc fd rs : Nat → Int32} (hR : IR fc fd rs) : ∀ (d j : Nat) (s : Int32 × (Nat → Int32)), j + d = 3 * li → CK (2 * d + 200) s →
    lp_Mo_addHead_412 (nI li) rs lg (nI (wRl fc)) (nI (wRl fd)) (d + 1) (nI j) s.1 s.2 = apM (wR2 lf d j ++ wRe fc fd) s ∧ olp_Mo_addHead_412 (nI li) rs lg (nI (wRl fc)) (nI (wRl fd)) (d + 1) (nI j) s.1 s.2
  | 0, j, s, h, hs => by
    show lb_Mo_addHead_412 (nI li) rs lg (nI (wRl fc)) (nI (wRl fd)) (lp_Mo_addHead_412 (nI li) rs lg (nI (wRl fc)) (nI (wRl fd)) 0) (nI j) s.1 s.2 = _ ∧ olb_Mo_addHead_412 (nI li) rs lg (nI (wRl fc)) (nI (wRl fd)) (olp_Mo_addHead_412 (nI li) rs lg (nI (wRl fc)) (nI (wRl fd)) 0) (nI j) s.1 s.2
    have k : (3 : Int32) * nI li ≤ nI j := by rw [q_3m, q_le (by omega) (by omega)]; omega
    have r1 := wRl_le fc
    have r2 := wRl_le fd
    have hz : (nI (wRl fc + wRl fd) ≤ 0) = (wRl fc + wRl fd = 0) := by
      rw [show (0 : Int32) = nI 0 from rfl, q_le (by omega) (by decide)]; simp
    have e8 : (8 : Int32) + nI (wRl fc + wRl fd) = nI (8 + (wRl fc + wRl fd)) := by rw [show (8 : Int32) = nI 8 from rfl, q_add]
    unfold lb_Mo_addHead_412 olb_Mo_addHead_412 k_Mo_addHead_450 ok_Mo_addHead_450
    rw [if_pos k, if_pos k, q_add, w_box, e8]
    have w0 : wR2 lf 0 j = [] := rfl
    rw [w0, List.nil_append]
    by_cases a : wRl fc + wRl fd = 0
    · have t := m_453 hR (s := s) (hs.le (by omega))
      have a1 : nI (wRl fc + wRl fd) ≤ 0 := by rw [hz]; exact a
      rw [if_pos a1, if_pos a1]
      refine ⟨?_, t.2⟩
      rw [t.1, wRt_0 _ (show wRl fc = 0 by omega), wRt_0 _ (show wRl fd = 0 by omega)]
      unfold wRe; rw [if_pos a]; rfl
    · have t := m_453 hR (s := apM (wB (nI (8 + (wRl fc + wRl fd))) 1919251232) s) (wB_8 _ _ (hs.le (by omega)))
      have a1 : ¬ nI (wRl fc + wRl fd) ≤ 0 := by rw [hz]; exact a
      rw [if_neg a1, if_neg a1]
      refine ⟨?_, (hs.le (by omega)).ob _ _, t.2⟩
      rw [t.1]
      unfold wRe; rw [if_neg a, apM_app (wB _ _)]
  | d + 1, j, s, h, hs => by
    show lb_Mo_addHead_412 (nI li) rs lg (nI (wRl fc)) (nI (wRl fd)) (lp_Mo_addHead_412 (nI li) rs lg (nI (wRl fc)) (nI (wRl fd)) (d + 1)) (nI j) s.1 s.2 = _ ∧ olb_Mo_addHead_412 (nI li) rs lg (nI (wRl fc)) (nI (wRl fd)) (olp_Mo_addHead_412 (nI li) rs lg (nI (wRl fc)) (nI (wRl fd)) (d + 1)) (nI j) s.1 s.2
    have k : ¬ (3 : Int32) * nI li ≤ nI j := by rw [q_3m, q_le (by omega) (by omega)]; omega
    unfold lb_Mo_addHead_412 olb_Mo_addHead_412 k_Mo_addHead_433 ok_Mo_addHead_433
    rw [if_neg k, if_neg k, q_cl (by omega), q_in (by omega), ← hL j (by omega), q_addM2, ← nI_succ]
    have s1 : CK (2 * d + 200) (apM (be 2 (lf j).toInt64) s) := be_k _ _ (hs.le (by omega))
    have ih := m_412 hl hL hR d (j + 1) _ (by omega) s1
    refine ⟨?_, by omega, (hs.le (by omega)).o2 _, ih.2⟩
    rw [ih.1]
    show _ = apM ((be 2 (lf j).toInt64 ++ wR2 lf d (j + 1)) ++ wRe fc fd) s
    rw [List.append_assoc]
    exact (apM_app _ _ s).symm
set_option maxHeartbeats 200000 in
theorem m_409 {li : Nat} (hl : li ≤ 16) {lf lg : Nat → Int32} (hL : ∀ k, k < 3 * li → lf k = lg k) {fc fd rs : Nat → Int32} (hR : IR fc fd rs) {s : Int32 × (Nat → Int32)} (hs : CK (6 * li + 200) s) :
    j_Mo_addHead_409 (nI li) rs lg (nI (wRl fc)) (nI (wRl fd)) s.1 s.2 = apM (wR2 lf (3 * li) 0 ++ wRe fc fd) s ∧ oj_Mo_addHead_409 (nI li) rs lg (nI (wRl fc)) (nI (wRl fd)) s.1 s.2 := by
  unfold j_Mo_addHead_409 oj_Mo_addHead_409
  rw [q_3m, q_fuel (by omega)]
  exact m_412 hl hL hR (3 * li) 0 s (by omega) (hs.le (by omega))
set_option maxHeartbeats 200000 in
theorem m_396 {li : Nat} (hl : li ≤ 16) {lf lg : Nat → Int32} (hL : ∀ k, k < 3 * li → lf k = lg k) {fc fd rs : Nat → Int32} (hR : IR fc fd rs) {s : Int32 × (Nat → Int32)} (hs : CK (6 * li + 250) s) :
    k_Mo_addHead_396 (nI li) rs lg (nI (wRl fc)) (nI (wRl fd)) s = apM (be 2 (nI li).toInt64 ++ (wR2 lf (3 * li) 0 ++ wRe fc fd)) s ∧ ok_Mo_addHead_396 (nI li) rs lg (nI (wRl fc)) (nI (wRl fd)) s := by
  have s1 : CK (6 * li + 200) (apM (be 2 (nI li).toInt64) s) := be_k _ _ (hs.le (by omega))
  have t := m_409 hl hL hR s1
  unfold k_Mo_addHead_396 ok_Mo_addHead_396 k_Mo_addHead_406 ok_Mo_addHead_406
  rw [q_addM2, t.1]
  refine ⟨?_, (hs.le (by omega)).o2 _, t.2⟩
  rw [apM_app (be 2 (nI li).toInt64)]
set_option maxHeartbeats 200000 in
theorem m_377 {li : Nat} (hl : li ≤ 16) {lf lg : Nat → Int32} (hL : ∀ k, k < 3 * li → lf k = lg k) {fc fd rs : Nat → Int32} (hR : IR fc fd rs) {s : Int32 × (Nat → Int32)} (hs : CK (6 * li + 300) s) :
    j_Mo_addHead_377 (nI li) rs lg (nI (wRl fc)) (nI (wRl fd)) s.1 s.2 = apM (wMe li lf ++ wRe fc fd) s ∧ oj_Mo_addHead_377 (nI li) rs lg (nI (wRl fc)) (nI (wRl fd)) s.1 s.2 := by
  have e10 : (8 : Int32) + (2 + 6 * nI li) = nI (10 + 6 * li) := by
    have h : 8 + (2 + 6 * li) = 10 + 6 * li := by omega
    rw [show (8 : Int32) = nI 8 from rfl, show (2 : Int32) = nI 2 from rfl, show (6 : Int32) = nI 6 from rfl, q_mul, q_add, q_add, h]
  have hz : (nI li ≤ 0) = (li = 0) := by
    rw [show (0 : Int32) = nI 0 from rfl, q_le (by omega) (by decide)]; simp
  unfold j_Mo_addHead_377 oj_Mo_addHead_377
  by_cases a : li = 0
  · have a1 : nI li ≤ 0 := by rw [hz]; exact a
    have t := m_409 hl hL hR (s := s) (hs.le (by omega))
    have z : wMe li lf = [] := by unfold wMe; rw [if_pos a]
    have z2 : wR2 lf (3 * li) 0 = [] := by rw [a]; rfl
    rw [if_pos a1, if_pos a1, z]
    rw [z2] at t
    exact t
  · have a1 : ¬ nI li ≤ 0 := by rw [hz]; exact a
    have s1 : CK (6 * li + 250) (apM (wB (nI (10 + 6 * li)) 1667523942) s) := wB_8 _ _ (hs.le (by omega))
    have t := m_396 hl hL hR s1
    have z : wMe li lf ++ wRe fc fd = wB (nI (10 + 6 * li)) 1667523942 ++ (be 2 (nI li).toInt64 ++ (wR2 lf (3 * li) 0 ++ wRe fc fd)) := by
      unfold wMe; rw [if_neg a, List.append_assoc, List.append_assoc]
    rw [if_neg a1, if_neg a1, w_box, e10, t.1, z]
    refine ⟨?_, (hs.le (by omega)).ob _ _, t.2⟩
    rw [apM_app (wB (nI (10 + 6 * li)) 1667523942)]
set_option maxHeartbeats 200000 in
theorem m_366 {e c m li : Nat} (he : e ≤ 1024) (hc : c ≤ 8) (hm : m ≤ 16) {pb cb : Nat → Int32} (hb : ∀ k, k < c → pb k = cb k ∧ VB (pb k)) {nf ng : Nat → Int64} (hn : e * c ≤ 4096) (hng : ∀ k, k < e * c → nf k = ng k) {mf mg : Nat → Int32} (hmg : ∀ k, k < 3 * m → mf k = mg k) (hl : li ≤ 16) {lf lg : Nat → Int32} (hL : ∀ k, k < 3 * li → lf k = lg k) {fc fd rs : Nat → Int32} (hR : IR fc fd rs) {s : Int32 × (Nat → Int32)} (hs : CK 60000 s) :
    (if nI e ≤ 0 then j_Mo_addHead_377 (nI li) rs lg (nI (wRl fc)) (nI (wRl fd)) s.1 s.2 else k_Mo_addHead_374 (nI li) rs lg (nI (wRl fc)) (nI (wRl fd)) (m_Mo_addPalette (nI e) (nI c) (nI m) s.1 cb s.2 ng mg)) = apM (wPa e c pb nf ++ (wMa e m mf ++ (wMe li lf ++ wRe fc fd))) s ∧ (if nI e ≤ 0 then oj_Mo_addHead_377 (nI li) rs lg (nI (wRl fc)) (nI (wRl fd)) s.1 s.2 else (om_Mo_addPalette (nI e) (nI c) (nI m) s.1 cb s.2 ng mg ∧ ok_Mo_addHead_374 (nI li) rs lg (nI (wRl fc)) (nI (wRl fd)) (m_Mo_addPalette (nI e) (nI c) (nI m) s.1 cb s.2 ng mg))) := by
  have hz : (nI e ≤ 0) = (e = 0) := by
    rw [show (0 : Int32) = nI 0 from rfl, q_le (by omega) (by decide)]; simp
  by_cases a : e = 0
  · have a1 : nI e ≤ 0 := by rw [hz]; exact a
    have t := m_377 hl hL hR (s := s) (hs.le (by omega))
    have z1 : wPa e c pb nf = [] := by unfold wPa; rw [if_pos a]
    have z2 : wMa e m mf = [] := by unfold wMa; rw [if_pos a]
    rw [if_pos a1, if_pos a1, z1, z2, List.nil_append, List.nil_append]
    exact t
  · have a1 : ¬ nI e ≤ 0 := by rw [hz]; exact a
    have p := m_pal a he hc hm hb hn hng hmg (s := s) (hs.le (by omega))
    have hlp := lPa_le he hc (fun k hk => (hb k hk).2)
    have hlm : lMa e m ≤ 100 := by unfold lMa; split <;> omega
    have s1 : CK (6 * li + 300) (apM (wPa e c pb nf ++ wMa e m mf) s) := CK.ap (by rw [List.length_append, wPa_len, wMa_len]; exact hs.le (by omega))
    have t := m_377 hl hL hR s1
    rw [if_neg a1, if_neg a1, p.1]
    unfold k_Mo_addHead_374 ok_Mo_addHead_374
    rw [t.1, ← List.append_assoc (wPa e c pb nf)]
    refine ⟨?_, p.2, t.2⟩
    rw [apM_app (wPa e c pb nf ++ wMa e m mf)]
