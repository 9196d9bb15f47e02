def wTail (e c m : Nat) (pb mf : Nat → Int32) (nf : Nat → Int64) : List Nat := wRow pb c 0 ++ (wEs pb nf c e 0 ++ (wB (nI (8 + 4 * m)) 1668112752 ++ wMp mf m 0))
set_option maxHeartbeats 200000 in
theorem m_p27 {e c m : Nat} (he : e ≤ 1024) (hc : c ≤ 8) (hm : m ≤ 16) {pb cb : Nat → Int32} (hb : ∀ k, k < c → pb k = cb k ∧ VB (pb k)) {nf ng : Nat → Int64} (hn : e * c ≤ 4096) (hng : ∀ k, k < e * c → nf k = ng k) {mf mg : Nat → Int32} (hmg : ∀ k, k < 3 * m → mf k = mg k) {s : Int32 × (Nat → Int32)} (hs : CK (40 * e + 300 + c) s) :
    k_Mo_addPalette_27 (nI e) (nI c) (nI m) cb ng mg s = apM (wTail e c m pb mf nf) s ∧ ok_Mo_addPalette_27 (nI e) (nI c) (nI m) cb ng mg s := by
  unfold k_Mo_addPalette_27 ok_Mo_addPalette_27 wTail
  rw [q_fuel (by omega)]
  exact m_clp he hc hm hb hn hng hmg c 0 s (by omega) hs
set_option maxHeartbeats 200000 in
theorem m_p7 {e c m : Nat} (he : e ≤ 1024) (hc : c ≤ 8) (hm : m ≤ 16) {pb cb : Nat → Int32} (hb : ∀ k, k < c → pb k = cb k ∧ VB (pb k)) {nf ng : Nat → Int64} (hn : e * c ≤ 4096) (hng : ∀ k, k < e * c → nf k = ng k) {mf mg : Nat → Int32} (hmg : ∀ k, k < 3 * m → mf k = mg k) {s : Int32 × (Nat → Int32)} (hs : CK (40 * e + 350) s) :
    k_Mo_addPalette_7 (nI e) (nI c) (nI m) cb ng mg s = apM (be 2 (nI e).toInt64 ++ ([bo (nI c).toInt] ++ wTail e c m pb mf nf)) s ∧ ok_Mo_addPalette_7 (nI e) (nI c) (nI m) cb ng mg s := by
  have s1 : CK (40 * e + 340) (apM (be 2 (nI e).toInt64) s) := be_k _ _ (hs.le (by omega))
  have s2 : CK (40 * e + 300 + c) (apM [bo (nI c).toInt] (apM (be 2 (nI e).toInt64) s)) := CK.ap (s1.le (by show 40 * e + 300 + c + 1 ≤ _; omega))
  have t := m_p27 he hc hm hb hn hng hmg s2
  unfold k_Mo_addPalette_7 ok_Mo_addPalette_7 k_Mo_addPalette_17 ok_Mo_addPalette_17
  rw [q_addM2, q_addM1, be1, t.1]
  refine ⟨?_, (hs.le (by omega)).o2 _, (s1.le (by omega)).o1 _, t.2⟩
  rw [apM_app, apM_app]
set_option maxHeartbeats 200000 in
theorem m_lp8 {e c : Nat} (h0 : e ≠ 0) (pb : Nat → Int32) : (8 : Int32) + nI (3 + c + e * swid pb c 0) = nI (lPa e c pb) := by
  have h : lPa e c pb = 8 + (3 + c + e * swid pb c 0) := by unfold lPa; rw [if_neg h0]; omega
  rw [h, show (8 : Int32) = nI 8 from rfl, q_add]
set_option maxHeartbeats 200000 in
theorem m_pal {e c m : Nat} (h0 : e ≠ 0) (he : e ≤ 1024) (hc : c ≤ 8) (hm : m ≤ 16) {pb cb : Nat → Int32} (hb : ∀ k, k < c → pb k = cb k ∧ VB (pb k)) {nf ng : Nat → Int64} (hn : e * c ≤ 4096) (hng : ∀ k, k < e * c → nf k = ng k) {mf mg : Nat → Int32} (hmg : ∀ k, k < 3 * m → mf k = mg k) {s : Int32 × (Nat → Int32)} (hs : CK (40 * e + 400) s) :
    m_Mo_addPalette (nI e) (nI c) (nI m) s.1 cb s.2 ng mg = apM (wPa e c pb nf ++ wMa e m mf) s ∧ om_Mo_addPalette (nI e) (nI c) (nI m) s.1 cb s.2 ng mg := by
  have ps := m_pls (e := e) hc hb
  have s1 : CK (40 * e + 350) (apM (wB (nI (lPa e c pb)) 1885564018) s) := wB_8 _ _ (hs.le (by omega))
  have t := m_p7 he hc hm hb hn hng hmg s1
  have e8 := m_lp8 (c := c) h0 pb
  have z : wPa e c pb nf ++ wMa e m mf = wB (nI (lPa e c pb)) 1885564018 ++ (be 2 (nI e).toInt64 ++ ([bo (nI c).toInt] ++ wTail e c m pb mf nf)) := by
    unfold wPa wMa wTail
    rw [if_neg h0, if_neg h0]
    simp only [List.append_assoc]
  unfold m_Mo_addPalette om_Mo_addPalette k_Mo_addPalette_4 ok_Mo_addPalette_4
  rw [ps.1, w_box, e8, t.1, z]
  refine ⟨?_, ps.2, (hs.le (by omega)).ob _ _, t.2⟩
  rw [apM_app (wB (nI (lPa e c pb)) 1885564018)]
