theorem m_enp {e c m : Nat} (he : e ≤ 1024) (hc : c ≤ 8) (hm : m ≤ 16) {pb cb : Nat → Int32} (hb : ∀ k, k < c → pb k = cb k ∧ VB (pb k)) {nf ng : Nat → Int64} (hn : e * c ≤ 4096) (hng : ∀ k, k < e * c → nf k = ng k) {mf mg : Nat → Int32} (hmg : ∀ k, k < 3 * m → mf k = mg k) : ∀ (d i : Nat) (s : Int32 × (Nat → Int32)), i + d = e → CK (40 * d + 200) s →
    lp_Mo_addPalette_60 (nI e) (nI c) (nI m) cb ng mg (d + 1) (nI i) s.1 s.2 = apM (wEs pb nf c d i ++ (wB (nI (8 + 4 * m)) 1668112752 ++ wMp mf m 0)) s ∧ olp_Mo_addPalette_60 (nI e) (nI c) (nI m) cb ng mg (d + 1) (nI i) s.1 s.2
  | 0, i, s, h, hs => by
    show lb_Mo_addPalette_60 (nI e) (nI c) (nI m) cb ng mg (lp_Mo_addPalette_60 (nI e) (nI c) (nI m) cb ng mg 0) (nI i) s.1 s.2 = _ ∧ olb_Mo_addPalette_60 (nI e) (nI c) (nI m) cb ng mg (olp_Mo_addPalette_60 (nI e) (nI c) (nI m) cb ng mg 0) (nI i) s.1 s.2
    have k : nI e ≤ nI i := by rw [q_le (by omega) (by omega)]; omega
    have e4 : (8 : Int32) + 4 * nI m = nI (8 + 4 * m) := by rw [show (8 : Int32) = nI 8 from rfl, show (4 : Int32) = nI 4 from rfl, q_mul, q_add]
    unfold lb_Mo_addPalette_60 olb_Mo_addPalette_60 k_Mo_addPalette_143 ok_Mo_addPalette_143
    rw [if_pos k, if_pos k, w_box, e4, q_fuel (by omega)]
    have t := m_mapp hm hmg m 0 (apM (wB (nI (8 + 4 * m)) 1668112752) s) (by omega) (wB_8 _ _ (hs.le (by omega)))
    refine ⟨?_, (hs.le (by omega)).ob _ _, t.2⟩
    show _ = apM ([] ++ (wB (nI (8 + 4 * m)) 1668112752 ++ wMp mf m 0)) s
    rw [List.nil_append, apM_app]
    exact t.1
  | d + 1, i, s, h, hs => by
    show lb_Mo_addPalette_60 (nI e) (nI c) (nI m) cb ng mg (lp_Mo_addPalette_60 (nI e) (nI c) (nI m) cb ng mg (d + 1)) (nI i) s.1 s.2 = _ ∧ olb_Mo_addPalette_60 (nI e) (nI c) (nI m) cb ng mg (olp_Mo_addPalette_60 (nI e) (nI c) (nI m) cb ng mg (d + 1)) (nI i) s.1 s.2
    have k : ¬ nI e ≤ nI i := by rw [q_le (by omega) (by omega)]; omega
    have hsw := swid_le (fun k hk => (hb k hk).2) c 0 (by omega)
    have s1 : CK (40 * d + 200) (apM (wEn pb nf (i * c) c 0) s) := CK.ap (by rw [wEn_len]; exact hs.le (by omega))
    have ih := m_enp he hc hm hb hn hng hmg d (i + 1) _ (by omega) s1
    have t := m_entp hc hb hn hng (show i < e by omega) (lp_Mo_addPalette_60 (nI e) (nI c) (nI m) cb ng mg (d + 1)) (olp_Mo_addPalette_60 (nI e) (nI c) (nI m) cb ng mg (d + 1)) c 0 s (by omega) (hs.le (by omega))
    unfold lb_Mo_addPalette_60 olb_Mo_addPalette_60
    rw [if_neg k, if_neg k, q_fuel (by omega)]
    rw [← nI_succ] at t
    refine ⟨?_, t.2 ih.2⟩
    refine t.1.trans ?_
    rw [ih.1]
    show _ = apM ((wEn pb nf (i * c) c 0 ++ wEs pb nf c d (i + 1)) ++ _) s
    rw [List.append_assoc]
    exact (apM_app _ _ s).symm
theorem m_clp {e c m : Nat} (he : e ≤ 1024) (hc : c ≤ 8) (hm : m ≤ 16) {pb cb : Nat → Int32} (hb : ∀ k, k < c → pb k = cb k ∧ VB (pb k)) {nf ng : Nat → Int64} (hn : e * c ≤ 4096) (hng : ∀ k, k < e * c → nf k = ng k) {mf mg : Nat → Int32} (hmg : ∀ k, k < 3 * m → mf k = mg k) : ∀ (d j : Nat) (s : Int32 × (Nat → Int32)), j + d = c → CK (40 * e + 300 + d) s →
    lp_Mo_addPalette_32 (nI e) (nI c) (nI m) cb ng mg (d + 1) (nI j) s.1 s.2 = apM (wRow pb d j ++ (wEs pb nf c e 0 ++ (wB (nI (8 + 4 * m)) 1668112752 ++ wMp mf m 0))) s ∧ olp_Mo_addPalette_32 (nI e) (nI c) (nI m) cb ng mg (d + 1) (nI j) s.1 s.2
  | 0, j, s, h, hs => by
    show lb_Mo_addPalette_32 (nI e) (nI c) (nI m) cb ng mg (lp_Mo_addPalette_32 (nI e) (nI c) (nI m) cb ng mg 0) (nI j) s.1 s.2 = _ ∧ olb_Mo_addPalette_32 (nI e) (nI c) (nI m) cb ng mg (olp_Mo_addPalette_32 (nI e) (nI c) (nI m) cb ng mg 0) (nI j) s.1 s.2
    have k : nI c ≤ nI j := by rw [q_le (by omega) (by omega)]; omega
    unfold lb_Mo_addPalette_32 olb_Mo_addPalette_32
    rw [if_pos k, if_pos k, q_fuel (by omega)]
    exact m_enp he hc hm hb hn hng hmg e 0 s (by omega) (hs.le (by omega))
  | d + 1, j, s, h, hs => by
    show lb_Mo_addPalette_32 (nI e) (nI c) (nI m) cb ng mg (lp_Mo_addPalette_32 (nI e) (nI c) (nI m) cb ng mg (d + 1)) (nI j) s.1 s.2 = _ ∧ olb_Mo_addPalette_32 (nI e) (nI c) (nI m) cb ng mg (olp_Mo_addPalette_32 (nI e) (nI c) (nI m) cb ng mg (d + 1)) (nI j) s.1 s.2
    have k : ¬ nI c ≤ nI j := by rw [q_le (by omega) (by omega)]; omega
    unfold lb_Mo_addPalette_32 olb_Mo_addPalette_32 k_Mo_addPalette_49 ok_Mo_addPalette_49
    rw [if_neg k, if_neg k, q_cl (by omega), q_in (by omega), ← (hb j (by omega)).1, q_addM1, be1, ← nI_succ]
    have s1 : CK (40 * e + 300 + d) (apM [bo (pb j).toInt] s) := CK.ap (hs.le (by show 40 * e + 300 + d + 1 ≤ _; omega))
    have ih := m_clp he hc hm hb hn hng hmg d (j + 1) _ (by omega) s1
    refine ⟨?_, by omega, (hs.le (by omega)).o1 _, ih.2⟩
    rw [ih.1]
    show _ = apM ([bo (pb j).toInt] ++ (wRow pb d (j + 1) ++ _)) s
    exact (apM_app _ _ s).symm
/-- the end of HEAD: channels and resolutions -/
theorem m_453 {fc fd rs : Nat → Int32} (hR : IR fc fd rs) {s : Int32 × (Nat → Int32)} (hs : CK 100 s) : j_Mo_addHead_453 rs s.1 s.2 = apM (wRt 1919251299 fc ++ wRt 1919251300 fd) s ∧ oj_Mo_addHead_453 rs s.1 s.2 := by
  have a := m_rat (f := fc) (rs := rs) (a := 0) (by decide) (fun k hk => by rw [Nat.zero_add]; exact (hR.1 k hk).1) hR.2.1 1919251299 (s := s) (hs.le (by decide))
  have h18 := wRl_le fc
  have s1 : CK 50 (apM (wRt 1919251299 fc) s) := CK.ap (by rw [wRt_len]; exact hs.le (by omega))
  have b := m_rat (f := fd) (rs := rs) (a := 6) (by decide) (fun k hk => (hR.1 k hk).2) hR.2.2 1919251300 (s1.le (by decide))
  rw [show nI 0 = 0 from rfl] at a
  rw [show nI 6 = 6 from rfl] at b
  unfold j_Mo_addHead_453 oj_Mo_addHead_453 k_Mo_addHead_457 ok_Mo_addHead_457 k_Mo_addHead_465 ok_Mo_addHead_465
  rw [a.1, b.1, apM_app]
  exact ⟨rfl, a.2, b.2, trivial⟩
