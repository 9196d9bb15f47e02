set_option maxHeartbeats 1000000 in
theorem p_write : PWrite := by
  intro co sz nr pk pn en cl nn ma li has col pr fb gb fw gf pf pg pb cb mf mg lf lg fc fd rs nf ng fo hi wi un ri sc cur p1 p2 hB hF hP hQ hM hL hR hu hr h2
  obtain ⟨hpkn, hpn64, hpn, hpf, hcol, hPc⟩ := hP
  obtain ⟨he, hc, hec, hen, hn8, hn2, hb, hng⟩ := hQ
  obtain ⟨hm, hme, hmg, hmc⟩ := hM
  obtain ⟨hsn, hn64, hnr, hfit, hfg⟩ := hF
  have hpk : pk ≤ 1024 := by omega
  have hP1 : (has = 0 ∧ pk = 0 ∧ pr = -1) ∨ (has = 1 ∧ col = 0 ∧ pr = nI pk) := by
    rcases hPc with q | q
    · exact Or.inl q
    · exact Or.inr ⟨q.1, q.2.1, q.2.2.1⟩
  have hP2 : (has = 0 ∧ pk = 0 ∧ pr = -1) ∨ (has = 1 ∧ pr = nI pk) := by
    rcases hPc with q | q
    · exact Or.inl q
    · exact Or.inr ⟨q.1, q.2.2.1⟩
  have hp : ∀ k, k < pk → (fun k => pf k &&& 255) k = pg k := by
    rcases hPc with q | q
    · intro k hk; have := q.2.1; omega
    · exact q.2.2.2
  have hW := p_whole (co := co) (en := en) hm hL.1 hmg hL.2 hpk hcol hP1
  have hIF : IF sz nr fw gf := ⟨hsn, hn64, hnr, hfit, hfg⟩
  by_cases hx : 0 ≤ p1 ∧ p1 ≤ 65536
  · have x6 := w_x6 (p1 := p1) (b := 1) (if_pos hx)
    by_cases hw : m_Mo_isWhole (nI co) col pr (nI en) (nI ma) (nI li) mg lg = 0
    · have r := w_refB (sz := sz) (cl := cl) (sc := sc) (hi := hi) (wi := wi) (un := un) (ri := ri) (p2 := p2) (cur := cur) (gf := gf) (gb := gb) (rs := rs) (cb := cb) (pg := pg) (ng := ng) x6 hw hW.2
      have c := w_clb (sc := sc) (hi := hi) (wi := wi) (un := un) (ri := ri) (p2 := p2) (sz := sz) (nr := nr) (pn := pn) (cl := cl) (nn := nn) (fb := fb) (fw := fw) (pf := pf) (pb := pb) (fc := fc) (fd := fd) (nf := nf) (fo := fo) hx (hW.1.trans hw)
      exact ⟨r.2, 2, 0, sc, cur, sz, nr, fw, gf, fo, c, r.1, hIF, fun q => absurd q (by decide), Or.inr rfl, Or.inl rfl, Nat.le_refl _⟩
    · have hw2 : ¬ m_Pl_canBeWritten (nI co) col has (nI pk) (nI en) (nI ma) 48 mf (nI li) 48 lf = 0 := by rw [hW.1]; exact hw
      have hco0 : co ≠ 0 := fun q => w_co hw2 (by rw [q]; decide)
      obtain ⟨a1, a2, a3⟩ := w_alike hB
      obtain ⟨al, hal⟩ : ∃ al, al = m_Mo_areAlike (nI co) gb := ⟨_, rfl⟩
      obtain ⟨b0, hb0⟩ : ∃ b0, b0 = if al = 0 then 255 else gb 0 := ⟨_, rfl⟩
      have hbc : (if m_Pl_bitsAreAlike (nI co) 16 fb = 0 then 255 else m_FB_valueIn 16 fb 0) = b0 := by
        have v : m_FB_valueIn 16 fb 0 = fb 0 := q_valIn (j := 0) (by decide) (by decide) fb
        rw [a1, ← hal, v, hb0, hB.2 0 (by omega)]
      have hbv : ∀ k, k < cl → VB (pb k) := fun k hk => (hb k hk).2
      have hd := m_hd (hi := hi) (wi := wi) (un := un) (ri := ri) (col := col) hB he hc hb (by omega) hng hm hmg hL.1 hL.2 hR hpk hp hP2 hal hb0
      have hle := lHd_le (al := al) (has := has) (fc := fc) (fd := fd) hB.1 hpk he hc hm hL.1 hbv
      obtain ⟨T, hT⟩ : ∃ T, T = 32 + lHd al has co pk en cl ma li pb fc fd + (if p2 = 0 then 8 else 16) := ⟨_, rfl⟩
      have hT2 : T ≤ 53000 := by rw [hT]; split <;> omega
      obtain ⟨LI, hLI⟩ : ∃ LI, LI = wAl hi wi un ri col al has b0 co pk en cl ma li fb (fun k => pf k &&& 255) pb mf lf fc fd nf p1 p2 := ⟨_, rfl⟩
      have hlen : LI.length = T := by rw [hLI, wAl_len, hT]
      have hbl : BL LI := by rw [hLI]; exact BL_al _ _ _ _ _ _ _ _ _ _ _ _ _ _ _ _ _ _ _ _ _ _ _ _
      have w31 := w_31 (sz := sz) (sc := sc) (p1 := p1) (p2 := p2) (cur := cur) (gf := gf) hd (by rw [wHd_len]; omega) (by omega)
      have r := w_refC x6 hw hW.2 w31
      have eL : (wB 12 1783636000 ++ (be 4 218793738 ++ (wB 20 1718909296 ++ (be 4 1785737760 ++ (be 4 0 ++ (be 4 1785737760 ++ (wHd hi wi un ri col al has b0 co pk en cl ma li fb (fun k => pf k &&& 255) pb mf lf fc fd nf ++ wTl p1 p2))))))) = LI := by rw [hLI]; rfl
      rw [eL] at r
      have hTc : m_Wr_lengthOfAll (nI co) has 16 fb (nI pk) (nI en) (nI cl) 8 pb (nI ma) (nI li) 6 fc 6 fd p2 = nI T := by
        unfold m_Wr_lengthOfAll k_Wr_lengthOfAll_3
        rw [w_lenHd hB.1 he hc hL.1 hbv, a1, ← hal, hT, show (32 : Int32) = nI 32 from rfl, show (8 : Int32) = nI 8 from rfl, show (16 : Int32) = nI 16 from rfl, q_add, q_add, q_add]
        split <;> rfl
      have c := w_clc (sc := sc) (hi := hi) (wi := wi) (un := un) (ri := ri) (sz := sz) (nr := nr) (pn := pn) (nn := nn) (fw := fw) (pf := pf) (nf := nf) (fo := fo) hx hw2 hTc (by omega)
      by_cases ft : sz + T ≤ 65536
      · obtain ⟨n2, f2, m1, m2, m3, m4, m5, m6, m7⟩ := q_room (mo := 65536) (by decide) hnr hsn ft fw
        obtain ⟨f3, g3, s1, s2, s3, s4⟩ := q_same n2 m4 LI sz f2 gf hbl (by omega) (m7 hfit) (fun k hk => by rw [m6 k (by omega)]; exact hfg k hk)
        rw [hlen] at s1 s2 s4
        have pa := w_all (pn := pn) (nn := nn) hB.1 hpkn hpn he hc hen hn2 hm hL.1 hbv hi wi un ri col has hu hr fb pf mf lf fc fd nf n2 (nI sz, f2) p1 p2
        rw [hbc, a1, ← hal, ← hLI, s1] at pa
        have cc := c.2 ft n2 f2 f3 m1 pa
        have r1 := r.1
        rw [s2] at r1
        have r2 := r1.trans (w_fit ft sc g3)
        exact ⟨r.2, 0, nI T, 0, nI (sz + T), sz + T, n2, f3, g3, vp_updL fo 0 (nI T).toInt64, cc, r2, ⟨by omega, by omega, m4, s3, s4⟩, fun _ => q_updL _ _ _, Or.inl rfl, m5, m3⟩
      · have e1 := apM_1 LI sz gf
        have e2 := apM_low LI sz gf (by omega)
        rw [hlen] at e1
        have r1 := r.1
        have r2 : (fun s => j_Mo_write_137 (nI sz) sc s.1 s.2) (apM LI (nI sz, gf)) = (0, 3, nI sz, sc, nI (sz + T), (apM LI (nI sz, gf)).2) := by
          show j_Mo_write_137 (nI sz) sc (apM LI (nI sz, gf)).1 (apM LI (nI sz, gf)).2 = _
          rw [e1]
          exact w_unfit (by omega) (by omega) sc _
        exact ⟨r.2, 3, 0, sc, nI (sz + T), sz, nr, fw, (apM LI (nI sz, gf)).2, fo, c.1 (by omega), r1.trans r2, ⟨hsn, hn64, hnr, hfit, fun k hk => by rw [e2 k hk]; exact hfg k hk⟩, fun q => absurd q (by decide), Or.inr rfl, Or.inl rfl, Nat.le_refl _⟩
  · have x6 := w_x6 (p1 := p1) (b := 0) (if_neg hx)
    have r := w_refA (sz := sz) (co := co) (en := en) (cl := cl) (ma := ma) (li := li) (sc := sc) (hi := hi) (wi := wi) (un := un) (ri := ri) (col := col) (pr := pr) (p2 := p2) (cur := cur) (gf := gf) (gb := gb) (rs := rs) (cb := cb) (pg := pg) (mg := mg) (lg := lg) (ng := ng) x6
    have c := w_cla (sc := sc) (hi := hi) (wi := wi) (un := un) (ri := ri) (col := col) (has := has) (p2 := p2) (co := co) (sz := sz) (nr := nr) (pk := pk) (pn := pn) (en := en) (cl := cl) (nn := nn) (ma := ma) (li := li) (fb := fb) (fw := fw) (pf := pf) (pb := pb) (mf := mf) (lf := lf) (fc := fc) (fd := fd) (nf := nf) (fo := fo) hx
    exact ⟨r.2, 1, 0, sc, cur, sz, nr, fw, gf, fo, c, r.1, hIF, fun q => absurd q (by decide), Or.inr rfl, Or.inl rfl, Nat.le_refl _⟩
