def STop (B : Nat → Nat) (sz nr : Nat) (fw gf : Nat → Int32) (FU p n cnt zA bA cA pA mA hA kA dA he re : Nat) (cE mE ra sA sM nmr frr enr se ha td nm fr eN bx sF sC : Int32) (rv hd st : Bool) (hi : Int32) (wi : Int32) (co : Int32) (un : Int32) (ri : Int32) (col : Int32) (has : Int32) (pk : Int32) (en : Int32) (cl : Int32) (pb : Nat → Int32) (nn : Nat) (nf : Nat → Int64) (ma : Int32) (li : Int32) (fc : Nat → Int32) (fd : Nat → Int32) (fb : Nat → Int32) (pn : Nat) (pf : Nat → Int32) (mf : Nat → Int32) (lf : Nat → Int32) : Prop :=
  olp_Mo_walk_13 (nI sz) gf FU (bif st then 1 else 0) (bif hd then 1 else 0) (nI cnt) (nI p) ra sA sM nmr frr enr (nI zA) (nI bA) (nI cA) cE (nI pA) (nI mA) mE (nI hA) (nI kA) (nI dA) (bif rv then 1 else 0) ∧ ((∃ (r place sA2 sM2 : Int32) (t : Int32 × Int32 × Int32 × Int32 × Int32 × Int32 × Int32 × Int32 × Int32 × Int32 × Int32 × Int32 × Int32 × Int32 × Int32 × Int32), lp_Mo_walk_13 (nI sz) gf FU (bif st then 1 else 0) (bif hd then 1 else 0) (nI cnt) (nI p) ra sA sM nmr frr enr (nI zA) (nI bA) (nI cA) cE (nI pA) (nI mA) mE (nI hA) (nI kA) (nI dA) (bif rv then 1 else 0) = (r, place, t) ∧ ¬ r ≤ 0 ∧ FinR r place (lp_Sc_readFile_41 1024 8 6 6 (nI sz) nr fw 16 48 48 (8201 - n) (nI n) 0 0 (nI p) se (nI cnt) ha (nI he) (nI re) td nm fr eN bx sF sC hi wi co un ri col has pk en cl pb nn nf ma li fc fd fb pn pf mf lf))
  ∨ (∃ (nm3 fr3 en5 : Int32) (zA3 bA3 cA3 pA3 mA3 hA3 kA3 dA3 he3 re3 : Nat) (cE3 mE3 at3 se3 ou3 ha3 td3 nm4 fr4 en4 bx4 sA3 sM3 : Int32) (rv3 : Bool) (hi3 : Int32) (wi3 : Int32) (co3 : Int32) (un3 : Int32) (ri3 : Int32) (col3 : Int32) (has3 : Int32) (pk3 : Int32) (en3 : Int32) (cl3 : Int32) (pb3 : Nat → Int32) (nn3 : Nat) (nf3 : Nat → Int64) (ma3 : Int32) (li3 : Int32) (fc3 : Nat → Int32) (fd3 : Nat → Int32) (fb3 : Nat → Int32) (pn3 : Nat) (pf3 : Nat → Int32) (mf3 : Nat → Int32) (lf3 : Nat → Int32), lp_Mo_walk_13 (nI sz) gf FU (bif st then 1 else 0) (bif hd then 1 else 0) (nI cnt) (nI p) ra sA sM nmr frr enr (nI zA) (nI bA) (nI cA) cE (nI pA) (nI mA) mE (nI hA) (nI kA) (nI dA) (bif rv then 1 else 0) = (0, ra, sA3, sM3, nm3, fr3, en5, nI zA3, nI bA3, nI cA3, cE3, nI pA3, nI mA3, mE3, nI hA3, nI kA3, nI dA3, (bif rv3 then 1 else 0)) ∧ lp_Sc_readFile_41 1024 8 6 6 (nI sz) nr fw 16 48 48 (8201 - n) (nI n) 0 0 (nI p) se (nI cnt) ha (nI he) (nI re) td nm fr eN bx sF sC hi wi co un ri col has pk en cl pb nn nf ma li fc fd fb pn pf mf lf = (0, 3, at3, se3, ou3, ha3, (nI he3), (nI re3), td3, nm4, fr4, en4, bx4, sA3, sM3, hi3, wi3, co3, un3, ri3, col3, has3, pk3, en3, cl3, pb3, nn3, nf3, ma3, li3, fc3, fd3, fb3, pn3, pf3, mf3, lf3) ∧ RELH B sz zA3 bA3 cA3 pA3 mA3 hA3 cE3 mE3 td3 hi3 wi3 co3 un3 ri3 col3 has3 en3 cl3 pb3 nn3 nf3 fb3 pk3 pn3 pf3 ma3 mf3 li3 lf3 ∧ RatR B sz kA3 fc3 ∧ RatR B sz dA3 fd3 ∧ ScI pn3 nn3 pf3 ∧ he3 ≤ 65536 ∧ re3 ≤ 65536 ∧ zA3 ≠ 0 ∧ cA3 ≠ 0 ∧ (pA3 ≠ 0 → mA3 ≠ 0)))
set_option maxHeartbeats 2000000 in
theorem sim_top {sz nr : Nat} {fw gf : Nat → Int32} {B : Nat → Nat} (hB : HB sz nr fw gf B) {ra : Int32} : ∀ (d FU p n c cnt zA bA cA pA mA hA kA dA he re : Nat) (cE mE sA sM nmr frr enr se ha td nm fr eN bx sF sC : Int32) (rv hd st : Bool) (hi : Int32) (wi : Int32) (co : Int32) (un : Int32) (ri : Int32) (col : Int32) (has : Int32) (pk : Int32) (en : Int32) (cl : Int32) (pb : Nat → Int32) (nn : Nat) (nf : Nat → Int64) (ma : Int32) (li : Int32) (fc : Nat → Int32) (fd : Nat → Int32) (fb : Nat → Int32) (pn : Nat) (pf : Nat → Int32) (mf : Nat → Int32) (lf : Nat → Int32), sz - p < d → sz - p < FU → p ≤ sz → 8 * n ≤ p + 8 * c → c ≤ 2 → 8 * cnt ≤ p → RELH B sz zA bA cA pA mA hA cE mE td hi wi co un ri col has en cl pb nn nf fb pk pn pf ma mf li lf → FLG se hd zA bA pA mA hA rv kA dA → RatR B sz kA fc → RatR B sz dA fd → ScI pn nn pf → he ≤ 65536 → re ≤ 65536 → (hd = false → zA = 0 ∧ kA = 0 ∧ dA = 0 ∧ rv = false ∧ c = 0 ∧ st = false) → (hd = true → zA ≠ 0 ∧ cA ≠ 0 ∧ (pA ≠ 0 → mA ≠ 0)) → ((st = false ∧ sF < 0) ∨ (st = true ∧ ¬ sF < 0 ∧ hd = true ∧ sF = sA ∧ sC = sM)) → STop B sz nr fw gf FU p n cnt zA bA cA pA mA hA kA dA he re cE mE ra sA sM nmr frr enr se ha td nm fr eN bx sF sC rv hd st hi wi co un ri col has pk en cl pb nn nf ma li fc fd fb pn pf mf lf := by
  intro d
  have h1 := hB.1
  have h2 := hB.2.1
  induction d with
  | zero => intro FU p n c cnt zA bA cA pA mA hA kA dA he re cE mE sA sM nmr frr enr se ha td nm fr eN bx sF sC rv hd st hi wi co un ri col has pk en cl pb nn nf ma li fc fd fb pn pf mf lf hd0; omega
  | succ d ih =>
    intro FU p n c cnt zA bA cA pA mA hA kA dA he re cE mE sA sM nmr frr enr se ha td nm fr eN bx sF sC rv hd st hi wi co un ri col has pk en cl pb nn nf ma li fc fd fb pn pf mf lf hd0 hf hp hn hc hcnt hR hF hK hD hI hhe hre hH hT hS
    obtain ⟨FU, rfl⟩ : ∃ F, FU = F + 1 := ⟨FU - 1, by omega⟩
    have n82 : n < 8200 := by omega
    have f1 : 8201 - n = (8201 - (n + 1)) + 1 := by omega
    have f2 : 8201 - (n + 1) = (8200 - (n + 1)) + 1 := by omega
    have lm : m_Sc_limit 0 (nI he) (nI re) (nI sz) = nI sz := rfl
    have l3 : ¬ (0 : Int32) = 3 := by decide
    have hS2 : (st = false ∧ sF < 0) ∨ (st = true ∧ ¬ sF < 0 ∧ hd = true) := hS.elim Or.inl (fun w => Or.inr ⟨w.1, w.2.1, w.2.2.1⟩)
    unfold STop
    by_cases x : p = sz ∧ 2 ≤ cnt
    · have k2 : ¬ nI p < nI sz := by rw [q_lt (by omega) (by omega)]; omega
      have k3 : (2 : Int32) ≤ nI cnt := by rw [show (2 : Int32) = nI 2 from rfl, q_le (by decide) (by omega)]; exact x.2
      have lv : m_Sc_leave 0 se ha td bx sF co col has ma li 48 lf (nI sz) = ((if 0 ≤ sF then 0 else 6), 3, nI sz) := by
        unfold m_Sc_leave
        rw [if_neg (show ¬ (0 : Int32) = 2 by decide), if_neg (show ¬ (0 : Int32) = 1 by decide)]
        split <;> rfl
      have cLL := LP_leave (sz := sz) (nr := nr) (fw := fw) (8201 - (n + 1)) n82 (lv := 0) (aT := nI p) (se := se) (ou := nI cnt) (ha := ha) (hE := nI he) (rE := nI re) (td := td) (nm := nm) (fr := fr) (eN := eN) (bx := bx) (sF := sF) (sC := sC) (hi := hi) (wi := wi) (co := co) (un := un) (ri := ri) (col := col) (has := has) (pk := pk) (en := en) (cl := cl) (pb := pb) (nn := nn) (nf := nf) (ma := ma) (li := li) (fc := fc) (fd := fd) (fb := fb) (pn := pn) (pf := pf) (mf := mf) (lf := lf) l3 lm k2 k3 lv
      rw [← f1] at cLL
      rcases hS with ⟨s1, s2⟩ | ⟨s1, s2, s3, s4, s5⟩
      · have kf : ¬ 0 ≤ sF := fun q => absurd s2 (Int32.not_lt.2 q)
        have r0 : lp_Mo_walk_13 (nI sz) gf (FU + 1) (bif st then 1 else 0) (bif hd then 1 else 0) (nI cnt) (nI p) ra sA sM nmr frr enr (nI zA) (nI bA) (nI cA) cE (nI pA) (nI mA) mE (nI hA) (nI kA) (nI dA) (bif rv then 1 else 0) = (6, nI sz, sA, sM, nmr, frr, enr, nI zA, nI bA, nI cA, cE, nI pA, nI mA, mE, nI hA, nI kA, nI dA, (bif rv then 1 else 0)) := by
          show lb_Mo_walk_13 (nI sz) gf (lp_Mo_walk_13 (nI sz) gf FU) (bif st then 1 else 0) (bif hd then 1 else 0) (nI cnt) (nI p) ra sA sM nmr frr enr (nI zA) (nI bA) (nI cA) cE (nI pA) (nI mA) mE (nI hA) (nI kA) (nI dA) (bif rv then 1 else 0) = _
          unfold lb_Mo_walk_13
          rw [if_neg k2, if_pos k3, s1]
          rfl
        have o0 : olp_Mo_walk_13 (nI sz) gf (FU + 1) (bif st then 1 else 0) (bif hd then 1 else 0) (nI cnt) (nI p) ra sA sM nmr frr enr (nI zA) (nI bA) (nI cA) cE (nI pA) (nI mA) mE (nI hA) (nI kA) (nI dA) (bif rv then 1 else 0) := by
          show olb_Mo_walk_13 (nI sz) gf (olp_Mo_walk_13 (nI sz) gf FU) (bif st then 1 else 0) (bif hd then 1 else 0) (nI cnt) (nI p) ra sA sM nmr frr enr (nI zA) (nI bA) (nI cA) cE (nI pA) (nI mA) mE (nI hA) (nI kA) (nI dA) (bif rv then 1 else 0)
          unfold olb_Mo_walk_13
          rw [if_neg k2, if_pos k3, s1]
          exact ⟨trivial, trivial⟩
        rw [if_neg kf] at cLL
        refine ⟨o0, Or.inl ⟨6, nI sz, 0, 0, _, r0, by decide, ?_⟩⟩
        rw [cLL, f2, LP_end _ _ _ (show ¬ (6 : Int32) = 0 by decide)]
        exact ⟨_, _, _, _, _, _, _, _, _, _, _, _, _, _, _, _, _, _, _, _, _, _, _, _, _, _, _, _, _, _, _, _, _, he, re, rfl, hhe, hre, hI⟩
      · have kf : 0 ≤ sF := Int32.not_lt.1 s2
        have r0 : lp_Mo_walk_13 (nI sz) gf (FU + 1) (bif st then 1 else 0) (bif hd then 1 else 0) (nI cnt) (nI p) ra sA sM nmr frr enr (nI zA) (nI bA) (nI cA) cE (nI pA) (nI mA) mE (nI hA) (nI kA) (nI dA) (bif rv then 1 else 0) = (0, ra, sA, sM, nmr, frr, enr, nI zA, nI bA, nI cA, cE, nI pA, nI mA, mE, nI hA, nI kA, nI dA, (bif rv then 1 else 0)) := by
          show lb_Mo_walk_13 (nI sz) gf (lp_Mo_walk_13 (nI sz) gf FU) (bif st then 1 else 0) (bif hd then 1 else 0) (nI cnt) (nI p) ra sA sM nmr frr enr (nI zA) (nI bA) (nI cA) cE (nI pA) (nI mA) mE (nI hA) (nI kA) (nI dA) (bif rv then 1 else 0) = _
          unfold lb_Mo_walk_13
          rw [if_neg k2, if_pos k3, s1]
          rfl
        have o0 : olp_Mo_walk_13 (nI sz) gf (FU + 1) (bif st then 1 else 0) (bif hd then 1 else 0) (nI cnt) (nI p) ra sA sM nmr frr enr (nI zA) (nI bA) (nI cA) cE (nI pA) (nI mA) mE (nI hA) (nI kA) (nI dA) (bif rv then 1 else 0) := by
          show olb_Mo_walk_13 (nI sz) gf (olp_Mo_walk_13 (nI sz) gf FU) (bif st then 1 else 0) (bif hd then 1 else 0) (nI cnt) (nI p) ra sA sM nmr frr enr (nI zA) (nI bA) (nI cA) cE (nI pA) (nI mA) mE (nI hA) (nI kA) (nI dA) (bif rv then 1 else 0)
          unfold olb_Mo_walk_13
          rw [if_neg k2, if_pos k3, s1]
          trivial
        rw [if_pos kf] at cLL
        obtain ⟨y1, y2, y3⟩ := hT s3
        refine ⟨o0, Or.inr ⟨nmr, frr, enr, zA, bA, cA, pA, mA, hA, kA, dA, he, re, cE, mE, nI p, se, nI cnt, ha, td, nm, fr, eN, nI sz, sA, sM, rv, hi, wi, co, un, ri, col, has, pk, en, cl, pb, nn, nf, ma, li, fc, fd, fb, pn, pf, mf, lf, r0, ?_, hR, hK, hD, hI, hhe, hre, y1, y2, y3⟩⟩
        rw [cLL, f2, LP_3, s4, s5]
    · have k2 : nI p < nI sz ∨ ¬ 2 ≤ nI cnt := by
        by_cases y : p = sz
        · right
          rw [show (2 : Int32) = nI 2 from rfl, q_le (by decide) (by omega)]
          omega
        · left
          rw [q_lt (by omega) (by omega)]; omega
      obtain ⟨fo, fr8⟩ := s_frame hB (lv := 0) (top := 1) (hE := nI he) (rE := nI re) hp (Nat.le_refl _) lm (Or.inl ⟨rfl, rfl⟩)
      have r0 : lp_Mo_walk_13 (nI sz) gf (FU + 1) (bif st then 1 else 0) (bif hd then 1 else 0) (nI cnt) (nI p) ra sA sM nmr frr enr (nI zA) (nI bA) (nI cA) cE (nI pA) (nI mA) mE (nI hA) (nI kA) (nI dA) (bif rv then 1 else 0) = k_Mo_walk_33 gf (lp_Mo_walk_13 (nI sz) gf FU) (bif st then 1 else 0) (bif hd then 1 else 0) (nI cnt) (nI p) ra sA sM (nI zA) (nI bA) (nI cA) cE (nI pA) (nI mA) mE (nI hA) (nI kA) (nI dA) (bif rv then 1 else 0) (m_Mo_frame nmr frr enr gf (nI p) (nI sz) 1) := by
        show lb_Mo_walk_13 (nI sz) gf (lp_Mo_walk_13 (nI sz) gf FU) (bif st then 1 else 0) (bif hd then 1 else 0) (nI cnt) (nI p) ra sA sM nmr frr enr (nI zA) (nI bA) (nI cA) cE (nI pA) (nI mA) mE (nI hA) (nI kA) (nI dA) (bif rv then 1 else 0) = _
        unfold lb_Mo_walk_13 j_Mo_walk_26
        by_cases y : nI p < nI sz
        · rw [if_pos y]
        · rw [if_neg y, if_neg (k2.resolve_left y)]
      have o0 : ok_Mo_walk_33 gf (olp_Mo_walk_13 (nI sz) gf FU) (bif st then 1 else 0) (bif hd then 1 else 0) (nI cnt) (nI p) ra sA sM (nI zA) (nI bA) (nI cA) cE (nI pA) (nI mA) mE (nI hA) (nI kA) (nI dA) (bif rv then 1 else 0) (m_Mo_frame nmr frr enr gf (nI p) (nI sz) 1) → olp_Mo_walk_13 (nI sz) gf (FU + 1) (bif st then 1 else 0) (bif hd then 1 else 0) (nI cnt) (nI p) ra sA sM nmr frr enr (nI zA) (nI bA) (nI cA) cE (nI pA) (nI mA) mE (nI hA) (nI kA) (nI dA) (bif rv then 1 else 0) := fun w => by
        show olb_Mo_walk_13 (nI sz) gf (olp_Mo_walk_13 (nI sz) gf FU) (bif st then 1 else 0) (bif hd then 1 else 0) (nI cnt) (nI p) ra sA sM nmr frr enr (nI zA) (nI bA) (nI cA) cE (nI pA) (nI mA) mE (nI hA) (nI kA) (nI dA) (bif rv then 1 else 0)
        unfold olb_Mo_walk_13 oj_Mo_walk_26
        by_cases y : nI p < nI sz
        · rw [if_pos y]; exact ⟨fo, w⟩
        · rw [if_neg y, if_neg (k2.resolve_left y)]; exact ⟨fo, w⟩
      have sB : ∀ {r2 : Int32} {lv2 : Int32} {aT2 : Int32} {se2 : Int32} {ou2 : Int32} {ha2 : Int32} {hE2 : Int32} {rE2 : Int32} {td2 : Int32} {nm2 : Int32} {fr2 : Int32} {eN2 : Int32} {bx2 : Int32} {sF2 : Int32} {sC2 : Int32} {hi2 : Int32} {wi2 : Int32} {co2 : Int32} {un2 : Int32} {ri2 : Int32} {col2 : Int32} {has2 : Int32} {pk2 : Int32} {en2 : Int32} {cl2 : Int32} {pb2 : Nat → Int32} {nn2 : Nat} {nf2 : Nat → Int64} {ma2 : Int32} {li2 : Int32} {fc2 : Nat → Int32} {fd2 : Nat → Int32} {fb2 : Nat → Int32} {pn2 : Nat} {pf2 : Nat → Int32} {mf2 : Nat → Int32} {lf2 : Nat → Int32}, m_Sc_readBox 0 (nI p) se (nI cnt) ha (nI he) (nI re) td nm fr eN sF sC (nI sz) nr fw hi wi co un ri col has en cl 8 pb nn nf 16 fb 1024 pk pn pf ma 48 mf li 48 lf 6 fd 6 fc = (r2, lv2, aT2, se2, ou2, ha2, hE2, rE2, td2, nm2, fr2, eN2, bx2, sF2, sC2, hi2, wi2, co2, un2, ri2, col2, has2, en2, cl2, pb2, nn2, nf2, fb2, pk2, pn2, pf2, ma2, mf2, li2, lf2, fd2, fc2) → lp_Sc_readFile_41 1024 8 6 6 (nI sz) nr fw 16 48 48 (8201 - n) (nI n) 0 0 (nI p) se (nI cnt) ha (nI he) (nI re) td nm fr eN bx sF sC hi wi co un ri col has pk en cl pb nn nf ma li fc fd fb pn pf mf lf = lp_Sc_readFile_41 1024 8 6 6 (nI sz) nr fw 16 48 48 (8201 - (n + 1)) (nI (n + 1)) r2 lv2 aT2 se2 ou2 ha2 hE2 rE2 td2 nm2 fr2 eN2 bx2 sF2 sC2 hi2 wi2 co2 un2 ri2 col2 has2 pk2 en2 cl2 pb2 nn2 nf2 ma2 li2 fc2 fd2 fb2 pn2 pf2 mf2 lf2 := fun hb => by
        have cLL := LP_box (sz := sz) (nr := nr) (fw := fw) (bx := bx) (8201 - (n + 1)) n82 l3 lm k2 hb
        rw [← f1] at cLL
        exact cLL
      rcases fr8 nmr frr enr nm fr eN with ⟨c0, a1, a2, a3, b1, b2, b3, q1, q2, q3⟩ | ⟨nm3, f, e, q1, q2, q3, q4, q5⟩
      · have c00 : ¬ c0 = 0 := by rcases q1 with rfl | rfl <;> decide
        have c01 : ¬ c0 ≤ 0 := by rcases q1 with rfl | rfl <;> decide
        have t := x_w33c gf (lp_Mo_walk_13 (nI sz) gf FU) (olp_Mo_walk_13 (nI sz) gf FU) (bif st then 1 else 0) (bif hd then 1 else 0) (nI cnt) (nI p) ra sA sM (nI zA) (nI bA) (nI cA) cE (nI pA) (nI mA) mE (nI hA) (nI kA) (nI dA) (bif rv then 1 else 0) a1 a2 a3 q1
        rw [q2] at r0 o0
        refine ⟨o0 t.2, Or.inl ⟨c0, nI p, 0, 0, _, r0.trans t.1, c01, ?_⟩⟩
        rw [sB (RB_cut c00 q3), f2, LP_end _ _ _ c00]
        exact ⟨_, _, _, _, _, _, _, _, _, _, _, _, _, _, _, _, _, _, _, _, _, _, _, _, _, _, _, _, _, _, _, _, _, he, re, rfl, hhe, hre, hI⟩
      · have xt := x_top hB (f := f) (e := e) (cnt := cnt) q2 q3 (by omega) nm3 se ha (nI he) td (nI p) sF sC hd st hF.w1 hS2
        unfold XTop at xt
        obtain ⟨r, lv2, at2, se2, ha2, hE2, td2, sF2, sC2, i1, i2, i3, i4, i5, i6⟩ := xt
        have hk := x_w33 gf (lp_Mo_walk_13 (nI sz) gf FU) (olp_Mo_walk_13 (nI sz) gf FU) (bif st then 1 else 0) (bif hd then 1 else 0) (nI cnt) (nI p) ra sA sM (nI zA) (nI bA) (nI cA) cE (nI pA) (nI mA) mE (nI hA) (nI kA) (nI dA) (bif rv then 1 else 0) nm3 (nI f) (nI e)
        rw [i2] at hk
        rw [q4] at r0 o0
        have cb := sB (RB_file q5 i1)
        by_cases z : r = 0
        · subst z
          rcases i6 rfl with ⟨m1, m2, m3, m4, m5, m6, m7, m8, m9⟩ | ⟨m1, m2, m3, m4, m5, m6, m7, m8, m9, m10, m11⟩ | ⟨m1, m2, m3, m4, m5, m6, m7, m8, m9, m10⟩
          · have t := x_w56o gf (lp_Mo_walk_13 (nI sz) gf FU) (olp_Mo_walk_13 (nI sz) gf FU) (bif st then 1 else 0) (bif hd then 1 else 0) (nI cnt) (nI p) ra sA sM (nI zA) (nI bA) (nI cA) cE (nI pA) (nI mA) mE (nI hA) (nI kA) (nI dA) (bif rv then 1 else 0) nm3 (nI f) (nI e) m1 m2
            rw [← nI_succ] at t
            subst m3 m4 m5 m6 m7 m8 m9
            have ih2 := ih FU e (n + 1) c (cnt + 1) zA bA cA pA mA hA kA dA he re cE mE sA sM nm3 (nI f) (nI e) se2 ha2 td2 nm3 (nI f) (nI e) (nI p) sF2 sC2 rv hd st hi wi co un ri col has pk en cl pb nn nf ma li fc fd fb pn pf mf lf (by omega) (by omega) q3 (by omega) hc (by omega) hR hF hK hD hI hhe hre hH hT hS
            unfold STop at ih2
            obtain ⟨j1, j2⟩ := ih2
            refine ⟨o0 (hk.2 i3 (t.2 j1)), ?_⟩
            rw [r0, hk.1, t.1, cb]
            exact j2
          · obtain ⟨g1, g2, g3, g4, g5, g6⟩ := hH m3
            subst m3 m4 m5 m6 m7 m8 m9 m10 m11
            subst g4 g5 g6
            have sh := sim_head hB (lim := e) (o := cnt + 1) (ra := ra) (ha := nI p) (sF := sF2) (sC := sC2) q3 (by omega) (by omega) (e - f + 1) 70000 f (n + 1) 0 zA bA cA pA mA hA kA dA re cE mE nm3 (nI f) (nI e) (se ||| 1) 0 nm3 (nI f) (nI e) (nI p) false hi wi co un ri col has pk en cl pb nn nf ma li fc fd fb pn pf mf lf (by omega) (by omega) q2 (by omega) (by omega) (fun _ => rfl) ?_ hF.s1 hK hD hI hre
            · unfold SHead at sh
              rw [if_pos g1] at sh
              obtain ⟨s1, s2⟩ := sh
              rcases s2 with ⟨r5, pl5, t5, v1, v2, v3⟩ | ⟨nm5, fr5, en6, zA5, bA5, cA5, pA5, mA5, hA5, kA5, dA5, n5, re5, cE5, mE5, se5, td5, nm6, fr6, en7, bx6, rv5, hi5, wi5, co5, un5, ri5, col5, has5, pk5, en5, cl5, pb5, nn5, nf5, ma5, li5, fc5, fd5, fb5, pn5, pf5, mf5, lf5, v1, v2, v3, v4, v5, v6, v7, v8, v9, v10, v11, v12⟩
              · obtain ⟨t1, t2, t3, t4, t6, t7, t8, t9, t10, t11, t12, t13, t14, t15⟩ := t5
                have t := (x_w56h gf (lp_Mo_walk_13 (nI sz) gf FU) (olp_Mo_walk_13 (nI sz) gf FU) (bif false then 1 else 0) (bif false then 1 else 0) (nI cnt) (nI p) ra sA sM (nI zA) (nI bA) (nI cA) cE (nI pA) (nI mA) mE (nI hA) (nI kA) (nI dA) (bif false then 1 else 0) nm3 (nI f) (nI e) m1 (by rw [m1]; decide) v1 s1).1 v2
                refine ⟨o0 (hk.2 i3 t.2), Or.inl ⟨r5, pl5, 0, 0, _, r0.trans (hk.1.trans t.1), v2, ?_⟩⟩
                rw [cb]
                exact v3
              · have t := (x_w56h gf (lp_Mo_walk_13 (nI sz) gf FU) (olp_Mo_walk_13 (nI sz) gf FU) (bif false then 1 else 0) (bif false then 1 else 0) (nI cnt) (nI p) ra sA sM (nI zA) (nI bA) (nI cA) cE (nI pA) (nI mA) mE (nI hA) (nI kA) (nI dA) (bif false then 1 else 0) nm3 (nI f) (nI e) m1 (by rw [m1]; decide) v1 s1).2 rfl
                rw [← nI_succ] at t
                have ih2 := ih FU e n5 2 (cnt + 1) zA5 bA5 cA5 pA5 mA5 hA5 kA5 dA5 e re5 cE5 mE5 sA sM nm5 fr5 en6 se5 (nI p) td5 nm6 fr6 en7 bx6 sF2 sC2 rv5 true false hi5 wi5 co5 un5 ri5 col5 has5 pk5 en5 cl5 pb5 nn5 nf5 ma5 li5 fc5 fd5 fb5 pn5 pf5 mf5 lf5 (by omega) (by omega) q3 (by omega) (by omega) (by omega) v4 v5 v6 v7 v8 (by omega) v9 (fun w => by cases w) (fun _ => ⟨v10, v11, v12⟩) (hS.elim (fun w => Or.inl ⟨rfl, w.2⟩) (fun w => absurd w.1 (by decide)))
                unfold STop at ih2
                obtain ⟨j1, j2⟩ := ih2
                refine ⟨o0 (hk.2 i3 (t.2 j1)), ?_⟩
                rw [r0, hk.1, t.1, cb, v2]
                exact j2
            · subst g1
              exact ⟨hR.1, hR.2.1, fun w => absurd rfl w, hR.2.2.2⟩
          · subst m3 m4 m5 m6 m7 m8 m9 m10
            have xs := x_w56s gf (lp_Mo_walk_13 (nI sz) gf FU) (olp_Mo_walk_13 (nI sz) gf FU) (bif st then 1 else 0) (bif true then 1 else 0) (nI cnt) (nI p) ra sA sM (nI zA) (nI bA) (nI cA) cE (nI pA) (nI mA) mE (nI hA) (nI kA) (nI dA) (bif rv then 1 else 0) nm3 (nI f) (nI e) (by rw [m1]; decide) m1
            rcases hS with ⟨s1, s2⟩ | ⟨s1, s2, s3, s4, s5⟩
            · subst s1
              have t := xs.1 rfl
              rw [← nI_succ, q_sub q2] at t
              have ih2 := ih FU e (n + 1) c (cnt + 1) zA bA cA pA mA hA kA dA he re cE mE (nI f) (nI (e - f)) nm3 (nI f) (nI e) se2 ha2 td2 nm3 (nI f) (nI e) (nI p) (nI f) (nI (e - f)) rv true true hi wi co un ri col has pk en cl pb nn nf ma li fc fd fb pn pf mf lf (by omega) (by omega) q3 (by omega) hc (by omega) hR hF hK hD hI hhe hre (fun w => by cases w) hT (Or.inr ⟨rfl, by rw [q_l0 (by omega)]; exact id, rfl, rfl, rfl⟩)
              unfold STop at ih2
              obtain ⟨j1, j2⟩ := ih2
              refine ⟨o0 (hk.2 i3 (t.2 j1)), ?_⟩
              rw [r0, hk.1, t.1, cb]
              exact j2
            · subst s1
              have t := xs.2 (by decide)
              rw [← nI_succ] at t
              have ih2 := ih FU e (n + 1) c (cnt + 1) zA bA cA pA mA hA kA dA he re cE mE sA sM nm3 (nI f) (nI e) se2 ha2 td2 nm3 (nI f) (nI e) (nI p) sF sC rv true true hi wi co un ri col has pk en cl pb nn nf ma li fc fd fb pn pf mf lf (by omega) (by omega) q3 (by omega) hc (by omega) hR hF hK hD hI hhe hre hH hT (Or.inr ⟨rfl, s2, s3, s4, s5⟩)
              unfold STop at ih2
              obtain ⟨j1, j2⟩ := ih2
              refine ⟨o0 (hk.2 i3 (t.2 j1)), ?_⟩
              rw [r0, hk.1, t.1, cb]
              exact j2
        · have z2 : ¬ r ≤ 0 := fun y => z (Int32.le_antisymm y i4)
          have t := x_w56r gf (lp_Mo_walk_13 (nI sz) gf FU) (olp_Mo_walk_13 (nI sz) gf FU) (bif st then 1 else 0) (bif hd then 1 else 0) (nI cnt) (nI p) ra sA sM (nI zA) (nI bA) (nI cA) cE (nI pA) (nI mA) mE (nI hA) (nI kA) (nI dA) (bif rv then 1 else 0) nm3 (nI f) (nI e) z2
          refine ⟨o0 (hk.2 i3 t.2), Or.inl ⟨r, nI p, 0, 0, _, r0.trans (hk.1.trans t.1), z2, ?_⟩⟩
          rw [cb, f2, LP_end _ _ _ z]
          rcases i5 with w | w
          · rw [w]
            exact ⟨_, _, _, _, _, _, _, _, _, _, _, _, _, _, _, _, _, _, _, _, _, _, _, _, _, _, _, _, _, _, _, _, _, he, re, rfl, hhe, hre, hI⟩
          · rw [w]
            exact ⟨_, _, _, _, _, _, _, _, _, _, _, _, _, _, _, _, _, _, _, _, _, _, _, _, _, _, _, _, _, _, _, _, _, e, re, rfl, by omega, hre, hI⟩
