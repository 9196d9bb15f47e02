def SHead (B : Nat → Nat) (sz nr : Nat) (fw gf : Nat → Int32) (lim o FU p n zA bA cA pA mA hA kA dA re : Nat) (cE mE ra nmr frr enr se ha td nm fr eN bx sF sC : Int32) (rv : Bool) (hi : Int32) (wi : Int32) (co : Int32) (un : Int32) (ri : Int32) (col : Int32) (has : Int32) (pk : Int32) (en : Int32) (cl : Int32) (pb : Nat → Int32) (nn : Nat) (nf : Nat → Int64) (ma : Int32) (li : Int32) (fc : Nat → Int32) (fd : Nat → Int32) (fb : Nat → Int32) (pn : Nat) (pf : Nat → Int32) (mf : Nat → Int32) (lf : Nat → Int32) : Prop :=
  olp_Mo_inHead_13 (nI lim) gf FU (if zA = 0 then 1 else 0) (nI p) ra nmr frr enr (nI zA) (nI bA) (nI cA) cE (nI pA) (nI mA) mE (nI hA) (nI kA) (nI dA) (bif rv then 1 else 0) ∧ ((∃ (r place : Int32) (t : Int32 × Int32 × Int32 × Int32 × Int32 × Int32 × Int32 × Int32 × Int32 × Int32 × Int32 × Int32 × Int32 × Int32), lp_Mo_inHead_13 (nI lim) gf ha FU (if zA = 0 then 1 else 0) (nI p) ra nmr frr enr (nI zA) (nI bA) (nI cA) cE (nI pA) (nI mA) mE (nI hA) (nI kA) (nI dA) (bif rv then 1 else 0) = (r, place, t) ∧ ¬ r ≤ 0 ∧ FinR r place (lp_Sc_readFile_41 1024 8 6 6 (nI sz) nr fw 16 48 48 (8201 - n) (nI n) 0 1 (nI p) se (nI o) ha (nI lim) (nI re) td nm fr eN bx sF sC hi wi co un ri col has pk en cl pb nn nf ma li fc fd fb pn pf mf lf))
  ∨ (∃ (nm3 fr3 en5 : Int32) (zA3 bA3 cA3 pA3 mA3 hA3 kA3 dA3 n3 re3 : Nat) (cE3 mE3 se3 td3 nm4 fr4 en4 bx4 : Int32) (rv3 : Bool) (hi3 : Int32) (wi3 : Int32) (co3 : Int32) (un3 : Int32) (ri3 : Int32) (col3 : Int32) (has3 : Int32) (pk3 : Int32) (en3 : Int32) (cl3 : Int32) (pb3 : Nat → Int32) (nn3 : Nat) (nf3 : Nat → Int64) (ma3 : Int32) (li3 : Int32) (fc3 : Nat → Int32) (fd3 : Nat → Int32) (fb3 : Nat → Int32) (pn3 : Nat) (pf3 : Nat → Int32) (mf3 : Nat → Int32) (lf3 : Nat → Int32), lp_Mo_inHead_13 (nI lim) gf ha FU (if zA = 0 then 1 else 0) (nI p) ra nmr frr enr (nI zA) (nI bA) (nI cA) cE (nI pA) (nI mA) mE (nI hA) (nI kA) (nI dA) (bif rv then 1 else 0) = (0, ra, nm3, fr3, en5, nI zA3, nI bA3, nI cA3, cE3, nI pA3, nI mA3, mE3, nI hA3, nI kA3, nI dA3, (bif rv3 then 1 else 0)) ∧ lp_Sc_readFile_41 1024 8 6 6 (nI sz) nr fw 16 48 48 (8201 - n) (nI n) 0 1 (nI p) se (nI o) ha (nI lim) (nI re) td nm fr eN bx sF sC hi wi co un ri col has pk en cl pb nn nf ma li fc fd fb pn pf mf lf = lp_Sc_readFile_41 1024 8 6 6 (nI sz) nr fw 16 48 48 (8201 - n3) (nI n3) 0 0 (nI lim) se3 (nI o) ha (nI lim) (nI re3) td3 nm4 fr4 en4 bx4 sF sC hi3 wi3 co3 un3 ri3 col3 has3 pk3 en3 cl3 pb3 nn3 nf3 ma3 li3 fc3 fd3 fb3 pn3 pf3 mf3 lf3 ∧ 8 * n3 ≤ lim + 16 ∧ RELH B sz zA3 bA3 cA3 pA3 mA3 hA3 cE3 mE3 td3 hi3 wi3 co3 un3 ri3 col3 has3 en3 cl3 pb3 nn3 nf3 fb3 pk3 pn3 pf3 ma3 mf3 li3 lf3 ∧ FLG se3 true zA3 bA3 pA3 mA3 hA3 rv3 kA3 dA3 ∧ RatR B sz kA3 fc3 ∧ RatR B sz dA3 fd3 ∧ ScI pn3 nn3 pf3 ∧ re3 ≤ 65536 ∧ zA3 ≠ 0 ∧ cA3 ≠ 0 ∧ (pA3 ≠ 0 → mA3 ≠ 0)))
set_option maxHeartbeats 2000000 in
theorem sim_head {sz nr : Nat} {fw gf : Nat → Int32} {B : Nat → Nat} (hB : HB sz nr fw gf B) {lim o : Nat} {ra ha sF sC : Int32} (hl : lim ≤ sz) (ho : 2 ≤ o) (ho2 : o < 65536) : ∀ (d FU p n c zA bA cA pA mA hA kA dA re : Nat) (cE mE nmr frr enr se td nm fr eN bx : Int32) (rv : Bool) (hi : Int32) (wi : Int32) (co : Int32) (un : Int32) (ri : Int32) (col : Int32) (has : Int32) (pk : Int32) (en : Int32) (cl : Int32) (pb : Nat → Int32) (nn : Nat) (nf : Nat → Int64) (ma : Int32) (li : Int32) (fc : Nat → Int32) (fd : Nat → Int32) (fb : Nat → Int32) (pn : Nat) (pf : Nat → Int32) (mf : Nat → Int32) (lf : Nat → Int32), lim - p < d → lim - p < FU → p ≤ lim → 8 * n ≤ p + 8 * c → c ≤ 1 → (rv = false → c = 0) → RELH B sz zA bA cA pA mA hA cE mE td hi wi co un ri col has en cl pb nn nf fb pk pn pf ma mf li lf → FLG se true zA bA pA mA hA rv kA dA → RatR B sz kA fc → RatR B sz dA fd → ScI pn nn pf → re ≤ 65536 → SHead B sz nr fw gf lim o FU p n zA bA cA pA mA hA kA dA re cE mE ra nmr frr enr se ha td nm fr eN bx sF sC rv hi wi co un ri col has pk en cl pb nn nf ma li fc fd fb pn pf mf lf := by
  intro d
  have h1 := hB.1
  have h2 := hB.2.1
  induction d with
  | zero => intro FU p n c zA bA cA pA mA hA kA dA re cE mE nmr frr enr se td nm fr eN bx rv hi wi co un ri col has pk en cl pb nn nf ma li fc fd fb pn pf mf lf hd; omega
  | succ d ih =>
    intro FU p n c zA bA cA pA mA hA kA dA re cE mE nmr frr enr se td nm fr eN bx rv hi wi co un ri col has pk en cl pb nn nf ma li fc fd fb pn pf mf lf hd hf hp hn hc hc0 hR hF hK hD hI hre
    obtain ⟨FU, rfl⟩ : ∃ F, FU = F + 1 := ⟨FU - 1, by omega⟩
    have n82 : n < 8200 := by omega
    have f1 : 8201 - n = (8201 - (n + 1)) + 1 := by omega
    have f2 : 8201 - (n + 1) = (8200 - (n + 1)) + 1 := by omega
    have lm : m_Sc_limit 1 (nI lim) (nI re) (nI sz) = nI lim := rfl
    have l3 : ¬ (1 : Int32) = 3 := by decide
    unfold SHead
    by_cases x : p = lim
    · have k : nI lim ≤ nI p := by rw [q_le (by omega) (by omega)]; omega
      have k2 : ¬ nI p < nI lim := by rw [q_lt (by omega) (by omega)]; omega
      have k3 : (2 : Int32) ≤ nI o := by rw [show (2 : Int32) = nI 2 from rfl, q_le (by decide) (by omega)]; exact ho
      obtain ⟨e1, e2, e3, e4⟩ := b_head hB hR hF
      have r0 : lp_Mo_inHead_13 (nI lim) gf ha (FU + 1) (if zA = 0 then 1 else 0) (nI p) ra nmr frr enr (nI zA) (nI bA) (nI cA) cE (nI pA) (nI mA) mE (nI hA) (nI kA) (nI dA) (bif rv then 1 else 0) = k_Mo_inHead_149 ha ra nmr frr enr (nI zA) (nI bA) (nI cA) cE (nI pA) (nI mA) mE (nI hA) (nI kA) (nI dA) (bif rv then 1 else 0) (m_Mo_behindHead (nI zA) (nI bA) (nI cA) (nI pA) (nI mA) mE (nI hA) gf) := by
        show lb_Mo_inHead_13 (nI lim) gf ha (lp_Mo_inHead_13 (nI lim) gf ha FU) (if zA = 0 then 1 else 0) (nI p) ra nmr frr enr (nI zA) (nI bA) (nI cA) cE (nI pA) (nI mA) mE (nI hA) (nI kA) (nI dA) (bif rv then 1 else 0) = _
        unfold lb_Mo_inHead_13
        rw [if_pos k]
      have o0 : olp_Mo_inHead_13 (nI lim) gf (FU + 1) (if zA = 0 then 1 else 0) (nI p) ra nmr frr enr (nI zA) (nI bA) (nI cA) cE (nI pA) (nI mA) mE (nI hA) (nI kA) (nI dA) (bif rv then 1 else 0) := by
        show olb_Mo_inHead_13 (nI lim) gf (olp_Mo_inHead_13 (nI lim) gf FU) (if zA = 0 then 1 else 0) (nI p) ra nmr frr enr (nI zA) (nI bA) (nI cA) cE (nI pA) (nI mA) mE (nI hA) (nI kA) (nI dA) (bif rv then 1 else 0)
        unfold olb_Mo_inHead_13 ok_Mo_inHead_149
        rw [if_pos k]
        refine ⟨e2, ?_⟩
        split
        · trivial
        · exact ⟨trivial, trivial⟩
      have lv : m_Sc_leave 1 se ha td bx sF co col has ma li 48 lf (nI sz) = (m_Mo_behindHead (nI zA) (nI bA) (nI cA) (nI pA) (nI mA) mE (nI hA) gf, 0, ha) := by
        unfold m_Sc_leave
        rw [if_neg (show ¬ (1 : Int32) = 2 by decide), if_pos rfl, e1]
        rfl
      have cLL := LP_leave (sz := sz) (nr := nr) (fw := fw) (8201 - (n + 1)) n82 (lv := 1) (aT := nI p) (se := se) (ou := nI o) (ha := ha) (hE := nI lim) (rE := nI re) (td := td) (nm := nm) (fr := fr) (eN := eN) (bx := bx) (sF := sF) (sC := sC) (hi := hi) (wi := wi) (co := co) (un := un) (ri := ri) (col := col) (has := has) (pk := pk) (en := en) (cl := cl) (pb := pb) (nn := nn) (nf := nf) (ma := ma) (li := li) (fc := fc) (fd := fd) (fb := fb) (pn := pn) (pf := pf) (mf := mf) (lf := lf) l3 lm k2 k3 lv
      rw [← f1] at cLL
      by_cases z : m_Mo_behindHead (nI zA) (nI bA) (nI cA) (nI pA) (nI mA) mE (nI hA) gf = 0
      · rw [z] at r0 cLL
        obtain ⟨y1, y2, y3⟩ := e3 z
        refine ⟨o0, Or.inr ⟨nmr, frr, enr, zA, bA, cA, pA, mA, hA, kA, dA, n + 1, re, cE, mE, se, td, nm, fr, eN, ha, rv, hi, wi, co, un, ri, col, has, pk, en, cl, pb, nn, nf, ma, li, fc, fd, fb, pn, pf, mf, lf, ?_, ?_, by omega, hR, hF, hK, hD, hI, hre, y1, y2, y3⟩⟩
        · rw [r0]
          unfold k_Mo_inHead_149
          rw [if_pos (show (0 : Int32) ≤ 0 by decide)]
        · rw [cLL, x]
      · have z2 : ¬ m_Mo_behindHead (nI zA) (nI bA) (nI cA) (nI pA) (nI mA) mE (nI hA) gf ≤ 0 := fun y => z (Int32.le_antisymm y e4)
        refine ⟨o0, Or.inl ⟨m_Mo_behindHead (nI zA) (nI bA) (nI cA) (nI pA) (nI mA) mE (nI hA) gf, ha, (nmr, frr, enr, nI zA, nI bA, nI cA, cE, nI pA, nI mA, mE, nI hA, nI kA, nI dA, (bif rv then 1 else 0)), ?_, z2, ?_⟩⟩
        · rw [r0]
          unfold k_Mo_inHead_149
          rw [if_neg z2]
          rfl
        · rw [cLL, f2, LP_end _ _ _ z]
          exact ⟨_, _, _, _, _, _, _, _, _, _, _, _, _, _, _, _, _, _, _, _, _, _, _, _, _, _, _, _, _, _, _, _, _, lim, re, rfl, by omega, hre, hI⟩
    · have k : ¬ nI lim ≤ nI p := by rw [q_le (by omega) (by omega)]; omega
      have k2 : nI p < nI lim := by rw [q_lt (by omega) (by omega)]; omega
      obtain ⟨fo, fr8⟩ := s_frame hB (lv := 1) (top := 0) (hE := nI lim) (rE := nI re) hp hl lm (Or.inr ⟨by decide, rfl⟩)
      have r0 : lp_Mo_inHead_13 (nI lim) gf ha (FU + 1) (if zA = 0 then 1 else 0) (nI p) ra nmr frr enr (nI zA) (nI bA) (nI cA) cE (nI pA) (nI mA) mE (nI hA) (nI kA) (nI dA) (bif rv then 1 else 0) = k_Mo_inHead_22 gf (lp_Mo_inHead_13 (nI lim) gf ha FU) (if zA = 0 then 1 else 0) (nI p) ra (nI zA) (nI bA) (nI cA) cE (nI pA) (nI mA) mE (nI hA) (nI kA) (nI dA) (bif rv then 1 else 0) (m_Mo_frame nmr frr enr gf (nI p) (nI lim) 0) := by
        show lb_Mo_inHead_13 (nI lim) gf ha (lp_Mo_inHead_13 (nI lim) gf ha FU) (if zA = 0 then 1 else 0) (nI p) ra nmr frr enr (nI zA) (nI bA) (nI cA) cE (nI pA) (nI mA) mE (nI hA) (nI kA) (nI dA) (bif rv then 1 else 0) = _
        unfold lb_Mo_inHead_13
        rw [if_neg k]
      have o0 : ok_Mo_inHead_22 gf (olp_Mo_inHead_13 (nI lim) gf FU) (if zA = 0 then 1 else 0) ra (nI zA) (nI bA) (nI cA) cE (nI pA) (nI mA) mE (nI hA) (nI kA) (nI dA) (bif rv then 1 else 0) (m_Mo_frame nmr frr enr gf (nI p) (nI lim) 0) → olp_Mo_inHead_13 (nI lim) gf (FU + 1) (if zA = 0 then 1 else 0) (nI p) ra nmr frr enr (nI zA) (nI bA) (nI cA) cE (nI pA) (nI mA) mE (nI hA) (nI kA) (nI dA) (bif rv then 1 else 0) := fun w => by
        show olb_Mo_inHead_13 (nI lim) gf (olp_Mo_inHead_13 (nI lim) gf FU) (if zA = 0 then 1 else 0) (nI p) ra nmr frr enr (nI zA) (nI bA) (nI cA) cE (nI pA) (nI mA) mE (nI hA) (nI kA) (nI dA) (bif rv then 1 else 0)
        unfold olb_Mo_inHead_13
        rw [if_neg k]; exact ⟨fo, w⟩
      have st : ∀ {r2 : Int32} {lv2 : Int32} {aT2 : Int32} {se2 : Int32} {ou2 : Int32} {ha2 : Int32} {hE2 : Int32} {rE2 : Int32} {td2 : Int32} {nm2 : Int32} {fr2 : Int32} {eN2 : Int32} {bx2 : Int32} {sF2 : Int32} {sC2 : Int32} {hi2 : Int32} {wi2 : Int32} {co2 : Int32} {un2 : Int32} {ri2 : Int32} {col2 : Int32} {has2 : Int32} {pk2 : Int32} {en2 : Int32} {cl2 : Int32} {pb2 : Nat → Int32} {nn2 : Nat} {nf2 : Nat → Int64} {ma2 : Int32} {li2 : Int32} {fc2 : Nat → Int32} {fd2 : Nat → Int32} {fb2 : Nat → Int32} {pn2 : Nat} {pf2 : Nat → Int32} {mf2 : Nat → Int32} {lf2 : Nat → Int32}, m_Sc_readBox 1 (nI p) se (nI o) ha (nI lim) (nI re) td nm fr eN sF sC (nI sz) nr fw hi wi co un ri col has en cl 8 pb nn nf 16 fb 1024 pk pn pf ma 48 mf li 48 lf 6 fd 6 fc = (r2, lv2, aT2, se2, ou2, ha2, hE2, rE2, td2, nm2, fr2, eN2, bx2, sF2, sC2, hi2, wi2, co2, un2, ri2, col2, has2, en2, cl2, pb2, nn2, nf2, fb2, pk2, pn2, pf2, ma2, mf2, li2, lf2, fd2, fc2) → lp_Sc_readFile_41 1024 8 6 6 (nI sz) nr fw 16 48 48 (8201 - n) (nI n) 0 1 (nI p) se (nI o) ha (nI lim) (nI re) td nm fr eN bx sF sC hi wi co un ri col has pk en cl pb nn nf ma li fc fd fb pn pf mf lf = lp_Sc_readFile_41 1024 8 6 6 (nI sz) nr fw 16 48 48 (8201 - (n + 1)) (nI (n + 1)) r2 lv2 aT2 se2 ou2 ha2 hE2 rE2 td2 nm2 fr2 eN2 bx2 sF2 sC2 hi2 wi2 co2 un2 ri2 col2 has2 pk2 en2 cl2 pb2 nn2 nf2 ma2 li2 fc2 fd2 fb2 pn2 pf2 mf2 lf2 := fun hb => by
        have cl := LP_box (sz := sz) (nr := nr) (fw := fw) (bx := bx) (8201 - (n + 1)) n82 l3 lm (Or.inl k2) hb
        rw [← f1] at cl
        exact cl
      rcases fr8 nmr frr enr nm fr eN with ⟨c0, a1, a2, a3, b1, b2, b3, q1, q2, q3⟩ | ⟨nm3, f, e, q1, q2, q3, q4, q5⟩
      · have c00 : ¬ c0 = 0 := by rcases q1 with rfl | rfl <;> decide
        have c01 : ¬ c0 ≤ 0 := by rcases q1 with rfl | rfl <;> decide
        have t := x_h22c gf (lp_Mo_inHead_13 (nI lim) gf ha FU) (olp_Mo_inHead_13 (nI lim) gf FU) (if zA = 0 then 1 else 0) (nI p) ra (nI zA) (nI bA) (nI cA) cE (nI pA) (nI mA) mE (nI hA) (nI kA) (nI dA) (bif rv then 1 else 0) a1 a2 a3 q1
        rw [q2] at r0 o0
        refine ⟨o0 t.2, Or.inl ⟨c0, nI p, _, r0.trans t.1, c01, ?_⟩⟩
        rw [st (RB_cut c00 q3), f2, LP_end _ _ _ c00]
        exact ⟨_, _, _, _, _, _, _, _, _, _, _, _, _, _, _, _, _, _, _, _, _, _, _, _, _, _, _, _, _, _, _, _, _, lim, re, rfl, by omega, hre, hI⟩
      · have ya := y_all hB (rE := nI re) q2 (by omega) (by omega) hR hF hI nm3
        unfold YH at ya
        obtain ⟨ok, r, lv2, at2, se2, rE2, td2, hi2, wi2, co2, un2, ri2, col2, has2, en2, cl2, pb2, nn2, nf2, fb2, pk2, pn2, pf2, ma2, mf2, li2, lf2, i1, i2, i3, i4, i5⟩ := ya
        have hk := h_k22 gf (lp_Mo_inHead_13 (nI lim) gf ha FU) (olp_Mo_inHead_13 (nI lim) gf FU) (if zA = 0 then 1 else 0) (nI p) ra (nI zA) (nI bA) (nI cA) cE (nI pA) (nI mA) mE (nI hA) (nI kA) (nI dA) (bif rv then 1 else 0) nm3 (nI f) (nI e)
        have hw := hdW_le (m_Mo_isWrong nm3 (nI zA) (nI pA) gf (if zA = 0 then 1 else 0)) (m_Mo_fitsHead nm3 (nI f) (nI e) (nI zA) gf) (m_Mo_isTwice nm3 (nI bA) (nI pA) (nI mA) (nI hA) (bif rv then 1 else 0)) (m_Mo_isGreat nm3 (nI f) (nI e) (nI cA) gf) (m_Mo_isValue nm3 (nI f) (nI e) (nI zA) (nI pA) gf)
        rw [← i2] at hk hw
        rw [q4] at r0 o0
        have cb := st (RB_head q5 i1)
        by_cases z : r = 0
        · subst z
          obtain ⟨zA2, bA2, cA2, pA2, mA2, hA2, cE2, mE2, n1, n2, n3, n4, n5⟩ := i5 rfl
          rcases n5 with ⟨m1, m2, m3, m4, m5⟩ | ⟨m1, m2, m3, m4, m5, m6⟩
          · have t := x_93o gf (lp_Mo_inHead_13 (nI lim) gf ha FU) (olp_Mo_inHead_13 (nI lim) gf FU) (nI p) ra (nI zA) (nI bA) (nI cA) cE (nI pA) (nI mA) mE (nI hA) (nI kA) (nI dA) (bif rv then 1 else 0) nm3 (nI f) (nI e) n1 n2 m1
            subst m2 m3 m4
            have ih2 := ih FU e (n + 1) c zA2 bA2 cA2 pA2 mA2 hA2 kA dA re cE2 mE2 nm3 (nI f) (nI e) se2 td2 nm3 (nI f) (nI e) (nI p) rv hi2 wi2 co2 un2 ri2 col2 has2 pk2 en2 cl2 pb2 nn2 nf2 ma2 li2 fc fd fb2 pn2 pf2 mf2 lf2 (by omega) (by omega) q3 (by omega) hc hc0 n4 m5 hK hD i3 hre
            unfold SHead at ih2
            rw [if_neg n3] at ih2
            obtain ⟨j1, j2⟩ := ih2
            refine ⟨o0 (hk.2 ok (t.2 j1)), ?_⟩
            rw [r0, hk.1, t.1, cb]
            exact j2
          · subst m3 m4 m5
            have c0z := hc0 m2
            subst c0z
            have sr := sim_res hB (lim := e) (c := 0) (o := o) (he := lim) (zA := zA2) (bA := bA2) (pA := pA2) (mA := mA2) (hA := hA2) (ra := ra) (ha := ha) (td := td2) (sF := sF) (sC := sC) (hi := hi2) (wi := wi2) (co := co2) (un := un2) (ri := ri2) (col := col2) (has := has2) (pk := pk2) (en := en2) (cl := cl2) (pb := pb2) (nn := nn2) (nf := nf2) (ma := ma2) (li := li2) (fb := fb2) (pn := pn2) (pf := pf2) (mf := mf2) (lf := lf2) (by omega) (by omega) ho ho2 (by omega) i3 (e - f + 1) 70000 f (n + 1) kA dA nm3 (nI f) (nI e) se2 nm3 (nI f) (nI e) (nI p) fc fd (by omega) (by omega) q2 (by omega) m6 hK hD
            unfold SRes at sr
            obtain ⟨s1, s2⟩ := sr
            rcases s2 with ⟨r5, pl5, v1, v2, v3, v4, v5, v6, v7, v8⟩ | ⟨nm5, fr5, en5, kA5, dA5, n5, se5, nm6, fr6, en6, bx6, fc5, fd5, v1, v2, v3, v4, v5, v6⟩
            · have t := (x_93s gf (lp_Mo_inHead_13 (nI lim) gf ha FU) (olp_Mo_inHead_13 (nI lim) gf FU) (nI p) ra (nI zA) (nI bA) (nI cA) cE (nI pA) (nI mA) mE (nI hA) (nI kA) (nI dA) (bif rv then 1 else 0) nm3 (nI f) (nI e) n1 n2 m1 v6 s1).1 v7
              refine ⟨o0 (hk.2 ok t.2), Or.inl ⟨r5, pl5, _, r0.trans (hk.1.trans t.1), v7, ?_⟩⟩
              rw [cb]
              exact v8
            · have t := (x_93s gf (lp_Mo_inHead_13 (nI lim) gf ha FU) (olp_Mo_inHead_13 (nI lim) gf FU) (nI p) ra (nI zA) (nI bA) (nI cA) cE (nI pA) (nI mA) mE (nI hA) (nI kA) (nI dA) (bif rv then 1 else 0) nm3 (nI f) (nI e) n1 n2 m1 v1 s1).2 rfl
              have ih2 := ih FU e n5 1 zA2 bA2 cA2 pA2 mA2 hA2 kA5 dA5 e cE2 mE2 nm5 fr5 en5 se5 td2 nm6 fr6 en6 bx6 true hi2 wi2 co2 un2 ri2 col2 has2 pk2 en2 cl2 pb2 nn2 nf2 ma2 li2 fc5 fd5 fb2 pn2 pf2 mf2 lf2 (by omega) (by omega) q3 (by omega) (by omega) (fun w => by cases w) n4 v4 v5 v6 i3 (by omega)
              unfold SHead at ih2
              rw [if_neg n3] at ih2
              obtain ⟨j1, j2⟩ := ih2
              refine ⟨o0 (hk.2 ok (t.2 j1)), ?_⟩
              rw [r0, hk.1, t.1, cb, v2]
              exact j2
        · have z2 : ¬ r ≤ 0 := fun y => z (by rw [hw] at y; exact y)
          have t := x_93r gf (lp_Mo_inHead_13 (nI lim) gf ha FU) (olp_Mo_inHead_13 (nI lim) gf FU) (nI p) ra (nI zA) (nI bA) (nI cA) cE (nI pA) (nI mA) mE (nI hA) (nI kA) (nI dA) (bif rv then 1 else 0) nm3 (nI f) (nI e) z2
          refine ⟨o0 (hk.2 ok t.2), Or.inl ⟨r, nI p, _, r0.trans (hk.1.trans t.1), z2, ?_⟩⟩
          rw [cb, f2, LP_end _ _ _ z]
          rcases i4 with w | w
          · rw [w]
            exact ⟨_, _, _, _, _, _, _, _, _, _, _, _, _, _, _, _, _, _, _, _, _, _, _, _, _, _, _, _, _, _, _, _, _, lim, re, rfl, by omega, hre, i3⟩
          · rw [w]
            exact ⟨_, _, _, _, _, _, _, _, _, _, _, _, _, _, _, _, _, _, _, _, _, _, _, _, _, _, _, _, _, _, _, _, _, lim, e, rfl, by omega, by omega, i3⟩
