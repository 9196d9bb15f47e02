theorem x_r24c (gf : Nat → Int32) (kk : Int32 → Int32 → Int32 → Int32 → Int32 → Int32 → Int32 × Int32 × Int32 × Int32 × Int32 × Int32 × Int32 × Int32) (okk : Int32 → Int32 → Int32 → Int32 → Int32 → Int32 → Prop) (p kA dA a1 a2 a3 : Int32) {c : Int32} (hc : c = 1 ∨ c = 3) : k_Mo_inResolution_24 gf kk p kA dA (c, a1, a2, a3) = (c, p, a1, a2, a3, kA, dA, 1) ∧ ok_Mo_inResolution_24 gf okk kA dA (c, a1, a2, a3) := by
  have h0 : ¬ c = 0 := by rcases hc with rfl | rfl <;> decide
  have h1 : ¬ c ≤ 0 := by rcases hc with rfl | rfl <;> decide
  have t : ∀ s : Int32, j_Mo_inResolution_51 gf kk p kA dA (c, a1, a2, a3) s = (c, p, a1, a2, a3, kA, dA, 1) ∧ oj_Mo_inResolution_51 gf okk kA dA (c, a1, a2, a3) s := fun s => by
    unfold j_Mo_inResolution_51 oj_Mo_inResolution_51
    dsimp only
    rw [if_neg h0, if_neg h0]
    unfold j_Mo_inResolution_129 oj_Mo_inResolution_129
    rw [if_neg h0, if_neg h0]
    unfold j_Mo_inResolution_191 oj_Mo_inResolution_191
    rw [if_neg h1, if_neg h1]
    exact ⟨rfl, trivial, trivial⟩
  unfold k_Mo_inResolution_24 ok_Mo_inResolution_24 j_Mo_inResolution_46 oj_Mo_inResolution_46
  by_cases a : a1 = 1919251299
  · rw [if_pos a, if_pos a]; exact t 1
  · rw [if_neg a, if_neg a]
    by_cases b : a1 = 1919251300
    · rw [if_pos b, if_pos b]; exact t 1
    · rw [if_neg b, if_neg b]; exact t 0
def RatR (B : Nat → Nat) (sz kA : Nat) (fr : Nat → Int32) : Prop := kA < 65536 ∧ (kA = 0 → ∀ k, k < 6 → fr k = 0) ∧ (kA ≠ 0 → kA + 10 ≤ sz ∧ RatN B kA fr)
def SRes (B : Nat → Nat) (sz nr : Nat) (fw gf : Nat → Int32) (lim c o he FU p n zA bA pA mA hA kA dA : Nat) (ra nmr frr enr se ha td nm fr eN bx sF sC : Int32) (hi : Int32) (wi : Int32) (co : Int32) (un : Int32) (ri : Int32) (col : Int32) (has : Int32) (pk : Int32) (en : Int32) (cl : Int32) (pb : Nat → Int32) (nn : Nat) (nf : Nat → Int64) (ma : Int32) (li : Int32) (fc : Nat → Int32) (fd : Nat → Int32) (fb : Nat → Int32) (pn : Nat) (pf : Nat → Int32) (mf : Nat → Int32) (lf : Nat → Int32) : Prop :=
  olp_Mo_inResolution_15 (nI lim) gf FU (nI p) nmr frr enr (nI kA) (nI dA) ∧ ((∃ (r place a1 a2 a3 a4 a5 : Int32), lp_Mo_inResolution_15 ra (nI lim) gf FU (nI p) nmr frr enr (nI kA) (nI dA) = (r, place, a1, a2, a3, a4, a5, 1) ∧ ¬ r ≤ 0 ∧ FinR r place (lp_Sc_readFile_41 1024 8 6 6 (nI sz) nr fw 16 48 48 (8201 - n) (nI n) 0 2 (nI p) se (nI o) ha (nI he) (nI lim) td nm fr eN bx sF sC hi wi co un ri col has pk en cl pb nn nf ma li fc fd fb pn pf mf lf))
  ∨ (∃ (nm3 fr3 en3 : Int32) (kA3 dA3 n3 : Nat) (se3 nm4 fr4 en4 bx4 : Int32) (fc3 fd3 : Nat → Int32), lp_Mo_inResolution_15 ra (nI lim) gf FU (nI p) nmr frr enr (nI kA) (nI dA) = (0, ra, nm3, fr3, en3, nI kA3, nI dA3, 1) ∧ lp_Sc_readFile_41 1024 8 6 6 (nI sz) nr fw 16 48 48 (8201 - n) (nI n) 0 2 (nI p) se (nI o) ha (nI he) (nI lim) td nm fr eN bx sF sC hi wi co un ri col has pk en cl pb nn nf ma li fc fd fb pn pf mf lf = lp_Sc_readFile_41 1024 8 6 6 (nI sz) nr fw 16 48 48 (8201 - n3) (nI n3) 0 1 (nI lim) se3 (nI o) ha (nI he) (nI lim) td nm4 fr4 en4 bx4 sF sC hi wi co un ri col has pk en cl pb nn nf ma li fc3 fd3 fb pn pf mf lf ∧ 8 * n3 ≤ lim + 8 * (c + 1) ∧ FLG se3 true zA bA pA mA hA true kA3 dA3 ∧ RatR B sz kA3 fc3 ∧ RatR B sz dA3 fd3))
set_option maxHeartbeats 1000000 in
theorem sim_res {sz nr : Nat} {fw gf : Nat → Int32} {B : Nat → Nat} (hB : HB sz nr fw gf B) {lim c o he zA bA pA mA hA : Nat} {ra ha td sF sC : Int32} {hi : Int32} {wi : Int32} {co : Int32} {un : Int32} {ri : Int32} {col : Int32} {has : Int32} {pk : Int32} {en : Int32} {cl : Int32} {pb : Nat → Int32} {nn : Nat} {nf : Nat → Int64} {ma : Int32} {li : Int32} {fb : Nat → Int32} {pn : Nat} {pf : Nat → Int32} {mf : Nat → Int32} {lf : Nat → Int32} (hl : lim ≤ sz) (hc : c ≤ 1) (ho : 2 ≤ o) (ho2 : o < 65536) (hhe : he ≤ 65536) (hI : ScI pn nn pf) : ∀ (d FU p n kA dA : Nat) (nmr frr enr se nm fr eN bx : Int32) (fc fd : Nat → Int32), lim - p < d → lim - p < FU → p ≤ lim → 8 * n ≤ p + 8 * c → FLG se true zA bA pA mA hA true kA dA → RatR B sz kA fc → RatR B sz dA fd → SRes B sz nr fw gf lim c o he FU p n zA bA pA mA hA kA dA ra nmr frr enr se ha td nm fr eN bx sF sC hi wi co un ri col has pk en cl pb nn nf ma li fc fd fb pn pf mf lf
  | 0, FU, p, n, kA, dA, nmr, frr, enr, se, nm, fr, eN, bx, fc, fd, hd, hf, hp, hn, hF, hK, hD => by omega
  | d + 1, 0, p, n, kA, dA, nmr, frr, enr, se, nm, fr, eN, bx, fc, fd, hd, hf, hp, hn, hF, hK, hD => by omega
  | d + 1, FU + 1, p, n, kA, dA, nmr, frr, enr, se, nm, fr, eN, bx, fc, fd, hd, hf, hp, hn, hF, hK, hD => by
    have h1 := hB.1
    have h2 := hB.2.1
    have n82 : n < 8200 := by omega
    have f1 : 8201 - n = (8201 - (n + 1)) + 1 := by omega
    have lm : m_Sc_limit 2 (nI he) (nI lim) (nI sz) = nI lim := rfl
    have l3 : ¬ (2 : Int32) = 3 := by decide
    unfold SRes
    by_cases x : p = lim
    · have k : nI lim ≤ nI p := by rw [q_le (by omega) (by omega)]; omega
      have k2 : ¬ nI p < nI lim := by rw [q_lt (by omega) (by omega)]; omega
      have k3 : (2 : Int32) ≤ nI o := by rw [show (2 : Int32) = nI 2 from rfl, q_le (by decide) (by omega)]; exact ho
      have r0 : lp_Mo_inResolution_15 ra (nI lim) gf (FU + 1) (nI p) nmr frr enr (nI kA) (nI dA) = (0, ra, nmr, frr, enr, nI kA, nI dA, 1) := by
        show lb_Mo_inResolution_15 ra (nI lim) gf (lp_Mo_inResolution_15 ra (nI lim) gf FU) (nI p) nmr frr enr (nI kA) (nI dA) = _
        unfold lb_Mo_inResolution_15
        rw [if_pos k]
      have o0 : olp_Mo_inResolution_15 (nI lim) gf (FU + 1) (nI p) nmr frr enr (nI kA) (nI dA) := by
        show olb_Mo_inResolution_15 (nI lim) gf (olp_Mo_inResolution_15 (nI lim) gf FU) (nI p) nmr frr enr (nI kA) (nI dA)
        unfold olb_Mo_inResolution_15
        rw [if_pos k]; trivial
      have lv : m_Sc_leave 2 se ha td bx sF co col has ma li 48 lf (nI sz) = (0, 1, bx) := rfl
      have cl := LP_leave (sz := sz) (nr := nr) (fw := fw) (8201 - (n + 1)) n82 (lv := 2) (aT := nI p) (se := se) (ou := nI o) (ha := ha) (hE := nI he) (rE := nI lim) (td := td) (nm := nm) (fr := fr) (eN := eN) (bx := bx) (sF := sF) (sC := sC) (hi := hi) (wi := wi) (co := co) (un := un) (ri := ri) (col := col) (has := has) (pk := pk) (en := en) (cl := cl) (pb := pb) (nn := nn) (nf := nf) (ma := ma) (li := li) (fc := fc) (fd := fd) (fb := fb) (pn := pn) (pf := pf) (mf := mf) (lf := lf) l3 lm k2 k3 lv
      rw [← f1] at cl
      refine ⟨o0, Or.inr ⟨nmr, frr, enr, kA, dA, n + 1, se, nm, fr, eN, bx, fc, fd, r0, ?_, by omega, hF, hK, hD⟩⟩
      rw [← x]
      rw [← x] at cl
      exact cl
    · have k : ¬ nI lim ≤ nI p := by rw [q_le (by omega) (by omega)]; omega
      have k2 : nI p < nI lim := by rw [q_lt (by omega) (by omega)]; omega
      obtain ⟨fo, fr8⟩ := s_frame hB (lv := 2) (top := 0) (hE := nI he) (rE := nI lim) hp hl lm (Or.inr ⟨by decide, rfl⟩)
      have r0 : lp_Mo_inResolution_15 ra (nI lim) gf (FU + 1) (nI p) nmr frr enr (nI kA) (nI dA) = k_Mo_inResolution_24 gf (lp_Mo_inResolution_15 ra (nI lim) gf FU) (nI p) (nI kA) (nI dA) (m_Mo_frame nmr frr enr gf (nI p) (nI lim) 0) := by
        show lb_Mo_inResolution_15 ra (nI lim) gf (lp_Mo_inResolution_15 ra (nI lim) gf FU) (nI p) nmr frr enr (nI kA) (nI dA) = _
        unfold lb_Mo_inResolution_15
        rw [if_neg k]
      have o0 : ok_Mo_inResolution_24 gf (olp_Mo_inResolution_15 (nI lim) gf FU) (nI kA) (nI dA) (m_Mo_frame nmr frr enr gf (nI p) (nI lim) 0) → olp_Mo_inResolution_15 (nI lim) gf (FU + 1) (nI p) nmr frr enr (nI kA) (nI dA) := fun w => by
        show olb_Mo_inResolution_15 (nI lim) gf (olp_Mo_inResolution_15 (nI lim) gf FU) (nI p) nmr frr enr (nI kA) (nI dA)
        unfold olb_Mo_inResolution_15
        rw [if_neg k]; exact ⟨fo, w⟩
      have st : ∀ {r2 : Int32} {lv2 : Int32} {aT2 : Int32} {se2 : Int32} {ou2 : Int32} {ha2 : Int32} {hE2 : Int32} {rE2 : Int32} {td2 : Int32} {nm2 : Int32} {fr2 : Int32} {eN2 : Int32} {bx2 : Int32} {sF2 : Int32} {sC2 : Int32} {hi2 : Int32} {wi2 : Int32} {co2 : Int32} {un2 : Int32} {ri2 : Int32} {col2 : Int32} {has2 : Int32} {pk2 : Int32} {en2 : Int32} {cl2 : Int32} {pb2 : Nat → Int32} {nn2 : Nat} {nf2 : Nat → Int64} {ma2 : Int32} {li2 : Int32} {fc2 : Nat → Int32} {fd2 : Nat → Int32} {fb2 : Nat → Int32} {pn2 : Nat} {pf2 : Nat → Int32} {mf2 : Nat → Int32} {lf2 : Nat → Int32}, m_Sc_readBox 2 (nI p) se (nI o) ha (nI he) (nI lim) td nm fr eN sF sC (nI sz) nr fw hi wi co un ri col has en cl 8 pb nn nf 16 fb 1024 pk pn pf ma 48 mf li 48 lf 6 fd 6 fc = (r2, lv2, aT2, se2, ou2, ha2, hE2, rE2, td2, nm2, fr2, eN2, bx2, sF2, sC2, hi2, wi2, co2, un2, ri2, col2, has2, en2, cl2, pb2, nn2, nf2, fb2, pk2, pn2, pf2, ma2, mf2, li2, lf2, fd2, fc2) → lp_Sc_readFile_41 1024 8 6 6 (nI sz) nr fw 16 48 48 (8201 - n) (nI n) 0 2 (nI p) se (nI o) ha (nI he) (nI lim) td nm fr eN bx sF sC hi wi co un ri col has pk en cl pb nn nf ma li fc fd fb pn pf mf lf = lp_Sc_readFile_41 1024 8 6 6 (nI sz) nr fw 16 48 48 (8201 - (n + 1)) (nI (n + 1)) r2 lv2 aT2 se2 ou2 ha2 hE2 rE2 td2 nm2 fr2 eN2 bx2 sF2 sC2 hi2 wi2 co2 un2 ri2 col2 has2 pk2 en2 cl2 pb2 nn2 nf2 ma2 li2 fc2 fd2 fb2 pn2 pf2 mf2 lf2 := fun hb => by
        have cl := LP_box (sz := sz) (nr := nr) (fw := fw) (bx := bx) (8201 - (n + 1)) n82 l3 lm (Or.inl k2) hb
        rw [← f1] at cl
        exact cl
      rcases fr8 nmr frr enr nm fr eN with ⟨c0, a1, a2, a3, b1, b2, b3, q1, q2, q3⟩ | ⟨nm3, f, e, q1, q2, q3, q4, q5⟩
      · have c00 : ¬ c0 = 0 := by rcases q1 with rfl | rfl <;> decide
        have c01 : ¬ c0 ≤ 0 := by rcases q1 with rfl | rfl <;> decide
        have t := x_r24c gf (lp_Mo_inResolution_15 ra (nI lim) gf FU) (olp_Mo_inResolution_15 (nI lim) gf FU) (nI p) (nI kA) (nI dA) a1 a2 a3 q1
        rw [q2] at r0 o0
        refine ⟨o0 t.2, Or.inl ⟨c0, nI p, a1, a2, a3, nI kA, nI dA, r0.trans t.1, c01, ?_⟩⟩
        rw [st (RB_cut c00 q3), show 8201 - (n + 1) = (8200 - (n + 1)) + 1 by omega, LP_end _ _ _ c00]
        exact ⟨_, _, _, _, _, _, _, _, _, _, _, _, _, _, _, _, _, _, _, _, _, _, _, _, _, _, _, _, _, _, _, _, _, he, lim, rfl, hhe, by omega, hI⟩
      · obtain ⟨r, se2, fd2, fc2, kA2, dA2, w1, w2, w3, w4, w5⟩ := x_rbox hB (f := f) (e := e) q2 (by omega) (lp_Mo_inResolution_15 ra (nI lim) gf FU) (olp_Mo_inResolution_15 (nI lim) gf FU) (nI p) kA dA hK.1 hD.1 nm3 se hF.w128 hF.w256 fd fc
        rw [q4] at r0 o0
        have cb := st (RB_res q5 w1)
        by_cases z : r = 0
        · subst z
          rw [if_pos rfl] at w2
          have ih : SRes B sz nr fw gf lim c o he FU e (n + 1) zA bA pA mA hA kA2 dA2 ra nm3 (nI f) (nI e) se2 ha td nm3 (nI f) (nI e) (nI p) sF sC hi wi co un ri col has pk en cl pb nn nf ma li fc2 fd2 fb pn pf mf lf := by
            refine sim_res hB hl hc ho ho2 hhe hI d FU e (n + 1) kA2 dA2 nm3 (nI f) (nI e) se2 nm3 (nI f) (nI e) (nI p) fc2 fd2 (by omega) (by omega) q3 (by omega) ?_ ?_ ?_
            · rcases w5 rfl with ⟨g1, g2, g3, g4, g5, g6, g7⟩ | ⟨g1, g2, g3, g4, g5, g6, g7⟩ | ⟨g1, g2, g3, g4, g5⟩
              · rw [g2, g3, g4]; exact hF.s128 (by omega)
              · rw [g2, g3, g4]; exact hF.s256 (by omega)
              · rw [g1, g2, g3]; exact hF
            · rcases w5 rfl with ⟨g1, g2, g3, g4, g5, g6, g7⟩ | ⟨g1, g2, g3, g4, g5, g6, g7⟩ | ⟨g1, g2, g3, g4, g5⟩
              · rw [g2]; exact ⟨by omega, fun y => by omega, fun _ => ⟨by omega, g7⟩⟩
              · rw [g3, g5]; exact hK
              · rw [g1, g5]; exact hK
            · rcases w5 rfl with ⟨g1, g2, g3, g4, g5, g6, g7⟩ | ⟨g1, g2, g3, g4, g5, g6, g7⟩ | ⟨g1, g2, g3, g4, g5⟩
              · rw [g3, g5]; exact hD
              · rw [g2]; exact ⟨by omega, fun y => by omega, fun _ => ⟨by omega, g7⟩⟩
              · rw [g2, g4]; exact hD
          unfold SRes at ih
          obtain ⟨i1, i2⟩ := ih
          refine ⟨o0 (w3 (fun _ => i1)), ?_⟩
          rw [r0, w2, cb]
          exact i2
        · have z2 : ¬ r ≤ 0 := fun y => z (Int32.le_antisymm y w4)
          rw [if_neg z] at w2
          refine ⟨o0 (w3 (fun y => absurd y z)), Or.inl ⟨r, nI p, nm3, nI f, nI e, nI kA, nI dA, r0.trans w2, z2, ?_⟩⟩
          rw [cb, show 8201 - (n + 1) = (8200 - (n + 1)) + 1 by omega, LP_end _ _ _ z]
          exact ⟨_, _, _, _, _, _, _, _, _, _, _, _, _, _, _, _, _, _, _, _, _, _, _, _, _, _, _, _, _, _, _, _, _, he, lim, rfl, hhe, by omega, hI⟩
