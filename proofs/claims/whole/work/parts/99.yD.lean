set_option maxHeartbeats 2000000 in
theorem p_scan : PScan := by
  intro sz nr nn2 pn2 he re co en cl ma li fw gf pb2 fc2 fd2 fb2 pf2 mf2 lf2 rs gb cb mg lg pg nf2 ng a1 a2 a3 a4 a5 a6 hi wi un ri col pr sa sm b1 b2 b3 b4 b5 hF hI hhe
  obtain ⟨B, hB⟩ : ∃ B, HB sz nr fw gf B := ⟨_, HB_of hF⟩
  have h1 := hB.1
  have h2 := hB.2.1
  obtain ⟨nE, nfE, pe1, pe2, pe3⟩ := q_plempty hI.2.2.2.1 hI.2.2.2.2 pb2 nf2 fc2 fd2
  obtain ⟨pbE, hpbE⟩ : ∃ g : Nat → Int32, g = fun k => if k < 8 then 7 else pb2 k := ⟨_, rfl⟩
  obtain ⟨fcE, hfcE⟩ : ∃ g : Nat → Int32, g = fun k => if k < 6 then 0 else fc2 k := ⟨_, rfl⟩
  obtain ⟨fdE, hfdE⟩ : ∃ g : Nat → Int32, g = fun k => if k < 6 then 0 else fd2 k := ⟨_, rfl⟩
  rw [← hpbE, ← hfcE, ← hfdE] at pe1
  have fuel : ((8200 : Int32).toInt - (0 : Int32).toInt).toNat + 1 = 8201 - 0 := by decide
  have C0 : m_FB_scan a1 (nI he) (nI re) a2 a3 a4 a5 a6 1024 8 pb2 nn2 nf2 6 fc2 6 fd2 (nI sz) nr fw 16 fb2 pn2 pf2 48 mf2 48 lf2 = k_FB_scan_4 (lp_Sc_readFile_41 1024 8 6 6 (nI sz) nr fw 16 48 48 (8201 - 0) (nI 0) 0 0 (nI 0) 0 (nI 0) a1 (nI he) (nI re) a2 a3 a4 a5 a6 (-1) 0 0 0 0 0 0 0 0 (nI 0) (nI 0) (nI 0) pbE nE nfE (nI 0) (nI 0) fcE fdE fb2 pn2 pf2 mf2 lf2) := by
    unfold m_FB_scan m_Sc_readFile k_Sc_readFile_4
    rw [pe1, fuel]
    rfl
  have W0 : m_Mo_walk (nI sz) (-1) sa sm b1 b2 b3 b4 b5 gf = lp_Mo_walk_13 (nI sz) gf 70000 (bif false then 1 else 0) (bif false then 1 else 0) (nI 0) (nI 0) (-1) sa sm b1 b2 b3 (nI 0) (nI 0) (nI 0) b4 (nI 0) (nI 0) b5 (nI 0) (nI 0) (nI 0) (bif false then 1 else 0) := rfl
  have sT := sim_top hB (ra := -1) (sz + 1) 70000 0 0 0 0 0 0 0 0 0 0 0 0 he re b4 b5 sa sm b1 b2 b3 0 a1 a2 a3 a4 a5 a6 (-1) 0 false false false 0 0 0 0 0 0 0 (nI 0) (nI 0) (nI 0) pbE nE nfE (nI 0) (nI 0) fcE fdE fb2 pn2 pf2 mf2 lf2 (by omega) (by omega) (by omega) (by omega) (by omega) (by omega) ?_ ?_ ?_ ?_ ⟨hI.1, hI.2.1, hI.2.2.1, pe2, pe3⟩ hhe.1 hhe.2 (fun _ => ⟨rfl, rfl, rfl, rfl, rfl, rfl⟩) (fun w => by cases w) (Or.inl ⟨rfl, by decide⟩)
  · unfold STop at sT
    obtain ⟨s1, s2⟩ := sT
    rcases s2 with ⟨r, place, x1, x2, t, v1, v2, v3⟩ | ⟨nm3, fr3, en5, zA3, bA3, cA3, pA3, mA3, hA3, kA3, dA3, he3, re3, cE3, mE3, at3, se3, ou3, ha3, td3, nm4, fr4, en4, bx4, sA3, sM3, rv3, hi3, wi3, co3, un3, ri3, col3, has3, pk3, en3, cl3, pb3, nn3, nf3, ma3, li3, fc3, fd3, fb3, pn3, pf3, mf3, lf3, v1, v2, v3, v4, v5, v6, v7, v8, v9, v10, v11⟩
    · obtain ⟨u1, u2, u3, u4, u5, u6, u7, u8, u9, u10, u11, u12, u13, u14, u15, u16⟩ := t
      obtain ⟨lv9, aT9, se9, ou9, ha9, td9, nm9, fr9, eN9, sF9, sC9, hi9, wi9, co9, un9, ri9, col9, has9, pk9, en9, cl9, pb9, nn9, nf9, ma9, li9, fc9, fd9, fb9, pn9, pf9, mf9, lf9, he9, re9, w1, w2, w3, w4⟩ := v3
      have r0 : ¬ r = 0 := fun q => v2 (by rw [q]; decide)
      have W1 := W0.trans v1
      refine ⟨?_, r, 0, place, lv9, aT9, se9, ou9, ha9, td9, nm9, fr9, eN9, place, sF9, sC9, hi9, wi9, co9, un9, ri9, col9, has9, pk9, en9, cl9, ma9, li9, he9, re9, nn9, pn9, pb9, fc9, fd9, fb9, pf9, mf9, lf9, nf9, u3, u4, u5, u6, u7, u8, u9, u10, u11, u12, u13, u14, u15, u16, ?_, ?_, ⟨w2, w3⟩, fun _ => ⟨rfl, u1, u2, ?_⟩, fun q => absurd q r0⟩
      · unfold om_Mo_scan om_Mo_walk ok_Mo_scan_16
        rw [W1]
        dsimp only
        rw [if_neg r0]
        exact ⟨⟨trivial, s1⟩, trivial⟩
      · rw [C0, w1]
        unfold k_FB_scan_4
        dsimp only
        rw [if_neg r0]
      · exact w4
      · unfold m_Mo_scan
        rw [W1]
        unfold k_Mo_scan_16
        dsimp only
        rw [if_neg r0]
    · have W1 := W0.trans v1
      obtain ⟨h6, hz0, hz, hc0, hc, hp0, hp, hm0, hm, hh0, hh⟩ := v3
      obtain ⟨⟨z1, z2, z3, z4, z5, z6, z7, z8, z9, z10, z11⟩, bt⟩ := hz v9
      obtain ⟨ce, e1, e2, e3⟩ := hc v10
      have hpn : pn3 ≤ 1024 := v6.2.1
      have hC : (B cA3 = 1 ∧ cA3 + 7 ≤ sz) ∨ (B cA3 = 2 ∧ cE3 = nI ce ∧ cA3 + 4 ≤ ce ∧ ce ≤ sz ∧ ce - cA3 - 3 ≤ 1024) := by
        rcases e3 with ⟨y1, y2, y3⟩ | ⟨y1, y2, y3, y4, y5, y6, y7⟩
        · exact Or.inl ⟨y1, by omega⟩
        · exact Or.inr ⟨y1, e1, y2, e2, by omega⟩
      obtain ⟨dd, hP, hQ⟩ : ∃ dd : Nat, (pA3 ≠ 0 → MkH B sz pA3 mA3 dd ∧ mE3 = nI (mA3 + 4 * dd)) ∧ (pA3 ≠ 0 → dd ≤ 16 ∧ ma3 = nI dd ∧ LnM B mA3 dd 0 mf3 ∧ ∀ k, k < dd → ¬ okl B (UB B (zA3 + 8) 2) (B (pA3 + 2)) (mA3 + 4 * k) = 0) := by
        by_cases y : pA3 = 0
        · exact ⟨0, fun q => absurd y q, fun q => absurd y q⟩
        · obtain ⟨pe, y1, y2⟩ := hp y
          obtain ⟨p1, p2, p3, p4, p5, p6, p7, p8, p9, p10⟩ := y2
          obtain ⟨m1, d, m2, m3, m4, m5, m6, m7, m8⟩ := hm (v11 y)
          have h4 := v6.2.2.2.2
          exact ⟨d, fun _ => ⟨⟨⟨p1, p2⟩, ⟨p3, p4⟩, by omega, fun t ht => (p9 t ht).2, by omega, m3, m5⟩, m2⟩, fun _ => ⟨m5, m6, m7, m8⟩⟩
      obtain ⟨n, lg2, rs2, en2, cl2, ma2, cb2, ng2, mg2, gb2, pg2, col2, pr2, k1, k2, k3, k4, k5, k6, k7, k8, k9⟩ := x_make hB (ce := ce) (dd := dd) z1 z9 h6.2.1 (fun q => (bt.2 q).1) h6.2.2.1 hC h6.2.2.2.2.2 (fun q => ⟨(hh q).1, (hh q).2.1⟩) (fun q => (v4.2.2 q).1) (fun q => (v5.2.2 q).1) h6.2.2.2.1 hP rs gb cb mg lg pg ng
      have gB := g_IB z9 z2 bt k3
      obtain ⟨l1, gL⟩ := g_IL hh0 hh k6 k7
      have gR := g_IR hB.2.2.1 v4 v5 k8
      have gP : ∃ pk : Nat, pk3 = nI pk ∧ col2 = col3 ∧ IP has3 col3 pk pn3 pf3 pr2 pg2 := by
        rcases e3 with ⟨y1, y2, y3, y4, y5, y6, y7⟩ | ⟨y1, y2, y3, y4, y5, y6, y7⟩
        · obtain ⟨q1, q2⟩ := k4 y1
          refine ⟨0, y7, by rw [q1, y3], by omega, v6.1, v6.2.1, v6.2.2.1, ?_, Or.inl ⟨y6, rfl, q2⟩⟩
          rw [y3, q_0l (by omega)]; trivial
        · obtain ⟨q1, q2, q3⟩ := k5 y1
          refine ⟨ce - cA3 - 3, y5, by rw [q1, y3], y6, v6.1, v6.2.1, v6.2.2.1, by rw [y3]; decide, Or.inr ⟨y4, y3, q2, fun k hk => ?_⟩⟩
          rw [y7 k hk, q3 k hk]
      obtain ⟨pk, l2, l3, gP⟩ := gP
      have gQ : ∃ e c m : Nat, en3 = nI e ∧ cl3 = nI c ∧ ma3 = nI m ∧ en2 = nI e ∧ cl2 = nI c ∧ ma2 = nI m ∧ IQ e c pb3 nn3 nf3 cb2 ng2 ∧ IM e c m mf3 mg2 := by
        by_cases y : pA3 = 0
        · obtain ⟨q1, q2⟩ := hp0 y
          obtain ⟨q3, q4, q5⟩ := k9.1 y
          have my : mA3 = 0 := Classical.byContradiction (fun q => (hm q).1 y)
          exact ⟨0, 0, 0, q1, q2, hm0 my, q3, q4, q5, ⟨by omega, by omega, Iff.rfl, by omega, v6.2.2.2.1, v6.2.2.2.2, fun k hk => by omega, fun k hk => by omega⟩, IM0 _ _⟩
        · obtain ⟨q1, q2, q3, q4, q5, q6⟩ := k9.2 y
          obtain ⟨o1, o2, o3, o4⟩ := hQ y
          obtain ⟨pe, y1, y2⟩ := hp y
          have y3 := y2
          obtain ⟨p1, p2, p3, p4, p5, p6, p7⟩ := y3
          exact ⟨UB B pA3 2, B (pA3 + 2), dd, p5, p6, o2, q1, q2, q3, g_IQ hB.2.2.1 v6.2.2.2 y2 q4 q5, g_IM hB.2.2.1 (by omega) o1 o3 q6 o4⟩
      obtain ⟨eN, cN, mN, o1, o2, o3, o4, o5, o6, gQ, gM⟩ := gQ
      have un1 : un3 = 0 ∨ un3 = 1 := by
        have y : B (zA3 + 12) = 0 ∨ B (zA3 + 12) = 1 := by omega
        rcases y with y | y
        · left; rw [z6, y]; rfl
        · right; rw [z6, y]; rfl
      have ri1 : ri3 = 0 ∨ ri3 = 1 := by
        have y : B (zA3 + 13) = 0 ∨ B (zA3 + 13) = 1 := by omega
        rcases y with y | y
        · left; rw [z7, y]; rfl
        · right; rw [z7, y]; rfl
      refine ⟨?_, 0, 1, -1, 3, at3, se3, ou3, ha3, td3, nm4, fr4, en4, bx4, sA3, sM3, hi3, wi3, co3, un3, ri3, col3, has3, pk3, en3, cl3, ma3, li3, he3, re3, nn3, pn3, pb3, fc3, fd3, fb3, pf3, mf3, lf3, nf3, nm3, fr3, en5, nI zA3, nI bA3, nI cA3, cE3, nI pA3, nI mA3, mE3, nI hA3, nI kA3, nI dA3, (bif rv3 then 1 else 0), ?_, v6, ⟨v7, v8⟩, fun q => absurd rfl q, fun _ => ⟨rfl, UB B (zA3 + 8) 2, pk, eN, cN, mN, n, pr2, rs2, gb2, cb2, mg2, lg2, pg2, ng2, z5, l2, o1, o2, o3, l1, ?_, gB, gP, gQ, gM, gL, gR, un1, ri1⟩⟩
      · unfold om_Mo_scan om_Mo_walk ok_Mo_scan_16
        rw [W1]
        dsimp only
        rw [if_pos rfl]
        exact ⟨⟨trivial, s1⟩, k2, trivial⟩
      · rw [C0, v2]
        rfl
      · unfold m_Mo_scan
        rw [W1]
        unfold k_Mo_scan_16
        dsimp only
        rw [if_pos rfl, k1]
        unfold k_Mo_scan_30
        dsimp only
        rw [z3, z4, z6, z7, l3, o4, o5, o6]
  · exact ⟨⟨by omega, by omega, by omega, by omega, by omega, by omega⟩, fun _ => ⟨rfl, rfl, rfl, rfl, rfl⟩, fun q => absurd rfl q, fun _ => ⟨rfl, rfl, rfl⟩, fun q => absurd rfl q, fun _ => ⟨rfl, rfl⟩, fun q => absurd rfl q, fun _ => rfl, fun q => absurd rfl q, fun _ => rfl, fun q => absurd rfl q⟩
  · unfold FLG; rfl
  · exact ⟨by omega, fun _ k hk => by rw [hfcE]; exact if_pos hk, fun q => absurd rfl q⟩
  · exact ⟨by omega, fun _ k hk => by rw [hfdE]; exact if_pos hk, fun q => absurd rfl q⟩
