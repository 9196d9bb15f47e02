set_option maxHeartbeats 1000000 in
theorem y_SIZE {sz nr : Nat} {fw gf : Nat → Int32} {B : Nat → Nat} (hB : HB sz nr fw gf B) {f e zA bA cA pA mA hA kA dA : Nat} {cE mE : Int32} {rv : Bool} {se rE td : Int32} {hi wi co un ri col has en cl : Int32} {pb : Nat → Int32} {nn : Nat} {nf : Nat → Int64} {fb : Nat → Int32} {pk : Int32} {pn : Nat} {pf : Nat → Int32} {ma : Int32} {mf : Nat → Int32} {li : Int32} {lf : Nat → Int32} (hfe : f ≤ e) (he : e ≤ sz) (hf8 : 8 ≤ f) (hR : RELH B sz zA bA cA pA mA hA cE mE td hi wi co un ri col has en cl pb nn nf fb pk pn pf ma mf li lf) (hF : FLG se true zA bA pA mA hA rv kA dA) (hI : ScI pn nn pf) (hzz : zA = 0) : YH sz nr fw gf B f e 1768449138 zA bA cA pA mA hA kA dA cE mE rv se rE td hi wi co un ri col has en cl pb nn nf fb pk pn pf ma mf li lf := by
  have h1 := hB.1
  have h2 := hB.2.1
  obtain ⟨h6, hz0, hz, hc0, hc, hp0, hp, hm0, hm, hh0, hh⟩ := hR
  obtain ⟨hb, hcc, hpp, hmm, hhh⟩ := hz0 hzz
  have hw := hF.w2
  rw [if_pos hzz] at hw
  obtain ⟨r, se2, td2, hi2, wi2, co2, un2, ri2, fb2, i1, i2, i3, i4⟩ := x_size hB hfe he se td hi wi co un ri (nI zA) (nI cA) (nI pA) fb
  have w := wr_S1 (nI zA) (nI pA) gf
  have t := tw_SIZE (nI bA) (nI pA) (nI mA) (nI hA) (bif rv then 1 else 0)
  have dd := d_SIZE (rE := rE) (col := col) (has := has) (en := en) (cl := cl) (pb := pb) (nn := nn) (nf := nf) (pk := pk) (pn := pn) (pf := pf) (ma := ma) (mf := mf) (li := li) (lf := lf) hw i1
  unfold YH
  rw [if_pos hzz]
  refine ⟨⟨w.2, fun _ => ⟨i3.1, fun q => ⟨t.2, fun _ => i3.2 q⟩⟩⟩, r, _, _, _, _, _, _, _, _, _, _, _, _, _, _, _, _, _, _, _, _, _, _, _, _, _, dd, ?_, hI, Or.inl rfl, fun hr => ?_⟩
  · rw [w.1, t.1]; exact i2
  · obtain ⟨k1, k2, k3, k4, k5, k6, k7, k8, k9, k10, k11, k12, k13⟩ := i4 hr
    have nt := nt_SIZE (nI f) (nI e) (nI zA) (nI bA) (nI cA) cE (nI pA) (nI mA) mE (nI hA) gf
    refine ⟨f, bA, cA, pA, mA, hA, cE, mE, nt.1, nt.2, by omega, ⟨⟨by omega, h6.2⟩, fun q => by omega, fun _ => ⟨⟨by omega, k3, k4, k5, k6, k7, k8, k10, k11, k12, k13⟩, fun _ k hk => by rw [k9 k hk, k3], fun q => absurd hb q⟩, hc0, hc, hp0, hp, hm0, fun q => absurd hmm q, hh0, hh⟩, Or.inl ⟨by decide, rfl, rfl, rfl, ?_⟩⟩
    rw [k2]
    exact hF.s2 (by omega)
theorem y_WF {sz nr : Nat} {fw gf : Nat → Int32} {B : Nat → Nat} (hB : HB sz nr fw gf B) {f e zA bA cA pA mA hA kA dA : Nat} {cE mE : Int32} {rv : Bool} {se rE td : Int32} {hi wi co un ri col has en cl : Int32} {pb : Nat → Int32} {nn : Nat} {nf : Nat → Int64} {fb : Nat → Int32} {pk : Int32} {pn : Nat} {pf : Nat → Int32} {ma : Int32} {mf : Nat → Int32} {li : Int32} {lf : Nat → Int32} (hfe : f ≤ e) (he : e ≤ sz) (hf8 : 8 ≤ f) (hR : RELH B sz zA bA cA pA mA hA cE mE td hi wi co un ri col has en cl pb nn nf fb pk pn pf ma mf li lf) (hF : FLG se true zA bA pA mA hA rv kA dA) (hI : ScI pn nn pf) {nm : Int32} (hn : (nm = 1768449138) = False) (hzz : zA = 0) : YH sz nr fw gf B f e nm zA bA cA pA mA hA kA dA cE mE rv se rE td hi wi co un ri col has en cl pb nn nf fb pk pn pf ma mf li lf := by
  have hw := hF.w2
  rw [if_pos hzz] at hw
  have w := wr_F hn (nI zA) (nI pA) gf
  have z1 : ¬ (1 : Int32) = 0 := by decide
  unfold YH
  rw [if_pos hzz]
  refine ⟨⟨w.2, fun q => absurd (w.1.symm.trans q) z1⟩, 2, _, _, _, _, _, _, _, _, _, _, _, _, _, _, _, _, _, _, _, _, _, _, _, _, _, d_WF hn hw, ?_, hI, Or.inl rfl, fun q => absurd q (by decide)⟩
  rw [w.1]; rfl
theorem y_WS {sz nr : Nat} {fw gf : Nat → Int32} {B : Nat → Nat} (hB : HB sz nr fw gf B) {f e zA bA cA pA mA hA kA dA : Nat} {cE mE : Int32} {rv : Bool} {se rE td : Int32} {hi wi co un ri col has en cl : Int32} {pb : Nat → Int32} {nn : Nat} {nf : Nat → Int64} {fb : Nat → Int32} {pk : Int32} {pn : Nat} {pf : Nat → Int32} {ma : Int32} {mf : Nat → Int32} {li : Int32} {lf : Nat → Int32} (hfe : f ≤ e) (he : e ≤ sz) (hf8 : 8 ≤ f) (hR : RELH B sz zA bA cA pA mA hA cE mE td hi wi co un ri col has en cl pb nn nf fb pk pn pf ma mf li lf) (hF : FLG se true zA bA pA mA hA rv kA dA) (hI : ScI pn nn pf) (hzz : zA ≠ 0) : YH sz nr fw gf B f e 1768449138 zA bA cA pA mA hA kA dA cE mE rv se rE td hi wi co un ri col has en cl pb nn nf fb pk pn pf ma mf li lf := by
  have hw := hF.w2
  rw [if_neg hzz] at hw
  have w := wr_S0 (nI zA) (nI pA) gf
  have z1 : ¬ (1 : Int32) = 0 := by decide
  unfold YH
  rw [if_neg hzz]
  refine ⟨⟨w.2, fun q => absurd (w.1.symm.trans q) z1⟩, 2, _, _, _, _, _, _, _, _, _, _, _, _, _, _, _, _, _, _, _, _, _, _, _, _, _, d_WS hw, ?_, hI, Or.inl rfl, fun q => absurd q (by decide)⟩
  rw [w.1]; rfl
theorem y_SIGN {sz nr : Nat} {fw gf : Nat → Int32} {B : Nat → Nat} (hB : HB sz nr fw gf B) {f e zA bA cA pA mA hA kA dA : Nat} {cE mE : Int32} {rv : Bool} {se rE td : Int32} {hi wi co un ri col has en cl : Int32} {pb : Nat → Int32} {nn : Nat} {nf : Nat → Int64} {fb : Nat → Int32} {pk : Int32} {pn : Nat} {pf : Nat → Int32} {ma : Int32} {mf : Nat → Int32} {li : Int32} {lf : Nat → Int32} (hfe : f ≤ e) (he : e ≤ sz) (hf8 : 8 ≤ f) (hR : RELH B sz zA bA cA pA mA hA cE mE td hi wi co un ri col has en cl pb nn nf fb pk pn pf ma mf li lf) (hF : FLG se true zA bA pA mA hA rv kA dA) (hI : ScI pn nn pf) (hzz : zA ≠ 0) : YH sz nr fw gf B f e 1783636000 zA bA cA pA mA hA kA dA cE mE rv se rE td hi wi co un ri col has en cl pb nn nf fb pk pn pf ma mf li lf := by
  have hw := hF.w2
  rw [if_neg hzz] at hw
  have w := wr_T (nm := 1783636000) (eq_false (by decide)) (by decide) (nI zA) (nI pA) gf
  have z1 : ¬ (1 : Int32) = 0 := by decide
  unfold YH
  rw [if_neg hzz]
  refine ⟨⟨w.2, fun q => absurd (w.1.symm.trans q) z1⟩, 2, _, _, _, _, _, _, _, _, _, _, _, _, _, _, _, _, _, _, _, _, _, _, _, _, _, d_SIGN hw, ?_, hI, Or.inl rfl, fun q => absurd q (by decide)⟩
  rw [w.1]; rfl
theorem y_KIND {sz nr : Nat} {fw gf : Nat → Int32} {B : Nat → Nat} (hB : HB sz nr fw gf B) {f e zA bA cA pA mA hA kA dA : Nat} {cE mE : Int32} {rv : Bool} {se rE td : Int32} {hi wi co un ri col has en cl : Int32} {pb : Nat → Int32} {nn : Nat} {nf : Nat → Int64} {fb : Nat → Int32} {pk : Int32} {pn : Nat} {pf : Nat → Int32} {ma : Int32} {mf : Nat → Int32} {li : Int32} {lf : Nat → Int32} (hfe : f ≤ e) (he : e ≤ sz) (hf8 : 8 ≤ f) (hR : RELH B sz zA bA cA pA mA hA cE mE td hi wi co un ri col has en cl pb nn nf fb pk pn pf ma mf li lf) (hF : FLG se true zA bA pA mA hA rv kA dA) (hI : ScI pn nn pf) (hzz : zA ≠ 0) : YH sz nr fw gf B f e 1718909296 zA bA cA pA mA hA kA dA cE mE rv se rE td hi wi co un ri col has en cl pb nn nf fb pk pn pf ma mf li lf := by
  have hw := hF.w2
  rw [if_neg hzz] at hw
  have w := wr_T (nm := 1718909296) (eq_false (by decide)) (by decide) (nI zA) (nI pA) gf
  have z1 : ¬ (1 : Int32) = 0 := by decide
  unfold YH
  rw [if_neg hzz]
  refine ⟨⟨w.2, fun q => absurd (w.1.symm.trans q) z1⟩, 2, _, _, _, _, _, _, _, _, _, _, _, _, _, _, _, _, _, _, _, _, _, _, _, _, _, d_KIND hw, ?_, hI, Or.inl rfl, fun q => absurd q (by decide)⟩
  rw [w.1]; rfl
theorem y_HEAD {sz nr : Nat} {fw gf : Nat → Int32} {B : Nat → Nat} (hB : HB sz nr fw gf B) {f e zA bA cA pA mA hA kA dA : Nat} {cE mE : Int32} {rv : Bool} {se rE td : Int32} {hi wi co un ri col has en cl : Int32} {pb : Nat → Int32} {nn : Nat} {nf : Nat → Int64} {fb : Nat → Int32} {pk : Int32} {pn : Nat} {pf : Nat → Int32} {ma : Int32} {mf : Nat → Int32} {li : Int32} {lf : Nat → Int32} (hfe : f ≤ e) (he : e ≤ sz) (hf8 : 8 ≤ f) (hR : RELH B sz zA bA cA pA mA hA cE mE td hi wi co un ri col has en cl pb nn nf fb pk pn pf ma mf li lf) (hF : FLG se true zA bA pA mA hA rv kA dA) (hI : ScI pn nn pf) (hzz : zA ≠ 0) : YH sz nr fw gf B f e 1785737832 zA bA cA pA mA hA kA dA cE mE rv se rE td hi wi co un ri col has en cl pb nn nf fb pk pn pf ma mf li lf := by
  have hw := hF.w2
  rw [if_neg hzz] at hw
  have w := wr_T (nm := 1785737832) (eq_false (by decide)) (by decide) (nI zA) (nI pA) gf
  have z1 : ¬ (1 : Int32) = 0 := by decide
  unfold YH
  rw [if_neg hzz]
  refine ⟨⟨w.2, fun q => absurd (w.1.symm.trans q) z1⟩, 2, _, _, _, _, _, _, _, _, _, _, _, _, _, _, _, _, _, _, _, _, _, _, _, _, _, d_HEAD hw, ?_, hI, Or.inl rfl, fun q => absurd q (by decide)⟩
  rw [w.1]; rfl
theorem y_STREAM {sz nr : Nat} {fw gf : Nat → Int32} {B : Nat → Nat} (hB : HB sz nr fw gf B) {f e zA bA cA pA mA hA kA dA : Nat} {cE mE : Int32} {rv : Bool} {se rE td : Int32} {hi wi co un ri col has en cl : Int32} {pb : Nat → Int32} {nn : Nat} {nf : Nat → Int64} {fb : Nat → Int32} {pk : Int32} {pn : Nat} {pf : Nat → Int32} {ma : Int32} {mf : Nat → Int32} {li : Int32} {lf : Nat → Int32} (hfe : f ≤ e) (he : e ≤ sz) (hf8 : 8 ≤ f) (hR : RELH B sz zA bA cA pA mA hA cE mE td hi wi co un ri col has en cl pb nn nf fb pk pn pf ma mf li lf) (hF : FLG se true zA bA pA mA hA rv kA dA) (hI : ScI pn nn pf) (hzz : zA ≠ 0) : YH sz nr fw gf B f e 1785737827 zA bA cA pA mA hA kA dA cE mE rv se rE td hi wi co un ri col has en cl pb nn nf fb pk pn pf ma mf li lf := by
  have hw := hF.w2
  rw [if_neg hzz] at hw
  have w := wr_T (nm := 1785737827) (eq_false (by decide)) (by decide) (nI zA) (nI pA) gf
  have z1 : ¬ (1 : Int32) = 0 := by decide
  unfold YH
  rw [if_neg hzz]
  refine ⟨⟨w.2, fun q => absurd (w.1.symm.trans q) z1⟩, 2, _, _, _, _, _, _, _, _, _, _, _, _, _, _, _, _, _, _, _, _, _, _, _, _, _, d_STREAM hw, ?_, hI, Or.inl rfl, fun q => absurd q (by decide)⟩
  rw [w.1]; rfl
set_option maxHeartbeats 1000000 in
theorem y_BITS {sz nr : Nat} {fw gf : Nat → Int32} {B : Nat → Nat} (hB : HB sz nr fw gf B) {f e zA bA cA pA mA hA kA dA : Nat} {cE mE : Int32} {rv : Bool} {se rE td : Int32} {hi wi co un ri col has en cl : Int32} {pb : Nat → Int32} {nn : Nat} {nf : Nat → Int64} {fb : Nat → Int32} {pk : Int32} {pn : Nat} {pf : Nat → Int32} {ma : Int32} {mf : Nat → Int32} {li : Int32} {lf : Nat → Int32} (hfe : f ≤ e) (he : e ≤ sz) (hf8 : 8 ≤ f) (hR : RELH B sz zA bA cA pA mA hA cE mE td hi wi co un ri col has en cl pb nn nf fb pk pn pf ma mf li lf) (hF : FLG se true zA bA pA mA hA rv kA dA) (hI : ScI pn nn pf) (hzz : zA ≠ 0) : YH sz nr fw gf B f e 1651532643 zA bA cA pA mA hA kA dA cE mE rv se rE td hi wi co un ri col has en cl pb nn nf fb pk pn pf ma mf li lf := by
  have h1 := hB.1
  have h2 := hB.2.1
  obtain ⟨h6, hz0, hz, hc0, hc, hp0, hp, hm0, hm, hh0, hh⟩ := hR
  obtain ⟨z, bt⟩ := hz hzz
  obtain ⟨z1, z2, z3, z4, z5, z6, z7, z8, z9, z10, z11⟩ := z
  have hw := hF.w2
  rw [if_neg hzz] at hw
  obtain ⟨r, se2, fb2, i1, i2, i3, i4⟩ := x_bits hB hfe he z1 z8 z9 se (nI cA) (nI pA) (nI mA) (nI hA) (bif rv then 1 else 0) bA h6.2.1 hF.w4 fb
  rw [← z2, ← z5] at i1
  have dd := d_BITS (rE := rE) (hi := hi) (wi := wi) (un := un) (ri := ri) (col := col) (has := has) (en := en) (cl := cl) (pb := pb) (nn := nn) (nf := nf) (pk := pk) (pn := pn) (pf := pf) (ma := ma) (mf := mf) (li := li) (lf := lf) hw i1
  unfold YH
  rw [if_neg hzz]
  refine ⟨i3, r, _, _, _, _, _, _, _, _, _, _, _, _, _, _, _, _, _, _, _, _, _, _, _, _, _, dd, i2, hI, Or.inl rfl, fun hr => ?_⟩
  obtain ⟨k1, k2, k3, k4⟩ := i4 hr
  have nt := nt_BITS (nI f) (nI e) (nI zA) (nI bA) (nI cA) cE (nI pA) (nI mA) mE (nI hA) gf
  refine ⟨zA, f, cA, pA, mA, hA, cE, mE, nt.1, nt.2, hzz, ⟨⟨h6.1, by omega, h6.2.2⟩, fun q => absurd q hzz, fun _ => ⟨⟨z1, z2, z3, z4, z5, z6, z7, z8, z9, z10, z11⟩, fun q => by omega, fun _ => ⟨by omega, k4⟩⟩, hc0, hc, hp0, hp, hm0, hm, hh0, hh⟩, Or.inl ⟨by decide, rfl, rfl, rfl, ?_⟩⟩
  rw [k3]
  exact hF.s4 (by omega)
set_option maxHeartbeats 1000000 in
theorem y_CHANNELS {sz nr : Nat} {fw gf : Nat → Int32} {B : Nat → Nat} (hB : HB sz nr fw gf B) {f e zA bA cA pA mA hA kA dA : Nat} {cE mE : Int32} {rv : Bool} {se rE td : Int32} {hi wi co un ri col has en cl : Int32} {pb : Nat → Int32} {nn : Nat} {nf : Nat → Int64} {fb : Nat → Int32} {pk : Int32} {pn : Nat} {pf : Nat → Int32} {ma : Int32} {mf : Nat → Int32} {li : Int32} {lf : Nat → Int32} (hfe : f ≤ e) (he : e ≤ sz) (hf8 : 8 ≤ f) (hR : RELH B sz zA bA cA pA mA hA cE mE td hi wi co un ri col has en cl pb nn nf fb pk pn pf ma mf li lf) (hF : FLG se true zA bA pA mA hA rv kA dA) (hI : ScI pn nn pf) (hzz : zA ≠ 0) : YH sz nr fw gf B f e 1667523942 zA bA cA pA mA hA kA dA cE mE rv se rE td hi wi co un ri col has en cl pb nn nf fb pk pn pf ma mf li lf := by
  have h1 := hB.1
  have h2 := hB.2.1
  obtain ⟨h6, hz0, hz, hc0, hc, hp0, hp, hm0, hm, hh0, hh⟩ := hR
  have hw := hF.w2
  rw [if_neg hzz] at hw
  obtain ⟨r, se2, li2, lf2, i1, i2, i3, i4⟩ := x_chan hB hfe he se (nI zA) (nI bA) (nI cA) (nI pA) (nI mA) (bif rv then 1 else 0) hA h6.2.2.2.2.2 hF.w32 li hh0 lf
  have dd := d_CHANNELS (rE := rE) (td := td) (hi := hi) (wi := wi) (co := co) (un := un) (ri := ri) (col := col) (has := has) (en := en) (cl := cl) (pb := pb) (nn := nn) (nf := nf) (fb := fb) (pk := pk) (pn := pn) (pf := pf) (ma := ma) (mf := mf) hw i1
  unfold YH
  rw [if_neg hzz]
  refine ⟨i3, r, _, _, _, _, _, _, _, _, _, _, _, _, _, _, _, _, _, _, _, _, _, _, _, _, _, dd, i2, hI, Or.inl rfl, fun hr => ?_⟩
  obtain ⟨k1, k2, k3, k4, k5, k6⟩ := i4 hr
  have nt := nt_CHANNELS (nI f) (nI e) (nI zA) (nI bA) (nI cA) cE (nI pA) (nI mA) mE (nI hA) gf
  refine ⟨zA, bA, cA, pA, mA, f, cE, mE, nt.1, nt.2, hzz, ⟨⟨h6.1, h6.2.1, h6.2.2.1, h6.2.2.2.1, h6.2.2.2.2.1, by omega⟩, fun q => absurd q hzz, hz, hc0, hc, hp0, hp, hm0, hm, fun q => by omega, fun _ => ⟨by omega, k4, k5, k6⟩⟩, Or.inl ⟨by decide, rfl, rfl, rfl, ?_⟩⟩
  rw [k3]
  exact hF.s32 (by omega)
set_option maxHeartbeats 1000000 in
theorem y_MAP {sz nr : Nat} {fw gf : Nat → Int32} {B : Nat → Nat} (hB : HB sz nr fw gf B) {f e zA bA cA pA mA hA kA dA : Nat} {cE mE : Int32} {rv : Bool} {se rE td : Int32} {hi wi co un ri col has en cl : Int32} {pb : Nat → Int32} {nn : Nat} {nf : Nat → Int64} {fb : Nat → Int32} {pk : Int32} {pn : Nat} {pf : Nat → Int32} {ma : Int32} {mf : Nat → Int32} {li : Int32} {lf : Nat → Int32} (hfe : f ≤ e) (he : e ≤ sz) (hf8 : 8 ≤ f) (hR : RELH B sz zA bA cA pA mA hA cE mE td hi wi co un ri col has en cl pb nn nf fb pk pn pf ma mf li lf) (hF : FLG se true zA bA pA mA hA rv kA dA) (hI : ScI pn nn pf) (hzz : zA ≠ 0) : YH sz nr fw gf B f e 1668112752 zA bA cA pA mA hA kA dA cE mE rv se rE td hi wi co un ri col has en cl pb nn nf fb pk pn pf ma mf li lf := by
  have h1 := hB.1
  have h2 := hB.2.1
  obtain ⟨h6, hz0, hz, hc0, hc, hp0, hp, hm0, hm, hh0, hh⟩ := hR
  obtain ⟨z, bt⟩ := hz hzz
  have hw := hF.w2
  rw [if_neg hzz] at hw
  have hP : pA ≠ 0 → pA + 3 ≤ sz ∧ cl = nI (B (pA + 2)) := fun q => by
    obtain ⟨pe, q1, q2⟩ := hp q
    obtain ⟨p1, p2, p3, p4, p5, p6, p7, p8⟩ := q2
    exact ⟨by omega, p6⟩
  obtain ⟨r, se2, ma2, mf2, i1, i2, i3, i4⟩ := x_map hB hfe he z.1 se (nI bA) (nI cA) (nI hA) (bif rv then 1 else 0) cl pA mA h6.2.2.2.1 h6.2.2.2.2.1 hF.w8 hF.w16 hP ma hm0 mf
  rw [← z.2.2.2.2.1] at i1
  have dd := d_MAP (rE := rE) (td := td) (hi := hi) (wi := wi) (un := un) (ri := ri) (col := col) (has := has) (en := en) (pb := pb) (nn := nn) (nf := nf) (fb := fb) (pk := pk) (pn := pn) (pf := pf) (li := li) (lf := lf) hw i1
  unfold YH
  rw [if_neg hzz]
  refine ⟨i3, r, _, _, _, _, _, _, _, _, _, _, _, _, _, _, _, _, _, _, _, _, _, _, _, _, _, dd, i2, hI, Or.inl rfl, fun hr => ?_⟩
  obtain ⟨d, k1, k2, k3, k4, k5, k6, k7, k8, k9⟩ := i4 hr
  have nt := nt_MAP (nI f) (nI e) (nI zA) (nI bA) (nI cA) cE (nI pA) (nI mA) mE (nI hA) gf
  refine ⟨zA, bA, cA, pA, f, hA, cE, nI e, nt.1, nt.2, hzz, ⟨⟨h6.1, h6.2.1, h6.2.2.1, h6.2.2.2.1, by omega, h6.2.2.2.2.2⟩, fun q => absurd q hzz, hz, hc0, hc, hp0, hp, fun q => by omega, fun _ => ⟨k5, d, by rw [← k1], by omega, k2, k3, k7, k8, k9⟩, hh0, hh⟩, Or.inl ⟨by decide, rfl, rfl, rfl, ?_⟩⟩
  rw [k6]
  exact hF.s16 (by omega)
set_option maxHeartbeats 1000000 in
theorem y_PALETTE {sz nr : Nat} {fw gf : Nat → Int32} {B : Nat → Nat} (hB : HB sz nr fw gf B) {f e zA bA cA pA mA hA kA dA : Nat} {cE mE : Int32} {rv : Bool} {se rE td : Int32} {hi wi co un ri col has en cl : Int32} {pb : Nat → Int32} {nn : Nat} {nf : Nat → Int64} {fb : Nat → Int32} {pk : Int32} {pn : Nat} {pf : Nat → Int32} {ma : Int32} {mf : Nat → Int32} {li : Int32} {lf : Nat → Int32} (hfe : f ≤ e) (he : e ≤ sz) (hf8 : 8 ≤ f) (hR : RELH B sz zA bA cA pA mA hA cE mE td hi wi co un ri col has en cl pb nn nf fb pk pn pf ma mf li lf) (hF : FLG se true zA bA pA mA hA rv kA dA) (hI : ScI pn nn pf) (hzz : zA ≠ 0) : YH sz nr fw gf B f e 1885564018 zA bA cA pA mA hA kA dA cE mE rv se rE td hi wi co un ri col has en cl pb nn nf fb pk pn pf ma mf li lf := by
  have h1 := hB.1
  have h2 := hB.2.1
  obtain ⟨h6, hz0, hz, hc0, hc, hp0, hp, hm0, hm, hh0, hh⟩ := hR
  have hw := hF.w2
  rw [if_neg hzz] at hw
  obtain ⟨r, se2, en2, cl2, pb2, nn2, nf2, i1, i2, i3, i5, i4⟩ := x_pal hB hfe he se (nI zA) (nI bA) (nI cA) (nI mA) (nI hA) (bif rv then 1 else 0) en cl pA h6.2.2.2.1 hF.w8 pb nn nf ⟨hI.2.2.2.1, hI.2.2.2.2⟩
  have dd := d_PALETTE (rE := rE) (td := td) (hi := hi) (wi := wi) (co := co) (un := un) (ri := ri) (col := col) (has := has) (fb := fb) (pk := pk) (pn := pn) (pf := pf) (ma := ma) (mf := mf) (li := li) (lf := lf) hw i1
  unfold YH
  rw [if_neg hzz]
  refine ⟨i3, r, _, _, _, _, _, _, _, _, _, _, _, _, _, _, _, _, _, _, _, _, _, _, _, _, _, dd, i2, ⟨hI.1, hI.2.1, hI.2.2.1, i5.1, i5.2⟩, Or.inl rfl, fun hr => ?_⟩
  obtain ⟨k1, k2, k3⟩ := i4 hr
  have nt := nt_PALETTE (nI f) (nI e) (nI zA) (nI bA) (nI cA) cE (nI pA) (nI mA) mE (nI hA) gf
  have hmz : mA = 0 := Classical.byContradiction (fun q => (hm q).1 k1)
  have hfe2 : f < e := by
    have q := k3.2.2.2.2.2.2.1
    omega
  refine ⟨zA, bA, cA, f, mA, hA, cE, mE, nt.1, nt.2, hzz, ⟨⟨h6.1, h6.2.1, h6.2.2.1, by omega, h6.2.2.2.2⟩, fun q => absurd q hzz, hz, hc0, hc, fun q => by omega, fun _ => ⟨e, he, k3⟩, hm0, fun q => absurd hmz q, hh0, hh⟩, Or.inl ⟨by decide, rfl, rfl, rfl, ?_⟩⟩
  rw [k2]
  exact hF.s8 (by omega)
theorem nt_C {gf : Nat → Int32} {B : Nat → Nat} {f : Nat} (hf : f < 65536) (hg : gf f = nI (B f)) (hb : B f < 256) (cA : Nat) (hcA : cA < 65536) (e zA bA cE pA mA mE hA : Int32) :
    m_Mo_note 1668246642 (nI f) e zA bA (nI cA) cE pA mA mE hA gf = (if cA = 0 ∧ (B f = 1 ∨ B f = 2) then (zA, bA, nI f, e, pA, mA, mE, hA) else (zA, bA, nI cA, cE, pA, mA, mE, hA)) ∧ om_Mo_note 1668246642 (nI f) (nI cA) gf := by
  have c0 : (nI cA = 0) = (cA = 0) := q_e0 (by omega)
  have v : vp_in (nI f) 65536 := by rw [q_in (by omega)]; exact hf
  have e1 : (1 : Int64).toInt = 1 := by decide
  have e2 : (2 : Int64).toInt = 2 := by decide
  have i12 : m_Mo_in ((nI (B f)).toInt64) 1 2 = if B f = 1 ∨ B f = 2 then 1 else 0 := by
    rw [q_64 (by omega), q_in64]
    simp only [Int64.le_iff_toInt_le, q_i64 (show B f < 9223372036854775808 by omega), e1, e2]
    by_cases a : B f = 1 ∨ B f = 2
    · rw [if_pos a, if_pos (by omega)]
    · rw [if_neg a, if_neg (by omega)]
  unfold m_Mo_note om_Mo_note k_Mo_note_107 ok_Mo_note_107
  simp only [nx_COLOUR_SIGN, nx_COLOUR_KIND, nx_COLOUR_HEAD, nx_COLOUR_STREAM, nx_COLOUR_SIZE, nx_COLOUR_BITS, nx_COLOUR_PALETTE, nx_COLOUR_MAP, nx_COLOUR_CHANNELS, nx_COLOUR_RESOLUTION, nx_COLOUR_CAPTURE, nx_COLOUR_DISPLAY, if_true, if_false, c0, q_cl (show f < 2147483648 by omega), hg, i12, v, q_oin, ite_self, and_self]
  refine ⟨?_, trivial⟩
  by_cases a : cA = 0
  · rw [if_pos a]
    by_cases b : B f = 1 ∨ B f = 2
    · rw [if_pos b, if_neg (by decide), if_pos ⟨a, b⟩]
    · rw [if_neg b, if_pos rfl, if_neg (fun q => b q.2)]
  · rw [if_neg a, if_neg (fun q => a q.1)]
set_option maxHeartbeats 1000000 in
theorem y_COLOUR {sz nr : Nat} {fw gf : Nat → Int32} {B : Nat → Nat} (hB : HB sz nr fw gf B) {f e zA bA cA pA mA hA kA dA : Nat} {cE mE : Int32} {rv : Bool} {se rE td : Int32} {hi wi co un ri col has en cl : Int32} {pb : Nat → Int32} {nn : Nat} {nf : Nat → Int64} {fb : Nat → Int32} {pk : Int32} {pn : Nat} {pf : Nat → Int32} {ma : Int32} {mf : Nat → Int32} {li : Int32} {lf : Nat → Int32} (hfe : f ≤ e) (he : e ≤ sz) (hf8 : 8 ≤ f) (hR : RELH B sz zA bA cA pA mA hA cE mE td hi wi co un ri col has en cl pb nn nf fb pk pn pf ma mf li lf) (hF : FLG se true zA bA pA mA hA rv kA dA) (hI : ScI pn nn pf) (hzz : zA ≠ 0) : YH sz nr fw gf B f e 1668246642 zA bA cA pA mA hA kA dA cE mE rv se rE td hi wi co un ri col has en cl pb nn nf fb pk pn pf ma mf li lf := by
  have h1 := hB.1
  have h2 := hB.2.1
  obtain ⟨h6, hz0, hz, hc0, hc, hp0, hp, hm0, hm, hh0, hh⟩ := hR
  have hw := hF.w2
  rw [if_neg hzz] at hw
  have hcc : m_Pl_hasColours col has = if cA = 0 then 0 else 1 := by
    unfold m_Pl_hasColours
    by_cases q : cA = 0
    · obtain ⟨q1, q2, q3⟩ := hc0 q
      rw [q1, q2, if_pos q]; rfl
    · obtain ⟨ce, q1, q2, q3⟩ := hc q
      rw [if_neg q]
      rcases q3 with ⟨w1, w2, w3, w4, w5, w6, w7⟩ | ⟨w1, w2, w3, w4, w5⟩
      · have nz : ¬ col = 0 := by rw [w3, q_z32 (UB_4lt hB.2.2.1 _)]; omega
        rw [if_neg nz]
      · rw [w3, w4]; rfl
  obtain ⟨r, col2, has2, pk2, pn2, pf2, i1, i2, i3, i5, i6, i4⟩ := x_colour hB hfe he (nI zA) (nI bA) (nI pA) (nI mA) (nI hA) (bif rv then 1 else 0) col has pk cA h6.2.2.1 hcc pn pf ⟨hI.1, hI.2.1⟩ hI.2.2.1
  have dd := d_COLOUR (se := se) (rE := rE) (td := td) (hi := hi) (wi := wi) (co := co) (un := un) (ri := ri) (en := en) (cl := cl) (pb := pb) (nn := nn) (nf := nf) (fb := fb) (ma := ma) (mf := mf) (li := li) (lf := lf) hw i1
  unfold YH
  rw [if_neg hzz]
  refine ⟨i3, r, _, _, _, _, _, _, _, _, _, _, _, _, _, _, _, _, _, _, _, _, _, _, _, _, _, dd, i2, ⟨i5.1, i5.2, i6, hI.2.2.2⟩, Or.inl rfl, fun hr => ?_⟩
  obtain ⟨k1, k2⟩ := i4 hr
  have nt := nt_C (gf := gf) (B := B) (f := f) (by omega) (hB.2.2.2 f (by omega)).2 (hB.2.2.1 f) cA h6.2.2.1 (nI e) (nI zA) (nI bA) cE (nI pA) (nI mA) mE (nI hA)
  rcases k2 with ⟨j1, j2, j3, j4, j5, j6⟩ | ⟨j1, j2⟩
  · rw [if_neg (fun q => j1.elim (fun w => w q.1) (fun w => q.2.elim w.1 w.2))] at nt
    subst j2 j3 j4 j5 j6
    exact ⟨zA, bA, cA, pA, mA, hA, cE, mE, nt.1, nt.2, hzz, ⟨h6, fun q => absurd q hzz, hz, hc0, hc, hp0, hp, hm0, hm, hh0, hh⟩, Or.inl ⟨by decide, rfl, rfl, rfl, hF⟩⟩
  · have b12 : B f = 1 ∨ B f = 2 := j2.elim (fun w => Or.inl w.1) (fun w => Or.inr w.1)
    rw [if_pos ⟨j1, b12⟩] at nt
    exact ⟨zA, bA, f, pA, mA, hA, nI e, mE, nt.1, nt.2, hzz, ⟨⟨h6.1, h6.2.1, by omega, h6.2.2.2⟩, fun q => absurd q hzz, hz, fun q => by omega, fun _ => ⟨e, rfl, he, j2⟩, hp0, hp, hm0, hm, hh0, hh⟩, Or.inl ⟨by decide, rfl, rfl, rfl, hF⟩⟩
theorem rs_5 (zA bA cA pA mA hA rs f e : Int32) (gf : Nat → Int32) : (m_Mo_isWrong 1919251232 zA pA gf 0 = 0 ∧ om_Mo_isWrong 1919251232 zA pA gf 0) ∧ (m_Mo_fitsHead 1919251232 f e zA gf = 1 ∧ om_Mo_fitsHead 1919251232 f e zA gf) ∧ (m_Mo_isTwice 1919251232 bA pA mA hA rs = (if rs = 0 then 0 else 1) ∧ om_Mo_isTwice 1919251232 bA pA mA hA rs) ∧ (m_Mo_isGreat 1919251232 f e cA gf = 0 ∧ om_Mo_isGreat 1919251232 f e cA gf) ∧ (m_Mo_isValue 1919251232 f e zA pA gf = 1 ∧ om_Mo_isValue 1919251232 f e zA pA gf) := by
  unfold m_Mo_isWrong om_Mo_isWrong j_Mo_isWrong_35 oj_Mo_isWrong_35 k_Mo_isWrong_41 ok_Mo_isWrong_41 j_Mo_isWrong_78 oj_Mo_isWrong_78 m_Mo_isTop om_Mo_isTop m_Mo_fitsHead om_Mo_fitsHead m_Mo_isTwice om_Mo_isTwice j_Mo_isTwice_16 oj_Mo_isTwice_16 j_Mo_isTwice_32 oj_Mo_isTwice_32 j_Mo_isTwice_48 oj_Mo_isTwice_48 j_Mo_isTwice_64 oj_Mo_isTwice_64 m_Mo_isGreat om_Mo_isGreat m_Mo_isValue om_Mo_isValue
  simp only [nx_RESOLUTION_SIGN, nx_RESOLUTION_KIND, nx_RESOLUTION_HEAD, nx_RESOLUTION_STREAM, nx_RESOLUTION_SIZE, nx_RESOLUTION_BITS, nx_RESOLUTION_COLOUR, nx_RESOLUTION_PALETTE, nx_RESOLUTION_MAP, nx_RESOLUTION_CHANNELS, nx_RESOLUTION_CAPTURE, nx_RESOLUTION_DISPLAY, n_10, if_true, if_false, ite_self, and_self]
theorem y_RESOLUTION {sz nr : Nat} {fw gf : Nat → Int32} {B : Nat → Nat} (hB : HB sz nr fw gf B) {f e zA bA cA pA mA hA kA dA : Nat} {cE mE : Int32} {rv : Bool} {se rE td : Int32} {hi wi co un ri col has en cl : Int32} {pb : Nat → Int32} {nn : Nat} {nf : Nat → Int64} {fb : Nat → Int32} {pk : Int32} {pn : Nat} {pf : Nat → Int32} {ma : Int32} {mf : Nat → Int32} {li : Int32} {lf : Nat → Int32} (hfe : f ≤ e) (he : e ≤ sz) (hf8 : 8 ≤ f) (hR : RELH B sz zA bA cA pA mA hA cE mE td hi wi co un ri col has en cl pb nn nf fb pk pn pf ma mf li lf) (hF : FLG se true zA bA pA mA hA rv kA dA) (hI : ScI pn nn pf) (hzz : zA ≠ 0) : YH sz nr fw gf B f e 1919251232 zA bA cA pA mA hA kA dA cE mE rv se rE td hi wi co un ri col has en cl pb nn nf fb pk pn pf ma mf li lf := by
  have h1 := hB.1
  have h2 := hB.2.1
  have hw := hF.w2
  rw [if_neg hzz] at hw
  obtain ⟨⟨a1, a2⟩, ⟨b1, b2⟩, ⟨c1, c2⟩, ⟨e1, e2⟩, ⟨g1, g2⟩⟩ := rs_5 (nI zA) (nI bA) (nI cA) (nI pA) (nI mA) (nI hA) (bif rv then 1 else 0) (nI f) (nI e) gf
  have w64 := hF.w64
  have nt := nt_RESOLUTION (nI f) (nI e) (nI zA) (nI bA) (nI cA) cE (nI pA) (nI mA) mE (nI hA) gf
  unfold YH
  rw [if_neg hzz]
  refine ⟨⟨a2, fun _ => ⟨b2, fun _ => ⟨c2, fun _ => ⟨e2, fun _ => g2⟩⟩⟩⟩, ?_⟩
  rw [a1, b1, c1, e1, g1]
  cases rv with
  | false =>
    have en : m_Sc_enterResolution 1 (nI e) se rE (nI f) (nI e) = (0, 2, nI f, se ||| 64, nI e) := by
      unfold m_Sc_enterResolution k_Sc_enterResolution_3
      rw [w64]; rfl
    refine ⟨0, _, _, _, _, _, _, _, _, _, _, _, _, _, _, _, _, _, _, _, _, _, _, _, _, _, d_RESOLUTION hw en, rfl, hI, Or.inr rfl, fun _ => ⟨zA, bA, cA, pA, mA, hA, cE, mE, nt.1, nt.2, hzz, hR, Or.inr ⟨rfl, rfl, rfl, rfl, rfl, hF.s64⟩⟩⟩
  | true =>
    have en : m_Sc_enterResolution 1 (nI e) se rE (nI f) (nI e) = (4, 1, nI e, se, rE) := by
      unfold m_Sc_enterResolution k_Sc_enterResolution_3
      rw [w64]; rfl
    exact ⟨4, _, _, _, _, _, _, _, _, _, _, _, _, _, _, _, _, _, _, _, _, _, _, _, _, _, d_RESOLUTION hw en, rfl, hI, Or.inl rfl, fun q => absurd q (by decide)⟩
theorem ot_5 {nm : Int32} (hSIGN : (nm = 1783636000) = False) (hKIND : (nm = 1718909296) = False) (hHEAD : (nm = 1785737832) = False) (hSTREAM : (nm = 1785737827) = False) (hSIZE : (nm = 1768449138) = False) (hBITS : (nm = 1651532643) = False) (hCOLOUR : (nm = 1668246642) = False) (hPALETTE : (nm = 1885564018) = False) (hMAP : (nm = 1668112752) = False) (hCHANNELS : (nm = 1667523942) = False) (hRESOLUTION : (nm = 1919251232) = False) (zA bA cA cE pA mA mE hA rs f e : Int32) (gf : Nat → Int32) : (m_Mo_isWrong nm zA pA gf 0 = 0 ∧ om_Mo_isWrong nm zA pA gf 0) ∧ (m_Mo_fitsHead nm f e zA gf = 1 ∧ om_Mo_fitsHead nm f e zA gf) ∧ (m_Mo_isTwice nm bA pA mA hA rs = 0 ∧ om_Mo_isTwice nm bA pA mA hA rs) ∧ (m_Mo_isGreat nm f e cA gf = 0 ∧ om_Mo_isGreat nm f e cA gf) ∧ (m_Mo_isValue nm f e zA pA gf = 1 ∧ om_Mo_isValue nm f e zA pA gf) ∧ (m_Mo_note nm f e zA bA cA cE pA mA mE hA gf = (zA, bA, cA, cE, pA, mA, mE, hA) ∧ om_Mo_note nm f cA gf) := by
  unfold m_Mo_isWrong om_Mo_isWrong j_Mo_isWrong_35 oj_Mo_isWrong_35 k_Mo_isWrong_41 ok_Mo_isWrong_41 j_Mo_isWrong_78 oj_Mo_isWrong_78 m_Mo_isTop om_Mo_isTop m_Mo_fitsHead om_Mo_fitsHead m_Mo_isTwice om_Mo_isTwice j_Mo_isTwice_16 oj_Mo_isTwice_16 j_Mo_isTwice_32 oj_Mo_isTwice_32 j_Mo_isTwice_48 oj_Mo_isTwice_48 j_Mo_isTwice_64 oj_Mo_isTwice_64 m_Mo_isGreat om_Mo_isGreat m_Mo_isValue om_Mo_isValue m_Mo_note om_Mo_note
  simp only [hSIGN, hKIND, hHEAD, hSTREAM, hSIZE, hBITS, hCOLOUR, hPALETTE, hMAP, hCHANNELS, hRESOLUTION, n_10, if_true, if_false, ite_self, and_self]
theorem y_O {sz nr : Nat} {fw gf : Nat → Int32} {B : Nat → Nat} (hB : HB sz nr fw gf B) {f e zA bA cA pA mA hA kA dA : Nat} {cE mE : Int32} {rv : Bool} {se rE td : Int32} {hi wi co un ri col has en cl : Int32} {pb : Nat → Int32} {nn : Nat} {nf : Nat → Int64} {fb : Nat → Int32} {pk : Int32} {pn : Nat} {pf : Nat → Int32} {ma : Int32} {mf : Nat → Int32} {li : Int32} {lf : Nat → Int32} (hfe : f ≤ e) (he : e ≤ sz) (hf8 : 8 ≤ f) (hR : RELH B sz zA bA cA pA mA hA cE mE td hi wi co un ri col has en cl pb nn nf fb pk pn pf ma mf li lf) (hF : FLG se true zA bA pA mA hA rv kA dA) (hI : ScI pn nn pf) {nm : Int32} (hSIGN : (nm = 1783636000) = False) (hKIND : (nm = 1718909296) = False) (hHEAD : (nm = 1785737832) = False) (hSTREAM : (nm = 1785737827) = False) (hSIZE : (nm = 1768449138) = False) (hBITS : (nm = 1651532643) = False) (hCOLOUR : (nm = 1668246642) = False) (hPALETTE : (nm = 1885564018) = False) (hMAP : (nm = 1668112752) = False) (hCHANNELS : (nm = 1667523942) = False) (hRESOLUTION : (nm = 1919251232) = False) (hzz : zA ≠ 0) : YH sz nr fw gf B f e nm zA bA cA pA mA hA kA dA cE mE rv se rE td hi wi co un ri col has en cl pb nn nf fb pk pn pf ma mf li lf := by
  have hw := hF.w2
  rw [if_neg hzz] at hw
  obtain ⟨⟨a1, a2⟩, ⟨b1, b2⟩, ⟨c1, c2⟩, ⟨e1, e2⟩, ⟨g1, g2⟩, n1, n2⟩ := ot_5 hSIGN hKIND hHEAD hSTREAM hSIZE hBITS hCOLOUR hPALETTE hMAP hCHANNELS hRESOLUTION (nI zA) (nI bA) (nI cA) cE (nI pA) (nI mA) mE (nI hA) (bif rv then 1 else 0) (nI f) (nI e) gf
  unfold YH
  rw [if_neg hzz]
  refine ⟨⟨a2, fun _ => ⟨b2, fun _ => ⟨c2, fun _ => ⟨e2, fun _ => g2⟩⟩⟩⟩, 0, _, _, _, _, _, _, _, _, _, _, _, _, _, _, _, _, _, _, _, _, _, _, _, _, _, d_O hSIGN hKIND hHEAD hSTREAM hSIZE hBITS hCOLOUR hPALETTE hMAP hCHANNELS hRESOLUTION hw, ?_, hI, Or.inl rfl, fun _ => ⟨zA, bA, cA, pA, mA, hA, cE, mE, n1, n2, hzz, hR, Or.inl ⟨fun q => ?_, rfl, rfl, rfl, hF⟩⟩⟩
  · rw [a1, b1, c1, e1, g1]; rfl
  · rw [hRESOLUTION] at q; exact q
theorem y_all {sz nr : Nat} {fw gf : Nat → Int32} {B : Nat → Nat} (hB : HB sz nr fw gf B) {f e zA bA cA pA mA hA kA dA : Nat} {cE mE : Int32} {rv : Bool} {se rE td : Int32} {hi wi co un ri col has en cl : Int32} {pb : Nat → Int32} {nn : Nat} {nf : Nat → Int64} {fb : Nat → Int32} {pk : Int32} {pn : Nat} {pf : Nat → Int32} {ma : Int32} {mf : Nat → Int32} {li : Int32} {lf : Nat → Int32} (hfe : f ≤ e) (he : e ≤ sz) (hf8 : 8 ≤ f) (hR : RELH B sz zA bA cA pA mA hA cE mE td hi wi co un ri col has en cl pb nn nf fb pk pn pf ma mf li lf) (hF : FLG se true zA bA pA mA hA rv kA dA) (hI : ScI pn nn pf) (nm : Int32) : YH sz nr fw gf B f e nm zA bA cA pA mA hA kA dA cE mE rv se rE td hi wi co un ri col has en cl pb nn nf fb pk pn pf ma mf li lf := by
  by_cases hzz : zA = 0
  · by_cases n : nm = 1768449138
    · subst n; exact y_SIZE hB hfe he hf8 hR hF hI hzz
    · exact y_WF hB hfe he hf8 hR hF hI (eq_false n) hzz
  · by_cases nSIZE : nm = 1768449138
    · subst nSIZE; exact y_WS hB hfe he hf8 hR hF hI hzz
    by_cases nSIGN : nm = 1783636000
    · subst nSIGN; exact y_SIGN hB hfe he hf8 hR hF hI hzz
    by_cases nKIND : nm = 1718909296
    · subst nKIND; exact y_KIND hB hfe he hf8 hR hF hI hzz
    by_cases nHEAD : nm = 1785737832
    · subst nHEAD; exact y_HEAD hB hfe he hf8 hR hF hI hzz
    by_cases nSTREAM : nm = 1785737827
    · subst nSTREAM; exact y_STREAM hB hfe he hf8 hR hF hI hzz
    by_cases nBITS : nm = 1651532643
    · subst nBITS; exact y_BITS hB hfe he hf8 hR hF hI hzz
    by_cases nCOLOUR : nm = 1668246642
    · subst nCOLOUR; exact y_COLOUR hB hfe he hf8 hR hF hI hzz
    by_cases nPALETTE : nm = 1885564018
    · subst nPALETTE; exact y_PALETTE hB hfe he hf8 hR hF hI hzz
    by_cases nMAP : nm = 1668112752
    · subst nMAP; exact y_MAP hB hfe he hf8 hR hF hI hzz
    by_cases nCHANNELS : nm = 1667523942
    · subst nCHANNELS; exact y_CHANNELS hB hfe he hf8 hR hF hI hzz
    by_cases nRESOLUTION : nm = 1919251232
    · subst nRESOLUTION; exact y_RESOLUTION hB hfe he hf8 hR hF hI hzz
    exact y_O hB hfe he hf8 hR hF hI (eq_false nSIGN) (eq_false nKIND) (eq_false nHEAD) (eq_false nSTREAM) (eq_false nSIZE) (eq_false nBITS) (eq_false nCOLOUR) (eq_false nPALETTE) (eq_false nMAP) (eq_false nCHANNELS) (eq_false nRESOLUTION) hzz
