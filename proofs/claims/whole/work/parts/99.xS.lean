theorem c_eoh0 (se td co col has ma li : Int32) (lf : Nat → Int32) (h : m_Pl_hasColours col has = 0) : m_Sc_endOfHead se td co col has ma li 48 lf = 6 := by
  have k : ∀ a b : Int32, j_Sc_endOfHead_47 co col has ma li 48 lf a b = 6 := fun a b => by
    unfold j_Sc_endOfHead_47 k_Sc_endOfHead_52
    rw [h, if_pos rfl]
  unfold m_Sc_endOfHead k_Sc_endOfHead_12 j_Sc_endOfHead_22 j_Sc_endOfHead_23 k_Sc_endOfHead_27 k_Sc_endOfHead_36 j_Sc_endOfHead_46
  simp only [k, ite_self]
theorem c_eoh1 (se td co col has ma li : Int32) (lf : Nat → Int32) (h : m_Pl_hasColours col has = 1) : m_Sc_endOfHead se td co col has ma li 48 lf = if td = 255 ∧ m_Sc_was se 4 = 0 then 6 else if ¬ m_Sc_was se 8 = 0 ∧ m_Sc_was se 16 = 0 then 6 else k_Sc_endOfHead_80 li 48 lf (m_Pl_channelCount co ma) := by
  have z1 : ¬ (1 : Int32) = 0 := by decide
  have k00 : j_Sc_endOfHead_47 co col has ma li 48 lf 0 0 = k_Sc_endOfHead_80 li 48 lf (m_Pl_channelCount co ma) := by
    unfold j_Sc_endOfHead_47 k_Sc_endOfHead_52
    rw [h, if_neg z1, if_pos rfl, if_pos rfl]
  have k01 : j_Sc_endOfHead_47 co col has ma li 48 lf 0 1 = 6 := by
    unfold j_Sc_endOfHead_47 k_Sc_endOfHead_52
    rw [h, if_neg z1, if_pos rfl, if_neg z1]
  have k1 : ∀ b : Int32, j_Sc_endOfHead_47 co col has ma li 48 lf 1 b = 6 := fun b => by
    unfold j_Sc_endOfHead_47 k_Sc_endOfHead_52
    rw [h, if_neg z1, if_neg z1]
  have j0 : j_Sc_endOfHead_23 se co col has ma li 48 lf 0 = if ¬ m_Sc_was se 8 = 0 ∧ m_Sc_was se 16 = 0 then 6 else k_Sc_endOfHead_80 li 48 lf (m_Pl_channelCount co ma) := by
    unfold j_Sc_endOfHead_23 k_Sc_endOfHead_27 k_Sc_endOfHead_36 j_Sc_endOfHead_46
    rw [k00, k01]
    by_cases a : m_Sc_was se 8 = 0
    · rw [if_pos a, if_neg (show ¬ (¬ m_Sc_was se 8 = 0 ∧ m_Sc_was se 16 = 0) from fun q => q.1 a)]
    · rw [if_neg a]
      by_cases b : m_Sc_was se 16 = 0
      · rw [if_pos b, if_pos (show ¬ m_Sc_was se 8 = 0 ∧ m_Sc_was se 16 = 0 from ⟨a, b⟩)]
      · rw [if_neg b, if_neg (show ¬ (¬ m_Sc_was se 8 = 0 ∧ m_Sc_was se 16 = 0) from fun q => b q.2)]
  have j1 : j_Sc_endOfHead_23 se co col has ma li 48 lf 1 = 6 := by
    unfold j_Sc_endOfHead_23 k_Sc_endOfHead_27 k_Sc_endOfHead_36 j_Sc_endOfHead_46
    simp only [k1, ite_self]
  unfold m_Sc_endOfHead k_Sc_endOfHead_12 j_Sc_endOfHead_22
  rw [j0, j1]
  by_cases a : td = 255
  · rw [if_pos a]
    by_cases b : m_Sc_was se 4 = 0
    · rw [if_pos b, if_pos (show td = 255 ∧ m_Sc_was se 4 = 0 from ⟨a, b⟩)]
    · rw [if_neg b, if_neg (show ¬ (td = 255 ∧ m_Sc_was se 4 = 0) from fun q => b q.2)]
  · rw [if_neg a, if_neg (show ¬ (td = 255 ∧ m_Sc_was se 4 = 0) from fun q => a q.1)]
theorem r_hasC {sz nr : Nat} {fw gf : Nat → Int32} {B : Nat → Nat} (hB : HB sz nr fw gf B) {zA bA cA pA mA hA : Nat} {cE mE td : Int32} {hi wi co un ri col has en cl : Int32} {pb : Nat → Int32} {nn : Nat} {nf : Nat → Int64} {fb : Nat → Int32} {pk : Int32} {pn : Nat} {pf : Nat → Int32} {ma : Int32} {mf : Nat → Int32} {li : Int32} {lf : Nat → Int32} (hR : RELH B sz zA bA cA pA mA hA cE mE td hi wi co un ri col has en cl pb nn nf fb pk pn pf ma mf li lf) : m_Pl_hasColours col has = if cA = 0 then 0 else 1 := by
  obtain ⟨h6, hz0, hz, hc0, hc, hrest⟩ := hR
  unfold m_Pl_hasColours
  by_cases q : cA = 0
  · obtain ⟨q1, q2, q3⟩ := hc0 q
    rw [q1, q2, if_pos q]; rfl
  · obtain ⟨ce, q1, q2, q3⟩ := hc q
    rw [if_neg q]
    rcases q3 with ⟨w1, w2, w3, w4, w5, w6, w7⟩ | ⟨w1, w2, w3, w4, w5⟩
    · have nz : ¬ col = 0 := by rw [w3, q_z32 (UB_4lt hB.2.2.1 _)]; omega
      rw [if_neg nz]
    · rw [w3, w4]; rfl
/-- the end of HEAD -/
theorem b_head {sz nr : Nat} {fw gf : Nat → Int32} {B : Nat → Nat} (hB : HB sz nr fw gf B) {zA bA cA pA mA hA kA dA : Nat} {cE mE td se : Int32} {rv hd : Bool} {hi wi co un ri col has en cl : Int32} {pb : Nat → Int32} {nn : Nat} {nf : Nat → Int64} {fb : Nat → Int32} {pk : Int32} {pn : Nat} {pf : Nat → Int32} {ma : Int32} {mf : Nat → Int32} {li : Int32} {lf : Nat → Int32} (hR : RELH B sz zA bA cA pA mA hA cE mE td hi wi co un ri col has en cl pb nn nf fb pk pn pf ma mf li lf) (hF : FLG se hd zA bA pA mA hA rv kA dA) :
    m_Sc_endOfHead se td co col has ma li 48 lf = m_Mo_behindHead (nI zA) (nI bA) (nI cA) (nI pA) (nI mA) mE (nI hA) gf ∧ om_Mo_behindHead (nI zA) (nI bA) (nI cA) (nI pA) (nI mA) mE (nI hA) gf ∧ (m_Mo_behindHead (nI zA) (nI bA) (nI cA) (nI pA) (nI mA) mE (nI hA) gf = 0 → zA ≠ 0 ∧ cA ≠ 0 ∧ (pA ≠ 0 → mA ≠ 0)) ∧ 0 ≤ m_Mo_behindHead (nI zA) (nI bA) (nI cA) (nI pA) (nI mA) mE (nI hA) gf := by
  have h1 := hB.1
  have h2 := hB.2.1
  have hC := r_hasC hB hR
  obtain ⟨h6, hz0, hz, hc0, hc, hp0, hp, hm0, hm, hh0, hh⟩ := hR
  have w4 := hF.w4
  have w8 := hF.w8
  have w16 := hF.w16
  have cz : (nI zA = 0) = (zA = 0) := q_e0 (by omega)
  have cc : (nI cA = 0) = (cA = 0) := q_e0 (by omega)
  have cb : (nI bA = 0) = (bA = 0) := q_e0 (by omega)
  have cm : (nI mA = 0) = (mA = 0) := q_e0 (by omega)
  have cp : (nI pA ≤ 0) = (pA = 0) := h_le0 (by omega)
  have cml : (nI mA ≤ 0) = (mA = 0) := h_le0 (by omega)
  have ch : (nI hA ≤ 0) = (hA = 0) := h_le0 (by omega)
  by_cases xc : cA = 0
  · rw [if_pos xc] at hC
    rw [c_eoh0 se td co col has ma li lf hC]
    have m6 : m_Mo_behindHead (nI zA) (nI bA) (nI cA) (nI pA) (nI mA) mE (nI hA) gf = 6 := by
      unfold m_Mo_behindHead
      simp only [cc, eq_true xc, if_true, ite_self]
    have o6 : om_Mo_behindHead (nI zA) (nI bA) (nI cA) (nI pA) (nI mA) mE (nI hA) gf := by
      unfold om_Mo_behindHead
      simp only [cc, eq_true xc, if_true, ite_self]
    rw [m6]
    exact ⟨rfl, o6, fun q => absurd q (by decide), by decide⟩
  · have xz : zA ≠ 0 := fun q => xc (hz0 q).2.1
    obtain ⟨⟨z1, z2, z3, z4, z5, z6, z7, z8, z9, z10, z11⟩, bt⟩ := hz xz
    rw [if_neg xc] at hC
    have t10 := hB.2.2.1 (zA + 10)
    have g10 : gf (nI zA + 10).toNatClampNeg = nI (B (zA + 10)) := by rw [show (10 : Int32) = nI 10 from rfl, q_add, q_cl (by omega)]; exact (hB.2.2.2 _ (by omega)).2
    have v10 : vp_in (nI zA + 10) 65536 := by rw [show (10 : Int32) = nI 10 from rfl, q_add, q_in (by omega)]; omega
    have d1 : (nI (B (zA + 10)) = 255) = (B (zA + 10) = 255) := by rw [show (255 : Int32) = nI 255 from rfl, q_eq (by omega) (by decide)]
    have u8 : m_Mo_u2 gf (nI zA + 8) = nI (UB B (zA + 8) 2) ∧ om_Mo_u2 (nI zA + 8) := by rw [show (8 : Int32) = nI 8 from rfl, q_add]; exact s_u2 hB (by omega)
    have hch : ∃ c : Nat, c ≤ 65536 ∧ m_Pl_channelCount co ma = nI c ∧ m_Mo_channelsThere (nI zA) (nI mA) mE gf = nI c ∧ om_Mo_channelsThere (nI zA) (nI mA) gf := by
      unfold m_Pl_channelCount m_Mo_channelsThere om_Mo_channelsThere k_Mo_channelsThere_29 ok_Mo_channelsThere_29
      by_cases xm : mA = 0
      · have k0 : nI mA ≤ 0 := by rw [cml]; exact xm
        have k1 : ma ≤ 0 := by rw [hm0 xm]; decide
        rw [if_pos k0, if_pos k0, if_pos k1, u8.1]
        exact ⟨UB B (zA + 8) 2, by omega, z5, rfl, u8.2, trivial⟩
      · obtain ⟨m1, d, m2, m3, m4, m5, m6, m7, m8⟩ := hm xm
        have k0 : ¬ nI mA ≤ 0 := by rw [cml]; exact xm
        have k1 : ¬ ma ≤ 0 := by rw [m6, h_le0 (by omega)]; omega
        have e4 : (mE - nI mA) / 4 = nI d := by
          rw [m2, q_sub (by omega), show (4 : Int32) = nI 4 from rfl, q_div (by omega) (by decide)]
          exact congrArg nI (by omega)
        rw [if_neg k0, if_neg k0, if_neg k1, e4]
        exact ⟨d, by omega, m6, rfl, trivial⟩
    obtain ⟨c, hc1, hc2, hc3, hc4⟩ := hch
    have tail : k_Sc_endOfHead_80 li 48 lf (m_Pl_channelCount co ma) = j_Mo_behindHead_56 (nI zA) (nI mA) mE (nI hA) gf ∧ oj_Mo_behindHead_56 (nI zA) (nI mA) mE (nI hA) gf ∧ 0 ≤ j_Mo_behindHead_56 (nI zA) (nI mA) mE (nI hA) gf := by
      unfold j_Mo_behindHead_56 oj_Mo_behindHead_56 k_Mo_behindHead_68 ok_Mo_behindHead_68 j_Mo_behindHead_75 oj_Mo_behindHead_75
      by_cases xh : hA = 0
      · have k0 : nI hA ≤ 0 := by rw [ch]; exact xh
        have b8 := b_80 hB (zI := nI zA) (mI := nI mA) (mE := mE) (hA := hA) (n := 0) (ch := c) (by omega) (fun q => absurd rfl q) hc1 ⟨hc3, hc4⟩ 0 0 1 (by omega) (Or.inr rfl)
        have e := b_eoh hB (n := 0) (ch := c) (hA := hA) (co := co) (ma := ma) (lf := lf) (by omega) hc1 hc2 (fun i hi => by omega)
        have f1 : ((0 : Int32).toInt - (0 : Int32).toInt).toNat + 1 = 0 + 1 := by decide
        have b8' : lp_Mo_behindHead_80 (nI zA) (nI mA) mE (nI hA) gf 0 (0 + 1) 0 1 = (if (if (1 : Int32) = 0 then 0 else gal (fun i => UB B (hA + 2 + 6 * i) 2) c 0 0) = 0 then 5 else 0) ∧ olp_Mo_behindHead_80 (nI zA) (nI mA) mE (nI hA) gf 0 (0 + 1) 0 1 := b8
        rw [if_pos k0, if_pos k0, f1, hh0 xh, e, b8'.1]
        exact ⟨rfl, b8'.2, show (0 : Int32) ≤ 0 by decide⟩
      · obtain ⟨c1, c2, c3, c4⟩ := hh xh
        have k0 : ¬ nI hA ≤ 0 := by rw [ch]; exact xh
        have u := s_u2 hB (p := hA) (by omega)
        have b8 := b_80 hB (zI := nI zA) (mI := nI mA) (mE := mE) (hA := hA) (n := UB B hA 2) (ch := c) c2 (fun _ => c1) hc1 ⟨hc3, hc4⟩ (UB B hA 2) 0 1 (by omega) (Or.inr rfl)
        have e := b_eoh hB (n := UB B hA 2) (ch := c) (hA := hA) (co := co) (ma := ma) (lf := lf) c2 hc1 hc2 c4
        have b8' : lp_Mo_behindHead_80 (nI zA) (nI mA) mE (nI hA) gf (nI (UB B hA 2)) (UB B hA 2 + 1) 0 1 = (if (if (1 : Int32) = 0 then 0 else gal (fun i => UB B (hA + 2 + 6 * i) 2) c (UB B hA 2) 0) = 0 then 5 else 0) ∧ olp_Mo_behindHead_80 (nI zA) (nI mA) mE (nI hA) gf (nI (UB B hA 2)) (UB B hA 2 + 1) 0 1 := b8
        rw [if_neg (show ¬ (1 : Int32) = 0 by decide)] at b8'
        rw [if_neg k0, if_neg k0, u.1, q_fuel (by omega), c3, e, b8'.1]
        refine ⟨rfl, ⟨u.2, b8'.2⟩, ?_⟩
        split <;> decide
    rw [c_eoh1 se td co col has ma li lf hC, w4, w8, w16]
    unfold m_Mo_behindHead om_Mo_behindHead j_Mo_behindHead_39 oj_Mo_behindHead_39
    simp only [cz, cc, cb, cm, cp, g10, d1, eq_false xz, eq_false xc, if_false, v10, true_and]
    have td1 : (td = 255) = (B (zA + 10) = 255) := by rw [z2, d1]
    simp only [td1]
    have e01 : ∀ n : Nat, ((if n = 0 then (0 : Int32) else 1) = 0) = (n = 0) := fun n => by
      by_cases q : n = 0
      · rw [if_pos q]; exact (propext ⟨fun _ => q, fun _ => rfl⟩)
      · rw [if_neg q]; exact (propext ⟨fun w => absurd w (by decide), fun w => absurd w q⟩)
    simp only [e01]
    by_cases a : B (zA + 10) = 255
    · rw [if_pos a, if_pos a]
      by_cases b : bA = 0
      · rw [if_pos (show B (zA + 10) = 255 ∧ bA = 0 from ⟨a, b⟩), if_pos b, if_pos b]
        exact ⟨rfl, trivial, fun q => absurd q (by decide), by decide⟩
      · rw [if_neg (show ¬ (B (zA + 10) = 255 ∧ bA = 0) from fun q => b q.2), if_neg b, if_neg b]
        by_cases p : pA = 0
        · rw [if_neg (show ¬ (¬ pA = 0 ∧ mA = 0) from fun q => q.1 p), if_pos p, if_pos p]
          exact ⟨tail.1, tail.2.1, fun _ => ⟨xz, xc, fun q => absurd p q⟩, tail.2.2⟩
        · by_cases m : mA = 0
          · rw [if_pos (show ¬ pA = 0 ∧ mA = 0 from ⟨p, m⟩), if_neg p, if_neg p, if_pos m, if_pos m]
            exact ⟨rfl, trivial, fun q => absurd q (by decide), by decide⟩
          · rw [if_neg (show ¬ (¬ pA = 0 ∧ mA = 0) from fun q => m q.2), if_neg p, if_neg p, if_neg m, if_neg m]
            exact ⟨tail.1, tail.2.1, fun _ => ⟨xz, xc, fun _ => m⟩, tail.2.2⟩
    · rw [if_neg (show ¬ (B (zA + 10) = 255 ∧ bA = 0) from fun q => a q.1), if_neg a, if_neg a]
      by_cases p : pA = 0
      · rw [if_neg (show ¬ (¬ pA = 0 ∧ mA = 0) from fun q => q.1 p), if_pos p, if_pos p]
        exact ⟨tail.1, tail.2.1, fun _ => ⟨xz, xc, fun q => absurd p q⟩, tail.2.2⟩
      · by_cases m : mA = 0
        · rw [if_pos (show ¬ pA = 0 ∧ mA = 0 from ⟨p, m⟩), if_neg p, if_neg p, if_pos m, if_pos m]
          exact ⟨rfl, trivial, fun q => absurd q (by decide), by decide⟩
        · rw [if_neg (show ¬ (¬ pA = 0 ∧ mA = 0) from fun q => m q.2), if_neg p, if_neg p, if_neg m, if_neg m]
          exact ⟨tail.1, tail.2.1, fun _ => ⟨xz, xc, fun _ => m⟩, tail.2.2⟩
