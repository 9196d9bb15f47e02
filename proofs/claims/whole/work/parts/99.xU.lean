def XTop (sz nr : Nat) (fw gf : Nat → Int32) (f e cnt : Nat) (nm se ha hE td bx sF sC : Int32) (hd st : Bool) : Prop :=
  ∃ (r lv2 at2 se2 ha2 hE2 td2 sF2 sC2 : Int32), m_Sc_readInFile 0 (nI e) se (nI cnt) ha hE td nm (nI f) (nI e) bx sF sC (nI sz) nr fw = (r, lv2, at2, se2, nI (cnt + 1), ha2, hE2, td2, sF2, sC2) ∧ m_Mo_atTop nm (nI f) (nI e) gf (nI cnt) (bif hd then 1 else 0) (bif st then 1 else 0) = r ∧ om_Mo_atTop nm (nI f) (nI e) gf (nI cnt) (bif hd then 1 else 0) (bif st then 1 else 0) ∧ 0 ≤ r ∧ (hE2 = hE ∨ hE2 = nI e) ∧ (r = 0 → (¬ nm = 1785737832 ∧ ¬ nm = 1785737827 ∧ lv2 = 0 ∧ at2 = nI e ∧ se2 = se ∧ hE2 = hE ∧ td2 = td ∧ sF2 = sF ∧ sC2 = sC) ∨ (nm = 1785737832 ∧ 2 ≤ cnt ∧ hd = false ∧ lv2 = 1 ∧ at2 = nI f ∧ se2 = se ||| 1 ∧ ha2 = bx ∧ hE2 = nI e ∧ td2 = 0 ∧ sF2 = sF ∧ sC2 = sC) ∨ (nm = 1785737827 ∧ 2 ≤ cnt ∧ hd = true ∧ lv2 = 0 ∧ at2 = nI e ∧ se2 = se ∧ hE2 = hE ∧ td2 = td ∧ sF2 = (bif st then sF else nI f) ∧ sC2 = (bif st then sC else nI (e - f))))
set_option maxHeartbeats 1000000 in
theorem x_top {sz nr : Nat} {fw gf : Nat → Int32} {B : Nat → Nat} (hB : HB sz nr fw gf B) {f e cnt : Nat} (hfe : f ≤ e) (he : e ≤ sz) (hcnt : cnt < 65536) (nm se ha hE td bx sF sC : Int32) (hd st : Bool) (hw : m_Sc_was se 1 = bif hd then 1 else 0) (hs : (st = false ∧ sF < 0) ∨ (st = true ∧ ¬ sF < 0 ∧ hd = true)) : XTop sz nr fw gf f e cnt nm se ha hE td bx sF sC hd st := by
  unfold XTop
  have nS : ((1785737832 : Int32) = 1785737827) = False := eq_false (by decide)
  by_cases c0 : cnt = 0
  · subst c0
    obtain ⟨t1, t2, t3, t4⟩ := t_sign hB hfe he nm (bif hd then 1 else 0) (bif st then 1 else 0)
    have cl : m_Sc_readInFile 0 (nI e) se (nI 0) ha hE td nm (nI f) (nI e) bx sF sC (nI sz) nr fw = (m_Sc_readSign nm (nI f) (nI e) (nI sz) nr fw, 0, nI e, se, nI (0 + 1), ha, hE, td, sF, sC) := by
      unfold m_Sc_readInFile
      rw [if_pos (show nI 0 + 1 = 1 by decide)]
      rfl
    refine ⟨_, _, _, _, _, _, _, _, _, cl, t1.symm, t2, by rw [t1]; exact t3, Or.inl rfl, fun q => Or.inl ?_⟩
    have hn := t4 (t1.symm.trans q)
    subst hn
    exact ⟨by decide, by decide, rfl, rfl, rfl, rfl, rfl, rfl, rfl⟩
  · by_cases c1 : cnt = 1
    · subst c1
      obtain ⟨t1, t2, t3, t4⟩ := t_kind hB hfe he nm (bif hd then 1 else 0) (bif st then 1 else 0)
      have cl : m_Sc_readInFile 0 (nI e) se (nI 1) ha hE td nm (nI f) (nI e) bx sF sC (nI sz) nr fw = (m_Sc_readKind nm (nI f) (nI e) (nI sz) nr fw, 0, nI e, se, nI (1 + 1), ha, hE, td, sF, sC) := by
        unfold m_Sc_readInFile
        rw [if_neg (show ¬ nI 1 + 1 = 1 by decide), if_pos (show nI 1 + 1 = 2 by decide)]
        rfl
      refine ⟨_, _, _, _, _, _, _, _, _, cl, t1.symm, t2, by rw [t1]; exact t3, Or.inl rfl, fun q => Or.inl ?_⟩
      have hn := t4 (t1.symm.trans q)
      subst hn
      exact ⟨by decide, by decide, rfl, rfl, rfl, rfl, rfl, rfl, rfl⟩
    · have k1 : (nI cnt + 1 = 1) = False := eq_false (by rw [← nI_succ, show (1 : Int32) = nI 1 from rfl, q_eq (by omega) (by decide)]; omega)
      have k2 : (nI cnt + 1 = 2) = False := eq_false (by rw [← nI_succ, show (2 : Int32) = nI 2 from rfl, q_eq (by omega) (by decide)]; omega)
      have k3 : ((2 : Int32) ≤ nI cnt) = True := eq_true (by rw [show (2 : Int32) = nI 2 from rfl, q_le (by decide) (by omega)]; omega)
      by_cases nK : nm = 1718909296
      · subst nK
        have cl : m_Sc_readInFile 0 (nI e) se (nI cnt) ha hE td 1718909296 (nI f) (nI e) bx sF sC (nI sz) nr fw = (2, 0, nI e, se, nI (cnt + 1), ha, hE, td, sF, sC) := by
          unfold m_Sc_readInFile
          simp only [k1, k2, if_true, if_false]
          rw [← nI_succ]
        have rf : m_Mo_atTop 1718909296 (nI f) (nI e) gf (nI cnt) (bif hd then 1 else 0) (bif st then 1 else 0) = 2 ∧ om_Mo_atTop 1718909296 (nI f) (nI e) gf (nI cnt) (bif hd then 1 else 0) (bif st then 1 else 0) := by
          unfold m_Mo_atTop om_Mo_atTop
          simp only [k3, nx_KIND_SIGN, nx_KIND_HEAD, nx_KIND_STREAM, nx_KIND_SIZE, nx_KIND_BITS, nx_KIND_COLOUR, nx_KIND_PALETTE, nx_KIND_MAP, nx_KIND_CHANNELS, nx_KIND_RESOLUTION, nx_KIND_CAPTURE, nx_KIND_DISPLAY, if_true, if_false, and_self]
        exact ⟨_, _, _, _, _, _, _, _, _, cl, rf.1, rf.2, by decide, Or.inl rfl, fun q => absurd q (by decide)⟩
      · by_cases nG : nm = 1783636000
        · subst nG
          have cl : m_Sc_readInFile 0 (nI e) se (nI cnt) ha hE td 1783636000 (nI f) (nI e) bx sF sC (nI sz) nr fw = (2, 0, nI e, se, nI (cnt + 1), ha, hE, td, sF, sC) := by
            unfold m_Sc_readInFile
            simp only [k1, k2, nx_SIGN_KIND, nx_SIGN_HEAD, nx_SIGN_STREAM, nx_SIGN_SIZE, nx_SIGN_BITS, nx_SIGN_COLOUR, nx_SIGN_PALETTE, nx_SIGN_MAP, nx_SIGN_CHANNELS, nx_SIGN_RESOLUTION, nx_SIGN_CAPTURE, nx_SIGN_DISPLAY, if_true, if_false]
            rw [← nI_succ]
          have rf : m_Mo_atTop 1783636000 (nI f) (nI e) gf (nI cnt) (bif hd then 1 else 0) (bif st then 1 else 0) = 2 ∧ om_Mo_atTop 1783636000 (nI f) (nI e) gf (nI cnt) (bif hd then 1 else 0) (bif st then 1 else 0) := by
            unfold m_Mo_atTop om_Mo_atTop
            simp only [k3, if_true, and_self]
          exact ⟨_, _, _, _, _, _, _, _, _, cl, rf.1, rf.2, by decide, Or.inl rfl, fun q => absurd q (by decide)⟩
        · by_cases nT : nm = 1785737827
          · subst nT
            have rf : m_Mo_atTop 1785737827 (nI f) (nI e) gf (nI cnt) (bif hd then 1 else 0) (bif st then 1 else 0) = (if (bif hd then (1 : Int32) else 0) = 0 then 6 else 0) ∧ om_Mo_atTop 1785737827 (nI f) (nI e) gf (nI cnt) (bif hd then 1 else 0) (bif st then 1 else 0) := by
              unfold m_Mo_atTop om_Mo_atTop j_Mo_atTop_175 oj_Mo_atTop_175
              simp only [k3, nx_STREAM_SIGN, nx_STREAM_KIND, nx_STREAM_HEAD, nx_STREAM_SIZE, nx_STREAM_BITS, nx_STREAM_COLOUR, nx_STREAM_PALETTE, nx_STREAM_MAP, nx_STREAM_CHANNELS, nx_STREAM_RESOLUTION, nx_STREAM_CAPTURE, nx_STREAM_DISPLAY, if_true, if_false, ite_self, and_self]
            have cl : m_Sc_readInFile 0 (nI e) se (nI cnt) ha hE td 1785737827 (nI f) (nI e) bx sF sC (nI sz) nr fw = ((m_Sc_readStream se (nI f) (nI e) sF sC).1, 0, nI e, se, nI (cnt + 1), ha, hE, td, (m_Sc_readStream se (nI f) (nI e) sF sC).2.1, (m_Sc_readStream se (nI f) (nI e) sF sC).2.2) := by
              unfold m_Sc_readInFile
              simp only [k1, k2, nx_STREAM_SIGN, nx_STREAM_KIND, nx_STREAM_HEAD, nx_STREAM_SIZE, nx_STREAM_BITS, nx_STREAM_COLOUR, nx_STREAM_PALETTE, nx_STREAM_MAP, nx_STREAM_CHANNELS, nx_STREAM_RESOLUTION, nx_STREAM_CAPTURE, nx_STREAM_DISPLAY, if_true, if_false]
              unfold k_Sc_readInFile_92
              rw [← nI_succ]
            cases hd with
            | false =>
              have rs : m_Sc_readStream se (nI f) (nI e) sF sC = (6, sF, sC) := by
                unfold m_Sc_readStream k_Sc_readStream_2
                rw [hw]; rfl
              rw [rs] at cl
              exact ⟨_, _, _, _, _, _, _, _, _, cl, rf.1, rf.2, show (0 : Int32) ≤ 6 by decide, Or.inl rfl, fun q => absurd q (show ¬ (6 : Int32) = 0 by decide)⟩
            | true =>
              have z1 : ¬ (1 : Int32) = 0 := by decide
              have rs : m_Sc_readStream se (nI f) (nI e) sF sC = (0, (bif st then sF else nI f), (bif st then sC else nI (e - f))) := by
                unfold m_Sc_readStream k_Sc_readStream_2
                rw [hw]
                show (if (1 : Int32) = 0 then _ else _) = _
                rw [if_neg z1]
                rcases hs with ⟨s1, s2⟩ | ⟨s1, s2, s3⟩
                · rw [if_neg (show ¬ 0 ≤ sF from fun q => absurd s2 (Int32.not_lt.2 q)), s1]
                  unfold k_Sc_readStream_28 m_Sc_content
                  rw [q_sub hfe]; rfl
                · rw [if_pos (show 0 ≤ sF from Int32.not_lt.1 s2), s1]; rfl
              rw [rs] at cl
              exact ⟨_, _, _, _, _, _, _, _, _, cl, rf.1, rf.2, show (0 : Int32) ≤ 0 by decide, Or.inl rfl, fun _ => Or.inr (Or.inr ⟨rfl, by omega, rfl, rfl, rfl, rfl, rfl, rfl, rfl, rfl⟩)⟩
          · by_cases nH : nm = 1785737832
            · subst nH
              have rf : m_Mo_atTop 1785737832 (nI f) (nI e) gf (nI cnt) (bif hd then 1 else 0) (bif st then 1 else 0) = (if (bif hd then (1 : Int32) else 0) = 0 then 0 else if (bif st then (1 : Int32) else 0) = 0 then 4 else 2) ∧ om_Mo_atTop 1785737832 (nI f) (nI e) gf (nI cnt) (bif hd then 1 else 0) (bif st then 1 else 0) := by
                unfold m_Mo_atTop om_Mo_atTop j_Mo_atTop_175 oj_Mo_atTop_175
                simp only [k3, nx_HEAD_SIGN, nx_HEAD_KIND, nx_HEAD_STREAM, nx_HEAD_SIZE, nx_HEAD_BITS, nx_HEAD_COLOUR, nx_HEAD_PALETTE, nx_HEAD_MAP, nx_HEAD_CHANNELS, nx_HEAD_RESOLUTION, nx_HEAD_CAPTURE, nx_HEAD_DISPLAY, if_true, if_false, ite_self, and_self]
              have cl : ∀ {x : Int32 × Int32 × Int32 × Int32 × Int32 × Int32 × Int32}, m_Sc_enterHead 0 (nI e) se ha hE td (nI f) (nI e) bx sF = x → m_Sc_readInFile 0 (nI e) se (nI cnt) ha hE td 1785737832 (nI f) (nI e) bx sF sC (nI sz) nr fw = (x.1, x.2.1, x.2.2.1, x.2.2.2.1, nI (cnt + 1), x.2.2.2.2.1, x.2.2.2.2.2.1, x.2.2.2.2.2.2, sF, sC) := fun hx => by
                unfold m_Sc_readInFile
                simp only [k1, k2, nx_HEAD_SIGN, nx_HEAD_KIND, nx_HEAD_STREAM, nx_HEAD_SIZE, nx_HEAD_BITS, nx_HEAD_COLOUR, nx_HEAD_PALETTE, nx_HEAD_MAP, nx_HEAD_CHANNELS, nx_HEAD_RESOLUTION, nx_HEAD_CAPTURE, nx_HEAD_DISPLAY, if_true, if_false]
                unfold k_Sc_readInFile_87
                rw [hx, ← nI_succ]
              have z1 : ¬ (1 : Int32) = 0 := by decide
              rcases hs with ⟨s1, s2⟩ | ⟨s1, s2, s3⟩
              · subst s1
                cases hd with
                | false =>
                  have en : m_Sc_enterHead 0 (nI e) se ha hE td (nI f) (nI e) bx sF = (0, 1, nI f, se ||| 1, bx, nI e, 0) := by
                    unfold m_Sc_enterHead k_Sc_enterHead_11
                    rw [if_pos s2, hw]; rfl
                  exact ⟨_, _, _, _, _, _, _, _, _, cl en, rf.1, rf.2, show (0 : Int32) ≤ 0 by decide, Or.inr rfl, fun _ => Or.inr (Or.inl ⟨rfl, by omega, rfl, rfl, rfl, rfl, rfl, rfl, rfl, rfl, rfl⟩)⟩
                | true =>
                  have en : m_Sc_enterHead 0 (nI e) se ha hE td (nI f) (nI e) bx sF = (4, 0, nI e, se, ha, hE, td) := by
                    unfold m_Sc_enterHead k_Sc_enterHead_11
                    rw [if_pos s2, hw]; rfl
                  exact ⟨_, _, _, _, _, _, _, _, _, cl en, rf.1, rf.2, show (0 : Int32) ≤ 4 by decide, Or.inl rfl, fun q => absurd q (show ¬ (4 : Int32) = 0 by decide)⟩
              · subst s1 s3
                have en : m_Sc_enterHead 0 (nI e) se ha hE td (nI f) (nI e) bx sF = (2, 0, nI e, se, ha, hE, td) := by
                  unfold m_Sc_enterHead
                  rw [if_neg s2]
                exact ⟨_, _, _, _, _, _, _, _, _, cl en, rf.1, rf.2, show (0 : Int32) ≤ 2 by decide, Or.inl rfl, fun q => absurd q (show ¬ (2 : Int32) = 0 by decide)⟩
            · have e1 := eq_false nK
              have e2 := eq_false nG
              have e3 := eq_false nT
              have e4 := eq_false nH
              have cl : m_Sc_readInFile 0 (nI e) se (nI cnt) ha hE td nm (nI f) (nI e) bx sF sC (nI sz) nr fw = (0, 0, nI e, se, nI (cnt + 1), ha, hE, td, sF, sC) := by
                unfold m_Sc_readInFile
                simp only [k1, k2, e1, e2, e3, e4, if_false]
                rw [← nI_succ]
              have rf : m_Mo_atTop nm (nI f) (nI e) gf (nI cnt) (bif hd then 1 else 0) (bif st then 1 else 0) = 0 ∧ om_Mo_atTop nm (nI f) (nI e) gf (nI cnt) (bif hd then 1 else 0) (bif st then 1 else 0) := by
                unfold m_Mo_atTop om_Mo_atTop j_Mo_atTop_175 oj_Mo_atTop_175
                simp only [k3, e1, e2, e3, e4, if_true, if_false, and_self]
              exact ⟨_, _, _, _, _, _, _, _, _, cl, rf.1, rf.2, by decide, Or.inl rfl, fun _ => Or.inl ⟨nH, nT, rfl, rfl, rfl, rfl, rfl, rfl, rfl⟩⟩
