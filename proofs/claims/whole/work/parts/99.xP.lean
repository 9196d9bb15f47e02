def ScI (pn nn : Nat) (pf : Nat → Int32) : Prop := 64 ≤ pn ∧ pn ≤ 1024 ∧ sb_Fit pf ∧ 8 ≤ nn ∧ nn ≤ 4096
def ZN (B : Nat → Nat) (sz zA : Nat) (td hi wi co un ri : Int32) : Prop := zA + 14 ≤ sz ∧ td = nI (B (zA + 10)) ∧ hi = nI (UB B zA 4) ∧ wi = nI (UB B (zA + 4) 4) ∧ co = nI (UB B (zA + 8) 2) ∧ un = nI (B (zA + 12)) ∧ ri = nI (B (zA + 13)) ∧ 1 ≤ UB B (zA + 8) 2 ∧ UB B (zA + 8) 2 ≤ 16 ∧ B (zA + 12) < 2 ∧ B (zA + 13) < 2
def BtN (B : Nat → Nat) (sz zA bA : Nat) (td : Int32) (fb : Nat → Int32) : Prop := (bA = 0 → ∀ k, k < 16 → fb k = td) ∧ (bA ≠ 0 → bA + UB B (zA + 8) 2 ≤ sz ∧ ∀ k, k < UB B (zA + 8) 2 → fb k = nI (B (bA + k)))
def MpN (B : Nat → Nat) (sz zA pA mA : Nat) (mE ma : Int32) (mf : Nat → Int32) : Prop := pA ≠ 0 ∧ ∃ d, mE = nI (mA + 4 * d) ∧ mA + 4 * d ≤ sz ∧ 1 ≤ d ∧ d ≤ 16 ∧ ma = nI d ∧ LnM B mA d 0 mf ∧ ∀ k, k < d → ¬ okl B (UB B (zA + 8) 2) (B (pA + 2)) (mA + 4 * k) = 0
def ChN (B : Nat → Nat) (sz hA : Nat) (li : Int32) (lf : Nat → Int32) : Prop := hA + 2 + 6 * UB B hA 2 ≤ sz ∧ UB B hA 2 ≤ 16 ∧ li = nI (UB B hA 2) ∧ LnC B (hA + 2) (UB B hA 2) 0 lf
def CoN (B : Nat → Nat) (sz cA : Nat) (cE col has pk : Int32) (pn : Nat) (pf : Nat → Int32) : Prop := ∃ ce, cE = nI ce ∧ ce ≤ sz ∧ ColN B cA ce col has pk pn pf
def PaN (B : Nat → Nat) (sz pA : Nat) (en cl : Int32) (pb : Nat → Int32) (nn : Nat) (nf : Nat → Int64) : Prop := ∃ pe, pe ≤ sz ∧ PalN B pA pe en cl pb nn nf
/-- the plan under construction, against the places noted -/
def RELH (B : Nat → Nat) (sz zA bA cA pA mA hA : Nat) (cE mE td : Int32) (hi wi co un ri col has en cl : Int32) (pb : Nat → Int32) (nn : Nat) (nf : Nat → Int64) (fb : Nat → Int32) (pk : Int32) (pn : Nat) (pf : Nat → Int32) (ma : Int32) (mf : Nat → Int32) (li : Int32) (lf : Nat → Int32) : Prop :=
  (zA < 65536 ∧ bA < 65536 ∧ cA < 65536 ∧ pA < 65536 ∧ mA < 65536 ∧ hA < 65536) ∧ (zA = 0 → bA = 0 ∧ cA = 0 ∧ pA = 0 ∧ mA = 0 ∧ hA = 0) ∧ (zA ≠ 0 → ZN B sz zA td hi wi co un ri ∧ BtN B sz zA bA td fb) ∧ (cA = 0 → col = 0 ∧ has = 0 ∧ pk = nI 0) ∧ (cA ≠ 0 → CoN B sz cA cE col has pk pn pf) ∧ (pA = 0 → en = nI 0 ∧ cl = nI 0) ∧ (pA ≠ 0 → PaN B sz pA en cl pb nn nf) ∧ (mA = 0 → ma = nI 0) ∧ (mA ≠ 0 → MpN B sz zA pA mA mE ma mf) ∧ (hA = 0 → li = nI 0) ∧ (hA ≠ 0 → ChN B sz hA li lf)
def FLG (se : Int32) (hd : Bool) (zA bA pA mA hA : Nat) (rv : Bool) (kA dA : Nat) : Prop := se = nI (sN hd (zA != 0) (bA != 0) (pA != 0) (mA != 0) (hA != 0) rv (kA != 0) (dA != 0))
theorem bn0 (a : Nat) : (bif (a != 0) then (1 : Int32) else 0) = if a = 0 then 0 else 1 := by
  by_cases h : a = 0
  · rw [if_pos h, h]; rfl
  · rw [if_neg h, bne_iff_ne.mpr h]; rfl
theorem FLG.w2 {se : Int32} {hd : Bool} {zA bA pA mA hA : Nat} {rv : Bool} {kA dA : Nat} (h : FLG se hd zA bA pA mA hA rv kA dA) : m_Sc_was se 2 = if zA = 0 then 0 else 1 := by unfold FLG at h; rw [h, fl_w2, bn0]
theorem FLG.s2 {se : Int32} {hd : Bool} {zA bA pA mA hA : Nat} {rv : Bool} {kA dA : Nat} (h : FLG se hd zA bA pA mA hA rv kA dA) {x : Nat} (hx : x ≠ 0) : FLG (se ||| 2) hd x bA pA mA hA rv kA dA := by unfold FLG at h ⊢; rw [h, fl_s2, show (x != 0) = true from bne_iff_ne.mpr hx]
theorem FLG.w4 {se : Int32} {hd : Bool} {zA bA pA mA hA : Nat} {rv : Bool} {kA dA : Nat} (h : FLG se hd zA bA pA mA hA rv kA dA) : m_Sc_was se 4 = if bA = 0 then 0 else 1 := by unfold FLG at h; rw [h, fl_w4, bn0]
theorem FLG.s4 {se : Int32} {hd : Bool} {zA bA pA mA hA : Nat} {rv : Bool} {kA dA : Nat} (h : FLG se hd zA bA pA mA hA rv kA dA) {x : Nat} (hx : x ≠ 0) : FLG (se ||| 4) hd zA x pA mA hA rv kA dA := by unfold FLG at h ⊢; rw [h, fl_s4, show (x != 0) = true from bne_iff_ne.mpr hx]
theorem FLG.w8 {se : Int32} {hd : Bool} {zA bA pA mA hA : Nat} {rv : Bool} {kA dA : Nat} (h : FLG se hd zA bA pA mA hA rv kA dA) : m_Sc_was se 8 = if pA = 0 then 0 else 1 := by unfold FLG at h; rw [h, fl_w8, bn0]
theorem FLG.s8 {se : Int32} {hd : Bool} {zA bA pA mA hA : Nat} {rv : Bool} {kA dA : Nat} (h : FLG se hd zA bA pA mA hA rv kA dA) {x : Nat} (hx : x ≠ 0) : FLG (se ||| 8) hd zA bA x mA hA rv kA dA := by unfold FLG at h ⊢; rw [h, fl_s8, show (x != 0) = true from bne_iff_ne.mpr hx]
theorem FLG.w16 {se : Int32} {hd : Bool} {zA bA pA mA hA : Nat} {rv : Bool} {kA dA : Nat} (h : FLG se hd zA bA pA mA hA rv kA dA) : m_Sc_was se 16 = if mA = 0 then 0 else 1 := by unfold FLG at h; rw [h, fl_w16, bn0]
theorem FLG.s16 {se : Int32} {hd : Bool} {zA bA pA mA hA : Nat} {rv : Bool} {kA dA : Nat} (h : FLG se hd zA bA pA mA hA rv kA dA) {x : Nat} (hx : x ≠ 0) : FLG (se ||| 16) hd zA bA pA x hA rv kA dA := by unfold FLG at h ⊢; rw [h, fl_s16, show (x != 0) = true from bne_iff_ne.mpr hx]
theorem FLG.w32 {se : Int32} {hd : Bool} {zA bA pA mA hA : Nat} {rv : Bool} {kA dA : Nat} (h : FLG se hd zA bA pA mA hA rv kA dA) : m_Sc_was se 32 = if hA = 0 then 0 else 1 := by unfold FLG at h; rw [h, fl_w32, bn0]
theorem FLG.s32 {se : Int32} {hd : Bool} {zA bA pA mA hA : Nat} {rv : Bool} {kA dA : Nat} (h : FLG se hd zA bA pA mA hA rv kA dA) {x : Nat} (hx : x ≠ 0) : FLG (se ||| 32) hd zA bA pA mA x rv kA dA := by unfold FLG at h ⊢; rw [h, fl_s32, show (x != 0) = true from bne_iff_ne.mpr hx]
theorem FLG.w128 {se : Int32} {hd : Bool} {zA bA pA mA hA : Nat} {rv : Bool} {kA dA : Nat} (h : FLG se hd zA bA pA mA hA rv kA dA) : m_Sc_was se 128 = if kA = 0 then 0 else 1 := by unfold FLG at h; rw [h, fl_w128, bn0]
theorem FLG.s128 {se : Int32} {hd : Bool} {zA bA pA mA hA : Nat} {rv : Bool} {kA dA : Nat} (h : FLG se hd zA bA pA mA hA rv kA dA) {x : Nat} (hx : x ≠ 0) : FLG (se ||| 128) hd zA bA pA mA hA rv x dA := by unfold FLG at h ⊢; rw [h, fl_s128, show (x != 0) = true from bne_iff_ne.mpr hx]
theorem FLG.w256 {se : Int32} {hd : Bool} {zA bA pA mA hA : Nat} {rv : Bool} {kA dA : Nat} (h : FLG se hd zA bA pA mA hA rv kA dA) : m_Sc_was se 256 = if dA = 0 then 0 else 1 := by unfold FLG at h; rw [h, fl_w256, bn0]
theorem FLG.s256 {se : Int32} {hd : Bool} {zA bA pA mA hA : Nat} {rv : Bool} {kA dA : Nat} (h : FLG se hd zA bA pA mA hA rv kA dA) {x : Nat} (hx : x ≠ 0) : FLG (se ||| 256) hd zA bA pA mA hA rv kA x := by unfold FLG at h ⊢; rw [h, fl_s256, show (x != 0) = true from bne_iff_ne.mpr hx]
theorem FLG.w64 {se : Int32} {hd : Bool} {zA bA pA mA hA : Nat} {rv : Bool} {kA dA : Nat} (h : FLG se hd zA bA pA mA hA rv kA dA) : m_Sc_was se 64 = (bif rv then 1 else 0) := by unfold FLG at h; rw [h, fl_w64]
theorem FLG.w1 {se : Int32} {hd : Bool} {zA bA pA mA hA : Nat} {rv : Bool} {kA dA : Nat} (h : FLG se hd zA bA pA mA hA rv kA dA) : m_Sc_was se 1 = (bif hd then 1 else 0) := by unfold FLG at h; rw [h, fl_w1]
theorem FLG.s64 {se : Int32} {hd : Bool} {zA bA pA mA hA : Nat} {rv : Bool} {kA dA : Nat} (h : FLG se hd zA bA pA mA hA rv kA dA) : FLG (se ||| 64) hd zA bA pA mA hA true kA dA := by unfold FLG at h ⊢; rw [h, fl_s64]
theorem FLG.s1 {se : Int32} {hd : Bool} {zA bA pA mA hA : Nat} {rv : Bool} {kA dA : Nat} (h : FLG se hd zA bA pA mA hA rv kA dA) : FLG (se ||| 1) true zA bA pA mA hA rv kA dA := by unfold FLG at h ⊢; rw [h, fl_s1]
theorem hdW_le (w fi tw gr va : Int32) : (hdWhy w fi tw gr va ≤ 0) = (hdWhy w fi tw gr va = 0) := by
  unfold hdWhy
  repeat' split
  all_goals decide
def YH (sz nr : Nat) (fw gf : Nat → Int32) (B : Nat → Nat) (f e : Nat) (nm : Int32) (zA bA cA pA mA hA kA dA : Nat) (cE mE : Int32) (rv : Bool) (se rE td : Int32) (hi wi co un ri col has en cl : Int32) (pb : Nat → Int32) (nn : Nat) (nf : Nat → Int64) (fb : Nat → Int32) (pk : Int32) (pn : Nat) (pf : Nat → Int32) (ma : Int32) (mf : Nat → Int32) (li : Int32) (lf : Nat → Int32) : Prop :=
  hdOk gf (if zA = 0 then 1 else 0) (nI zA) (nI bA) (nI cA) (nI pA) (nI mA) (nI hA) (bif rv then 1 else 0) nm (nI f) (nI e) ∧ ∃ (r lv2 at2 se2 rE2 td2 : Int32) (hi2 wi2 co2 un2 ri2 col2 has2 en2 cl2 : Int32) (pb2 : Nat → Int32) (nn2 : Nat) (nf2 : Nat → Int64) (fb2 : Nat → Int32) (pk2 : Int32) (pn2 : Nat) (pf2 : Nat → Int32) (ma2 : Int32) (mf2 : Nat → Int32) (li2 : Int32) (lf2 : Nat → Int32), m_Sc_readInHead 1 (nI e) se rE td nm (nI f) (nI e) (nI sz) nr fw hi wi co un ri col has en cl 8 pb nn nf 16 fb 1024 pk pn pf ma 48 mf li 48 lf = (r, lv2, at2, se2, rE2, td2, hi2, wi2, co2, un2, ri2, col2, has2, en2, cl2, pb2, nn2, nf2, fb2, pk2, pn2, pf2, ma2, mf2, li2, lf2) ∧ r = hdWhy (m_Mo_isWrong nm (nI zA) (nI pA) gf (if zA = 0 then 1 else 0)) (m_Mo_fitsHead nm (nI f) (nI e) (nI zA) gf) (m_Mo_isTwice nm (nI bA) (nI pA) (nI mA) (nI hA) (bif rv then 1 else 0)) (m_Mo_isGreat nm (nI f) (nI e) (nI cA) gf) (m_Mo_isValue nm (nI f) (nI e) (nI zA) (nI pA) gf) ∧ ScI pn2 nn2 pf2 ∧ (rE2 = rE ∨ rE2 = nI e)
  ∧ (r = 0 → ∃ (zA2 bA2 cA2 pA2 mA2 hA2 : Nat) (cE2 mE2 : Int32), m_Mo_note nm (nI f) (nI e) (nI zA) (nI bA) (nI cA) cE (nI pA) (nI mA) mE (nI hA) gf = (nI zA2, nI bA2, nI cA2, cE2, nI pA2, nI mA2, mE2, nI hA2) ∧ om_Mo_note nm (nI f) (nI cA) gf ∧ zA2 ≠ 0 ∧ RELH B sz zA2 bA2 cA2 pA2 mA2 hA2 cE2 mE2 td2 hi2 wi2 co2 un2 ri2 col2 has2 en2 cl2 pb2 nn2 nf2 fb2 pk2 pn2 pf2 ma2 mf2 li2 lf2
    ∧ ((¬ nm = 1919251232 ∧ lv2 = 1 ∧ at2 = nI e ∧ rE2 = rE ∧ FLG se2 true zA2 bA2 pA2 mA2 hA2 rv kA dA) ∨ (nm = 1919251232 ∧ rv = false ∧ lv2 = 2 ∧ at2 = nI f ∧ rE2 = nI e ∧ FLG se2 true zA2 bA2 pA2 mA2 hA2 true kA dA)))
theorem tw_SIZE (bA pA mA hA rs : Int32) : m_Mo_isTwice 1768449138 bA pA mA hA rs = 0 ∧ om_Mo_isTwice 1768449138 bA pA mA hA rs := by
  unfold m_Mo_isTwice om_Mo_isTwice j_Mo_isTwice_16 j_Mo_isTwice_32 j_Mo_isTwice_48 j_Mo_isTwice_64 oj_Mo_isTwice_16 oj_Mo_isTwice_32 oj_Mo_isTwice_48 oj_Mo_isTwice_64
  simp only [nx_SIZE_SIGN, nx_SIZE_KIND, nx_SIZE_HEAD, nx_SIZE_STREAM, nx_SIZE_BITS, nx_SIZE_COLOUR, nx_SIZE_PALETTE, nx_SIZE_MAP, nx_SIZE_CHANNELS, nx_SIZE_RESOLUTION, nx_SIZE_CAPTURE, nx_SIZE_DISPLAY, if_true, if_false]
  exact ⟨trivial, trivial⟩
theorem nt_SIZE (f e zA bA cA cE pA mA mE hA : Int32) (gf : Nat → Int32) : m_Mo_note 1768449138 f e zA bA cA cE pA mA mE hA gf = (f, bA, cA, cE, pA, mA, mE, hA) ∧ om_Mo_note 1768449138 f cA gf := by
  unfold m_Mo_note om_Mo_note
  simp only [nx_SIZE_SIGN, nx_SIZE_KIND, nx_SIZE_HEAD, nx_SIZE_STREAM, nx_SIZE_BITS, nx_SIZE_COLOUR, nx_SIZE_PALETTE, nx_SIZE_MAP, nx_SIZE_CHANNELS, nx_SIZE_RESOLUTION, nx_SIZE_CAPTURE, nx_SIZE_DISPLAY, if_true, if_false]
  exact ⟨trivial, trivial⟩
theorem nt_BITS (f e zA bA cA cE pA mA mE hA : Int32) (gf : Nat → Int32) : m_Mo_note 1651532643 f e zA bA cA cE pA mA mE hA gf = (zA, f, cA, cE, pA, mA, mE, hA) ∧ om_Mo_note 1651532643 f cA gf := by
  unfold m_Mo_note om_Mo_note
  simp only [nx_BITS_SIGN, nx_BITS_KIND, nx_BITS_HEAD, nx_BITS_STREAM, nx_BITS_SIZE, nx_BITS_COLOUR, nx_BITS_PALETTE, nx_BITS_MAP, nx_BITS_CHANNELS, nx_BITS_RESOLUTION, nx_BITS_CAPTURE, nx_BITS_DISPLAY, if_true, if_false]
  exact ⟨trivial, trivial⟩
theorem nt_CHANNELS (f e zA bA cA cE pA mA mE hA : Int32) (gf : Nat → Int32) : m_Mo_note 1667523942 f e zA bA cA cE pA mA mE hA gf = (zA, bA, cA, cE, pA, mA, mE, f) ∧ om_Mo_note 1667523942 f cA gf := by
  unfold m_Mo_note om_Mo_note
  simp only [nx_CHANNELS_SIGN, nx_CHANNELS_KIND, nx_CHANNELS_HEAD, nx_CHANNELS_STREAM, nx_CHANNELS_SIZE, nx_CHANNELS_BITS, nx_CHANNELS_COLOUR, nx_CHANNELS_PALETTE, nx_CHANNELS_MAP, nx_CHANNELS_RESOLUTION, nx_CHANNELS_CAPTURE, nx_CHANNELS_DISPLAY, if_true, if_false]
  exact ⟨trivial, trivial⟩
theorem nt_MAP (f e zA bA cA cE pA mA mE hA : Int32) (gf : Nat → Int32) : m_Mo_note 1668112752 f e zA bA cA cE pA mA mE hA gf = (zA, bA, cA, cE, pA, f, e, hA) ∧ om_Mo_note 1668112752 f cA gf := by
  unfold m_Mo_note om_Mo_note
  simp only [nx_MAP_SIGN, nx_MAP_KIND, nx_MAP_HEAD, nx_MAP_STREAM, nx_MAP_SIZE, nx_MAP_BITS, nx_MAP_COLOUR, nx_MAP_PALETTE, nx_MAP_CHANNELS, nx_MAP_RESOLUTION, nx_MAP_CAPTURE, nx_MAP_DISPLAY, if_true, if_false]
  exact ⟨trivial, trivial⟩
theorem nt_PALETTE (f e zA bA cA cE pA mA mE hA : Int32) (gf : Nat → Int32) : m_Mo_note 1885564018 f e zA bA cA cE pA mA mE hA gf = (zA, bA, cA, cE, f, mA, mE, hA) ∧ om_Mo_note 1885564018 f cA gf := by
  unfold m_Mo_note om_Mo_note
  simp only [nx_PALETTE_SIGN, nx_PALETTE_KIND, nx_PALETTE_HEAD, nx_PALETTE_STREAM, nx_PALETTE_SIZE, nx_PALETTE_BITS, nx_PALETTE_COLOUR, nx_PALETTE_MAP, nx_PALETTE_CHANNELS, nx_PALETTE_RESOLUTION, nx_PALETTE_CAPTURE, nx_PALETTE_DISPLAY, if_true, if_false]
  exact ⟨trivial, trivial⟩
theorem nt_RESOLUTION (f e zA bA cA cE pA mA mE hA : Int32) (gf : Nat → Int32) : m_Mo_note 1919251232 f e zA bA cA cE pA mA mE hA gf = (zA, bA, cA, cE, pA, mA, mE, hA) ∧ om_Mo_note 1919251232 f cA gf := by
  unfold m_Mo_note om_Mo_note
  simp only [nx_RESOLUTION_SIGN, nx_RESOLUTION_KIND, nx_RESOLUTION_HEAD, nx_RESOLUTION_STREAM, nx_RESOLUTION_SIZE, nx_RESOLUTION_BITS, nx_RESOLUTION_COLOUR, nx_RESOLUTION_PALETTE, nx_RESOLUTION_MAP, nx_RESOLUTION_CHANNELS, nx_RESOLUTION_CAPTURE, nx_RESOLUTION_DISPLAY, if_true, if_false]
  exact ⟨trivial, trivial⟩
theorem wr_S1 (zA pA : Int32) (gf : Nat → Int32) : m_Mo_isWrong 1768449138 zA pA gf 1 = 0 ∧ om_Mo_isWrong 1768449138 zA pA gf 1 := by
  unfold m_Mo_isWrong om_Mo_isWrong j_Mo_isWrong_35 oj_Mo_isWrong_35 k_Mo_isWrong_41 ok_Mo_isWrong_41 j_Mo_isWrong_78 oj_Mo_isWrong_78 m_Mo_isTop om_Mo_isTop
  simp only [nx_SIZE_SIGN, nx_SIZE_KIND, nx_SIZE_HEAD, nx_SIZE_STREAM, nx_SIZE_BITS, nx_SIZE_COLOUR, nx_SIZE_PALETTE, nx_SIZE_MAP, nx_SIZE_CHANNELS, nx_SIZE_RESOLUTION, nx_SIZE_CAPTURE, nx_SIZE_DISPLAY, n_10, if_true, if_false, and_self]
theorem wr_S0 (zA pA : Int32) (gf : Nat → Int32) : m_Mo_isWrong 1768449138 zA pA gf 0 = 1 ∧ om_Mo_isWrong 1768449138 zA pA gf 0 := by
  unfold m_Mo_isWrong om_Mo_isWrong j_Mo_isWrong_35 oj_Mo_isWrong_35
  simp only [n_10, if_true, if_false]
  exact ⟨trivial, trivial⟩
theorem wr_F {nm : Int32} (hn : (nm = 1768449138) = False) (zA pA : Int32) (gf : Nat → Int32) : m_Mo_isWrong nm zA pA gf 1 = 1 ∧ om_Mo_isWrong nm zA pA gf 1 := by
  unfold m_Mo_isWrong om_Mo_isWrong j_Mo_isWrong_35 oj_Mo_isWrong_35
  simp only [hn, n_10, if_true, if_false]
  exact ⟨trivial, trivial⟩
theorem wr_T {nm : Int32} (hn : (nm = 1768449138) = False) (hT : m_Mo_isTop nm = 1) (zA pA : Int32) (gf : Nat → Int32) : m_Mo_isWrong nm zA pA gf 0 = 1 ∧ om_Mo_isWrong nm zA pA gf 0 := by
  have ot : om_Mo_isTop nm := by
    unfold om_Mo_isTop
    simp only [ite_self]
  unfold m_Mo_isWrong om_Mo_isWrong j_Mo_isWrong_35 oj_Mo_isWrong_35 k_Mo_isWrong_41 ok_Mo_isWrong_41
  simp only [hn, hT, n_10, if_true, if_false, and_true]
  exact ⟨trivial, ot⟩
