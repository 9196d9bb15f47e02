theorem n_10 : ((1 : Int32) = 0) = False := eq_false (by decide)
theorem n_01 : ((0 : Int32) = 1) = False := eq_false (by decide)
theorem d_SIZE {sz nr f e : Nat} {fw : Nat → Int32} {se rE td : Int32} {hi wi co un ri col has en cl : Int32} {pb : Nat → Int32} {nn : Nat} {nf : Nat → Int64} {fb : Nat → Int32} {pk : Int32} {pn : Nat} {pf : Nat → Int32} {ma : Int32} {mf : Nat → Int32} {li : Int32} {lf : Nat → Int32} {r se2 td2 hi2 wi2 co2 un2 ri2 : Int32} {fb2 : Nat → Int32} (hw : m_Sc_was se 2 = 0) (h : m_Sc_readSize se td (nI f) (nI e) (nI sz) nr fw hi wi co un ri 16 fb = (r, se2, td2, hi2, wi2, co2, un2, ri2, fb2)) : m_Sc_readInHead 1 (nI e) se rE td 1768449138 (nI f) (nI e) (nI sz) nr fw hi wi co un ri col has en cl 8 pb nn nf 16 fb 1024 pk pn pf ma 48 mf li 48 lf = (r, 1, (nI e), se2, rE, td2, hi2, wi2, co2, un2, ri2, col, has, en, cl, pb, nn, nf, fb2, pk, pn, pf, ma, mf, li, lf) := by
  unfold m_Sc_readInHead k_Sc_readInHead_2
  rw [hw]
  simp only [nx_SIZE_SIGN, nx_SIZE_KIND, nx_SIZE_HEAD, nx_SIZE_STREAM, nx_SIZE_BITS, nx_SIZE_COLOUR, nx_SIZE_PALETTE, nx_SIZE_MAP, nx_SIZE_CHANNELS, nx_SIZE_RESOLUTION, nx_SIZE_CAPTURE, nx_SIZE_DISPLAY, if_true, if_false]
  unfold j_Sc_readInHead_19
  simp only [nx_SIZE_SIGN, nx_SIZE_KIND, nx_SIZE_HEAD, nx_SIZE_STREAM, nx_SIZE_BITS, nx_SIZE_COLOUR, nx_SIZE_PALETTE, nx_SIZE_MAP, nx_SIZE_CHANNELS, nx_SIZE_RESOLUTION, nx_SIZE_CAPTURE, nx_SIZE_DISPLAY, n_10, n_01, if_true, if_false]
  unfold k_Sc_readInHead_131
  rw [h]
theorem d_BITS {sz nr f e : Nat} {fw : Nat → Int32} {se rE td : Int32} {hi wi co un ri col has en cl : Int32} {pb : Nat → Int32} {nn : Nat} {nf : Nat → Int64} {fb : Nat → Int32} {pk : Int32} {pn : Nat} {pf : Nat → Int32} {ma : Int32} {mf : Nat → Int32} {li : Int32} {lf : Nat → Int32} {r se2 : Int32} {fb2 : Nat → Int32} (hw : m_Sc_was se 2 = 1) (h : m_Sc_readBits se td (nI f) (nI e) co (nI sz) nr fw 16 fb = (r, se2, fb2)) : m_Sc_readInHead 1 (nI e) se rE td 1651532643 (nI f) (nI e) (nI sz) nr fw hi wi co un ri col has en cl 8 pb nn nf 16 fb 1024 pk pn pf ma 48 mf li 48 lf = (r, 1, (nI e), se2, rE, td, hi, wi, co, un, ri, col, has, en, cl, pb, nn, nf, fb2, pk, pn, pf, ma, mf, li, lf) := by
  unfold m_Sc_readInHead k_Sc_readInHead_2
  rw [hw]
  simp only [nx_BITS_SIGN, nx_BITS_KIND, nx_BITS_HEAD, nx_BITS_STREAM, nx_BITS_SIZE, nx_BITS_COLOUR, nx_BITS_PALETTE, nx_BITS_MAP, nx_BITS_CHANNELS, nx_BITS_RESOLUTION, nx_BITS_CAPTURE, nx_BITS_DISPLAY, if_true, if_false]
  unfold j_Sc_readInHead_19
  simp only [nx_BITS_SIGN, nx_BITS_KIND, nx_BITS_HEAD, nx_BITS_STREAM, nx_BITS_SIZE, nx_BITS_COLOUR, nx_BITS_PALETTE, nx_BITS_MAP, nx_BITS_CHANNELS, nx_BITS_RESOLUTION, nx_BITS_CAPTURE, nx_BITS_DISPLAY, n_10, n_01, if_true, if_false]
  unfold k_Sc_readInHead_136
  rw [h]
theorem d_CHANNELS {sz nr f e : Nat} {fw : Nat → Int32} {se rE td : Int32} {hi wi co un ri col has en cl : Int32} {pb : Nat → Int32} {nn : Nat} {nf : Nat → Int64} {fb : Nat → Int32} {pk : Int32} {pn : Nat} {pf : Nat → Int32} {ma : Int32} {mf : Nat → Int32} {li : Int32} {lf : Nat → Int32} {r se2 li2 : Int32} {lf2 : Nat → Int32} (hw : m_Sc_was se 2 = 1) (h : m_Sc_readMeanings se (nI f) (nI e) (nI sz) nr fw li 48 lf = (r, se2, li2, lf2)) : m_Sc_readInHead 1 (nI e) se rE td 1667523942 (nI f) (nI e) (nI sz) nr fw hi wi co un ri col has en cl 8 pb nn nf 16 fb 1024 pk pn pf ma 48 mf li 48 lf = (r, 1, (nI e), se2, rE, td, hi, wi, co, un, ri, col, has, en, cl, pb, nn, nf, fb, pk, pn, pf, ma, mf, li2, lf2) := by
  unfold m_Sc_readInHead k_Sc_readInHead_2
  rw [hw]
  simp only [nx_CHANNELS_SIGN, nx_CHANNELS_KIND, nx_CHANNELS_HEAD, nx_CHANNELS_STREAM, nx_CHANNELS_SIZE, nx_CHANNELS_BITS, nx_CHANNELS_COLOUR, nx_CHANNELS_PALETTE, nx_CHANNELS_MAP, nx_CHANNELS_RESOLUTION, nx_CHANNELS_CAPTURE, nx_CHANNELS_DISPLAY, if_true, if_false]
  unfold j_Sc_readInHead_19
  simp only [nx_CHANNELS_SIGN, nx_CHANNELS_KIND, nx_CHANNELS_HEAD, nx_CHANNELS_STREAM, nx_CHANNELS_SIZE, nx_CHANNELS_BITS, nx_CHANNELS_COLOUR, nx_CHANNELS_PALETTE, nx_CHANNELS_MAP, nx_CHANNELS_RESOLUTION, nx_CHANNELS_CAPTURE, nx_CHANNELS_DISPLAY, n_10, n_01, if_true, if_false]
  unfold k_Sc_readInHead_156
  rw [h]
theorem d_MAP {sz nr f e : Nat} {fw : Nat → Int32} {se rE td : Int32} {hi wi co un ri col has en cl : Int32} {pb : Nat → Int32} {nn : Nat} {nf : Nat → Int64} {fb : Nat → Int32} {pk : Int32} {pn : Nat} {pf : Nat → Int32} {ma : Int32} {mf : Nat → Int32} {li : Int32} {lf : Nat → Int32} {r se2 ma2 : Int32} {mf2 : Nat → Int32} (hw : m_Sc_was se 2 = 1) (h : m_Sc_readMap se (nI f) (nI e) (nI sz) nr fw co cl ma 48 mf = (r, se2, ma2, mf2)) : m_Sc_readInHead 1 (nI e) se rE td 1668112752 (nI f) (nI e) (nI sz) nr fw hi wi co un ri col has en cl 8 pb nn nf 16 fb 1024 pk pn pf ma 48 mf li 48 lf = (r, 1, (nI e), se2, rE, td, hi, wi, co, un, ri, col, has, en, cl, pb, nn, nf, fb, pk, pn, pf, ma2, mf2, li, lf) := by
  unfold m_Sc_readInHead k_Sc_readInHead_2
  rw [hw]
  simp only [nx_MAP_SIGN, nx_MAP_KIND, nx_MAP_HEAD, nx_MAP_STREAM, nx_MAP_SIZE, nx_MAP_BITS, nx_MAP_COLOUR, nx_MAP_PALETTE, nx_MAP_CHANNELS, nx_MAP_RESOLUTION, nx_MAP_CAPTURE, nx_MAP_DISPLAY, if_true, if_false]
  unfold j_Sc_readInHead_19
  simp only [nx_MAP_SIGN, nx_MAP_KIND, nx_MAP_HEAD, nx_MAP_STREAM, nx_MAP_SIZE, nx_MAP_BITS, nx_MAP_COLOUR, nx_MAP_PALETTE, nx_MAP_CHANNELS, nx_MAP_RESOLUTION, nx_MAP_CAPTURE, nx_MAP_DISPLAY, n_10, n_01, if_true, if_false]
  unfold k_Sc_readInHead_151
  rw [h]
theorem d_COLOUR {sz nr f e : Nat} {fw : Nat → Int32} {se rE td : Int32} {hi wi co un ri col has en cl : Int32} {pb : Nat → Int32} {nn : Nat} {nf : Nat → Int64} {fb : Nat → Int32} {pk : Int32} {pn : Nat} {pf : Nat → Int32} {ma : Int32} {mf : Nat → Int32} {li : Int32} {lf : Nat → Int32} {r col2 has2 pk2 : Int32} {pn2 : Nat} {pf2 : Nat → Int32} (hw : m_Sc_was se 2 = 1) (h : m_Sc_readColour (nI f) (nI e) (nI sz) nr fw col has 1024 pk pn pf = (r, col2, has2, pk2, pn2, pf2)) : m_Sc_readInHead 1 (nI e) se rE td 1668246642 (nI f) (nI e) (nI sz) nr fw hi wi co un ri col has en cl 8 pb nn nf 16 fb 1024 pk pn pf ma 48 mf li 48 lf = (r, 1, (nI e), se, rE, td, hi, wi, co, un, ri, col2, has2, en, cl, pb, nn, nf, fb, pk2, pn2, pf2, ma, mf, li, lf) := by
  unfold m_Sc_readInHead k_Sc_readInHead_2
  rw [hw]
  simp only [nx_COLOUR_SIGN, nx_COLOUR_KIND, nx_COLOUR_HEAD, nx_COLOUR_STREAM, nx_COLOUR_SIZE, nx_COLOUR_BITS, nx_COLOUR_PALETTE, nx_COLOUR_MAP, nx_COLOUR_CHANNELS, nx_COLOUR_RESOLUTION, nx_COLOUR_CAPTURE, nx_COLOUR_DISPLAY, if_true, if_false]
  unfold j_Sc_readInHead_19
  simp only [nx_COLOUR_SIGN, nx_COLOUR_KIND, nx_COLOUR_HEAD, nx_COLOUR_STREAM, nx_COLOUR_SIZE, nx_COLOUR_BITS, nx_COLOUR_PALETTE, nx_COLOUR_MAP, nx_COLOUR_CHANNELS, nx_COLOUR_RESOLUTION, nx_COLOUR_CAPTURE, nx_COLOUR_DISPLAY, n_10, n_01, if_true, if_false]
  unfold k_Sc_readInHead_141
  rw [h]
theorem d_PALETTE {sz nr f e : Nat} {fw : Nat → Int32} {se rE td : Int32} {hi wi co un ri col has en cl : Int32} {pb : Nat → Int32} {nn : Nat} {nf : Nat → Int64} {fb : Nat → Int32} {pk : Int32} {pn : Nat} {pf : Nat → Int32} {ma : Int32} {mf : Nat → Int32} {li : Int32} {lf : Nat → Int32} {r se2 en2 cl2 : Int32} {pb2 : Nat → Int32} {nn2 : Nat} {nf2 : Nat → Int64} (hw : m_Sc_was se 2 = 1) (h : m_Sc_readPalette se (nI f) (nI e) (nI sz) nr fw en cl 8 pb nn nf = (r, se2, en2, cl2, pb2, nn2, nf2)) : m_Sc_readInHead 1 (nI e) se rE td 1885564018 (nI f) (nI e) (nI sz) nr fw hi wi co un ri col has en cl 8 pb nn nf 16 fb 1024 pk pn pf ma 48 mf li 48 lf = (r, 1, (nI e), se2, rE, td, hi, wi, co, un, ri, col, has, en2, cl2, pb2, nn2, nf2, fb, pk, pn, pf, ma, mf, li, lf) := by
  unfold m_Sc_readInHead k_Sc_readInHead_2
  rw [hw]
  simp only [nx_PALETTE_SIGN, nx_PALETTE_KIND, nx_PALETTE_HEAD, nx_PALETTE_STREAM, nx_PALETTE_SIZE, nx_PALETTE_BITS, nx_PALETTE_COLOUR, nx_PALETTE_MAP, nx_PALETTE_CHANNELS, nx_PALETTE_RESOLUTION, nx_PALETTE_CAPTURE, nx_PALETTE_DISPLAY, if_true, if_false]
  unfold j_Sc_readInHead_19
  simp only [nx_PALETTE_SIGN, nx_PALETTE_KIND, nx_PALETTE_HEAD, nx_PALETTE_STREAM, nx_PALETTE_SIZE, nx_PALETTE_BITS, nx_PALETTE_COLOUR, nx_PALETTE_MAP, nx_PALETTE_CHANNELS, nx_PALETTE_RESOLUTION, nx_PALETTE_CAPTURE, nx_PALETTE_DISPLAY, n_10, n_01, if_true, if_false]
  unfold k_Sc_readInHead_146
  rw [h]
theorem d_RESOLUTION {sz nr f e : Nat} {fw : Nat → Int32} {se rE td : Int32} {hi wi co un ri col has en cl : Int32} {pb : Nat → Int32} {nn : Nat} {nf : Nat → Int64} {fb : Nat → Int32} {pk : Int32} {pn : Nat} {pf : Nat → Int32} {ma : Int32} {mf : Nat → Int32} {li : Int32} {lf : Nat → Int32} {r lv2 at2 se2 rE2 : Int32} (hw : m_Sc_was se 2 = 1) (h : m_Sc_enterResolution 1 (nI e) se rE (nI f) (nI e) = (r, lv2, at2, se2, rE2)) : m_Sc_readInHead 1 (nI e) se rE td 1919251232 (nI f) (nI e) (nI sz) nr fw hi wi co un ri col has en cl 8 pb nn nf 16 fb 1024 pk pn pf ma 48 mf li 48 lf = (r, lv2, at2, se2, rE2, td, hi, wi, co, un, ri, col, has, en, cl, pb, nn, nf, fb, pk, pn, pf, ma, mf, li, lf) := by
  unfold m_Sc_readInHead k_Sc_readInHead_2
  rw [hw]
  simp only [nx_RESOLUTION_SIGN, nx_RESOLUTION_KIND, nx_RESOLUTION_HEAD, nx_RESOLUTION_STREAM, nx_RESOLUTION_SIZE, nx_RESOLUTION_BITS, nx_RESOLUTION_COLOUR, nx_RESOLUTION_PALETTE, nx_RESOLUTION_MAP, nx_RESOLUTION_CHANNELS, nx_RESOLUTION_CAPTURE, nx_RESOLUTION_DISPLAY, if_true, if_false]
  unfold j_Sc_readInHead_19
  simp only [nx_RESOLUTION_SIGN, nx_RESOLUTION_KIND, nx_RESOLUTION_HEAD, nx_RESOLUTION_STREAM, nx_RESOLUTION_SIZE, nx_RESOLUTION_BITS, nx_RESOLUTION_COLOUR, nx_RESOLUTION_PALETTE, nx_RESOLUTION_MAP, nx_RESOLUTION_CHANNELS, nx_RESOLUTION_CAPTURE, nx_RESOLUTION_DISPLAY, n_10, n_01, if_true, if_false]
  unfold k_Sc_readInHead_161
  rw [h]
theorem d_WS {sz nr f e : Nat} {fw : Nat → Int32} {se rE td : Int32} {hi wi co un ri col has en cl : Int32} {pb : Nat → Int32} {nn : Nat} {nf : Nat → Int64} {fb : Nat → Int32} {pk : Int32} {pn : Nat} {pf : Nat → Int32} {ma : Int32} {mf : Nat → Int32} {li : Int32} {lf : Nat → Int32} (hw : m_Sc_was se 2 = 1) : m_Sc_readInHead 1 (nI e) se rE td 1768449138 (nI f) (nI e) (nI sz) nr fw hi wi co un ri col has en cl 8 pb nn nf 16 fb 1024 pk pn pf ma 48 mf li 48 lf = (2, 1, (nI e), se, rE, td, hi, wi, co, un, ri, col, has, en, cl, pb, nn, nf, fb, pk, pn, pf, ma, mf, li, lf) := by
  unfold m_Sc_readInHead k_Sc_readInHead_2
  rw [hw]
  simp only [if_true]
  unfold j_Sc_readInHead_19
  simp only [if_true]
theorem d_WF {sz nr f e : Nat} {fw : Nat → Int32} {se rE td : Int32} {hi wi co un ri col has en cl : Int32} {pb : Nat → Int32} {nn : Nat} {nf : Nat → Int64} {fb : Nat → Int32} {pk : Int32} {pn : Nat} {pf : Nat → Int32} {ma : Int32} {mf : Nat → Int32} {li : Int32} {lf : Nat → Int32} {nm : Int32} (hn : (nm = 1768449138) = False) (hw : m_Sc_was se 2 = 0) : m_Sc_readInHead 1 (nI e) se rE td nm (nI f) (nI e) (nI sz) nr fw hi wi co un ri col has en cl 8 pb nn nf 16 fb 1024 pk pn pf ma 48 mf li 48 lf = (2, 1, (nI e), se, rE, td, hi, wi, co, un, ri, col, has, en, cl, pb, nn, nf, fb, pk, pn, pf, ma, mf, li, lf) := by
  unfold m_Sc_readInHead k_Sc_readInHead_2
  rw [hw]
  simp only [hn, if_false]
  unfold j_Sc_readInHead_19
  simp only [if_true]
theorem d_SIGN {sz nr f e : Nat} {fw : Nat → Int32} {se rE td : Int32} {hi wi co un ri col has en cl : Int32} {pb : Nat → Int32} {nn : Nat} {nf : Nat → Int64} {fb : Nat → Int32} {pk : Int32} {pn : Nat} {pf : Nat → Int32} {ma : Int32} {mf : Nat → Int32} {li : Int32} {lf : Nat → Int32} (hw : m_Sc_was se 2 = 1) : m_Sc_readInHead 1 (nI e) se rE td 1783636000 (nI f) (nI e) (nI sz) nr fw hi wi co un ri col has en cl 8 pb nn nf 16 fb 1024 pk pn pf ma 48 mf li 48 lf = (2, 1, (nI e), se, rE, td, hi, wi, co, un, ri, col, has, en, cl, pb, nn, nf, fb, pk, pn, pf, ma, mf, li, lf) := by
  unfold m_Sc_readInHead k_Sc_readInHead_2
  rw [hw]
  simp only [nx_SIGN_KIND, nx_SIGN_HEAD, nx_SIGN_STREAM, nx_SIGN_SIZE, nx_SIGN_BITS, nx_SIGN_COLOUR, nx_SIGN_PALETTE, nx_SIGN_MAP, nx_SIGN_CHANNELS, nx_SIGN_RESOLUTION, nx_SIGN_CAPTURE, nx_SIGN_DISPLAY, if_true, if_false]
  unfold j_Sc_readInHead_19
  simp only [nx_SIGN_KIND, nx_SIGN_HEAD, nx_SIGN_STREAM, nx_SIGN_SIZE, nx_SIGN_BITS, nx_SIGN_COLOUR, nx_SIGN_PALETTE, nx_SIGN_MAP, nx_SIGN_CHANNELS, nx_SIGN_RESOLUTION, nx_SIGN_CAPTURE, nx_SIGN_DISPLAY, n_10, n_01, if_true, if_false]
theorem d_KIND {sz nr f e : Nat} {fw : Nat → Int32} {se rE td : Int32} {hi wi co un ri col has en cl : Int32} {pb : Nat → Int32} {nn : Nat} {nf : Nat → Int64} {fb : Nat → Int32} {pk : Int32} {pn : Nat} {pf : Nat → Int32} {ma : Int32} {mf : Nat → Int32} {li : Int32} {lf : Nat → Int32} (hw : m_Sc_was se 2 = 1) : m_Sc_readInHead 1 (nI e) se rE td 1718909296 (nI f) (nI e) (nI sz) nr fw hi wi co un ri col has en cl 8 pb nn nf 16 fb 1024 pk pn pf ma 48 mf li 48 lf = (2, 1, (nI e), se, rE, td, hi, wi, co, un, ri, col, has, en, cl, pb, nn, nf, fb, pk, pn, pf, ma, mf, li, lf) := by
  unfold m_Sc_readInHead k_Sc_readInHead_2
  rw [hw]
  simp only [nx_KIND_SIGN, nx_KIND_HEAD, nx_KIND_STREAM, nx_KIND_SIZE, nx_KIND_BITS, nx_KIND_COLOUR, nx_KIND_PALETTE, nx_KIND_MAP, nx_KIND_CHANNELS, nx_KIND_RESOLUTION, nx_KIND_CAPTURE, nx_KIND_DISPLAY, if_true, if_false]
  unfold j_Sc_readInHead_19
  simp only [nx_KIND_SIGN, nx_KIND_HEAD, nx_KIND_STREAM, nx_KIND_SIZE, nx_KIND_BITS, nx_KIND_COLOUR, nx_KIND_PALETTE, nx_KIND_MAP, nx_KIND_CHANNELS, nx_KIND_RESOLUTION, nx_KIND_CAPTURE, nx_KIND_DISPLAY, n_10, n_01, if_true, if_false]
theorem d_HEAD {sz nr f e : Nat} {fw : Nat → Int32} {se rE td : Int32} {hi wi co un ri col has en cl : Int32} {pb : Nat → Int32} {nn : Nat} {nf : Nat → Int64} {fb : Nat → Int32} {pk : Int32} {pn : Nat} {pf : Nat → Int32} {ma : Int32} {mf : Nat → Int32} {li : Int32} {lf : Nat → Int32} (hw : m_Sc_was se 2 = 1) : m_Sc_readInHead 1 (nI e) se rE td 1785737832 (nI f) (nI e) (nI sz) nr fw hi wi co un ri col has en cl 8 pb nn nf 16 fb 1024 pk pn pf ma 48 mf li 48 lf = (2, 1, (nI e), se, rE, td, hi, wi, co, un, ri, col, has, en, cl, pb, nn, nf, fb, pk, pn, pf, ma, mf, li, lf) := by
  unfold m_Sc_readInHead k_Sc_readInHead_2
  rw [hw]
  simp only [nx_HEAD_SIGN, nx_HEAD_KIND, nx_HEAD_STREAM, nx_HEAD_SIZE, nx_HEAD_BITS, nx_HEAD_COLOUR, nx_HEAD_PALETTE, nx_HEAD_MAP, nx_HEAD_CHANNELS, nx_HEAD_RESOLUTION, nx_HEAD_CAPTURE, nx_HEAD_DISPLAY, if_true, if_false]
  unfold j_Sc_readInHead_19
  simp only [nx_HEAD_SIGN, nx_HEAD_KIND, nx_HEAD_STREAM, nx_HEAD_SIZE, nx_HEAD_BITS, nx_HEAD_COLOUR, nx_HEAD_PALETTE, nx_HEAD_MAP, nx_HEAD_CHANNELS, nx_HEAD_RESOLUTION, nx_HEAD_CAPTURE, nx_HEAD_DISPLAY, n_10, n_01, if_true, if_false]
theorem d_STREAM {sz nr f e : Nat} {fw : Nat → Int32} {se rE td : Int32} {hi wi co un ri col has en cl : Int32} {pb : Nat → Int32} {nn : Nat} {nf : Nat → Int64} {fb : Nat → Int32} {pk : Int32} {pn : Nat} {pf : Nat → Int32} {ma : Int32} {mf : Nat → Int32} {li : Int32} {lf : Nat → Int32} (hw : m_Sc_was se 2 = 1) : m_Sc_readInHead 1 (nI e) se rE td 1785737827 (nI f) (nI e) (nI sz) nr fw hi wi co un ri col has en cl 8 pb nn nf 16 fb 1024 pk pn pf ma 48 mf li 48 lf = (2, 1, (nI e), se, rE, td, hi, wi, co, un, ri, col, has, en, cl, pb, nn, nf, fb, pk, pn, pf, ma, mf, li, lf) := by
  unfold m_Sc_readInHead k_Sc_readInHead_2
  rw [hw]
  simp only [nx_STREAM_SIGN, nx_STREAM_KIND, nx_STREAM_HEAD, nx_STREAM_SIZE, nx_STREAM_BITS, nx_STREAM_COLOUR, nx_STREAM_PALETTE, nx_STREAM_MAP, nx_STREAM_CHANNELS, nx_STREAM_RESOLUTION, nx_STREAM_CAPTURE, nx_STREAM_DISPLAY, if_true, if_false]
  unfold j_Sc_readInHead_19
  simp only [nx_STREAM_SIGN, nx_STREAM_KIND, nx_STREAM_HEAD, nx_STREAM_SIZE, nx_STREAM_BITS, nx_STREAM_COLOUR, nx_STREAM_PALETTE, nx_STREAM_MAP, nx_STREAM_CHANNELS, nx_STREAM_RESOLUTION, nx_STREAM_CAPTURE, nx_STREAM_DISPLAY, n_10, n_01, if_true, if_false]
theorem d_O {sz nr f e : Nat} {fw : Nat → Int32} {se rE td : Int32} {hi wi co un ri col has en cl : Int32} {pb : Nat → Int32} {nn : Nat} {nf : Nat → Int64} {fb : Nat → Int32} {pk : Int32} {pn : Nat} {pf : Nat → Int32} {ma : Int32} {mf : Nat → Int32} {li : Int32} {lf : Nat → Int32} {nm : Int32} (hSIGN : (nm = 1783636000) = False) (hKIND : (nm = 1718909296) = False) (hHEAD : (nm = 1785737832) = False) (hSTREAM : (nm = 1785737827) = False) (hSIZE : (nm = 1768449138) = False) (hBITS : (nm = 1651532643) = False) (hCOLOUR : (nm = 1668246642) = False) (hPALETTE : (nm = 1885564018) = False) (hMAP : (nm = 1668112752) = False) (hCHANNELS : (nm = 1667523942) = False) (hRESOLUTION : (nm = 1919251232) = False) (hw : m_Sc_was se 2 = 1) : m_Sc_readInHead 1 (nI e) se rE td nm (nI f) (nI e) (nI sz) nr fw hi wi co un ri col has en cl 8 pb nn nf 16 fb 1024 pk pn pf ma 48 mf li 48 lf = (0, 1, (nI e), se, rE, td, hi, wi, co, un, ri, col, has, en, cl, pb, nn, nf, fb, pk, pn, pf, ma, mf, li, lf) := by
  unfold m_Sc_readInHead k_Sc_readInHead_2
  rw [hw]
  simp only [hSIGN, hKIND, hHEAD, hSTREAM, hSIZE, hBITS, hCOLOUR, hPALETTE, hMAP, hCHANNELS, hRESOLUTION, if_false]
  unfold j_Sc_readInHead_19
  simp only [hSIGN, hKIND, hHEAD, hSTREAM, hSIZE, hBITS, hCOLOUR, hPALETTE, hMAP, hCHANNELS, hRESOLUTION, n_10, if_false]
