theorem d_Mo_areColumns_0 : decode b_Mo_areColumns 0 = .ok (.aload_n 0, 1) := by decide +kernel
theorem d_Mo_areColumns_1 : decode b_Mo_areColumns 1 = .ok (.aload_n 0, 1) := by decide +kernel
theorem d_Mo_areColumns_2 : decode b_Mo_areColumns 2 = .ok (.getfield 219, 3) := by decide +kernel
theorem d_Mo_areColumns_5 : decode b_Mo_areColumns 5 = .ok (.invokevirtual 209, 3) := by decide +kernel
theorem d_Mo_areColumns_8 : decode b_Mo_areColumns 8 = .ok (.i2l, 1) := by decide +kernel
theorem d_Mo_areColumns_9 : decode b_Mo_areColumns 9 = .ok (.lconst 1, 1) := by decide +kernel
theorem d_Mo_areColumns_10 : decode b_Mo_areColumns 10 = .ok (.ldc2_w 96, 3) := by decide +kernel
theorem d_Mo_areColumns_13 : decode b_Mo_areColumns 13 = .ok (.invokestatic 81, 3) := by decide +kernel
theorem d_Mo_areColumns_16 : decode b_Mo_areColumns 16 = .ok (.ifCond .eq 21, 3) := by decide +kernel
theorem d_Mo_areColumns_19 : decode b_Mo_areColumns 19 = .ok (.aload_n 0, 1) := by decide +kernel
theorem d_Mo_areColumns_20 : decode b_Mo_areColumns 20 = .ok (.getfield 37, 3) := by decide +kernel
theorem d_Mo_areColumns_23 : decode b_Mo_areColumns 23 = .ok (.aload_n 0, 1) := by decide +kernel
theorem d_Mo_areColumns_24 : decode b_Mo_areColumns 24 = .ok (.getfield 219, 3) := by decide +kernel
theorem d_Mo_areColumns_27 : decode b_Mo_areColumns 27 = .ok (.iconst 2, 1) := by decide +kernel
theorem d_Mo_areColumns_28 : decode b_Mo_areColumns 28 = .ok (.iadd, 1) := by decide +kernel
theorem d_Mo_areColumns_29 : decode b_Mo_areColumns 29 = .ok (.iaload, 1) := by decide +kernel
theorem d_Mo_areColumns_30 : decode b_Mo_areColumns 30 = .ok (.ifCond .le 7, 3) := by decide +kernel
theorem d_Mo_areColumns_33 : decode b_Mo_areColumns 33 = .ok (.iconst 1, 1) := by decide +kernel
theorem d_Mo_areColumns_34 : decode b_Mo_areColumns 34 = .ok (.goto 4, 3) := by decide +kernel
theorem d_Mo_areColumns_37 : decode b_Mo_areColumns 37 = .ok (.iconst 0, 1) := by decide +kernel
theorem d_Mo_areColumns_38 : decode b_Mo_areColumns 38 = .ok (.istore_n 1, 1) := by decide +kernel
theorem d_Mo_areColumns_39 : decode b_Mo_areColumns 39 = .ok (.iconst 0, 1) := by decide +kernel
theorem d_Mo_areColumns_40 : decode b_Mo_areColumns 40 = .ok (.istore_n 2, 1) := by decide +kernel
theorem d_Mo_areColumns_41 : decode b_Mo_areColumns 41 = .ok (.iload_n 2, 1) := by decide +kernel
theorem d_Mo_areColumns_42 : decode b_Mo_areColumns 42 = .ok (.aload_n 0, 1) := by decide +kernel
theorem d_Mo_areColumns_43 : decode b_Mo_areColumns 43 = .ok (.getfield 37, 3) := by decide +kernel
theorem d_Mo_areColumns_46 : decode b_Mo_areColumns 46 = .ok (.aload_n 0, 1) := by decide +kernel
theorem d_Mo_areColumns_47 : decode b_Mo_areColumns 47 = .ok (.getfield 219, 3) := by decide +kernel
theorem d_Mo_areColumns_50 : decode b_Mo_areColumns 50 = .ok (.iconst 2, 1) := by decide +kernel
theorem d_Mo_areColumns_51 : decode b_Mo_areColumns 51 = .ok (.iadd, 1) := by decide +kernel
theorem d_Mo_areColumns_52 : decode b_Mo_areColumns 52 = .ok (.iaload, 1) := by decide +kernel
theorem d_Mo_areColumns_53 : decode b_Mo_areColumns 53 = .ok (.if_icmp .ge 38, 3) := by decide +kernel
theorem d_Mo_areColumns_56 : decode b_Mo_areColumns 56 = .ok (.iload_n 1, 1) := by decide +kernel
theorem d_Mo_areColumns_57 : decode b_Mo_areColumns 57 = .ok (.ifCond .eq 26, 3) := by decide +kernel
theorem d_Mo_areColumns_60 : decode b_Mo_areColumns 60 = .ok (.aload_n 0, 1) := by decide +kernel
theorem d_Mo_areColumns_61 : decode b_Mo_areColumns 61 = .ok (.getfield 37, 3) := by decide +kernel
theorem d_Mo_areColumns_64 : decode b_Mo_areColumns 64 = .ok (.aload_n 0, 1) := by decide +kernel
theorem d_Mo_areColumns_65 : decode b_Mo_areColumns 65 = .ok (.getfield 219, 3) := by decide +kernel
theorem d_Mo_areColumns_68 : decode b_Mo_areColumns 68 = .ok (.iconst 3, 1) := by decide +kernel
theorem d_Mo_areColumns_69 : decode b_Mo_areColumns 69 = .ok (.iadd, 1) := by decide +kernel
theorem d_Mo_areColumns_70 : decode b_Mo_areColumns 70 = .ok (.iload_n 2, 1) := by decide +kernel
theorem d_Mo_areColumns_71 : decode b_Mo_areColumns 71 = .ok (.iadd, 1) := by decide +kernel
theorem d_Mo_areColumns_72 : decode b_Mo_areColumns 72 = .ok (.iaload, 1) := by decide +kernel
theorem d_Mo_areColumns_73 : decode b_Mo_areColumns 73 = .ok (.invokestatic 85, 3) := by decide +kernel
theorem d_Mo_areColumns_76 : decode b_Mo_areColumns 76 = .ok (.ifCond .eq 7, 3) := by decide +kernel
theorem d_Mo_areColumns_79 : decode b_Mo_areColumns 79 = .ok (.iconst 1, 1) := by decide +kernel
theorem d_Mo_areColumns_80 : decode b_Mo_areColumns 80 = .ok (.goto 4, 3) := by decide +kernel
theorem d_Mo_areColumns_83 : decode b_Mo_areColumns 83 = .ok (.iconst 0, 1) := by decide +kernel
theorem d_Mo_areColumns_84 : decode b_Mo_areColumns 84 = .ok (.istore_n 1, 1) := by decide +kernel
theorem d_Mo_areColumns_85 : decode b_Mo_areColumns 85 = .ok (.iinc 2 1, 3) := by decide +kernel
theorem d_Mo_areColumns_88 : decode b_Mo_areColumns 88 = .ok (.goto (-47), 3) := by decide +kernel
theorem d_Mo_areColumns_91 : decode b_Mo_areColumns 91 = .ok (.iload_n 1, 1) := by decide +kernel
theorem d_Mo_areColumns_92 : decode b_Mo_areColumns 92 = .ok (.ireturn, 1) := by decide +kernel
def j_Mo_areColumns_83 (kk_41 : Int32 → Int32 → Int32) (v41_2 : Int32) : Int32 :=
  kk_41 (v41_2 + 1) 0
def oj_Mo_areColumns_83 (okk_41 : Int32 → Int32 → Prop) (v41_2 : Int32) : Prop :=
  okk_41 (v41_2 + 1) 0
def k_Mo_areColumns_73 (kk_41 : Int32 → Int32 → Int32) (v41_2 : Int32) (x73 : Int32) : Int32 :=
  if x73 = 0 then (j_Mo_areColumns_83 kk_41 v41_2) else (kk_41 (v41_2 + 1) 1)
def ok_Mo_areColumns_73 (okk_41 : Int32 → Int32 → Prop) (v41_2 : Int32) (x73 : Int32) : Prop :=
  if x73 = 0 then (oj_Mo_areColumns_83 okk_41 v41_2) else (okk_41 (v41_2 + 1) 1)
def lb_Mo_areColumns_41 (t_from : Int32) (f_t_file : Nat → Int32) (kk_41 : Int32 → Int32 → Int32) (v41_2 : Int32) (v41_1 : Int32) : Int32 :=
  if (f_t_file (t_from + 2).toNatClampNeg) ≤ v41_2 then v41_1 else (if v41_1 = 0 then (j_Mo_areColumns_83 kk_41 v41_2) else (k_Mo_areColumns_73 kk_41 v41_2 (m_Mo_areBits (f_t_file ((t_from + 3) + v41_2).toNatClampNeg))))
def lp_Mo_areColumns_41 (t_from : Int32) (f_t_file : Nat → Int32) : Nat → Int32 → Int32 → Int32
  | 0, v41_2, v41_1 => 0
  | n + 1, v41_2, v41_1 => lb_Mo_areColumns_41 t_from f_t_file (lp_Mo_areColumns_41 t_from f_t_file n) v41_2 v41_1
def olb_Mo_areColumns_41 (t_from : Int32) (f_t_file : Nat → Int32) (okk_41 : Int32 → Int32 → Prop) (v41_2 : Int32) (v41_1 : Int32) : Prop :=
  vp_in (t_from + 2) 65536 ∧ (if (f_t_file (t_from + 2).toNatClampNeg) ≤ v41_2 then (narrow .boolean (.int v41_1) = .int v41_1 ∧ True) else (if v41_1 = 0 then (oj_Mo_areColumns_83 okk_41 v41_2) else (vp_in ((t_from + 3) + v41_2) 65536 ∧ om_Mo_areBits (f_t_file ((t_from + 3) + v41_2).toNatClampNeg) ∧ (ok_Mo_areColumns_73 okk_41 v41_2 (m_Mo_areBits (f_t_file ((t_from + 3) + v41_2).toNatClampNeg))))))
def olp_Mo_areColumns_41 (t_from : Int32) (f_t_file : Nat → Int32) : Nat → Int32 → Int32 → Prop
  | 0, _, _ => True
  | n + 1, v41_2, v41_1 => olb_Mo_areColumns_41 t_from f_t_file (olp_Mo_areColumns_41 t_from f_t_file n) v41_2 v41_1
def j_Mo_areColumns_38 (t_from : Int32) (f_t_file : Nat → Int32) (j38_s0 : Int32) : Int32 :=
  lp_Mo_areColumns_41 t_from f_t_file (((f_t_file (t_from + 2).toNatClampNeg).toInt - (0 : Int32).toInt).toNat + 1) 0 j38_s0
def oj_Mo_areColumns_38 (t_from : Int32) (f_t_file : Nat → Int32) (j38_s0 : Int32) : Prop :=
  olp_Mo_areColumns_41 t_from f_t_file (((f_t_file (t_from + 2).toNatClampNeg).toInt - (0 : Int32).toInt).toNat + 1) 0 j38_s0
def j_Mo_areColumns_37 (t_from : Int32) (f_t_file : Nat → Int32) : Int32 :=
  j_Mo_areColumns_38 t_from f_t_file 0
def oj_Mo_areColumns_37 (t_from : Int32) (f_t_file : Nat → Int32) : Prop :=
  oj_Mo_areColumns_38 t_from f_t_file 0
def k_Mo_areColumns_13 (t_from : Int32) (f_t_file : Nat → Int32) (x13 : Int32) : Int32 :=
  if x13 = 0 then (j_Mo_areColumns_37 t_from f_t_file) else (if (f_t_file (t_from + 2).toNatClampNeg) ≤ 0 then (j_Mo_areColumns_37 t_from f_t_file) else (j_Mo_areColumns_38 t_from f_t_file 1))
def ok_Mo_areColumns_13 (t_from : Int32) (f_t_file : Nat → Int32) (x13 : Int32) : Prop :=
  if x13 = 0 then (oj_Mo_areColumns_37 t_from f_t_file) else (vp_in (t_from + 2) 65536 ∧ (if (f_t_file (t_from + 2).toNatClampNeg) ≤ 0 then (oj_Mo_areColumns_37 t_from f_t_file) else (oj_Mo_areColumns_38 t_from f_t_file 1)))
def k_Mo_areColumns_5 (t_from : Int32) (f_t_file : Nat → Int32) (x5 : Int32) : Int32 :=
  k_Mo_areColumns_13 t_from f_t_file (m_Mo_in ((x5 : Int32).toInt64) 1 1024)
def ok_Mo_areColumns_5 (t_from : Int32) (f_t_file : Nat → Int32) (x5 : Int32) : Prop :=
  om_Mo_in ((x5 : Int32).toInt64) 1 1024 ∧ (ok_Mo_areColumns_13 t_from f_t_file (m_Mo_in ((x5 : Int32).toInt64) 1 1024))
def om_Mo_areColumns (t_from : Int32) (f_t_file : Nat → Int32) : Prop :=
  om_Mo_u2 t_from ∧ (ok_Mo_areColumns_5 t_from f_t_file (m_Mo_u2 f_t_file t_from))
def m_Mo_areColumns (t_from : Int32) (f_t_file : Nat → Int32) : Int32 :=
  k_Mo_areColumns_5 t_from f_t_file (m_Mo_u2 f_t_file t_from)
set_option maxHeartbeats 4000000 in
set_option maxRecDepth 100000 in
theorem c_Mo_areColumns (l : Launch) (D : va_G) (cB cI cJ : ClassId) (h_t h_t_bits h_t_profile h_t_columnBits h_t_numbers h_t_map h_t_line h_t_resolutions h_t_file : Nat) (t_thrown : Int32) (t_high : Int32) (t_wide : Int32) (t_components : Int32) (t_unknown : Int32) (t_rights : Int32) (t_colours : Int32) (t_profiled : Int32) (t_entries : Int32) (t_columns : Int32) (t_maps : Int32) (t_lines : Int32) (t_size : Int32) (t_scanned : Int32) (t_refusedAt : Int32) (t_cursor : Int32) (t_streamAt : Int32) (t_streamMany : Int32) (t_name : Int32) (t_from : Int32) (t_end : Int32) (t_sizeAt : Int32) (t_bitsAt : Int32) (t_colourAt : Int32) (t_colourEnd : Int32) (t_paletteAt : Int32) (t_mapAt : Int32) (t_mapEnd : Int32) (t_channelsAt : Int32) (t_captureAt : Int32) (t_displayAt : Int32) (t_resolved : Int32) (f_t_file : Nat → Int32) (hO : om_Mo_areColumns t_from f_t_file) (sz : Nat) : Ct l D cB cI cJ y_Mo_areColumns b_Mo_areColumns 3 (some .boolean) 1 25 0 0 [.ref h_t] [(h_t, .inr (7, (.int t_thrown :: .int t_high :: .int t_wide :: .int t_components :: .ref h_t_bits :: .int t_unknown :: .int t_rights :: .int t_colours :: .int t_profiled :: .ref h_t_profile :: .int t_entries :: .int t_columns :: .ref h_t_columnBits :: .ref h_t_numbers :: .int t_maps :: .ref h_t_map :: .int t_lines :: .ref h_t_line :: .ref h_t_resolutions :: .ref h_t_file :: .int t_size :: .int t_scanned :: .int t_refusedAt :: .int t_cursor :: .int t_streamAt :: .int t_streamMany :: .int t_name :: .int t_from :: .int t_end :: .int t_sizeAt :: .int t_bitsAt :: .int t_colourAt :: .int t_colourEnd :: .int t_paletteAt :: .int t_mapAt :: .int t_mapEnd :: .int t_channelsAt :: .int t_captureAt :: .int t_displayAt :: .int t_resolved :: []))), (h_t_file, .inl (cI, 65536, .inl f_t_file))] (fun v w1 => ∃ (x : Int32), x = m_Mo_areColumns t_from f_t_file ∧ v = some (.int x) ∧ w1 = [(h_t, .inr (7, (.int t_thrown :: .int t_high :: .int t_wide :: .int t_components :: .ref h_t_bits :: .int t_unknown :: .int t_rights :: .int t_colours :: .int t_profiled :: .ref h_t_profile :: .int t_entries :: .int t_columns :: .ref h_t_columnBits :: .ref h_t_numbers :: .int t_maps :: .ref h_t_map :: .int t_lines :: .ref h_t_line :: .ref h_t_resolutions :: .ref h_t_file :: .int t_size :: .int t_scanned :: .int t_refusedAt :: .int t_cursor :: .int t_streamAt :: .int t_streamMany :: .int t_name :: .int t_from :: .int t_end :: .int t_sizeAt :: .int t_bitsAt :: .int t_colourAt :: .int t_colourEnd :: .int t_paletteAt :: .int t_mapAt :: .int t_mapEnd :: .int t_channelsAt :: .int t_captureAt :: .int t_displayAt :: .int t_resolved :: []))), (h_t_file, .inl (cI, 65536, .inl f_t_file))]) sz := by
  refine Ct.of (by decide) (Nat.le_of_ble_eq_true rfl) ?_
  intro p e R s m args below meth c A ls Q hx hb hr hlk hml hta hown hin hK hN hA hRf hRl hRc hRs hP hD hS hl hQ
  have hl : lv_has ls 3 [(0, .ref h_t)] := hl
  obtain ⟨RES, E0⟩ : ∃ R, m_Mo_areColumns t_from f_t_file = R := ⟨_, rfl⟩
  have E := E0
  have O := hO
  refine lv_aload_n hx hb d_Mo_areColumns_0 rfl (lv_at hl 0 rfl) ?_
  refine lv_aload_n hx hb d_Mo_areColumns_1 rfl (lv_at hl 0 rfl) ?_
  refine va_get (D := D) (v := .int t_from) hx hb hta i_Mo hown hK hP 0 rfl rfl 27 (by decide) (hta _ lk_Mo_219) (fun _ h9 => h9) rfl d_Mo_areColumns_2 ?_
  refine kc_V (As := [.int t_from]) (rest := []) (wr := []) [0, 1] [] ⟨hx, hb, hml, hown, hta⟩ hK hN hP hD hS hA (c_Mo_u2 l D cB cI cJ h_t h_t_bits h_t_profile h_t_columnBits h_t_numbers h_t_map h_t_line h_t_resolutions h_t_file t_thrown t_high t_wide t_components t_unknown t_rights t_colours t_profiled t_entries t_columns t_maps t_lines t_size t_scanned t_refusedAt t_cursor t_streamAt t_streamMany t_name t_from t_end t_sizeAt t_bitsAt t_colourAt t_colourEnd t_paletteAt t_mapAt t_mapEnd t_channelsAt t_captureAt t_displayAt t_resolved f_t_file t_from O.1 _) (hta _ lk_Mo_209) (hta _ ini_Mo) (hta _ code_Mo_u2) code_Mo_u2 (hta _ inst_Mo_u2) (hta _ sel_Mo_u2) hd_Mo_u2 rfl ⟨by omega, by omega⟩ (ci := 7) 0 rfl rfl rfl rfl (by decide) (by decide) (by decide) rfl hl.1 (lv_room (Nat.le_of_ble_eq_true rfl)) d_Mo_areColumns_5 ⟨by omega, by omega⟩ (fun v w1 H locs hw hP hD hS => ?_)
  obtain ⟨x5, hx5, rfl, rfl⟩ := hw
  have hP : va_P D classes [(h_t, .inr (7, (.int t_thrown :: .int t_high :: .int t_wide :: .int t_components :: .ref h_t_bits :: .int t_unknown :: .int t_rights :: .int t_colours :: .int t_profiled :: .ref h_t_profile :: .int t_entries :: .int t_columns :: .ref h_t_columnBits :: .ref h_t_numbers :: .int t_maps :: .ref h_t_map :: .int t_lines :: .ref h_t_line :: .ref h_t_resolutions :: .ref h_t_file :: .int t_size :: .int t_scanned :: .int t_refusedAt :: .int t_cursor :: .int t_streamAt :: .int t_streamMany :: .int t_name :: .int t_from :: .int t_end :: .int t_sizeAt :: .int t_bitsAt :: .int t_colourAt :: .int t_colourEnd :: .int t_paletteAt :: .int t_mapAt :: .int t_mapEnd :: .int t_channelsAt :: .int t_captureAt :: .int t_displayAt :: .int t_resolved :: []))), (h_t_file, .inl (cI, 65536, .inl f_t_file))] H := hP.sub [0, 1] rfl
  have hD : va_D A [(h_t, .inr (7, (.int t_thrown :: .int t_high :: .int t_wide :: .int t_components :: .ref h_t_bits :: .int t_unknown :: .int t_rights :: .int t_colours :: .int t_profiled :: .ref h_t_profile :: .int t_entries :: .int t_columns :: .ref h_t_columnBits :: .ref h_t_numbers :: .int t_maps :: .ref h_t_map :: .int t_lines :: .ref h_t_line :: .ref h_t_resolutions :: .ref h_t_file :: .int t_size :: .int t_scanned :: .int t_refusedAt :: .int t_cursor :: .int t_streamAt :: .int t_streamMany :: .int t_name :: .int t_from :: .int t_end :: .int t_sizeAt :: .int t_bitsAt :: .int t_colourAt :: .int t_colourEnd :: .int t_paletteAt :: .int t_mapAt :: .int t_mapEnd :: .int t_channelsAt :: .int t_captureAt :: .int t_displayAt :: .int t_resolved :: []))), (h_t_file, .inl (cI, 65536, .inl f_t_file))] := hD.sub [0, 1] (by decide) rfl
  refine W.eq (g2 := F0 m 8 ls [.int x5]) rfl ?_
  have O := O.2
  have E : k_Mo_areColumns_5 t_from f_t_file x5 = RES := (congrArg (k_Mo_areColumns_5 t_from f_t_file) hx5).trans E
  have O : ok_Mo_areColumns_5 t_from f_t_file x5 := by rw [hx5]; exact O
  refine lv_i2l (v := (x5 : Int32).toInt64) hx hb d_Mo_areColumns_8 rfl ?_
  refine lv_lconst (v := 1) hx hb d_Mo_areColumns_9 (by decide) ?_
  refine lv_ldc2 (v := 1024) hx hb hown (hta _ lk_Mo_96) d_Mo_areColumns_10 ?_
  refine kc_S (As := [.long ((x5 : Int32).toInt64), .long 1, .long 1024]) (rest := []) (wr := [(h_t, .inr (7, (.int t_thrown :: .int t_high :: .int t_wide :: .int t_components :: .ref h_t_bits :: .int t_unknown :: .int t_rights :: .int t_colours :: .int t_profiled :: .ref h_t_profile :: .int t_entries :: .int t_columns :: .ref h_t_columnBits :: .ref h_t_numbers :: .int t_maps :: .ref h_t_map :: .int t_lines :: .ref h_t_line :: .ref h_t_resolutions :: .ref h_t_file :: .int t_size :: .int t_scanned :: .int t_refusedAt :: .int t_cursor :: .int t_streamAt :: .int t_streamMany :: .int t_name :: .int t_from :: .int t_end :: .int t_sizeAt :: .int t_bitsAt :: .int t_colourAt :: .int t_colourEnd :: .int t_paletteAt :: .int t_mapAt :: .int t_mapEnd :: .int t_channelsAt :: .int t_captureAt :: .int t_displayAt :: .int t_resolved :: []))), (h_t_file, .inl (cI, 65536, .inl f_t_file))]) [] [0, 1] ⟨hx, hb, hml, hown, hta⟩ hK hN hP hD hS hA (c_Mo_in l D cB cI cJ ((x5 : Int32).toInt64) 1 1024 O.1 _) (hta _ lk_Mo_81) (hta _ ini_Mo) (hta _ code_Mo_in) code_Mo_in (hta _ stat_Mo_in) hd_Mo_in rfl ⟨by omega, by omega⟩ rfl rfl (by decide) (by decide) (by decide) rfl hl.1 (lv_room (Nat.le_of_ble_eq_true rfl)) d_Mo_areColumns_13 ⟨by omega, by omega⟩ (fun v w1 H locs hw hP hD hS => ?_)
  obtain ⟨x13, hx13, rfl, rfl⟩ := hw
  have hP : va_P D classes [(h_t, .inr (7, (.int t_thrown :: .int t_high :: .int t_wide :: .int t_components :: .ref h_t_bits :: .int t_unknown :: .int t_rights :: .int t_colours :: .int t_profiled :: .ref h_t_profile :: .int t_entries :: .int t_columns :: .ref h_t_columnBits :: .ref h_t_numbers :: .int t_maps :: .ref h_t_map :: .int t_lines :: .ref h_t_line :: .ref h_t_resolutions :: .ref h_t_file :: .int t_size :: .int t_scanned :: .int t_refusedAt :: .int t_cursor :: .int t_streamAt :: .int t_streamMany :: .int t_name :: .int t_from :: .int t_end :: .int t_sizeAt :: .int t_bitsAt :: .int t_colourAt :: .int t_colourEnd :: .int t_paletteAt :: .int t_mapAt :: .int t_mapEnd :: .int t_channelsAt :: .int t_captureAt :: .int t_displayAt :: .int t_resolved :: []))), (h_t_file, .inl (cI, 65536, .inl f_t_file))] H := hP.sub [0, 1] rfl
  have hD : va_D A [(h_t, .inr (7, (.int t_thrown :: .int t_high :: .int t_wide :: .int t_components :: .ref h_t_bits :: .int t_unknown :: .int t_rights :: .int t_colours :: .int t_profiled :: .ref h_t_profile :: .int t_entries :: .int t_columns :: .ref h_t_columnBits :: .ref h_t_numbers :: .int t_maps :: .ref h_t_map :: .int t_lines :: .ref h_t_line :: .ref h_t_resolutions :: .ref h_t_file :: .int t_size :: .int t_scanned :: .int t_refusedAt :: .int t_cursor :: .int t_streamAt :: .int t_streamMany :: .int t_name :: .int t_from :: .int t_end :: .int t_sizeAt :: .int t_bitsAt :: .int t_colourAt :: .int t_colourEnd :: .int t_paletteAt :: .int t_mapAt :: .int t_mapEnd :: .int t_channelsAt :: .int t_captureAt :: .int t_displayAt :: .int t_resolved :: []))), (h_t_file, .inl (cI, 65536, .inl f_t_file))] := hD.sub [0, 1] (by decide) rfl
  refine W.eq (g2 := F0 m 16 ls [.int x13]) rfl ?_
  have O := O.2
  have E : k_Mo_areColumns_13 t_from f_t_file x13 = RES := (congrArg (k_Mo_areColumns_13 t_from f_t_file) hx13).trans E
  have O : ok_Mo_areColumns_13 t_from f_t_file x13 := by rw [hx13]; exact O
  have J_38 : ∀ (j38_s0 : Int32), j_Mo_areColumns_38 t_from f_t_file j38_s0 = RES → oj_Mo_areColumns_38 t_from f_t_file j38_s0 → ∀ (H : Heap) (locs : List Loc), va_P D classes [(h_t, .inr (7, (.int t_thrown :: .int t_high :: .int t_wide :: .int t_components :: .ref h_t_bits :: .int t_unknown :: .int t_rights :: .int t_colours :: .int t_profiled :: .ref h_t_profile :: .int t_entries :: .int t_columns :: .ref h_t_columnBits :: .ref h_t_numbers :: .int t_maps :: .ref h_t_map :: .int t_lines :: .ref h_t_line :: .ref h_t_resolutions :: .ref h_t_file :: .int t_size :: .int t_scanned :: .int t_refusedAt :: .int t_cursor :: .int t_streamAt :: .int t_streamMany :: .int t_name :: .int t_from :: .int t_end :: .int t_sizeAt :: .int t_bitsAt :: .int t_colourAt :: .int t_colourEnd :: .int t_paletteAt :: .int t_mapAt :: .int t_mapEnd :: .int t_channelsAt :: .int t_captureAt :: .int t_displayAt :: .int t_resolved :: []))), (h_t_file, .inl (cI, 65536, .inl f_t_file))] H → va_D A [(h_t, .inr (7, (.int t_thrown :: .int t_high :: .int t_wide :: .int t_components :: .ref h_t_bits :: .int t_unknown :: .int t_rights :: .int t_colours :: .int t_profiled :: .ref h_t_profile :: .int t_entries :: .int t_columns :: .ref h_t_columnBits :: .ref h_t_numbers :: .int t_maps :: .ref h_t_map :: .int t_lines :: .ref h_t_line :: .ref h_t_resolutions :: .ref h_t_file :: .int t_size :: .int t_scanned :: .int t_refusedAt :: .int t_cursor :: .int t_streamAt :: .int t_streamMany :: .int t_name :: .int t_from :: .int t_end :: .int t_sizeAt :: .int t_bitsAt :: .int t_colourAt :: .int t_colourEnd :: .int t_paletteAt :: .int t_mapAt :: .int t_mapEnd :: .int t_channelsAt :: .int t_captureAt :: .int t_displayAt :: .int t_resolved :: []))), (h_t_file, .inl (cI, 65536, .inl f_t_file))] → va_S A s.heap H locs → ∀ ls : Array Slot, lv_has ls 3 [(0, .ref h_t)] → W p l e R s m args below meth c H locs 0 0 Q (F0 m 38 ls [.int j38_s0]) := by
    intro j38_s0 E O H locs hP hD hS ls hl
    refine lv_istore_n (lv' := [(1, .int j38_s0), (0, .ref h_t)]) hx hb d_Mo_areColumns_38 rfl hl (by decide) rfl (fun ls hl => ?_)
    refine lv_iconst (v := 0) hx hb d_Mo_areColumns_39 (by decide) ?_
    refine lv_istore_n (lv' := [(2, .int 0), (1, .int j38_s0), (0, .ref h_t)]) hx hb d_Mo_areColumns_40 rfl hl (by decide) rfl (fun ls hl => ?_)
    have L_41 : ∀ (n : Nat) (v41_2 : Int32) (v41_1 : Int32), ((f_t_file (t_from + 2).toNatClampNeg).toInt - v41_2.toInt).toNat < n → lp_Mo_areColumns_41 t_from f_t_file n v41_2 v41_1 = RES → olp_Mo_areColumns_41 t_from f_t_file n v41_2 v41_1 → ∀ (H : Heap) (locs : List Loc), va_P D classes [(h_t, .inr (7, (.int t_thrown :: .int t_high :: .int t_wide :: .int t_components :: .ref h_t_bits :: .int t_unknown :: .int t_rights :: .int t_colours :: .int t_profiled :: .ref h_t_profile :: .int t_entries :: .int t_columns :: .ref h_t_columnBits :: .ref h_t_numbers :: .int t_maps :: .ref h_t_map :: .int t_lines :: .ref h_t_line :: .ref h_t_resolutions :: .ref h_t_file :: .int t_size :: .int t_scanned :: .int t_refusedAt :: .int t_cursor :: .int t_streamAt :: .int t_streamMany :: .int t_name :: .int t_from :: .int t_end :: .int t_sizeAt :: .int t_bitsAt :: .int t_colourAt :: .int t_colourEnd :: .int t_paletteAt :: .int t_mapAt :: .int t_mapEnd :: .int t_channelsAt :: .int t_captureAt :: .int t_displayAt :: .int t_resolved :: []))), (h_t_file, .inl (cI, 65536, .inl f_t_file))] H → va_D A [(h_t, .inr (7, (.int t_thrown :: .int t_high :: .int t_wide :: .int t_components :: .ref h_t_bits :: .int t_unknown :: .int t_rights :: .int t_colours :: .int t_profiled :: .ref h_t_profile :: .int t_entries :: .int t_columns :: .ref h_t_columnBits :: .ref h_t_numbers :: .int t_maps :: .ref h_t_map :: .int t_lines :: .ref h_t_line :: .ref h_t_resolutions :: .ref h_t_file :: .int t_size :: .int t_scanned :: .int t_refusedAt :: .int t_cursor :: .int t_streamAt :: .int t_streamMany :: .int t_name :: .int t_from :: .int t_end :: .int t_sizeAt :: .int t_bitsAt :: .int t_colourAt :: .int t_colourEnd :: .int t_paletteAt :: .int t_mapAt :: .int t_mapEnd :: .int t_channelsAt :: .int t_captureAt :: .int t_displayAt :: .int t_resolved :: []))), (h_t_file, .inl (cI, 65536, .inl f_t_file))] → va_S A s.heap H locs → ∀ ls : Array Slot, lv_has ls 3 [(2, .int v41_2), (1, .int v41_1), (0, .ref h_t)] → W p l e R s m args below meth c H locs 0 0 Q (F0 m 41 ls []) := by
      intro n
      induction n with
      | zero => intro v41_2 v41_1 hlt; exact absurd hlt (Nat.not_lt_zero _)
      | succ n ih =>
        intro v41_2 v41_1 hlt_41 E O H locs hP hD hS ls hl
        have E : lb_Mo_areColumns_41 t_from f_t_file (lp_Mo_areColumns_41 t_from f_t_file n) v41_2 v41_1 = RES := E
        have O : olb_Mo_areColumns_41 t_from f_t_file (olp_Mo_areColumns_41 t_from f_t_file n) v41_2 v41_1 := O
        generalize lp_Mo_areColumns_41 t_from f_t_file n = kk_41 at ih E
        generalize olp_Mo_areColumns_41 t_from f_t_file n = okk_41 at ih O
        have ih_41 := ih
        clear ih
        refine lv_iload_n hx hb d_Mo_areColumns_41 rfl (lv_at hl 0 rfl) ?_
        refine lv_aload_n hx hb d_Mo_areColumns_42 rfl (lv_at hl 2 rfl) ?_
        refine va_get (D := D) (v := .ref h_t_file) hx hb hta i_Mo hown hK hP 0 rfl rfl 19 (by decide) (hta _ lk_Mo_37) (fun _ h9 => h9) rfl d_Mo_areColumns_43 ?_
        refine lv_aload_n hx hb d_Mo_areColumns_46 rfl (lv_at hl 2 rfl) ?_
        refine va_get (D := D) (v := .int t_from) hx hb hta i_Mo hown hK hP 0 rfl rfl 27 (by decide) (hta _ lk_Mo_219) (fun _ h9 => h9) rfl d_Mo_areColumns_47 ?_
        refine lv_iconst (v := 2) hx hb d_Mo_areColumns_50 (by decide) ?_
        refine lv_iadd hx hb d_Mo_areColumns_51 ?_
        refine va_iald hx hb hK hP 1 1 rfl rfl O.1 d_Mo_areColumns_52 ?_
        have O := O.2
        refine lv_icmp_ge (tgt := 91) hx hb d_Mo_areColumns_53 (by decide) (fun c_53 => ?_) (fun c_53 => ?_)
        · have E := (if_pos c_53).symm.trans E
          have O := Eq.mp (if_pos c_53) O
          refine lv_iload_n hx hb d_Mo_areColumns_91 rfl (lv_at hl 1 rfl) ?_
          exact kr_z hx hb hr hlk hQ hK hP hD hS ⟨(v41_1 : Int32), E.trans E0.symm, rfl, rfl⟩ (by omega) (by omega) O.1 d_Mo_areColumns_92
        · have E := (if_neg c_53).symm.trans E
          have O := Eq.mp (if_neg c_53) O
          refine lv_iload_n hx hb d_Mo_areColumns_56 rfl (lv_at hl 1 rfl) ?_
          have J_83 : j_Mo_areColumns_83 kk_41 v41_2 = RES → oj_Mo_areColumns_83 okk_41 v41_2 → ∀ (H : Heap) (locs : List Loc), va_P D classes [(h_t, .inr (7, (.int t_thrown :: .int t_high :: .int t_wide :: .int t_components :: .ref h_t_bits :: .int t_unknown :: .int t_rights :: .int t_colours :: .int t_profiled :: .ref h_t_profile :: .int t_entries :: .int t_columns :: .ref h_t_columnBits :: .ref h_t_numbers :: .int t_maps :: .ref h_t_map :: .int t_lines :: .ref h_t_line :: .ref h_t_resolutions :: .ref h_t_file :: .int t_size :: .int t_scanned :: .int t_refusedAt :: .int t_cursor :: .int t_streamAt :: .int t_streamMany :: .int t_name :: .int t_from :: .int t_end :: .int t_sizeAt :: .int t_bitsAt :: .int t_colourAt :: .int t_colourEnd :: .int t_paletteAt :: .int t_mapAt :: .int t_mapEnd :: .int t_channelsAt :: .int t_captureAt :: .int t_displayAt :: .int t_resolved :: []))), (h_t_file, .inl (cI, 65536, .inl f_t_file))] H → va_D A [(h_t, .inr (7, (.int t_thrown :: .int t_high :: .int t_wide :: .int t_components :: .ref h_t_bits :: .int t_unknown :: .int t_rights :: .int t_colours :: .int t_profiled :: .ref h_t_profile :: .int t_entries :: .int t_columns :: .ref h_t_columnBits :: .ref h_t_numbers :: .int t_maps :: .ref h_t_map :: .int t_lines :: .ref h_t_line :: .ref h_t_resolutions :: .ref h_t_file :: .int t_size :: .int t_scanned :: .int t_refusedAt :: .int t_cursor :: .int t_streamAt :: .int t_streamMany :: .int t_name :: .int t_from :: .int t_end :: .int t_sizeAt :: .int t_bitsAt :: .int t_colourAt :: .int t_colourEnd :: .int t_paletteAt :: .int t_mapAt :: .int t_mapEnd :: .int t_channelsAt :: .int t_captureAt :: .int t_displayAt :: .int t_resolved :: []))), (h_t_file, .inl (cI, 65536, .inl f_t_file))] → va_S A s.heap H locs → ∀ ls : Array Slot, lv_has ls 3 [(2, .int v41_2), (0, .ref h_t)] → W p l e R s m args below meth c H locs 0 0 Q (F0 m 83 ls []) := by
            intro E O H locs hP hD hS ls hl
            refine lv_iconst (v := 0) hx hb d_Mo_areColumns_83 (by decide) ?_
            refine lv_istore_n (lv' := [(1, .int 0), (2, .int v41_2), (0, .ref h_t)]) hx hb d_Mo_areColumns_84 rfl hl (by decide) rfl (fun ls hl => ?_)
            refine lv_iinc (v := v41_2 + 1) (lv' := [(2, .int (v41_2 + 1)), (1, .int 0), (0, .ref h_t)]) hx hb d_Mo_areColumns_85 hl (k := 1) rfl rfl (by decide) rfl (fun ls hl => ?_)
            refine lv_goto (tgt := 41) hx hb d_Mo_areColumns_88 (by decide) ?_
            exact ih_41 (v41_2 + 1) 0 (Nat.lt_of_lt_of_le (tm_up c_53) (Nat.le_of_lt_succ hlt_41)) E O _ _ hP hD hS ls (lv_sub hl [0, 1, 2] rfl)
          refine lv_if_eq (tgt := 83) hx hb d_Mo_areColumns_57 (by decide) (fun c_57 => ?_) (fun c_57 => ?_)
          · have E := (if_pos c_57).symm.trans E
            have O := Eq.mp (if_pos c_57) O
            exact J_83  E O _ _ hP hD hS ls (lv_sub hl [0, 2] rfl)
          · have E := (if_neg c_57).symm.trans E
            have O := Eq.mp (if_neg c_57) O
            refine lv_aload_n hx hb d_Mo_areColumns_60 rfl (lv_at hl 2 rfl) ?_
            refine va_get (D := D) (v := .ref h_t_file) hx hb hta i_Mo hown hK hP 0 rfl rfl 19 (by decide) (hta _ lk_Mo_37) (fun _ h9 => h9) rfl d_Mo_areColumns_61 ?_
            refine lv_aload_n hx hb d_Mo_areColumns_64 rfl (lv_at hl 2 rfl) ?_
            refine va_get (D := D) (v := .int t_from) hx hb hta i_Mo hown hK hP 0 rfl rfl 27 (by decide) (hta _ lk_Mo_219) (fun _ h9 => h9) rfl d_Mo_areColumns_65 ?_
            refine lv_iconst (v := 3) hx hb d_Mo_areColumns_68 (by decide) ?_
            refine lv_iadd hx hb d_Mo_areColumns_69 ?_
            refine lv_iload_n hx hb d_Mo_areColumns_70 rfl (lv_at hl 0 rfl) ?_
            refine lv_iadd hx hb d_Mo_areColumns_71 ?_
            refine va_iald hx hb hK hP 1 1 rfl rfl O.1 d_Mo_areColumns_72 ?_
            have O := O.2
            refine kc_S (As := [.int (f_t_file ((t_from + 3) + v41_2).toNatClampNeg)]) (rest := []) (wr := [(h_t, .inr (7, (.int t_thrown :: .int t_high :: .int t_wide :: .int t_components :: .ref h_t_bits :: .int t_unknown :: .int t_rights :: .int t_colours :: .int t_profiled :: .ref h_t_profile :: .int t_entries :: .int t_columns :: .ref h_t_columnBits :: .ref h_t_numbers :: .int t_maps :: .ref h_t_map :: .int t_lines :: .ref h_t_line :: .ref h_t_resolutions :: .ref h_t_file :: .int t_size :: .int t_scanned :: .int t_refusedAt :: .int t_cursor :: .int t_streamAt :: .int t_streamMany :: .int t_name :: .int t_from :: .int t_end :: .int t_sizeAt :: .int t_bitsAt :: .int t_colourAt :: .int t_colourEnd :: .int t_paletteAt :: .int t_mapAt :: .int t_mapEnd :: .int t_channelsAt :: .int t_captureAt :: .int t_displayAt :: .int t_resolved :: []))), (h_t_file, .inl (cI, 65536, .inl f_t_file))]) [] [0, 1] ⟨hx, hb, hml, hown, hta⟩ hK hN hP hD hS hA (c_Mo_areBits l D cB cI cJ (f_t_file ((t_from + 3) + v41_2).toNatClampNeg) O.1 _) (hta _ lk_Mo_85) (hta _ ini_Mo) (hta _ code_Mo_areBits) code_Mo_areBits (hta _ stat_Mo_areBits) hd_Mo_areBits rfl ⟨by omega, by omega⟩ rfl rfl (by decide) (by decide) (by decide) rfl hl.1 (lv_room (Nat.le_of_ble_eq_true rfl)) d_Mo_areColumns_73 ⟨by omega, by omega⟩ (fun v w1 H locs hw hP hD hS => ?_)
            obtain ⟨x73, hx73, rfl, rfl⟩ := hw
            have hP : va_P D classes [(h_t, .inr (7, (.int t_thrown :: .int t_high :: .int t_wide :: .int t_components :: .ref h_t_bits :: .int t_unknown :: .int t_rights :: .int t_colours :: .int t_profiled :: .ref h_t_profile :: .int t_entries :: .int t_columns :: .ref h_t_columnBits :: .ref h_t_numbers :: .int t_maps :: .ref h_t_map :: .int t_lines :: .ref h_t_line :: .ref h_t_resolutions :: .ref h_t_file :: .int t_size :: .int t_scanned :: .int t_refusedAt :: .int t_cursor :: .int t_streamAt :: .int t_streamMany :: .int t_name :: .int t_from :: .int t_end :: .int t_sizeAt :: .int t_bitsAt :: .int t_colourAt :: .int t_colourEnd :: .int t_paletteAt :: .int t_mapAt :: .int t_mapEnd :: .int t_channelsAt :: .int t_captureAt :: .int t_displayAt :: .int t_resolved :: []))), (h_t_file, .inl (cI, 65536, .inl f_t_file))] H := hP.sub [0, 1] rfl
            have hD : va_D A [(h_t, .inr (7, (.int t_thrown :: .int t_high :: .int t_wide :: .int t_components :: .ref h_t_bits :: .int t_unknown :: .int t_rights :: .int t_colours :: .int t_profiled :: .ref h_t_profile :: .int t_entries :: .int t_columns :: .ref h_t_columnBits :: .ref h_t_numbers :: .int t_maps :: .ref h_t_map :: .int t_lines :: .ref h_t_line :: .ref h_t_resolutions :: .ref h_t_file :: .int t_size :: .int t_scanned :: .int t_refusedAt :: .int t_cursor :: .int t_streamAt :: .int t_streamMany :: .int t_name :: .int t_from :: .int t_end :: .int t_sizeAt :: .int t_bitsAt :: .int t_colourAt :: .int t_colourEnd :: .int t_paletteAt :: .int t_mapAt :: .int t_mapEnd :: .int t_channelsAt :: .int t_captureAt :: .int t_displayAt :: .int t_resolved :: []))), (h_t_file, .inl (cI, 65536, .inl f_t_file))] := hD.sub [0, 1] (by decide) rfl
            refine W.eq (g2 := F0 m 76 ls [.int x73]) rfl ?_
            have O := O.2
            have E : k_Mo_areColumns_73 kk_41 v41_2 x73 = RES := (congrArg (k_Mo_areColumns_73 kk_41 v41_2) hx73).trans E
            have O : ok_Mo_areColumns_73 okk_41 v41_2 x73 := by rw [hx73]; exact O
            refine lv_if_eq (tgt := 83) hx hb d_Mo_areColumns_76 (by decide) (fun c_76 => ?_) (fun c_76 => ?_)
            · have E := (if_pos c_76).symm.trans E
              have O := Eq.mp (if_pos c_76) O
              exact J_83  E O _ _ hP hD hS ls (lv_sub hl [0, 2] rfl)
            · have E := (if_neg c_76).symm.trans E
              have O := Eq.mp (if_neg c_76) O
              refine lv_iconst (v := 1) hx hb d_Mo_areColumns_79 (by decide) ?_
              refine lv_goto (tgt := 84) hx hb d_Mo_areColumns_80 (by decide) ?_
              refine lv_istore_n (lv' := [(1, .int 1), (2, .int v41_2), (0, .ref h_t)]) hx hb d_Mo_areColumns_84 rfl hl (by decide) rfl (fun ls hl => ?_)
              refine lv_iinc (v := v41_2 + 1) (lv' := [(2, .int (v41_2 + 1)), (1, .int 1), (0, .ref h_t)]) hx hb d_Mo_areColumns_85 hl (k := 1) rfl rfl (by decide) rfl (fun ls hl => ?_)
              refine lv_goto (tgt := 41) hx hb d_Mo_areColumns_88 (by decide) ?_
              exact ih_41 (v41_2 + 1) 1 (Nat.lt_of_lt_of_le (tm_up c_53) (Nat.le_of_lt_succ hlt_41)) E O _ _ hP hD hS ls (lv_sub hl [0, 1, 2] rfl)
    exact L_41 _ 0 j38_s0 (Nat.lt_succ_self _) E O _ _ hP hD hS ls (lv_sub hl [0, 1, 2] rfl)
  have J_37 : j_Mo_areColumns_37 t_from f_t_file = RES → oj_Mo_areColumns_37 t_from f_t_file → ∀ (H : Heap) (locs : List Loc), va_P D classes [(h_t, .inr (7, (.int t_thrown :: .int t_high :: .int t_wide :: .int t_components :: .ref h_t_bits :: .int t_unknown :: .int t_rights :: .int t_colours :: .int t_profiled :: .ref h_t_profile :: .int t_entries :: .int t_columns :: .ref h_t_columnBits :: .ref h_t_numbers :: .int t_maps :: .ref h_t_map :: .int t_lines :: .ref h_t_line :: .ref h_t_resolutions :: .ref h_t_file :: .int t_size :: .int t_scanned :: .int t_refusedAt :: .int t_cursor :: .int t_streamAt :: .int t_streamMany :: .int t_name :: .int t_from :: .int t_end :: .int t_sizeAt :: .int t_bitsAt :: .int t_colourAt :: .int t_colourEnd :: .int t_paletteAt :: .int t_mapAt :: .int t_mapEnd :: .int t_channelsAt :: .int t_captureAt :: .int t_displayAt :: .int t_resolved :: []))), (h_t_file, .inl (cI, 65536, .inl f_t_file))] H → va_D A [(h_t, .inr (7, (.int t_thrown :: .int t_high :: .int t_wide :: .int t_components :: .ref h_t_bits :: .int t_unknown :: .int t_rights :: .int t_colours :: .int t_profiled :: .ref h_t_profile :: .int t_entries :: .int t_columns :: .ref h_t_columnBits :: .ref h_t_numbers :: .int t_maps :: .ref h_t_map :: .int t_lines :: .ref h_t_line :: .ref h_t_resolutions :: .ref h_t_file :: .int t_size :: .int t_scanned :: .int t_refusedAt :: .int t_cursor :: .int t_streamAt :: .int t_streamMany :: .int t_name :: .int t_from :: .int t_end :: .int t_sizeAt :: .int t_bitsAt :: .int t_colourAt :: .int t_colourEnd :: .int t_paletteAt :: .int t_mapAt :: .int t_mapEnd :: .int t_channelsAt :: .int t_captureAt :: .int t_displayAt :: .int t_resolved :: []))), (h_t_file, .inl (cI, 65536, .inl f_t_file))] → va_S A s.heap H locs → ∀ ls : Array Slot, lv_has ls 3 [(0, .ref h_t)] → W p l e R s m args below meth c H locs 0 0 Q (F0 m 37 ls []) := by
    intro E O H locs hP hD hS ls hl
    refine lv_iconst (v := 0) hx hb d_Mo_areColumns_37 (by decide) ?_
    exact J_38 0 E O _ _ hP hD hS ls (lv_sub hl [0] rfl)
  refine lv_if_eq (tgt := 37) hx hb d_Mo_areColumns_16 (by decide) (fun c_16 => ?_) (fun c_16 => ?_)
  · have E := (if_pos c_16).symm.trans E
    have O := Eq.mp (if_pos c_16) O
    exact J_37  E O _ _ hP hD hS ls (lv_sub hl [0] rfl)
  · have E := (if_neg c_16).symm.trans E
    have O := Eq.mp (if_neg c_16) O
    refine lv_aload_n hx hb d_Mo_areColumns_19 rfl (lv_at hl 0 rfl) ?_
    refine va_get (D := D) (v := .ref h_t_file) hx hb hta i_Mo hown hK hP 0 rfl rfl 19 (by decide) (hta _ lk_Mo_37) (fun _ h9 => h9) rfl d_Mo_areColumns_20 ?_
    refine lv_aload_n hx hb d_Mo_areColumns_23 rfl (lv_at hl 0 rfl) ?_
    refine va_get (D := D) (v := .int t_from) hx hb hta i_Mo hown hK hP 0 rfl rfl 27 (by decide) (hta _ lk_Mo_219) (fun _ h9 => h9) rfl d_Mo_areColumns_24 ?_
    refine lv_iconst (v := 2) hx hb d_Mo_areColumns_27 (by decide) ?_
    refine lv_iadd hx hb d_Mo_areColumns_28 ?_
    refine va_iald hx hb hK hP 1 1 rfl rfl O.1 d_Mo_areColumns_29 ?_
    have O := O.2
    refine lv_if_le (tgt := 37) hx hb d_Mo_areColumns_30 (by decide) (fun c_30 => ?_) (fun c_30 => ?_)
    · have E := (if_pos c_30).symm.trans E
      have O := Eq.mp (if_pos c_30) O
      exact J_37  E O _ _ hP hD hS ls (lv_sub hl [0] rfl)
    · have E := (if_neg c_30).symm.trans E
      have O := Eq.mp (if_neg c_30) O
      refine lv_iconst (v := 1) hx hb d_Mo_areColumns_33 (by decide) ?_
      refine lv_goto (tgt := 38) hx hb d_Mo_areColumns_34 (by decide) ?_
      exact J_38 1 E O _ _ hP hD hS ls (lv_sub hl [0] rfl)
theorem d_Mo_isMap_0 : decode b_Mo_isMap 0 = .ok (.iconst 1, 1) := by decide +kernel
theorem d_Mo_isMap_1 : decode b_Mo_isMap 1 = .ok (.istore_n 1, 1) := by decide +kernel
theorem d_Mo_isMap_2 : decode b_Mo_isMap 2 = .ok (.aload_n 0, 1) := by decide +kernel
theorem d_Mo_isMap_3 : decode b_Mo_isMap 3 = .ok (.getfield 219, 3) := by decide +kernel
theorem d_Mo_isMap_6 : decode b_Mo_isMap 6 = .ok (.istore_n 2, 1) := by decide +kernel
theorem d_Mo_isMap_7 : decode b_Mo_isMap 7 = .ok (.iload_n 2, 1) := by decide +kernel
theorem d_Mo_isMap_8 : decode b_Mo_isMap 8 = .ok (.aload_n 0, 1) := by decide +kernel
theorem d_Mo_isMap_9 : decode b_Mo_isMap 9 = .ok (.getfield 222, 3) := by decide +kernel
theorem d_Mo_isMap_12 : decode b_Mo_isMap 12 = .ok (.if_icmp .ge 93, 3) := by decide +kernel
theorem d_Mo_isMap_15 : decode b_Mo_isMap 15 = .ok (.aload_n 0, 1) := by decide +kernel
theorem d_Mo_isMap_16 : decode b_Mo_isMap 16 = .ok (.getfield 37, 3) := by decide +kernel
theorem d_Mo_isMap_19 : decode b_Mo_isMap 19 = .ok (.iload_n 2, 1) := by decide +kernel
theorem d_Mo_isMap_20 : decode b_Mo_isMap 20 = .ok (.iconst 2, 1) := by decide +kernel
theorem d_Mo_isMap_21 : decode b_Mo_isMap 21 = .ok (.iadd, 1) := by decide +kernel
theorem d_Mo_isMap_22 : decode b_Mo_isMap 22 = .ok (.iaload, 1) := by decide +kernel
theorem d_Mo_isMap_23 : decode b_Mo_isMap 23 = .ok (.istore_n 3, 1) := by decide +kernel
theorem d_Mo_isMap_24 : decode b_Mo_isMap 24 = .ok (.iload_n 1, 1) := by decide +kernel
theorem d_Mo_isMap_25 : decode b_Mo_isMap 25 = .ok (.ifCond .eq 71, 3) := by decide +kernel
theorem d_Mo_isMap_28 : decode b_Mo_isMap 28 = .ok (.aload_n 0, 1) := by decide +kernel
theorem d_Mo_isMap_29 : decode b_Mo_isMap 29 = .ok (.iload_n 2, 1) := by decide +kernel
theorem d_Mo_isMap_30 : decode b_Mo_isMap 30 = .ok (.invokevirtual 209, 3) := by decide +kernel
theorem d_Mo_isMap_33 : decode b_Mo_isMap 33 = .ok (.aload_n 0, 1) := by decide +kernel
theorem d_Mo_isMap_34 : decode b_Mo_isMap 34 = .ok (.aload_n 0, 1) := by decide +kernel
theorem d_Mo_isMap_35 : decode b_Mo_isMap 35 = .ok (.getfield 226, 3) := by decide +kernel
theorem d_Mo_isMap_38 : decode b_Mo_isMap 38 = .ok (.bipush 8, 2) := by decide +kernel
theorem d_Mo_isMap_40 : decode b_Mo_isMap 40 = .ok (.iadd, 1) := by decide +kernel
theorem d_Mo_isMap_41 : decode b_Mo_isMap 41 = .ok (.invokevirtual 209, 3) := by decide +kernel
theorem d_Mo_isMap_44 : decode b_Mo_isMap 44 = .ok (.if_icmp .ge 52, 3) := by decide +kernel
theorem d_Mo_isMap_47 : decode b_Mo_isMap 47 = .ok (.iload_n 3, 1) := by decide +kernel
theorem d_Mo_isMap_48 : decode b_Mo_isMap 48 = .ok (.ifCond .ne 17, 3) := by decide +kernel
theorem d_Mo_isMap_51 : decode b_Mo_isMap 51 = .ok (.aload_n 0, 1) := by decide +kernel
theorem d_Mo_isMap_52 : decode b_Mo_isMap 52 = .ok (.getfield 37, 3) := by decide +kernel
theorem d_Mo_isMap_55 : decode b_Mo_isMap 55 = .ok (.iload_n 2, 1) := by decide +kernel
theorem d_Mo_isMap_56 : decode b_Mo_isMap 56 = .ok (.iconst 3, 1) := by decide +kernel
theorem d_Mo_isMap_57 : decode b_Mo_isMap 57 = .ok (.iadd, 1) := by decide +kernel
theorem d_Mo_isMap_58 : decode b_Mo_isMap 58 = .ok (.iaload, 1) := by decide +kernel
theorem d_Mo_isMap_59 : decode b_Mo_isMap 59 = .ok (.ifCond .ne 37, 3) := by decide +kernel
theorem d_Mo_isMap_62 : decode b_Mo_isMap 62 = .ok (.goto 30, 3) := by decide +kernel
theorem d_Mo_isMap_65 : decode b_Mo_isMap 65 = .ok (.iload_n 3, 1) := by decide +kernel
theorem d_Mo_isMap_66 : decode b_Mo_isMap 66 = .ok (.iconst 1, 1) := by decide +kernel
theorem d_Mo_isMap_67 : decode b_Mo_isMap 67 = .ok (.if_icmp .ne 29, 3) := by decide +kernel
theorem d_Mo_isMap_70 : decode b_Mo_isMap 70 = .ok (.aload_n 0, 1) := by decide +kernel
theorem d_Mo_isMap_71 : decode b_Mo_isMap 71 = .ok (.getfield 37, 3) := by decide +kernel
theorem d_Mo_isMap_74 : decode b_Mo_isMap 74 = .ok (.iload_n 2, 1) := by decide +kernel
theorem d_Mo_isMap_75 : decode b_Mo_isMap 75 = .ok (.iconst 3, 1) := by decide +kernel
theorem d_Mo_isMap_76 : decode b_Mo_isMap 76 = .ok (.iadd, 1) := by decide +kernel
theorem d_Mo_isMap_77 : decode b_Mo_isMap 77 = .ok (.iaload, 1) := by decide +kernel
theorem d_Mo_isMap_78 : decode b_Mo_isMap 78 = .ok (.aload_n 0, 1) := by decide +kernel
theorem d_Mo_isMap_79 : decode b_Mo_isMap 79 = .ok (.getfield 37, 3) := by decide +kernel
theorem d_Mo_isMap_82 : decode b_Mo_isMap 82 = .ok (.aload_n 0, 1) := by decide +kernel
theorem d_Mo_isMap_83 : decode b_Mo_isMap 83 = .ok (.getfield 235, 3) := by decide +kernel
theorem d_Mo_isMap_86 : decode b_Mo_isMap 86 = .ok (.iconst 2, 1) := by decide +kernel
theorem d_Mo_isMap_87 : decode b_Mo_isMap 87 = .ok (.iadd, 1) := by decide +kernel
theorem d_Mo_isMap_88 : decode b_Mo_isMap 88 = .ok (.iaload, 1) := by decide +kernel
theorem d_Mo_isMap_89 : decode b_Mo_isMap 89 = .ok (.if_icmp .ge 7, 3) := by decide +kernel
theorem d_Mo_isMap_92 : decode b_Mo_isMap 92 = .ok (.iconst 1, 1) := by decide +kernel
theorem d_Mo_isMap_93 : decode b_Mo_isMap 93 = .ok (.goto 4, 3) := by decide +kernel
theorem d_Mo_isMap_96 : decode b_Mo_isMap 96 = .ok (.iconst 0, 1) := by decide +kernel
theorem d_Mo_isMap_97 : decode b_Mo_isMap 97 = .ok (.istore_n 1, 1) := by decide +kernel
theorem d_Mo_isMap_98 : decode b_Mo_isMap 98 = .ok (.iload_n 2, 1) := by decide +kernel
theorem d_Mo_isMap_99 : decode b_Mo_isMap 99 = .ok (.iconst 4, 1) := by decide +kernel
theorem d_Mo_isMap_100 : decode b_Mo_isMap 100 = .ok (.iadd, 1) := by decide +kernel
theorem d_Mo_isMap_101 : decode b_Mo_isMap 101 = .ok (.istore_n 2, 1) := by decide +kernel
theorem d_Mo_isMap_102 : decode b_Mo_isMap 102 = .ok (.goto (-95), 3) := by decide +kernel
theorem d_Mo_isMap_105 : decode b_Mo_isMap 105 = .ok (.iload_n 1, 1) := by decide +kernel
theorem d_Mo_isMap_106 : decode b_Mo_isMap 106 = .ok (.ireturn, 1) := by decide +kernel
def j_Mo_isMap_97 (kk_7 : Int32 → Int32 → Int32) (v7_2 : Int32) (j97_s0 : Int32) : Int32 :=
  kk_7 (v7_2 + 4) j97_s0
def oj_Mo_isMap_97 (okk_7 : Int32 → Int32 → Prop) (v7_2 : Int32) (j97_s0 : Int32) : Prop :=
  okk_7 (v7_2 + 4) j97_s0
def j_Mo_isMap_96 (kk_7 : Int32 → Int32 → Int32) (v7_2 : Int32) : Int32 :=
  j_Mo_isMap_97 kk_7 v7_2 0
def oj_Mo_isMap_96 (okk_7 : Int32 → Int32 → Prop) (v7_2 : Int32) : Prop :=
  oj_Mo_isMap_97 okk_7 v7_2 0
def j_Mo_isMap_92 (kk_7 : Int32 → Int32 → Int32) (v7_2 : Int32) : Int32 :=
  j_Mo_isMap_97 kk_7 v7_2 1
def oj_Mo_isMap_92 (okk_7 : Int32 → Int32 → Prop) (v7_2 : Int32) : Prop :=
  oj_Mo_isMap_97 okk_7 v7_2 1
def k_Mo_isMap_41 (t_paletteAt : Int32) (f_t_file : Nat → Int32) (kk_7 : Int32 → Int32 → Int32) (v7_2 : Int32) (x30 : Int32) (x41 : Int32) : Int32 :=
  if x41 ≤ x30 then (j_Mo_isMap_96 kk_7 v7_2) else (if (f_t_file (v7_2 + 2).toNatClampNeg) = 0 then (if (f_t_file (v7_2 + 3).toNatClampNeg) = 0 then (j_Mo_isMap_92 kk_7 v7_2) else (j_Mo_isMap_96 kk_7 v7_2)) else (if (f_t_file (v7_2 + 2).toNatClampNeg) = 1 then (if (f_t_file (t_paletteAt + 2).toNatClampNeg) ≤ (f_t_file (v7_2 + 3).toNatClampNeg) then (j_Mo_isMap_96 kk_7 v7_2) else (j_Mo_isMap_92 kk_7 v7_2)) else (j_Mo_isMap_96 kk_7 v7_2)))
def ok_Mo_isMap_41 (t_paletteAt : Int32) (f_t_file : Nat → Int32) (okk_7 : Int32 → Int32 → Prop) (v7_2 : Int32) (x30 : Int32) (x41 : Int32) : Prop :=
  if x41 ≤ x30 then (oj_Mo_isMap_96 okk_7 v7_2) else (if (f_t_file (v7_2 + 2).toNatClampNeg) = 0 then (vp_in (v7_2 + 3) 65536 ∧ (if (f_t_file (v7_2 + 3).toNatClampNeg) = 0 then (oj_Mo_isMap_92 okk_7 v7_2) else (oj_Mo_isMap_96 okk_7 v7_2))) else (if (f_t_file (v7_2 + 2).toNatClampNeg) = 1 then (vp_in (v7_2 + 3) 65536 ∧ vp_in (t_paletteAt + 2) 65536 ∧ (if (f_t_file (t_paletteAt + 2).toNatClampNeg) ≤ (f_t_file (v7_2 + 3).toNatClampNeg) then (oj_Mo_isMap_96 okk_7 v7_2) else (oj_Mo_isMap_92 okk_7 v7_2))) else (oj_Mo_isMap_96 okk_7 v7_2)))
def k_Mo_isMap_30 (t_sizeAt : Int32) (t_paletteAt : Int32) (f_t_file : Nat → Int32) (kk_7 : Int32 → Int32 → Int32) (v7_2 : Int32) (x30 : Int32) : Int32 :=
  k_Mo_isMap_41 t_paletteAt f_t_file kk_7 v7_2 x30 (m_Mo_u2 f_t_file (t_sizeAt + 8))
def ok_Mo_isMap_30 (t_sizeAt : Int32) (t_paletteAt : Int32) (f_t_file : Nat → Int32) (okk_7 : Int32 → Int32 → Prop) (v7_2 : Int32) (x30 : Int32) : Prop :=
  om_Mo_u2 (t_sizeAt + 8) ∧ (ok_Mo_isMap_41 t_paletteAt f_t_file okk_7 v7_2 x30 (m_Mo_u2 f_t_file (t_sizeAt + 8)))
def lb_Mo_isMap_7 (t_end : Int32) (t_sizeAt : Int32) (t_paletteAt : Int32) (f_t_file : Nat → Int32) (kk_7 : Int32 → Int32 → Int32) (v7_2 : Int32) (v7_1 : Int32) : Int32 :=
  if t_end ≤ v7_2 then v7_1 else (if v7_1 = 0 then (j_Mo_isMap_96 kk_7 v7_2) else (k_Mo_isMap_30 t_sizeAt t_paletteAt f_t_file kk_7 v7_2 (m_Mo_u2 f_t_file v7_2)))
def lp_Mo_isMap_7 (t_end : Int32) (t_sizeAt : Int32) (t_paletteAt : Int32) (f_t_file : Nat → Int32) : Nat → Int32 → Int32 → Int32
  | 0, v7_2, v7_1 => 0
  | n + 1, v7_2, v7_1 => lb_Mo_isMap_7 t_end t_sizeAt t_paletteAt f_t_file (lp_Mo_isMap_7 t_end t_sizeAt t_paletteAt f_t_file n) v7_2 v7_1
def olb_Mo_isMap_7 (t_end : Int32) (t_sizeAt : Int32) (t_paletteAt : Int32) (f_t_file : Nat → Int32) (okk_7 : Int32 → Int32 → Prop) (v7_2 : Int32) (v7_1 : Int32) : Prop :=
  if t_end ≤ v7_2 then (narrow .boolean (.int v7_1) = .int v7_1 ∧ True) else (vp_in (v7_2 + 2) 65536 ∧ (if v7_1 = 0 then (oj_Mo_isMap_96 okk_7 v7_2) else (om_Mo_u2 v7_2 ∧ (ok_Mo_isMap_30 t_sizeAt t_paletteAt f_t_file okk_7 v7_2 (m_Mo_u2 f_t_file v7_2)))))
def olp_Mo_isMap_7 (t_end : Int32) (t_sizeAt : Int32) (t_paletteAt : Int32) (f_t_file : Nat → Int32) : Nat → Int32 → Int32 → Prop
  | 0, _, _ => False
  | n + 1, v7_2, v7_1 => olb_Mo_isMap_7 t_end t_sizeAt t_paletteAt f_t_file (olp_Mo_isMap_7 t_end t_sizeAt t_paletteAt f_t_file n) v7_2 v7_1
def om_Mo_isMap (t_from : Int32) (t_end : Int32) (t_sizeAt : Int32) (t_paletteAt : Int32) (f_t_file : Nat → Int32) : Prop :=
  olp_Mo_isMap_7 t_end t_sizeAt t_paletteAt f_t_file 70000 t_from 1
def m_Mo_isMap (t_from : Int32) (t_end : Int32) (t_sizeAt : Int32) (t_paletteAt : Int32) (f_t_file : Nat → Int32) : Int32 :=
  lp_Mo_isMap_7 t_end t_sizeAt t_paletteAt f_t_file 70000 t_from 1
set_option maxHeartbeats 4000000 in
set_option maxRecDepth 100000 in
theorem c_Mo_isMap (l : Launch) (D : va_G) (cB cI cJ : ClassId) (h_t h_t_bits h_t_profile h_t_columnBits h_t_numbers h_t_map h_t_line h_t_resolutions h_t_file : Nat) (t_thrown : Int32) (t_high : Int32) (t_wide : Int32) (t_components : Int32) (t_unknown : Int32) (t_rights : Int32) (t_colours : Int32) (t_profiled : Int32) (t_entries : Int32) (t_columns : Int32) (t_maps : Int32) (t_lines : Int32) (t_size : Int32) (t_scanned : Int32) (t_refusedAt : Int32) (t_cursor : Int32) (t_streamAt : Int32) (t_streamMany : Int32) (t_name : Int32) (t_from : Int32) (t_end : Int32) (t_sizeAt : Int32) (t_bitsAt : Int32) (t_colourAt : Int32) (t_colourEnd : Int32) (t_paletteAt : Int32) (t_mapAt : Int32) (t_mapEnd : Int32) (t_channelsAt : Int32) (t_captureAt : Int32) (t_displayAt : Int32) (t_resolved : Int32) (f_t_file : Nat → Int32) (hO : om_Mo_isMap t_from t_end t_sizeAt t_paletteAt f_t_file) (sz : Nat) : Ct l D cB cI cJ y_Mo_isMap b_Mo_isMap 4 (some .boolean) 1 21 0 0 [.ref h_t] [(h_t, .inr (7, (.int t_thrown :: .int t_high :: .int t_wide :: .int t_components :: .ref h_t_bits :: .int t_unknown :: .int t_rights :: .int t_colours :: .int t_profiled :: .ref h_t_profile :: .int t_entries :: .int t_columns :: .ref h_t_columnBits :: .ref h_t_numbers :: .int t_maps :: .ref h_t_map :: .int t_lines :: .ref h_t_line :: .ref h_t_resolutions :: .ref h_t_file :: .int t_size :: .int t_scanned :: .int t_refusedAt :: .int t_cursor :: .int t_streamAt :: .int t_streamMany :: .int t_name :: .int t_from :: .int t_end :: .int t_sizeAt :: .int t_bitsAt :: .int t_colourAt :: .int t_colourEnd :: .int t_paletteAt :: .int t_mapAt :: .int t_mapEnd :: .int t_channelsAt :: .int t_captureAt :: .int t_displayAt :: .int t_resolved :: []))), (h_t_file, .inl (cI, 65536, .inl f_t_file))] (fun v w1 => ∃ (x : Int32), x = m_Mo_isMap t_from t_end t_sizeAt t_paletteAt f_t_file ∧ v = some (.int x) ∧ w1 = [(h_t, .inr (7, (.int t_thrown :: .int t_high :: .int t_wide :: .int t_components :: .ref h_t_bits :: .int t_unknown :: .int t_rights :: .int t_colours :: .int t_profiled :: .ref h_t_profile :: .int t_entries :: .int t_columns :: .ref h_t_columnBits :: .ref h_t_numbers :: .int t_maps :: .ref h_t_map :: .int t_lines :: .ref h_t_line :: .ref h_t_resolutions :: .ref h_t_file :: .int t_size :: .int t_scanned :: .int t_refusedAt :: .int t_cursor :: .int t_streamAt :: .int t_streamMany :: .int t_name :: .int t_from :: .int t_end :: .int t_sizeAt :: .int t_bitsAt :: .int t_colourAt :: .int t_colourEnd :: .int t_paletteAt :: .int t_mapAt :: .int t_mapEnd :: .int t_channelsAt :: .int t_captureAt :: .int t_displayAt :: .int t_resolved :: []))), (h_t_file, .inl (cI, 65536, .inl f_t_file))]) sz := by
  refine Ct.of (by decide) (Nat.le_of_ble_eq_true rfl) ?_
  intro p e R s m args below meth c A ls Q hx hb hr hlk hml hta hown hin hK hN hA hRf hRl hRc hRs hP hD hS hl hQ
  have hl : lv_has ls 4 [(0, .ref h_t)] := hl
  obtain ⟨RES, E0⟩ : ∃ R, m_Mo_isMap t_from t_end t_sizeAt t_paletteAt f_t_file = R := ⟨_, rfl⟩
  have E := E0
  have O := hO
  refine lv_iconst (v := 1) hx hb d_Mo_isMap_0 (by decide) ?_
  refine lv_istore_n (lv' := [(1, .int 1), (0, .ref h_t)]) hx hb d_Mo_isMap_1 rfl hl (by decide) rfl (fun ls hl => ?_)
  refine lv_aload_n hx hb d_Mo_isMap_2 rfl (lv_at hl 1 rfl) ?_
  refine va_get (D := D) (v := .int t_from) hx hb hta i_Mo hown hK hP 0 rfl rfl 27 (by decide) (hta _ lk_Mo_219) (fun _ h9 => h9) rfl d_Mo_isMap_3 ?_
  refine lv_istore_n (lv' := [(2, .int t_from), (1, .int 1), (0, .ref h_t)]) hx hb d_Mo_isMap_6 rfl hl (by decide) rfl (fun ls hl => ?_)
  have L_7 : ∀ (n : Nat) (v7_2 : Int32) (v7_1 : Int32), lp_Mo_isMap_7 t_end t_sizeAt t_paletteAt f_t_file n v7_2 v7_1 = RES → olp_Mo_isMap_7 t_end t_sizeAt t_paletteAt f_t_file n v7_2 v7_1 → ∀ (H : Heap) (locs : List Loc), va_P D classes [(h_t, .inr (7, (.int t_thrown :: .int t_high :: .int t_wide :: .int t_components :: .ref h_t_bits :: .int t_unknown :: .int t_rights :: .int t_colours :: .int t_profiled :: .ref h_t_profile :: .int t_entries :: .int t_columns :: .ref h_t_columnBits :: .ref h_t_numbers :: .int t_maps :: .ref h_t_map :: .int t_lines :: .ref h_t_line :: .ref h_t_resolutions :: .ref h_t_file :: .int t_size :: .int t_scanned :: .int t_refusedAt :: .int t_cursor :: .int t_streamAt :: .int t_streamMany :: .int t_name :: .int t_from :: .int t_end :: .int t_sizeAt :: .int t_bitsAt :: .int t_colourAt :: .int t_colourEnd :: .int t_paletteAt :: .int t_mapAt :: .int t_mapEnd :: .int t_channelsAt :: .int t_captureAt :: .int t_displayAt :: .int t_resolved :: []))), (h_t_file, .inl (cI, 65536, .inl f_t_file))] H → va_D A [(h_t, .inr (7, (.int t_thrown :: .int t_high :: .int t_wide :: .int t_components :: .ref h_t_bits :: .int t_unknown :: .int t_rights :: .int t_colours :: .int t_profiled :: .ref h_t_profile :: .int t_entries :: .int t_columns :: .ref h_t_columnBits :: .ref h_t_numbers :: .int t_maps :: .ref h_t_map :: .int t_lines :: .ref h_t_line :: .ref h_t_resolutions :: .ref h_t_file :: .int t_size :: .int t_scanned :: .int t_refusedAt :: .int t_cursor :: .int t_streamAt :: .int t_streamMany :: .int t_name :: .int t_from :: .int t_end :: .int t_sizeAt :: .int t_bitsAt :: .int t_colourAt :: .int t_colourEnd :: .int t_paletteAt :: .int t_mapAt :: .int t_mapEnd :: .int t_channelsAt :: .int t_captureAt :: .int t_displayAt :: .int t_resolved :: []))), (h_t_file, .inl (cI, 65536, .inl f_t_file))] → va_S A s.heap H locs → ∀ ls : Array Slot, lv_has ls 4 [(2, .int v7_2), (1, .int v7_1), (0, .ref h_t)] → W p l e R s m args below meth c H locs 0 0 Q (F0 m 7 ls []) := by
    intro n
    induction n with
    | zero => intro v7_2 v7_1 E O; exact O.elim
    | succ n ih =>
      intro v7_2 v7_1 E O H locs hP hD hS ls hl
      have E : lb_Mo_isMap_7 t_end t_sizeAt t_paletteAt f_t_file (lp_Mo_isMap_7 t_end t_sizeAt t_paletteAt f_t_file n) v7_2 v7_1 = RES := E
      have O : olb_Mo_isMap_7 t_end t_sizeAt t_paletteAt f_t_file (olp_Mo_isMap_7 t_end t_sizeAt t_paletteAt f_t_file n) v7_2 v7_1 := O
      generalize lp_Mo_isMap_7 t_end t_sizeAt t_paletteAt f_t_file n = kk_7 at ih E
      generalize olp_Mo_isMap_7 t_end t_sizeAt t_paletteAt f_t_file n = okk_7 at ih O
      have ih_7 := ih
      clear ih
      refine lv_iload_n hx hb d_Mo_isMap_7 rfl (lv_at hl 0 rfl) ?_
      refine lv_aload_n hx hb d_Mo_isMap_8 rfl (lv_at hl 2 rfl) ?_
      refine va_get (D := D) (v := .int t_end) hx hb hta i_Mo hown hK hP 0 rfl rfl 28 (by decide) (hta _ lk_Mo_222) (fun _ h9 => h9) rfl d_Mo_isMap_9 ?_
      refine lv_icmp_ge (tgt := 105) hx hb d_Mo_isMap_12 (by decide) (fun c_12 => ?_) (fun c_12 => ?_)
      · have E := (if_pos c_12).symm.trans E
        have O := Eq.mp (if_pos c_12) O
        refine lv_iload_n hx hb d_Mo_isMap_105 rfl (lv_at hl 1 rfl) ?_
        exact kr_z hx hb hr hlk hQ hK hP hD hS ⟨(v7_1 : Int32), E.trans E0.symm, rfl, rfl⟩ (by omega) (by omega) O.1 d_Mo_isMap_106
      · have E := (if_neg c_12).symm.trans E
        have O := Eq.mp (if_neg c_12) O
        refine lv_aload_n hx hb d_Mo_isMap_15 rfl (lv_at hl 2 rfl) ?_
        refine va_get (D := D) (v := .ref h_t_file) hx hb hta i_Mo hown hK hP 0 rfl rfl 19 (by decide) (hta _ lk_Mo_37) (fun _ h9 => h9) rfl d_Mo_isMap_16 ?_
        refine lv_iload_n hx hb d_Mo_isMap_19 rfl (lv_at hl 0 rfl) ?_
        refine lv_iconst (v := 2) hx hb d_Mo_isMap_20 (by decide) ?_
        refine lv_iadd hx hb d_Mo_isMap_21 ?_
        refine va_iald hx hb hK hP 1 1 rfl rfl O.1 d_Mo_isMap_22 ?_
        have O := O.2
        refine lv_istore_n (lv' := [(3, .int (f_t_file (v7_2 + 2).toNatClampNeg)), (2, .int v7_2), (1, .int v7_1), (0, .ref h_t)]) hx hb d_Mo_isMap_23 rfl hl (by decide) rfl (fun ls hl => ?_)
        refine lv_iload_n hx hb d_Mo_isMap_24 rfl (lv_at hl 2 rfl) ?_
        have J_97 : ∀ (j97_s0 : Int32), j_Mo_isMap_97 kk_7 v7_2 j97_s0 = RES → oj_Mo_isMap_97 okk_7 v7_2 j97_s0 → ∀ (H : Heap) (locs : List Loc), va_P D classes [(h_t, .inr (7, (.int t_thrown :: .int t_high :: .int t_wide :: .int t_components :: .ref h_t_bits :: .int t_unknown :: .int t_rights :: .int t_colours :: .int t_profiled :: .ref h_t_profile :: .int t_entries :: .int t_columns :: .ref h_t_columnBits :: .ref h_t_numbers :: .int t_maps :: .ref h_t_map :: .int t_lines :: .ref h_t_line :: .ref h_t_resolutions :: .ref h_t_file :: .int t_size :: .int t_scanned :: .int t_refusedAt :: .int t_cursor :: .int t_streamAt :: .int t_streamMany :: .int t_name :: .int t_from :: .int t_end :: .int t_sizeAt :: .int t_bitsAt :: .int t_colourAt :: .int t_colourEnd :: .int t_paletteAt :: .int t_mapAt :: .int t_mapEnd :: .int t_channelsAt :: .int t_captureAt :: .int t_displayAt :: .int t_resolved :: []))), (h_t_file, .inl (cI, 65536, .inl f_t_file))] H → va_D A [(h_t, .inr (7, (.int t_thrown :: .int t_high :: .int t_wide :: .int t_components :: .ref h_t_bits :: .int t_unknown :: .int t_rights :: .int t_colours :: .int t_profiled :: .ref h_t_profile :: .int t_entries :: .int t_columns :: .ref h_t_columnBits :: .ref h_t_numbers :: .int t_maps :: .ref h_t_map :: .int t_lines :: .ref h_t_line :: .ref h_t_resolutions :: .ref h_t_file :: .int t_size :: .int t_scanned :: .int t_refusedAt :: .int t_cursor :: .int t_streamAt :: .int t_streamMany :: .int t_name :: .int t_from :: .int t_end :: .int t_sizeAt :: .int t_bitsAt :: .int t_colourAt :: .int t_colourEnd :: .int t_paletteAt :: .int t_mapAt :: .int t_mapEnd :: .int t_channelsAt :: .int t_captureAt :: .int t_displayAt :: .int t_resolved :: []))), (h_t_file, .inl (cI, 65536, .inl f_t_file))] → va_S A s.heap H locs → ∀ ls : Array Slot, lv_has ls 4 [(2, .int v7_2), (0, .ref h_t)] → W p l e R s m args below meth c H locs 0 0 Q (F0 m 97 ls [.int j97_s0]) := by
          intro j97_s0 E O H locs hP hD hS ls hl
          refine lv_istore_n (lv' := [(1, .int j97_s0), (2, .int v7_2), (0, .ref h_t)]) hx hb d_Mo_isMap_97 rfl hl (by decide) rfl (fun ls hl => ?_)
          refine lv_iload_n hx hb d_Mo_isMap_98 rfl (lv_at hl 1 rfl) ?_
          refine lv_iconst (v := 4) hx hb d_Mo_isMap_99 (by decide) ?_
          refine lv_iadd hx hb d_Mo_isMap_100 ?_
          refine lv_istore_n (lv' := [(2, .int (v7_2 + 4)), (1, .int j97_s0), (0, .ref h_t)]) hx hb d_Mo_isMap_101 rfl hl (by decide) rfl (fun ls hl => ?_)
          refine lv_goto (tgt := 7) hx hb d_Mo_isMap_102 (by decide) ?_
          exact ih_7 (v7_2 + 4) j97_s0 E O _ _ hP hD hS ls (lv_sub hl [0, 1, 2] rfl)
        have J_96 : j_Mo_isMap_96 kk_7 v7_2 = RES → oj_Mo_isMap_96 okk_7 v7_2 → ∀ (H : Heap) (locs : List Loc), va_P D classes [(h_t, .inr (7, (.int t_thrown :: .int t_high :: .int t_wide :: .int t_components :: .ref h_t_bits :: .int t_unknown :: .int t_rights :: .int t_colours :: .int t_profiled :: .ref h_t_profile :: .int t_entries :: .int t_columns :: .ref h_t_columnBits :: .ref h_t_numbers :: .int t_maps :: .ref h_t_map :: .int t_lines :: .ref h_t_line :: .ref h_t_resolutions :: .ref h_t_file :: .int t_size :: .int t_scanned :: .int t_refusedAt :: .int t_cursor :: .int t_streamAt :: .int t_streamMany :: .int t_name :: .int t_from :: .int t_end :: .int t_sizeAt :: .int t_bitsAt :: .int t_colourAt :: .int t_colourEnd :: .int t_paletteAt :: .int t_mapAt :: .int t_mapEnd :: .int t_channelsAt :: .int t_captureAt :: .int t_displayAt :: .int t_resolved :: []))), (h_t_file, .inl (cI, 65536, .inl f_t_file))] H → va_D A [(h_t, .inr (7, (.int t_thrown :: .int t_high :: .int t_wide :: .int t_components :: .ref h_t_bits :: .int t_unknown :: .int t_rights :: .int t_colours :: .int t_profiled :: .ref h_t_profile :: .int t_entries :: .int t_columns :: .ref h_t_columnBits :: .ref h_t_numbers :: .int t_maps :: .ref h_t_map :: .int t_lines :: .ref h_t_line :: .ref h_t_resolutions :: .ref h_t_file :: .int t_size :: .int t_scanned :: .int t_refusedAt :: .int t_cursor :: .int t_streamAt :: .int t_streamMany :: .int t_name :: .int t_from :: .int t_end :: .int t_sizeAt :: .int t_bitsAt :: .int t_colourAt :: .int t_colourEnd :: .int t_paletteAt :: .int t_mapAt :: .int t_mapEnd :: .int t_channelsAt :: .int t_captureAt :: .int t_displayAt :: .int t_resolved :: []))), (h_t_file, .inl (cI, 65536, .inl f_t_file))] → va_S A s.heap H locs → ∀ ls : Array Slot, lv_has ls 4 [(2, .int v7_2), (0, .ref h_t)] → W p l e R s m args below meth c H locs 0 0 Q (F0 m 96 ls []) := by
          intro E O H locs hP hD hS ls hl
          refine lv_iconst (v := 0) hx hb d_Mo_isMap_96 (by decide) ?_
          exact J_97 0 E O _ _ hP hD hS ls (lv_sub hl [0, 1] rfl)
        refine lv_if_eq (tgt := 96) hx hb d_Mo_isMap_25 (by decide) (fun c_25 => ?_) (fun c_25 => ?_)
        · have E := (if_pos c_25).symm.trans E
          have O := Eq.mp (if_pos c_25) O
          exact J_96  E O _ _ hP hD hS ls (lv_sub hl [1, 3] rfl)
        · have E := (if_neg c_25).symm.trans E
          have O := Eq.mp (if_neg c_25) O
          refine lv_aload_n hx hb d_Mo_isMap_28 rfl (lv_at hl 3 rfl) ?_
          refine lv_iload_n hx hb d_Mo_isMap_29 rfl (lv_at hl 1 rfl) ?_
          refine kc_V (As := [.int v7_2]) (rest := []) (wr := []) [0, 1] [] ⟨hx, hb, hml, hown, hta⟩ hK hN hP hD hS hA (c_Mo_u2 l D cB cI cJ h_t h_t_bits h_t_profile h_t_columnBits h_t_numbers h_t_map h_t_line h_t_resolutions h_t_file t_thrown t_high t_wide t_components t_unknown t_rights t_colours t_profiled t_entries t_columns t_maps t_lines t_size t_scanned t_refusedAt t_cursor t_streamAt t_streamMany t_name t_from t_end t_sizeAt t_bitsAt t_colourAt t_colourEnd t_paletteAt t_mapAt t_mapEnd t_channelsAt t_captureAt t_displayAt t_resolved f_t_file v7_2 O.1 _) (hta _ lk_Mo_209) (hta _ ini_Mo) (hta _ code_Mo_u2) code_Mo_u2 (hta _ inst_Mo_u2) (hta _ sel_Mo_u2) hd_Mo_u2 rfl ⟨by omega, by omega⟩ (ci := 7) 0 rfl rfl rfl rfl (by decide) (by decide) (by decide) rfl hl.1 (lv_room (Nat.le_of_ble_eq_true rfl)) d_Mo_isMap_30 ⟨by omega, by omega⟩ (fun v w1 H locs hw hP hD hS => ?_)
          obtain ⟨x30, hx30, rfl, rfl⟩ := hw
          have hP : va_P D classes [(h_t, .inr (7, (.int t_thrown :: .int t_high :: .int t_wide :: .int t_components :: .ref h_t_bits :: .int t_unknown :: .int t_rights :: .int t_colours :: .int t_profiled :: .ref h_t_profile :: .int t_entries :: .int t_columns :: .ref h_t_columnBits :: .ref h_t_numbers :: .int t_maps :: .ref h_t_map :: .int t_lines :: .ref h_t_line :: .ref h_t_resolutions :: .ref h_t_file :: .int t_size :: .int t_scanned :: .int t_refusedAt :: .int t_cursor :: .int t_streamAt :: .int t_streamMany :: .int t_name :: .int t_from :: .int t_end :: .int t_sizeAt :: .int t_bitsAt :: .int t_colourAt :: .int t_colourEnd :: .int t_paletteAt :: .int t_mapAt :: .int t_mapEnd :: .int t_channelsAt :: .int t_captureAt :: .int t_displayAt :: .int t_resolved :: []))), (h_t_file, .inl (cI, 65536, .inl f_t_file))] H := hP.sub [0, 1] rfl
          have hD : va_D A [(h_t, .inr (7, (.int t_thrown :: .int t_high :: .int t_wide :: .int t_components :: .ref h_t_bits :: .int t_unknown :: .int t_rights :: .int t_colours :: .int t_profiled :: .ref h_t_profile :: .int t_entries :: .int t_columns :: .ref h_t_columnBits :: .ref h_t_numbers :: .int t_maps :: .ref h_t_map :: .int t_lines :: .ref h_t_line :: .ref h_t_resolutions :: .ref h_t_file :: .int t_size :: .int t_scanned :: .int t_refusedAt :: .int t_cursor :: .int t_streamAt :: .int t_streamMany :: .int t_name :: .int t_from :: .int t_end :: .int t_sizeAt :: .int t_bitsAt :: .int t_colourAt :: .int t_colourEnd :: .int t_paletteAt :: .int t_mapAt :: .int t_mapEnd :: .int t_channelsAt :: .int t_captureAt :: .int t_displayAt :: .int t_resolved :: []))), (h_t_file, .inl (cI, 65536, .inl f_t_file))] := hD.sub [0, 1] (by decide) rfl
          refine W.eq (g2 := F0 m 33 ls [.int x30]) rfl ?_
          have O := O.2
          have E : k_Mo_isMap_30 t_sizeAt t_paletteAt f_t_file kk_7 v7_2 x30 = RES := (congrArg (k_Mo_isMap_30 t_sizeAt t_paletteAt f_t_file kk_7 v7_2) hx30).trans E
          have O : ok_Mo_isMap_30 t_sizeAt t_paletteAt f_t_file okk_7 v7_2 x30 := by rw [hx30]; exact O
          refine lv_aload_n hx hb d_Mo_isMap_33 rfl (lv_at hl 3 rfl) ?_
          refine lv_aload_n hx hb d_Mo_isMap_34 rfl (lv_at hl 3 rfl) ?_
          refine va_get (D := D) (v := .int t_sizeAt) hx hb hta i_Mo hown hK hP 0 rfl rfl 29 (by decide) (hta _ lk_Mo_226) (fun _ h9 => h9) rfl d_Mo_isMap_35 ?_
          refine lv_bipush (v := 8) hx hb d_Mo_isMap_38 (by decide) ?_
          refine lv_iadd hx hb d_Mo_isMap_40 ?_
          refine kc_V (As := [.int (t_sizeAt + 8)]) (rest := [.int x30]) (wr := []) [0, 1] [] ⟨hx, hb, hml, hown, hta⟩ hK hN hP hD hS hA (c_Mo_u2 l D cB cI cJ h_t h_t_bits h_t_profile h_t_columnBits h_t_numbers h_t_map h_t_line h_t_resolutions h_t_file t_thrown t_high t_wide t_components t_unknown t_rights t_colours t_profiled t_entries t_columns t_maps t_lines t_size t_scanned t_refusedAt t_cursor t_streamAt t_streamMany t_name t_from t_end t_sizeAt t_bitsAt t_colourAt t_colourEnd t_paletteAt t_mapAt t_mapEnd t_channelsAt t_captureAt t_displayAt t_resolved f_t_file (t_sizeAt + 8) O.1 _) (hta _ lk_Mo_209) (hta _ ini_Mo) (hta _ code_Mo_u2) code_Mo_u2 (hta _ inst_Mo_u2) (hta _ sel_Mo_u2) hd_Mo_u2 rfl ⟨by omega, by omega⟩ (ci := 7) 0 rfl rfl rfl rfl (by decide) (by decide) (by decide) rfl hl.1 (lv_room (Nat.le_of_ble_eq_true rfl)) d_Mo_isMap_41 ⟨by omega, by omega⟩ (fun v w1 H locs hw hP hD hS => ?_)
          obtain ⟨x41, hx41, rfl, rfl⟩ := hw
          have hP : va_P D classes [(h_t, .inr (7, (.int t_thrown :: .int t_high :: .int t_wide :: .int t_components :: .ref h_t_bits :: .int t_unknown :: .int t_rights :: .int t_colours :: .int t_profiled :: .ref h_t_profile :: .int t_entries :: .int t_columns :: .ref h_t_columnBits :: .ref h_t_numbers :: .int t_maps :: .ref h_t_map :: .int t_lines :: .ref h_t_line :: .ref h_t_resolutions :: .ref h_t_file :: .int t_size :: .int t_scanned :: .int t_refusedAt :: .int t_cursor :: .int t_streamAt :: .int t_streamMany :: .int t_name :: .int t_from :: .int t_end :: .int t_sizeAt :: .int t_bitsAt :: .int t_colourAt :: .int t_colourEnd :: .int t_paletteAt :: .int t_mapAt :: .int t_mapEnd :: .int t_channelsAt :: .int t_captureAt :: .int t_displayAt :: .int t_resolved :: []))), (h_t_file, .inl (cI, 65536, .inl f_t_file))] H := hP.sub [0, 1] rfl
          have hD : va_D A [(h_t, .inr (7, (.int t_thrown :: .int t_high :: .int t_wide :: .int t_components :: .ref h_t_bits :: .int t_unknown :: .int t_rights :: .int t_colours :: .int t_profiled :: .ref h_t_profile :: .int t_entries :: .int t_columns :: .ref h_t_columnBits :: .ref h_t_numbers :: .int t_maps :: .ref h_t_map :: .int t_lines :: .ref h_t_line :: .ref h_t_resolutions :: .ref h_t_file :: .int t_size :: .int t_scanned :: .int t_refusedAt :: .int t_cursor :: .int t_streamAt :: .int t_streamMany :: .int t_name :: .int t_from :: .int t_end :: .int t_sizeAt :: .int t_bitsAt :: .int t_colourAt :: .int t_colourEnd :: .int t_paletteAt :: .int t_mapAt :: .int t_mapEnd :: .int t_channelsAt :: .int t_captureAt :: .int t_displayAt :: .int t_resolved :: []))), (h_t_file, .inl (cI, 65536, .inl f_t_file))] := hD.sub [0, 1] (by decide) rfl
          refine W.eq (g2 := F0 m 44 ls [.int x41, .int x30]) rfl ?_
          have O := O.2
          have E : k_Mo_isMap_41 t_paletteAt f_t_file kk_7 v7_2 x30 x41 = RES := (congrArg (k_Mo_isMap_41 t_paletteAt f_t_file kk_7 v7_2 x30) hx41).trans E
          have O : ok_Mo_isMap_41 t_paletteAt f_t_file okk_7 v7_2 x30 x41 := by rw [hx41]; exact O
          refine lv_icmp_ge (tgt := 96) hx hb d_Mo_isMap_44 (by decide) (fun c_44 => ?_) (fun c_44 => ?_)
          · have E := (if_pos c_44).symm.trans E
            have O := Eq.mp (if_pos c_44) O
            exact J_96  E O _ _ hP hD hS ls (lv_sub hl [1, 3] rfl)
          · have E := (if_neg c_44).symm.trans E
            have O := Eq.mp (if_neg c_44) O
            refine lv_iload_n hx hb d_Mo_isMap_47 rfl (lv_at hl 0 rfl) ?_
            have J_92 : j_Mo_isMap_92 kk_7 v7_2 = RES → oj_Mo_isMap_92 okk_7 v7_2 → ∀ (H : Heap) (locs : List Loc), va_P D classes [(h_t, .inr (7, (.int t_thrown :: .int t_high :: .int t_wide :: .int t_components :: .ref h_t_bits :: .int t_unknown :: .int t_rights :: .int t_colours :: .int t_profiled :: .ref h_t_profile :: .int t_entries :: .int t_columns :: .ref h_t_columnBits :: .ref h_t_numbers :: .int t_maps :: .ref h_t_map :: .int t_lines :: .ref h_t_line :: .ref h_t_resolutions :: .ref h_t_file :: .int t_size :: .int t_scanned :: .int t_refusedAt :: .int t_cursor :: .int t_streamAt :: .int t_streamMany :: .int t_name :: .int t_from :: .int t_end :: .int t_sizeAt :: .int t_bitsAt :: .int t_colourAt :: .int t_colourEnd :: .int t_paletteAt :: .int t_mapAt :: .int t_mapEnd :: .int t_channelsAt :: .int t_captureAt :: .int t_displayAt :: .int t_resolved :: []))), (h_t_file, .inl (cI, 65536, .inl f_t_file))] H → va_D A [(h_t, .inr (7, (.int t_thrown :: .int t_high :: .int t_wide :: .int t_components :: .ref h_t_bits :: .int t_unknown :: .int t_rights :: .int t_colours :: .int t_profiled :: .ref h_t_profile :: .int t_entries :: .int t_columns :: .ref h_t_columnBits :: .ref h_t_numbers :: .int t_maps :: .ref h_t_map :: .int t_lines :: .ref h_t_line :: .ref h_t_resolutions :: .ref h_t_file :: .int t_size :: .int t_scanned :: .int t_refusedAt :: .int t_cursor :: .int t_streamAt :: .int t_streamMany :: .int t_name :: .int t_from :: .int t_end :: .int t_sizeAt :: .int t_bitsAt :: .int t_colourAt :: .int t_colourEnd :: .int t_paletteAt :: .int t_mapAt :: .int t_mapEnd :: .int t_channelsAt :: .int t_captureAt :: .int t_displayAt :: .int t_resolved :: []))), (h_t_file, .inl (cI, 65536, .inl f_t_file))] → va_S A s.heap H locs → ∀ ls : Array Slot, lv_has ls 4 [(2, .int v7_2), (0, .ref h_t)] → W p l e R s m args below meth c H locs 0 0 Q (F0 m 92 ls []) := by
              intro E O H locs hP hD hS ls hl
              refine lv_iconst (v := 1) hx hb d_Mo_isMap_92 (by decide) ?_
              refine lv_goto (tgt := 97) hx hb d_Mo_isMap_93 (by decide) ?_
              exact J_97 1 E O _ _ hP hD hS ls (lv_sub hl [0, 1] rfl)
            refine lv_if_ne (tgt := 65) hx hb d_Mo_isMap_48 (by decide) (fun c_48 => ?_) (fun c_48 => ?_)
            · have E := (if_neg c_48).symm.trans E
              have O := Eq.mp (if_neg c_48) O
              refine lv_iload_n hx hb d_Mo_isMap_65 rfl (lv_at hl 0 rfl) ?_
              refine lv_iconst (v := 1) hx hb d_Mo_isMap_66 (by decide) ?_
              refine lv_icmp_ne (tgt := 96) hx hb d_Mo_isMap_67 (by decide) (fun c_67 => ?_) (fun c_67 => ?_)
              · have E := (if_neg c_67).symm.trans E
                have O := Eq.mp (if_neg c_67) O
                exact J_96  E O _ _ hP hD hS ls (lv_sub hl [1, 3] rfl)
              · have E := (if_pos c_67).symm.trans E
                have O := Eq.mp (if_pos c_67) O
                refine lv_aload_n hx hb d_Mo_isMap_70 rfl (lv_at hl 3 rfl) ?_
                refine va_get (D := D) (v := .ref h_t_file) hx hb hta i_Mo hown hK hP 0 rfl rfl 19 (by decide) (hta _ lk_Mo_37) (fun _ h9 => h9) rfl d_Mo_isMap_71 ?_
                refine lv_iload_n hx hb d_Mo_isMap_74 rfl (lv_at hl 1 rfl) ?_
                refine lv_iconst (v := 3) hx hb d_Mo_isMap_75 (by decide) ?_
                refine lv_iadd hx hb d_Mo_isMap_76 ?_
                refine va_iald hx hb hK hP 1 1 rfl rfl O.1 d_Mo_isMap_77 ?_
                have O := O.2
                refine lv_aload_n hx hb d_Mo_isMap_78 rfl (lv_at hl 3 rfl) ?_
                refine va_get (D := D) (v := .ref h_t_file) hx hb hta i_Mo hown hK hP 0 rfl rfl 19 (by decide) (hta _ lk_Mo_37) (fun _ h9 => h9) rfl d_Mo_isMap_79 ?_
                refine lv_aload_n hx hb d_Mo_isMap_82 rfl (lv_at hl 3 rfl) ?_
                refine va_get (D := D) (v := .int t_paletteAt) hx hb hta i_Mo hown hK hP 0 rfl rfl 33 (by decide) (hta _ lk_Mo_235) (fun _ h9 => h9) rfl d_Mo_isMap_83 ?_
                refine lv_iconst (v := 2) hx hb d_Mo_isMap_86 (by decide) ?_
                refine lv_iadd hx hb d_Mo_isMap_87 ?_
                refine va_iald hx hb hK hP 1 1 rfl rfl O.1 d_Mo_isMap_88 ?_
                have O := O.2
                refine lv_icmp_ge (tgt := 96) hx hb d_Mo_isMap_89 (by decide) (fun c_89 => ?_) (fun c_89 => ?_)
                · have E := (if_pos c_89).symm.trans E
                  have O := Eq.mp (if_pos c_89) O
                  exact J_96  E O _ _ hP hD hS ls (lv_sub hl [1, 3] rfl)
                · have E := (if_neg c_89).symm.trans E
                  have O := Eq.mp (if_neg c_89) O
                  exact J_92  E O _ _ hP hD hS ls (lv_sub hl [1, 3] rfl)
            · have E := (if_pos c_48).symm.trans E
              have O := Eq.mp (if_pos c_48) O
              refine lv_aload_n hx hb d_Mo_isMap_51 rfl (lv_at hl 3 rfl) ?_
              refine va_get (D := D) (v := .ref h_t_file) hx hb hta i_Mo hown hK hP 0 rfl rfl 19 (by decide) (hta _ lk_Mo_37) (fun _ h9 => h9) rfl d_Mo_isMap_52 ?_
              refine lv_iload_n hx hb d_Mo_isMap_55 rfl (lv_at hl 1 rfl) ?_
              refine lv_iconst (v := 3) hx hb d_Mo_isMap_56 (by decide) ?_
              refine lv_iadd hx hb d_Mo_isMap_57 ?_
              refine va_iald hx hb hK hP 1 1 rfl rfl O.1 d_Mo_isMap_58 ?_
              have O := O.2
              refine lv_if_ne (tgt := 96) hx hb d_Mo_isMap_59 (by decide) (fun c_59 => ?_) (fun c_59 => ?_)
              · have E := (if_neg c_59).symm.trans E
                have O := Eq.mp (if_neg c_59) O
                exact J_96  E O _ _ hP hD hS ls (lv_sub hl [1, 3] rfl)
              · have E := (if_pos c_59).symm.trans E
                have O := Eq.mp (if_pos c_59) O
                refine lv_goto (tgt := 92) hx hb d_Mo_isMap_62 (by decide) ?_
                exact J_92  E O _ _ hP hD hS ls (lv_sub hl [1, 3] rfl)
  exact L_7 _ t_from 1 E O _ _ hP hD hS ls (lv_sub hl [0, 1, 2] rfl)
theorem d_Mo_isValue_0 : decode b_Mo_isValue 0 = .ok (.iconst 1, 1) := by decide +kernel
theorem d_Mo_isValue_1 : decode b_Mo_isValue 1 = .ok (.istore_n 1, 1) := by decide +kernel
theorem d_Mo_isValue_2 : decode b_Mo_isValue 2 = .ok (.aload_n 0, 1) := by decide +kernel
theorem d_Mo_isValue_3 : decode b_Mo_isValue 3 = .ok (.getfield 216, 3) := by decide +kernel
theorem d_Mo_isValue_6 : decode b_Mo_isValue 6 = .ok (.lookupswitch 333 #[(1651532643, 191), (1667523942, 285), (1668112752, 280), (1668246642, 234), (1768449138, 58), (1885564018, 275)], 58) := by decide +kernel
theorem d_Mo_isValue_64 : decode b_Mo_isValue 64 = .ok (.aload_n 0, 1) := by decide +kernel
theorem d_Mo_isValue_65 : decode b_Mo_isValue 65 = .ok (.aload_n 0, 1) := by decide +kernel
theorem d_Mo_isValue_66 : decode b_Mo_isValue 66 = .ok (.getfield 219, 3) := by decide +kernel
theorem d_Mo_isValue_69 : decode b_Mo_isValue 69 = .ok (.invokevirtual 212, 3) := by decide +kernel
theorem d_Mo_isValue_72 : decode b_Mo_isValue 72 = .ok (.lconst 0, 1) := by decide +kernel
theorem d_Mo_isValue_73 : decode b_Mo_isValue 73 = .ok (.lcmp, 1) := by decide +kernel
theorem d_Mo_isValue_74 : decode b_Mo_isValue 74 = .ok (.ifCond .le 121, 3) := by decide +kernel
theorem d_Mo_isValue_77 : decode b_Mo_isValue 77 = .ok (.aload_n 0, 1) := by decide +kernel
theorem d_Mo_isValue_78 : decode b_Mo_isValue 78 = .ok (.aload_n 0, 1) := by decide +kernel
theorem d_Mo_isValue_79 : decode b_Mo_isValue 79 = .ok (.getfield 219, 3) := by decide +kernel
theorem d_Mo_isValue_82 : decode b_Mo_isValue 82 = .ok (.iconst 4, 1) := by decide +kernel
theorem d_Mo_isValue_83 : decode b_Mo_isValue 83 = .ok (.iadd, 1) := by decide +kernel
theorem d_Mo_isValue_84 : decode b_Mo_isValue 84 = .ok (.invokevirtual 212, 3) := by decide +kernel
theorem d_Mo_isValue_87 : decode b_Mo_isValue 87 = .ok (.lconst 0, 1) := by decide +kernel
theorem d_Mo_isValue_88 : decode b_Mo_isValue 88 = .ok (.lcmp, 1) := by decide +kernel
theorem d_Mo_isValue_89 : decode b_Mo_isValue 89 = .ok (.ifCond .le 106, 3) := by decide +kernel
theorem d_Mo_isValue_92 : decode b_Mo_isValue 92 = .ok (.aload_n 0, 1) := by decide +kernel
theorem d_Mo_isValue_93 : decode b_Mo_isValue 93 = .ok (.aload_n 0, 1) := by decide +kernel
theorem d_Mo_isValue_94 : decode b_Mo_isValue 94 = .ok (.getfield 219, 3) := by decide +kernel
theorem d_Mo_isValue_97 : decode b_Mo_isValue 97 = .ok (.bipush 8, 2) := by decide +kernel
theorem d_Mo_isValue_99 : decode b_Mo_isValue 99 = .ok (.iadd, 1) := by decide +kernel
theorem d_Mo_isValue_100 : decode b_Mo_isValue 100 = .ok (.invokevirtual 209, 3) := by decide +kernel
theorem d_Mo_isValue_103 : decode b_Mo_isValue 103 = .ok (.ifCond .le 92, 3) := by decide +kernel
theorem d_Mo_isValue_106 : decode b_Mo_isValue 106 = .ok (.aload_n 0, 1) := by decide +kernel
theorem d_Mo_isValue_107 : decode b_Mo_isValue 107 = .ok (.getfield 37, 3) := by decide +kernel
theorem d_Mo_isValue_110 : decode b_Mo_isValue 110 = .ok (.aload_n 0, 1) := by decide +kernel
theorem d_Mo_isValue_111 : decode b_Mo_isValue 111 = .ok (.getfield 219, 3) := by decide +kernel
theorem d_Mo_isValue_114 : decode b_Mo_isValue 114 = .ok (.bipush 10, 2) := by decide +kernel
theorem d_Mo_isValue_116 : decode b_Mo_isValue 116 = .ok (.iadd, 1) := by decide +kernel
theorem d_Mo_isValue_117 : decode b_Mo_isValue 117 = .ok (.iaload, 1) := by decide +kernel
theorem d_Mo_isValue_118 : decode b_Mo_isValue 118 = .ok (.sipush 255, 3) := by decide +kernel
theorem d_Mo_isValue_121 : decode b_Mo_isValue 121 = .ok (.if_icmp .eq 21, 3) := by decide +kernel
theorem d_Mo_isValue_124 : decode b_Mo_isValue 124 = .ok (.aload_n 0, 1) := by decide +kernel
theorem d_Mo_isValue_125 : decode b_Mo_isValue 125 = .ok (.getfield 37, 3) := by decide +kernel
theorem d_Mo_isValue_128 : decode b_Mo_isValue 128 = .ok (.aload_n 0, 1) := by decide +kernel
theorem d_Mo_isValue_129 : decode b_Mo_isValue 129 = .ok (.getfield 219, 3) := by decide +kernel
theorem d_Mo_isValue_132 : decode b_Mo_isValue 132 = .ok (.bipush 10, 2) := by decide +kernel
theorem d_Mo_isValue_134 : decode b_Mo_isValue 134 = .ok (.iadd, 1) := by decide +kernel
theorem d_Mo_isValue_135 : decode b_Mo_isValue 135 = .ok (.iaload, 1) := by decide +kernel
theorem d_Mo_isValue_136 : decode b_Mo_isValue 136 = .ok (.invokestatic 85, 3) := by decide +kernel
theorem d_Mo_isValue_139 : decode b_Mo_isValue 139 = .ok (.ifCond .eq 56, 3) := by decide +kernel
theorem d_Mo_isValue_142 : decode b_Mo_isValue 142 = .ok (.aload_n 0, 1) := by decide +kernel
theorem d_Mo_isValue_143 : decode b_Mo_isValue 143 = .ok (.getfield 37, 3) := by decide +kernel
theorem d_Mo_isValue_146 : decode b_Mo_isValue 146 = .ok (.aload_n 0, 1) := by decide +kernel
theorem d_Mo_isValue_147 : decode b_Mo_isValue 147 = .ok (.getfield 219, 3) := by decide +kernel
theorem d_Mo_isValue_150 : decode b_Mo_isValue 150 = .ok (.bipush 11, 2) := by decide +kernel
theorem d_Mo_isValue_152 : decode b_Mo_isValue 152 = .ok (.iadd, 1) := by decide +kernel
theorem d_Mo_isValue_153 : decode b_Mo_isValue 153 = .ok (.iaload, 1) := by decide +kernel
theorem d_Mo_isValue_154 : decode b_Mo_isValue 154 = .ok (.bipush 7, 2) := by decide +kernel
theorem d_Mo_isValue_156 : decode b_Mo_isValue 156 = .ok (.if_icmp .ne 39, 3) := by decide +kernel
theorem d_Mo_isValue_159 : decode b_Mo_isValue 159 = .ok (.aload_n 0, 1) := by decide +kernel
theorem d_Mo_isValue_160 : decode b_Mo_isValue 160 = .ok (.getfield 37, 3) := by decide +kernel
theorem d_Mo_isValue_163 : decode b_Mo_isValue 163 = .ok (.aload_n 0, 1) := by decide +kernel
theorem d_Mo_isValue_164 : decode b_Mo_isValue 164 = .ok (.getfield 219, 3) := by decide +kernel
theorem d_Mo_isValue_167 : decode b_Mo_isValue 167 = .ok (.bipush 12, 2) := by decide +kernel
theorem d_Mo_isValue_169 : decode b_Mo_isValue 169 = .ok (.iadd, 1) := by decide +kernel
theorem d_Mo_isValue_170 : decode b_Mo_isValue 170 = .ok (.iaload, 1) := by decide +kernel
theorem d_Mo_isValue_171 : decode b_Mo_isValue 171 = .ok (.iconst 2, 1) := by decide +kernel
theorem d_Mo_isValue_172 : decode b_Mo_isValue 172 = .ok (.if_icmp .ge 23, 3) := by decide +kernel
theorem d_Mo_isValue_175 : decode b_Mo_isValue 175 = .ok (.aload_n 0, 1) := by decide +kernel
theorem d_Mo_isValue_176 : decode b_Mo_isValue 176 = .ok (.getfield 37, 3) := by decide +kernel
theorem d_Mo_isValue_179 : decode b_Mo_isValue 179 = .ok (.aload_n 0, 1) := by decide +kernel
theorem d_Mo_isValue_180 : decode b_Mo_isValue 180 = .ok (.getfield 219, 3) := by decide +kernel
theorem d_Mo_isValue_183 : decode b_Mo_isValue 183 = .ok (.bipush 13, 2) := by decide +kernel
theorem d_Mo_isValue_185 : decode b_Mo_isValue 185 = .ok (.iadd, 1) := by decide +kernel
theorem d_Mo_isValue_186 : decode b_Mo_isValue 186 = .ok (.iaload, 1) := by decide +kernel
theorem d_Mo_isValue_187 : decode b_Mo_isValue 187 = .ok (.iconst 2, 1) := by decide +kernel
theorem d_Mo_isValue_188 : decode b_Mo_isValue 188 = .ok (.if_icmp .ge 7, 3) := by decide +kernel
theorem d_Mo_isValue_191 : decode b_Mo_isValue 191 = .ok (.iconst 1, 1) := by decide +kernel
theorem d_Mo_isValue_192 : decode b_Mo_isValue 192 = .ok (.goto 4, 3) := by decide +kernel
theorem d_Mo_isValue_195 : decode b_Mo_isValue 195 = .ok (.iconst 0, 1) := by decide +kernel
theorem d_Mo_isValue_196 : decode b_Mo_isValue 196 = .ok (.ireturn, 1) := by decide +kernel
theorem d_Mo_isValue_197 : decode b_Mo_isValue 197 = .ok (.aload_n 0, 1) := by decide +kernel
theorem d_Mo_isValue_198 : decode b_Mo_isValue 198 = .ok (.getfield 219, 3) := by decide +kernel
theorem d_Mo_isValue_201 : decode b_Mo_isValue 201 = .ok (.istore_n 2, 1) := by decide +kernel
theorem d_Mo_isValue_202 : decode b_Mo_isValue 202 = .ok (.iload_n 2, 1) := by decide +kernel
theorem d_Mo_isValue_203 : decode b_Mo_isValue 203 = .ok (.aload_n 0, 1) := by decide +kernel
theorem d_Mo_isValue_204 : decode b_Mo_isValue 204 = .ok (.getfield 222, 3) := by decide +kernel
theorem d_Mo_isValue_207 : decode b_Mo_isValue 207 = .ok (.if_icmp .ge 31, 3) := by decide +kernel
theorem d_Mo_isValue_210 : decode b_Mo_isValue 210 = .ok (.iload_n 1, 1) := by decide +kernel
theorem d_Mo_isValue_211 : decode b_Mo_isValue 211 = .ok (.ifCond .eq 19, 3) := by decide +kernel
theorem d_Mo_isValue_214 : decode b_Mo_isValue 214 = .ok (.aload_n 0, 1) := by decide +kernel
theorem d_Mo_isValue_215 : decode b_Mo_isValue 215 = .ok (.getfield 37, 3) := by decide +kernel
theorem d_Mo_isValue_218 : decode b_Mo_isValue 218 = .ok (.iload_n 2, 1) := by decide +kernel
theorem d_Mo_isValue_219 : decode b_Mo_isValue 219 = .ok (.iaload, 1) := by decide +kernel
theorem d_Mo_isValue_220 : decode b_Mo_isValue 220 = .ok (.invokestatic 85, 3) := by decide +kernel
theorem d_Mo_isValue_223 : decode b_Mo_isValue 223 = .ok (.ifCond .eq 7, 3) := by decide +kernel
theorem d_Mo_isValue_226 : decode b_Mo_isValue 226 = .ok (.iconst 1, 1) := by decide +kernel
theorem d_Mo_isValue_227 : decode b_Mo_isValue 227 = .ok (.goto 4, 3) := by decide +kernel
theorem d_Mo_isValue_230 : decode b_Mo_isValue 230 = .ok (.iconst 0, 1) := by decide +kernel
theorem d_Mo_isValue_231 : decode b_Mo_isValue 231 = .ok (.istore_n 1, 1) := by decide +kernel
theorem d_Mo_isValue_232 : decode b_Mo_isValue 232 = .ok (.iinc 2 1, 3) := by decide +kernel
theorem d_Mo_isValue_235 : decode b_Mo_isValue 235 = .ok (.goto (-33), 3) := by decide +kernel
theorem d_Mo_isValue_238 : decode b_Mo_isValue 238 = .ok (.iload_n 1, 1) := by decide +kernel
theorem d_Mo_isValue_239 : decode b_Mo_isValue 239 = .ok (.ireturn, 1) := by decide +kernel
theorem d_Mo_isValue_240 : decode b_Mo_isValue 240 = .ok (.aload_n 0, 1) := by decide +kernel
theorem d_Mo_isValue_241 : decode b_Mo_isValue 241 = .ok (.getfield 37, 3) := by decide +kernel
theorem d_Mo_isValue_244 : decode b_Mo_isValue 244 = .ok (.aload_n 0, 1) := by decide +kernel
theorem d_Mo_isValue_245 : decode b_Mo_isValue 245 = .ok (.getfield 219, 3) := by decide +kernel
theorem d_Mo_isValue_248 : decode b_Mo_isValue 248 = .ok (.iaload, 1) := by decide +kernel
theorem d_Mo_isValue_249 : decode b_Mo_isValue 249 = .ok (.iconst 1, 1) := by decide +kernel
theorem d_Mo_isValue_250 : decode b_Mo_isValue 250 = .ok (.if_icmp .ne 25, 3) := by decide +kernel
theorem d_Mo_isValue_253 : decode b_Mo_isValue 253 = .ok (.aload_n 0, 1) := by decide +kernel
theorem d_Mo_isValue_254 : decode b_Mo_isValue 254 = .ok (.aload_n 0, 1) := by decide +kernel
theorem d_Mo_isValue_255 : decode b_Mo_isValue 255 = .ok (.getfield 219, 3) := by decide +kernel
theorem d_Mo_isValue_258 : decode b_Mo_isValue 258 = .ok (.iconst 3, 1) := by decide +kernel
theorem d_Mo_isValue_259 : decode b_Mo_isValue 259 = .ok (.iadd, 1) := by decide +kernel
theorem d_Mo_isValue_260 : decode b_Mo_isValue 260 = .ok (.invokevirtual 212, 3) := by decide +kernel
theorem d_Mo_isValue_263 : decode b_Mo_isValue 263 = .ok (.ldc2_w 79, 3) := by decide +kernel
theorem d_Mo_isValue_266 : decode b_Mo_isValue 266 = .ok (.ldc2_w 92, 3) := by decide +kernel
theorem d_Mo_isValue_269 : decode b_Mo_isValue 269 = .ok (.invokestatic 81, 3) := by decide +kernel
theorem d_Mo_isValue_272 : decode b_Mo_isValue 272 = .ok (.ifCond .eq 7, 3) := by decide +kernel
theorem d_Mo_isValue_275 : decode b_Mo_isValue 275 = .ok (.iconst 1, 1) := by decide +kernel
theorem d_Mo_isValue_276 : decode b_Mo_isValue 276 = .ok (.goto 4, 3) := by decide +kernel
theorem d_Mo_isValue_279 : decode b_Mo_isValue 279 = .ok (.iconst 0, 1) := by decide +kernel
theorem d_Mo_isValue_280 : decode b_Mo_isValue 280 = .ok (.ireturn, 1) := by decide +kernel
theorem d_Mo_isValue_281 : decode b_Mo_isValue 281 = .ok (.aload_n 0, 1) := by decide +kernel
theorem d_Mo_isValue_282 : decode b_Mo_isValue 282 = .ok (.invokevirtual 255, 3) := by decide +kernel
theorem d_Mo_isValue_285 : decode b_Mo_isValue 285 = .ok (.ireturn, 1) := by decide +kernel
theorem d_Mo_isValue_286 : decode b_Mo_isValue 286 = .ok (.aload_n 0, 1) := by decide +kernel
theorem d_Mo_isValue_287 : decode b_Mo_isValue 287 = .ok (.invokevirtual 258, 3) := by decide +kernel
theorem d_Mo_isValue_290 : decode b_Mo_isValue 290 = .ok (.ireturn, 1) := by decide +kernel
theorem d_Mo_isValue_291 : decode b_Mo_isValue 291 = .ok (.aload_n 0, 1) := by decide +kernel
theorem d_Mo_isValue_292 : decode b_Mo_isValue 292 = .ok (.getfield 219, 3) := by decide +kernel
theorem d_Mo_isValue_295 : decode b_Mo_isValue 295 = .ok (.iconst 2, 1) := by decide +kernel
theorem d_Mo_isValue_296 : decode b_Mo_isValue 296 = .ok (.iadd, 1) := by decide +kernel
theorem d_Mo_isValue_297 : decode b_Mo_isValue 297 = .ok (.istore_n 2, 1) := by decide +kernel
theorem d_Mo_isValue_298 : decode b_Mo_isValue 298 = .ok (.iload_n 2, 1) := by decide +kernel
theorem d_Mo_isValue_299 : decode b_Mo_isValue 299 = .ok (.aload_n 0, 1) := by decide +kernel
theorem d_Mo_isValue_300 : decode b_Mo_isValue 300 = .ok (.getfield 222, 3) := by decide +kernel
theorem d_Mo_isValue_303 : decode b_Mo_isValue 303 = .ok (.if_icmp .ge 34, 3) := by decide +kernel
theorem d_Mo_isValue_306 : decode b_Mo_isValue 306 = .ok (.iload_n 1, 1) := by decide +kernel
theorem d_Mo_isValue_307 : decode b_Mo_isValue 307 = .ok (.ifCond .eq 20, 3) := by decide +kernel
theorem d_Mo_isValue_310 : decode b_Mo_isValue 310 = .ok (.aload_n 0, 1) := by decide +kernel
theorem d_Mo_isValue_311 : decode b_Mo_isValue 311 = .ok (.iload_n 2, 1) := by decide +kernel
theorem d_Mo_isValue_312 : decode b_Mo_isValue 312 = .ok (.iconst 2, 1) := by decide +kernel
theorem d_Mo_isValue_313 : decode b_Mo_isValue 313 = .ok (.iadd, 1) := by decide +kernel
theorem d_Mo_isValue_314 : decode b_Mo_isValue 314 = .ok (.invokevirtual 209, 3) := by decide +kernel
theorem d_Mo_isValue_317 : decode b_Mo_isValue 317 = .ok (.invokestatic 109, 3) := by decide +kernel
theorem d_Mo_isValue_320 : decode b_Mo_isValue 320 = .ok (.ifCond .eq 7, 3) := by decide +kernel
theorem d_Mo_isValue_323 : decode b_Mo_isValue 323 = .ok (.iconst 1, 1) := by decide +kernel
theorem d_Mo_isValue_324 : decode b_Mo_isValue 324 = .ok (.goto 4, 3) := by decide +kernel
theorem d_Mo_isValue_327 : decode b_Mo_isValue 327 = .ok (.iconst 0, 1) := by decide +kernel
theorem d_Mo_isValue_328 : decode b_Mo_isValue 328 = .ok (.istore_n 1, 1) := by decide +kernel
theorem d_Mo_isValue_329 : decode b_Mo_isValue 329 = .ok (.iload_n 2, 1) := by decide +kernel
theorem d_Mo_isValue_330 : decode b_Mo_isValue 330 = .ok (.bipush 6, 2) := by decide +kernel
theorem d_Mo_isValue_332 : decode b_Mo_isValue 332 = .ok (.iadd, 1) := by decide +kernel
theorem d_Mo_isValue_333 : decode b_Mo_isValue 333 = .ok (.istore_n 2, 1) := by decide +kernel
theorem d_Mo_isValue_334 : decode b_Mo_isValue 334 = .ok (.goto (-36), 3) := by decide +kernel
theorem d_Mo_isValue_337 : decode b_Mo_isValue 337 = .ok (.iload_n 1, 1) := by decide +kernel
theorem d_Mo_isValue_338 : decode b_Mo_isValue 338 = .ok (.ireturn, 1) := by decide +kernel
theorem d_Mo_isValue_339 : decode b_Mo_isValue 339 = .ok (.iconst 1, 1) := by decide +kernel
theorem d_Mo_isValue_340 : decode b_Mo_isValue 340 = .ok (.ireturn, 1) := by decide +kernel
def j_Mo_isValue_230 (kk_202 : Int32 → Int32 → Int32) (v202_2 : Int32) : Int32 :=
  kk_202 (v202_2 + 1) 0
def oj_Mo_isValue_230 (okk_202 : Int32 → Int32 → Prop) (v202_2 : Int32) : Prop :=
  okk_202 (v202_2 + 1) 0
def k_Mo_isValue_220 (kk_202 : Int32 → Int32 → Int32) (v202_2 : Int32) (x220 : Int32) : Int32 :=
  if x220 = 0 then (j_Mo_isValue_230 kk_202 v202_2) else (kk_202 (v202_2 + 1) 1)
def ok_Mo_isValue_220 (okk_202 : Int32 → Int32 → Prop) (v202_2 : Int32) (x220 : Int32) : Prop :=
  if x220 = 0 then (oj_Mo_isValue_230 okk_202 v202_2) else (okk_202 (v202_2 + 1) 1)
def lb_Mo_isValue_202 (t_end : Int32) (f_t_file : Nat → Int32) (kk_202 : Int32 → Int32 → Int32) (v202_2 : Int32) (v202_1 : Int32) : Int32 :=
  if t_end ≤ v202_2 then v202_1 else (if v202_1 = 0 then (j_Mo_isValue_230 kk_202 v202_2) else (k_Mo_isValue_220 kk_202 v202_2 (m_Mo_areBits (f_t_file v202_2.toNatClampNeg))))
def lp_Mo_isValue_202 (t_end : Int32) (f_t_file : Nat → Int32) : Nat → Int32 → Int32 → Int32
  | 0, v202_2, v202_1 => 0
  | n + 1, v202_2, v202_1 => lb_Mo_isValue_202 t_end f_t_file (lp_Mo_isValue_202 t_end f_t_file n) v202_2 v202_1
def olb_Mo_isValue_202 (t_end : Int32) (f_t_file : Nat → Int32) (okk_202 : Int32 → Int32 → Prop) (v202_2 : Int32) (v202_1 : Int32) : Prop :=
  if t_end ≤ v202_2 then (narrow .boolean (.int v202_1) = .int v202_1 ∧ True) else (if v202_1 = 0 then (oj_Mo_isValue_230 okk_202 v202_2) else (vp_in v202_2 65536 ∧ om_Mo_areBits (f_t_file v202_2.toNatClampNeg) ∧ (ok_Mo_isValue_220 okk_202 v202_2 (m_Mo_areBits (f_t_file v202_2.toNatClampNeg)))))
def olp_Mo_isValue_202 (t_end : Int32) (f_t_file : Nat → Int32) : Nat → Int32 → Int32 → Prop
  | 0, _, _ => True
  | n + 1, v202_2, v202_1 => olb_Mo_isValue_202 t_end f_t_file (olp_Mo_isValue_202 t_end f_t_file n) v202_2 v202_1
def j_Mo_isValue_328 (kk_298 : Int32 → Int32 → Int32) (v298_2 : Int32) (j328_s0 : Int32) : Int32 :=
  kk_298 (v298_2 + 6) j328_s0
def oj_Mo_isValue_328 (okk_298 : Int32 → Int32 → Prop) (v298_2 : Int32) (j328_s0 : Int32) : Prop :=
  okk_298 (v298_2 + 6) j328_s0
def j_Mo_isValue_327 (kk_298 : Int32 → Int32 → Int32) (v298_2 : Int32) : Int32 :=
  j_Mo_isValue_328 kk_298 v298_2 0
def oj_Mo_isValue_327 (okk_298 : Int32 → Int32 → Prop) (v298_2 : Int32) : Prop :=
  oj_Mo_isValue_328 okk_298 v298_2 0
def k_Mo_isValue_317 (kk_298 : Int32 → Int32 → Int32) (v298_2 : Int32) (x317 : Int32) : Int32 :=
  if x317 = 0 then (j_Mo_isValue_327 kk_298 v298_2) else (j_Mo_isValue_328 kk_298 v298_2 1)
def ok_Mo_isValue_317 (okk_298 : Int32 → Int32 → Prop) (v298_2 : Int32) (x317 : Int32) : Prop :=
  if x317 = 0 then (oj_Mo_isValue_327 okk_298 v298_2) else (oj_Mo_isValue_328 okk_298 v298_2 1)
def k_Mo_isValue_314 (kk_298 : Int32 → Int32 → Int32) (v298_2 : Int32) (x314 : Int32) : Int32 :=
  k_Mo_isValue_317 kk_298 v298_2 (m_Mo_isType x314)
def ok_Mo_isValue_314 (okk_298 : Int32 → Int32 → Prop) (v298_2 : Int32) (x314 : Int32) : Prop :=
  om_Mo_isType x314 ∧ (ok_Mo_isValue_317 okk_298 v298_2 (m_Mo_isType x314))
def lb_Mo_isValue_298 (t_end : Int32) (f_t_file : Nat → Int32) (kk_298 : Int32 → Int32 → Int32) (v298_2 : Int32) (v298_1 : Int32) : Int32 :=
  if t_end ≤ v298_2 then v298_1 else (if v298_1 = 0 then (j_Mo_isValue_327 kk_298 v298_2) else (k_Mo_isValue_314 kk_298 v298_2 (m_Mo_u2 f_t_file (v298_2 + 2))))
def lp_Mo_isValue_298 (t_end : Int32) (f_t_file : Nat → Int32) : Nat → Int32 → Int32 → Int32
  | 0, v298_2, v298_1 => 0
  | n + 1, v298_2, v298_1 => lb_Mo_isValue_298 t_end f_t_file (lp_Mo_isValue_298 t_end f_t_file n) v298_2 v298_1
def olb_Mo_isValue_298 (t_end : Int32) (f_t_file : Nat → Int32) (okk_298 : Int32 → Int32 → Prop) (v298_2 : Int32) (v298_1 : Int32) : Prop :=
  if t_end ≤ v298_2 then (narrow .boolean (.int v298_1) = .int v298_1 ∧ True) else (if v298_1 = 0 then (oj_Mo_isValue_327 okk_298 v298_2) else (om_Mo_u2 (v298_2 + 2) ∧ (ok_Mo_isValue_314 okk_298 v298_2 (m_Mo_u2 f_t_file (v298_2 + 2)))))
def olp_Mo_isValue_298 (t_end : Int32) (f_t_file : Nat → Int32) : Nat → Int32 → Int32 → Prop
  | 0, _, _ => False
  | n + 1, v298_2, v298_1 => olb_Mo_isValue_298 t_end f_t_file (olp_Mo_isValue_298 t_end f_t_file n) v298_2 v298_1
def k_Mo_isValue_287 (x287 : Int32) : Int32 :=
  x287
def ok_Mo_isValue_287 (x287 : Int32) : Prop :=
  narrow .boolean (.int x287) = .int x287 ∧ True
def k_Mo_isValue_269 (x269 : Int32) : Int32 :=
  if x269 = 0 then 0 else 1
def ok_Mo_isValue_269 (x269 : Int32) : Prop :=
  if x269 = 0 then True else True
def k_Mo_isValue_260 (x260 : Int64) : Int32 :=
  k_Mo_isValue_269 (m_Mo_in x260 16 18)
def ok_Mo_isValue_260 (x260 : Int64) : Prop :=
  om_Mo_in x260 16 18 ∧ (ok_Mo_isValue_269 (m_Mo_in x260 16 18))
def j_Mo_isValue_142 (t_from : Int32) (f_t_file : Nat → Int32) : Int32 :=
  if (f_t_file (t_from + 11).toNatClampNeg) = 7 then (if 2 ≤ (f_t_file (t_from + 12).toNatClampNeg) then 0 else (if 2 ≤ (f_t_file (t_from + 13).toNatClampNeg) then 0 else 1)) else 0
def oj_Mo_isValue_142 (t_from : Int32) (f_t_file : Nat → Int32) : Prop :=
  vp_in (t_from + 11) 65536 ∧ (if (f_t_file (t_from + 11).toNatClampNeg) = 7 then (vp_in (t_from + 12) 65536 ∧ (if 2 ≤ (f_t_file (t_from + 12).toNatClampNeg) then True else (vp_in (t_from + 13) 65536 ∧ (if 2 ≤ (f_t_file (t_from + 13).toNatClampNeg) then True else True)))) else True)
def k_Mo_isValue_136 (t_from : Int32) (f_t_file : Nat → Int32) (x136 : Int32) : Int32 :=
  if x136 = 0 then 0 else (j_Mo_isValue_142 t_from f_t_file)
def ok_Mo_isValue_136 (t_from : Int32) (f_t_file : Nat → Int32) (x136 : Int32) : Prop :=
  if x136 = 0 then True else (oj_Mo_isValue_142 t_from f_t_file)
def k_Mo_isValue_100 (t_from : Int32) (f_t_file : Nat → Int32) (x100 : Int32) : Int32 :=
  if x100 ≤ 0 then 0 else (if (f_t_file (t_from + 10).toNatClampNeg) = 255 then (j_Mo_isValue_142 t_from f_t_file) else (k_Mo_isValue_136 t_from f_t_file (m_Mo_areBits (f_t_file (t_from + 10).toNatClampNeg))))
def ok_Mo_isValue_100 (t_from : Int32) (f_t_file : Nat → Int32) (x100 : Int32) : Prop :=
  if x100 ≤ 0 then True else (vp_in (t_from + 10) 65536 ∧ (if (f_t_file (t_from + 10).toNatClampNeg) = 255 then (oj_Mo_isValue_142 t_from f_t_file) else (vp_in (t_from + 10) 65536 ∧ om_Mo_areBits (f_t_file (t_from + 10).toNatClampNeg) ∧ (ok_Mo_isValue_136 t_from f_t_file (m_Mo_areBits (f_t_file (t_from + 10).toNatClampNeg))))))
def k_Mo_isValue_84 (t_from : Int32) (f_t_file : Nat → Int32) (x84 : Int64) : Int32 :=
  if (lg_cmp x84 0) ≤ 0 then 0 else (k_Mo_isValue_100 t_from f_t_file (m_Mo_u2 f_t_file (t_from + 8)))
def ok_Mo_isValue_84 (t_from : Int32) (f_t_file : Nat → Int32) (x84 : Int64) : Prop :=
  if (lg_cmp x84 0) ≤ 0 then True else (om_Mo_u2 (t_from + 8) ∧ (ok_Mo_isValue_100 t_from f_t_file (m_Mo_u2 f_t_file (t_from + 8))))
def k_Mo_isValue_69 (t_from : Int32) (f_t_file : Nat → Int32) (x69 : Int64) : Int32 :=
  if (lg_cmp x69 0) ≤ 0 then 0 else (k_Mo_isValue_84 t_from f_t_file (m_Mo_u4 f_t_file (t_from + 4)))
def ok_Mo_isValue_69 (t_from : Int32) (f_t_file : Nat → Int32) (x69 : Int64) : Prop :=
  if (lg_cmp x69 0) ≤ 0 then True else (om_Mo_u4 f_t_file (t_from + 4) ∧ (ok_Mo_isValue_84 t_from f_t_file (m_Mo_u4 f_t_file (t_from + 4))))
def k_Mo_isValue_282 (x282 : Int32) : Int32 :=
  x282
def ok_Mo_isValue_282 (x282 : Int32) : Prop :=
  narrow .boolean (.int x282) = .int x282 ∧ True
def om_Mo_isValue (t_name : Int32) (t_from : Int32) (t_end : Int32) (t_sizeAt : Int32) (t_paletteAt : Int32) (f_t_file : Nat → Int32) : Prop :=
  if t_name = 1651532643 then (olp_Mo_isValue_202 t_end f_t_file ((t_end.toInt - t_from.toInt).toNat + 1) t_from 1) else (if t_name = 1667523942 then (olp_Mo_isValue_298 t_end f_t_file 70000 (t_from + 2) 1) else (if t_name = 1668112752 then (om_Mo_isMap t_from t_end t_sizeAt t_paletteAt f_t_file ∧ (ok_Mo_isValue_287 (m_Mo_isMap t_from t_end t_sizeAt t_paletteAt f_t_file))) else (if t_name = 1668246642 then (vp_in t_from 65536 ∧ (if (f_t_file t_from.toNatClampNeg) = 1 then (om_Mo_u4 f_t_file (t_from + 3) ∧ (ok_Mo_isValue_260 (m_Mo_u4 f_t_file (t_from + 3)))) else True)) else (if t_name = 1768449138 then (om_Mo_u4 f_t_file t_from ∧ (ok_Mo_isValue_69 t_from f_t_file (m_Mo_u4 f_t_file t_from))) else (if t_name = 1885564018 then (om_Mo_areColumns t_from f_t_file ∧ (ok_Mo_isValue_282 (m_Mo_areColumns t_from f_t_file))) else True)))))
def m_Mo_isValue (t_name : Int32) (t_from : Int32) (t_end : Int32) (t_sizeAt : Int32) (t_paletteAt : Int32) (f_t_file : Nat → Int32) : Int32 :=
  if t_name = 1651532643 then (lp_Mo_isValue_202 t_end f_t_file ((t_end.toInt - t_from.toInt).toNat + 1) t_from 1) else (if t_name = 1667523942 then (lp_Mo_isValue_298 t_end f_t_file 70000 (t_from + 2) 1) else (if t_name = 1668112752 then (k_Mo_isValue_287 (m_Mo_isMap t_from t_end t_sizeAt t_paletteAt f_t_file)) else (if t_name = 1668246642 then (if (f_t_file t_from.toNatClampNeg) = 1 then (k_Mo_isValue_260 (m_Mo_u4 f_t_file (t_from + 3))) else 1) else (if t_name = 1768449138 then (k_Mo_isValue_69 t_from f_t_file (m_Mo_u4 f_t_file t_from)) else (if t_name = 1885564018 then (k_Mo_isValue_282 (m_Mo_areColumns t_from f_t_file)) else 1)))))
set_option maxHeartbeats 4000000 in
set_option maxRecDepth 100000 in
theorem c_Mo_isValue (l : Launch) (D : va_G) (cB cI cJ : ClassId) (h_t h_t_bits h_t_profile h_t_columnBits h_t_numbers h_t_map h_t_line h_t_resolutions h_t_file : Nat) (t_thrown : Int32) (t_high : Int32) (t_wide : Int32) (t_components : Int32) (t_unknown : Int32) (t_rights : Int32) (t_colours : Int32) (t_profiled : Int32) (t_entries : Int32) (t_columns : Int32) (t_maps : Int32) (t_lines : Int32) (t_size : Int32) (t_scanned : Int32) (t_refusedAt : Int32) (t_cursor : Int32) (t_streamAt : Int32) (t_streamMany : Int32) (t_name : Int32) (t_from : Int32) (t_end : Int32) (t_sizeAt : Int32) (t_bitsAt : Int32) (t_colourAt : Int32) (t_colourEnd : Int32) (t_paletteAt : Int32) (t_mapAt : Int32) (t_mapEnd : Int32) (t_channelsAt : Int32) (t_captureAt : Int32) (t_displayAt : Int32) (t_resolved : Int32) (f_t_file : Nat → Int32) (hO : om_Mo_isValue t_name t_from t_end t_sizeAt t_paletteAt f_t_file) (sz : Nat) : Ct l D cB cI cJ y_Mo_isValue b_Mo_isValue 3 (some .boolean) 2 47 0 0 [.ref h_t] [(h_t, .inr (7, (.int t_thrown :: .int t_high :: .int t_wide :: .int t_components :: .ref h_t_bits :: .int t_unknown :: .int t_rights :: .int t_colours :: .int t_profiled :: .ref h_t_profile :: .int t_entries :: .int t_columns :: .ref h_t_columnBits :: .ref h_t_numbers :: .int t_maps :: .ref h_t_map :: .int t_lines :: .ref h_t_line :: .ref h_t_resolutions :: .ref h_t_file :: .int t_size :: .int t_scanned :: .int t_refusedAt :: .int t_cursor :: .int t_streamAt :: .int t_streamMany :: .int t_name :: .int t_from :: .int t_end :: .int t_sizeAt :: .int t_bitsAt :: .int t_colourAt :: .int t_colourEnd :: .int t_paletteAt :: .int t_mapAt :: .int t_mapEnd :: .int t_channelsAt :: .int t_captureAt :: .int t_displayAt :: .int t_resolved :: []))), (h_t_file, .inl (cI, 65536, .inl f_t_file))] (fun v w1 => ∃ (x : Int32), x = m_Mo_isValue t_name t_from t_end t_sizeAt t_paletteAt f_t_file ∧ v = some (.int x) ∧ w1 = [(h_t, .inr (7, (.int t_thrown :: .int t_high :: .int t_wide :: .int t_components :: .ref h_t_bits :: .int t_unknown :: .int t_rights :: .int t_colours :: .int t_profiled :: .ref h_t_profile :: .int t_entries :: .int t_columns :: .ref h_t_columnBits :: .ref h_t_numbers :: .int t_maps :: .ref h_t_map :: .int t_lines :: .ref h_t_line :: .ref h_t_resolutions :: .ref h_t_file :: .int t_size :: .int t_scanned :: .int t_refusedAt :: .int t_cursor :: .int t_streamAt :: .int t_streamMany :: .int t_name :: .int t_from :: .int t_end :: .int t_sizeAt :: .int t_bitsAt :: .int t_colourAt :: .int t_colourEnd :: .int t_paletteAt :: .int t_mapAt :: .int t_mapEnd :: .int t_channelsAt :: .int t_captureAt :: .int t_displayAt :: .int t_resolved :: []))), (h_t_file, .inl (cI, 65536, .inl f_t_file))]) sz := by
  refine Ct.of (by decide) (Nat.le_of_ble_eq_true rfl) ?_
  intro p e R s m args below meth c A ls Q hx hb hr hlk hml hta hown hin hK hN hA hRf hRl hRc hRs hP hD hS hl hQ
  have hl : lv_has ls 3 [(0, .ref h_t)] := hl
  obtain ⟨RES, E0⟩ : ∃ R, m_Mo_isValue t_name t_from t_end t_sizeAt t_paletteAt f_t_file = R := ⟨_, rfl⟩
  have E := E0
  have O := hO
  refine lv_iconst (v := 1) hx hb d_Mo_isValue_0 (by decide) ?_
  refine lv_istore_n (lv' := [(1, .int 1), (0, .ref h_t)]) hx hb d_Mo_isValue_1 rfl hl (by decide) rfl (fun ls hl => ?_)
  refine lv_aload_n hx hb d_Mo_isValue_2 rfl (lv_at hl 1 rfl) ?_
  refine va_get (D := D) (v := .int t_name) hx hb hta i_Mo hown hK hP 0 rfl rfl 26 (by decide) (hta _ lk_Mo_216) (fun _ h9 => h9) rfl d_Mo_isValue_3 ?_
  by_cases c_6_0 : t_name = 1651532643
  · have E := (if_pos c_6_0).symm.trans E
    have O := Eq.mp (if_pos c_6_0) O
    refine lv_lookup (off := 191) (tgt := 197) hx hb d_Mo_isValue_6 (by decide) (by rw [c_6_0]; rfl) (by decide) ?_
    refine lv_aload_n hx hb d_Mo_isValue_197 rfl (lv_at hl 1 rfl) ?_
    refine va_get (D := D) (v := .int t_from) hx hb hta i_Mo hown hK hP 0 rfl rfl 27 (by decide) (hta _ lk_Mo_219) (fun _ h9 => h9) rfl d_Mo_isValue_198 ?_
    refine lv_istore_n (lv' := [(2, .int t_from), (1, .int 1), (0, .ref h_t)]) hx hb d_Mo_isValue_201 rfl hl (by decide) rfl (fun ls hl => ?_)
    have L_202 : ∀ (n : Nat) (v202_2 : Int32) (v202_1 : Int32), (t_end.toInt - v202_2.toInt).toNat < n → lp_Mo_isValue_202 t_end f_t_file n v202_2 v202_1 = RES → olp_Mo_isValue_202 t_end f_t_file n v202_2 v202_1 → ∀ (H : Heap) (locs : List Loc), va_P D classes [(h_t, .inr (7, (.int t_thrown :: .int t_high :: .int t_wide :: .int t_components :: .ref h_t_bits :: .int t_unknown :: .int t_rights :: .int t_colours :: .int t_profiled :: .ref h_t_profile :: .int t_entries :: .int t_columns :: .ref h_t_columnBits :: .ref h_t_numbers :: .int t_maps :: .ref h_t_map :: .int t_lines :: .ref h_t_line :: .ref h_t_resolutions :: .ref h_t_file :: .int t_size :: .int t_scanned :: .int t_refusedAt :: .int t_cursor :: .int t_streamAt :: .int t_streamMany :: .int t_name :: .int t_from :: .int t_end :: .int t_sizeAt :: .int t_bitsAt :: .int t_colourAt :: .int t_colourEnd :: .int t_paletteAt :: .int t_mapAt :: .int t_mapEnd :: .int t_channelsAt :: .int t_captureAt :: .int t_displayAt :: .int t_resolved :: []))), (h_t_file, .inl (cI, 65536, .inl f_t_file))] H → va_D A [(h_t, .inr (7, (.int t_thrown :: .int t_high :: .int t_wide :: .int t_components :: .ref h_t_bits :: .int t_unknown :: .int t_rights :: .int t_colours :: .int t_profiled :: .ref h_t_profile :: .int t_entries :: .int t_columns :: .ref h_t_columnBits :: .ref h_t_numbers :: .int t_maps :: .ref h_t_map :: .int t_lines :: .ref h_t_line :: .ref h_t_resolutions :: .ref h_t_file :: .int t_size :: .int t_scanned :: .int t_refusedAt :: .int t_cursor :: .int t_streamAt :: .int t_streamMany :: .int t_name :: .int t_from :: .int t_end :: .int t_sizeAt :: .int t_bitsAt :: .int t_colourAt :: .int t_colourEnd :: .int t_paletteAt :: .int t_mapAt :: .int t_mapEnd :: .int t_channelsAt :: .int t_captureAt :: .int t_displayAt :: .int t_resolved :: []))), (h_t_file, .inl (cI, 65536, .inl f_t_file))] → va_S A s.heap H locs → ∀ ls : Array Slot, lv_has ls 3 [(2, .int v202_2), (1, .int v202_1), (0, .ref h_t)] → W p l e R s m args below meth c H locs 0 0 Q (F0 m 202 ls []) := by
      intro n
      induction n with
      | zero => intro v202_2 v202_1 hlt; exact absurd hlt (Nat.not_lt_zero _)
      | succ n ih =>
        intro v202_2 v202_1 hlt_202 E O H locs hP hD hS ls hl
        have E : lb_Mo_isValue_202 t_end f_t_file (lp_Mo_isValue_202 t_end f_t_file n) v202_2 v202_1 = RES := E
        have O : olb_Mo_isValue_202 t_end f_t_file (olp_Mo_isValue_202 t_end f_t_file n) v202_2 v202_1 := O
        generalize lp_Mo_isValue_202 t_end f_t_file n = kk_202 at ih E
        generalize olp_Mo_isValue_202 t_end f_t_file n = okk_202 at ih O
        have ih_202 := ih
        clear ih
        refine lv_iload_n hx hb d_Mo_isValue_202 rfl (lv_at hl 0 rfl) ?_
        refine lv_aload_n hx hb d_Mo_isValue_203 rfl (lv_at hl 2 rfl) ?_
        refine va_get (D := D) (v := .int t_end) hx hb hta i_Mo hown hK hP 0 rfl rfl 28 (by decide) (hta _ lk_Mo_222) (fun _ h9 => h9) rfl d_Mo_isValue_204 ?_
        refine lv_icmp_ge (tgt := 238) hx hb d_Mo_isValue_207 (by decide) (fun c_207 => ?_) (fun c_207 => ?_)
        · have E := (if_pos c_207).symm.trans E
          have O := Eq.mp (if_pos c_207) O
          refine lv_iload_n hx hb d_Mo_isValue_238 rfl (lv_at hl 1 rfl) ?_
          exact kr_z hx hb hr hlk hQ hK hP hD hS ⟨(v202_1 : Int32), E.trans E0.symm, rfl, rfl⟩ (by omega) (by omega) O.1 d_Mo_isValue_239
        · have E := (if_neg c_207).symm.trans E
          have O := Eq.mp (if_neg c_207) O
          refine lv_iload_n hx hb d_Mo_isValue_210 rfl (lv_at hl 1 rfl) ?_
          have J_230 : j_Mo_isValue_230 kk_202 v202_2 = RES → oj_Mo_isValue_230 okk_202 v202_2 → ∀ (H : Heap) (locs : List Loc), va_P D classes [(h_t, .inr (7, (.int t_thrown :: .int t_high :: .int t_wide :: .int t_components :: .ref h_t_bits :: .int t_unknown :: .int t_rights :: .int t_colours :: .int t_profiled :: .ref h_t_profile :: .int t_entries :: .int t_columns :: .ref h_t_columnBits :: .ref h_t_numbers :: .int t_maps :: .ref h_t_map :: .int t_lines :: .ref h_t_line :: .ref h_t_resolutions :: .ref h_t_file :: .int t_size :: .int t_scanned :: .int t_refusedAt :: .int t_cursor :: .int t_streamAt :: .int t_streamMany :: .int t_name :: .int t_from :: .int t_end :: .int t_sizeAt :: .int t_bitsAt :: .int t_colourAt :: .int t_colourEnd :: .int t_paletteAt :: .int t_mapAt :: .int t_mapEnd :: .int t_channelsAt :: .int t_captureAt :: .int t_displayAt :: .int t_resolved :: []))), (h_t_file, .inl (cI, 65536, .inl f_t_file))] H → va_D A [(h_t, .inr (7, (.int t_thrown :: .int t_high :: .int t_wide :: .int t_components :: .ref h_t_bits :: .int t_unknown :: .int t_rights :: .int t_colours :: .int t_profiled :: .ref h_t_profile :: .int t_entries :: .int t_columns :: .ref h_t_columnBits :: .ref h_t_numbers :: .int t_maps :: .ref h_t_map :: .int t_lines :: .ref h_t_line :: .ref h_t_resolutions :: .ref h_t_file :: .int t_size :: .int t_scanned :: .int t_refusedAt :: .int t_cursor :: .int t_streamAt :: .int t_streamMany :: .int t_name :: .int t_from :: .int t_end :: .int t_sizeAt :: .int t_bitsAt :: .int t_colourAt :: .int t_colourEnd :: .int t_paletteAt :: .int t_mapAt :: .int t_mapEnd :: .int t_channelsAt :: .int t_captureAt :: .int t_displayAt :: .int t_resolved :: []))), (h_t_file, .inl (cI, 65536, .inl f_t_file))] → va_S A s.heap H locs → ∀ ls : Array Slot, lv_has ls 3 [(2, .int v202_2), (0, .ref h_t)] → W p l e R s m args below meth c H locs 0 0 Q (F0 m 230 ls []) := by
            intro E O H locs hP hD hS ls hl
            refine lv_iconst (v := 0) hx hb d_Mo_isValue_230 (by decide) ?_
            refine lv_istore_n (lv' := [(1, .int 0), (2, .int v202_2), (0, .ref h_t)]) hx hb d_Mo_isValue_231 rfl hl (by decide) rfl (fun ls hl => ?_)
            refine lv_iinc (v := v202_2 + 1) (lv' := [(2, .int (v202_2 + 1)), (1, .int 0), (0, .ref h_t)]) hx hb d_Mo_isValue_232 hl (k := 1) rfl rfl (by decide) rfl (fun ls hl => ?_)
            refine lv_goto (tgt := 202) hx hb d_Mo_isValue_235 (by decide) ?_
            exact ih_202 (v202_2 + 1) 0 (Nat.lt_of_lt_of_le (tm_up c_207) (Nat.le_of_lt_succ hlt_202)) E O _ _ hP hD hS ls (lv_sub hl [0, 1, 2] rfl)
          refine lv_if_eq (tgt := 230) hx hb d_Mo_isValue_211 (by decide) (fun c_211 => ?_) (fun c_211 => ?_)
          · have E := (if_pos c_211).symm.trans E
            have O := Eq.mp (if_pos c_211) O
            exact J_230  E O _ _ hP hD hS ls (lv_sub hl [0, 2] rfl)
          · have E := (if_neg c_211).symm.trans E
            have O := Eq.mp (if_neg c_211) O
            refine lv_aload_n hx hb d_Mo_isValue_214 rfl (lv_at hl 2 rfl) ?_
            refine va_get (D := D) (v := .ref h_t_file) hx hb hta i_Mo hown hK hP 0 rfl rfl 19 (by decide) (hta _ lk_Mo_37) (fun _ h9 => h9) rfl d_Mo_isValue_215 ?_
            refine lv_iload_n hx hb d_Mo_isValue_218 rfl (lv_at hl 0 rfl) ?_
            refine va_iald hx hb hK hP 1 1 rfl rfl O.1 d_Mo_isValue_219 ?_
            have O := O.2
            refine kc_S (As := [.int (f_t_file v202_2.toNatClampNeg)]) (rest := []) (wr := [(h_t, .inr (7, (.int t_thrown :: .int t_high :: .int t_wide :: .int t_components :: .ref h_t_bits :: .int t_unknown :: .int t_rights :: .int t_colours :: .int t_profiled :: .ref h_t_profile :: .int t_entries :: .int t_columns :: .ref h_t_columnBits :: .ref h_t_numbers :: .int t_maps :: .ref h_t_map :: .int t_lines :: .ref h_t_line :: .ref h_t_resolutions :: .ref h_t_file :: .int t_size :: .int t_scanned :: .int t_refusedAt :: .int t_cursor :: .int t_streamAt :: .int t_streamMany :: .int t_name :: .int t_from :: .int t_end :: .int t_sizeAt :: .int t_bitsAt :: .int t_colourAt :: .int t_colourEnd :: .int t_paletteAt :: .int t_mapAt :: .int t_mapEnd :: .int t_channelsAt :: .int t_captureAt :: .int t_displayAt :: .int t_resolved :: []))), (h_t_file, .inl (cI, 65536, .inl f_t_file))]) [] [0, 1] ⟨hx, hb, hml, hown, hta⟩ hK hN hP hD hS hA (c_Mo_areBits l D cB cI cJ (f_t_file v202_2.toNatClampNeg) O.1 _) (hta _ lk_Mo_85) (hta _ ini_Mo) (hta _ code_Mo_areBits) code_Mo_areBits (hta _ stat_Mo_areBits) hd_Mo_areBits rfl ⟨by omega, by omega⟩ rfl rfl (by decide) (by decide) (by decide) rfl hl.1 (lv_room (Nat.le_of_ble_eq_true rfl)) d_Mo_isValue_220 ⟨by omega, by omega⟩ (fun v w1 H locs hw hP hD hS => ?_)
            obtain ⟨x220, hx220, rfl, rfl⟩ := hw
            have hP : va_P D classes [(h_t, .inr (7, (.int t_thrown :: .int t_high :: .int t_wide :: .int t_components :: .ref h_t_bits :: .int t_unknown :: .int t_rights :: .int t_colours :: .int t_profiled :: .ref h_t_profile :: .int t_entries :: .int t_columns :: .ref h_t_columnBits :: .ref h_t_numbers :: .int t_maps :: .ref h_t_map :: .int t_lines :: .ref h_t_line :: .ref h_t_resolutions :: .ref h_t_file :: .int t_size :: .int t_scanned :: .int t_refusedAt :: .int t_cursor :: .int t_streamAt :: .int t_streamMany :: .int t_name :: .int t_from :: .int t_end :: .int t_sizeAt :: .int t_bitsAt :: .int t_colourAt :: .int t_colourEnd :: .int t_paletteAt :: .int t_mapAt :: .int t_mapEnd :: .int t_channelsAt :: .int t_captureAt :: .int t_displayAt :: .int t_resolved :: []))), (h_t_file, .inl (cI, 65536, .inl f_t_file))] H := hP.sub [0, 1] rfl
            have hD : va_D A [(h_t, .inr (7, (.int t_thrown :: .int t_high :: .int t_wide :: .int t_components :: .ref h_t_bits :: .int t_unknown :: .int t_rights :: .int t_colours :: .int t_profiled :: .ref h_t_profile :: .int t_entries :: .int t_columns :: .ref h_t_columnBits :: .ref h_t_numbers :: .int t_maps :: .ref h_t_map :: .int t_lines :: .ref h_t_line :: .ref h_t_resolutions :: .ref h_t_file :: .int t_size :: .int t_scanned :: .int t_refusedAt :: .int t_cursor :: .int t_streamAt :: .int t_streamMany :: .int t_name :: .int t_from :: .int t_end :: .int t_sizeAt :: .int t_bitsAt :: .int t_colourAt :: .int t_colourEnd :: .int t_paletteAt :: .int t_mapAt :: .int t_mapEnd :: .int t_channelsAt :: .int t_captureAt :: .int t_displayAt :: .int t_resolved :: []))), (h_t_file, .inl (cI, 65536, .inl f_t_file))] := hD.sub [0, 1] (by decide) rfl
            refine W.eq (g2 := F0 m 223 ls [.int x220]) rfl ?_
            have O := O.2
            have E : k_Mo_isValue_220 kk_202 v202_2 x220 = RES := (congrArg (k_Mo_isValue_220 kk_202 v202_2) hx220).trans E
            have O : ok_Mo_isValue_220 okk_202 v202_2 x220 := by rw [hx220]; exact O
            refine lv_if_eq (tgt := 230) hx hb d_Mo_isValue_223 (by decide) (fun c_223 => ?_) (fun c_223 => ?_)
            · have E := (if_pos c_223).symm.trans E
              have O := Eq.mp (if_pos c_223) O
              exact J_230  E O _ _ hP hD hS ls (lv_sub hl [0, 2] rfl)
            · have E := (if_neg c_223).symm.trans E
              have O := Eq.mp (if_neg c_223) O
              refine lv_iconst (v := 1) hx hb d_Mo_isValue_226 (by decide) ?_
              refine lv_goto (tgt := 231) hx hb d_Mo_isValue_227 (by decide) ?_
              refine lv_istore_n (lv' := [(1, .int 1), (2, .int v202_2), (0, .ref h_t)]) hx hb d_Mo_isValue_231 rfl hl (by decide) rfl (fun ls hl => ?_)
              refine lv_iinc (v := v202_2 + 1) (lv' := [(2, .int (v202_2 + 1)), (1, .int 1), (0, .ref h_t)]) hx hb d_Mo_isValue_232 hl (k := 1) rfl rfl (by decide) rfl (fun ls hl => ?_)
              refine lv_goto (tgt := 202) hx hb d_Mo_isValue_235 (by decide) ?_
              exact ih_202 (v202_2 + 1) 1 (Nat.lt_of_lt_of_le (tm_up c_207) (Nat.le_of_lt_succ hlt_202)) E O _ _ hP hD hS ls (lv_sub hl [0, 1, 2] rfl)
    exact L_202 _ t_from 1 (Nat.lt_succ_self _) E O _ _ hP hD hS ls (lv_sub hl [0, 1, 2] rfl)
  have E := (if_neg c_6_0).symm.trans E
  have O := Eq.mp (if_neg c_6_0) O
  by_cases c_6_1 : t_name = 1667523942
  · have E := (if_pos c_6_1).symm.trans E
    have O := Eq.mp (if_pos c_6_1) O
    refine lv_lookup (off := 285) (tgt := 291) hx hb d_Mo_isValue_6 (by decide) (by rw [c_6_1]; rfl) (by decide) ?_
    refine lv_aload_n hx hb d_Mo_isValue_291 rfl (lv_at hl 1 rfl) ?_
    refine va_get (D := D) (v := .int t_from) hx hb hta i_Mo hown hK hP 0 rfl rfl 27 (by decide) (hta _ lk_Mo_219) (fun _ h9 => h9) rfl d_Mo_isValue_292 ?_
    refine lv_iconst (v := 2) hx hb d_Mo_isValue_295 (by decide) ?_
    refine lv_iadd hx hb d_Mo_isValue_296 ?_
    refine lv_istore_n (lv' := [(2, .int (t_from + 2)), (1, .int 1), (0, .ref h_t)]) hx hb d_Mo_isValue_297 rfl hl (by decide) rfl (fun ls hl => ?_)
    have L_298 : ∀ (n : Nat) (v298_2 : Int32) (v298_1 : Int32), lp_Mo_isValue_298 t_end f_t_file n v298_2 v298_1 = RES → olp_Mo_isValue_298 t_end f_t_file n v298_2 v298_1 → ∀ (H : Heap) (locs : List Loc), va_P D classes [(h_t, .inr (7, (.int t_thrown :: .int t_high :: .int t_wide :: .int t_components :: .ref h_t_bits :: .int t_unknown :: .int t_rights :: .int t_colours :: .int t_profiled :: .ref h_t_profile :: .int t_entries :: .int t_columns :: .ref h_t_columnBits :: .ref h_t_numbers :: .int t_maps :: .ref h_t_map :: .int t_lines :: .ref h_t_line :: .ref h_t_resolutions :: .ref h_t_file :: .int t_size :: .int t_scanned :: .int t_refusedAt :: .int t_cursor :: .int t_streamAt :: .int t_streamMany :: .int t_name :: .int t_from :: .int t_end :: .int t_sizeAt :: .int t_bitsAt :: .int t_colourAt :: .int t_colourEnd :: .int t_paletteAt :: .int t_mapAt :: .int t_mapEnd :: .int t_channelsAt :: .int t_captureAt :: .int t_displayAt :: .int t_resolved :: []))), (h_t_file, .inl (cI, 65536, .inl f_t_file))] H → va_D A [(h_t, .inr (7, (.int t_thrown :: .int t_high :: .int t_wide :: .int t_components :: .ref h_t_bits :: .int t_unknown :: .int t_rights :: .int t_colours :: .int t_profiled :: .ref h_t_profile :: .int t_entries :: .int t_columns :: .ref h_t_columnBits :: .ref h_t_numbers :: .int t_maps :: .ref h_t_map :: .int t_lines :: .ref h_t_line :: .ref h_t_resolutions :: .ref h_t_file :: .int t_size :: .int t_scanned :: .int t_refusedAt :: .int t_cursor :: .int t_streamAt :: .int t_streamMany :: .int t_name :: .int t_from :: .int t_end :: .int t_sizeAt :: .int t_bitsAt :: .int t_colourAt :: .int t_colourEnd :: .int t_paletteAt :: .int t_mapAt :: .int t_mapEnd :: .int t_channelsAt :: .int t_captureAt :: .int t_displayAt :: .int t_resolved :: []))), (h_t_file, .inl (cI, 65536, .inl f_t_file))] → va_S A s.heap H locs → ∀ ls : Array Slot, lv_has ls 3 [(2, .int v298_2), (1, .int v298_1), (0, .ref h_t)] → W p l e R s m args below meth c H locs 0 0 Q (F0 m 298 ls []) := by
      intro n
      induction n with
      | zero => intro v298_2 v298_1 E O; exact O.elim
      | succ n ih =>
        intro v298_2 v298_1 E O H locs hP hD hS ls hl
        have E : lb_Mo_isValue_298 t_end f_t_file (lp_Mo_isValue_298 t_end f_t_file n) v298_2 v298_1 = RES := E
        have O : olb_Mo_isValue_298 t_end f_t_file (olp_Mo_isValue_298 t_end f_t_file n) v298_2 v298_1 := O
        generalize lp_Mo_isValue_298 t_end f_t_file n = kk_298 at ih E
        generalize olp_Mo_isValue_298 t_end f_t_file n = okk_298 at ih O
        have ih_298 := ih
        clear ih
        refine lv_iload_n hx hb d_Mo_isValue_298 rfl (lv_at hl 0 rfl) ?_
        refine lv_aload_n hx hb d_Mo_isValue_299 rfl (lv_at hl 2 rfl) ?_
        refine va_get (D := D) (v := .int t_end) hx hb hta i_Mo hown hK hP 0 rfl rfl 28 (by decide) (hta _ lk_Mo_222) (fun _ h9 => h9) rfl d_Mo_isValue_300 ?_
        refine lv_icmp_ge (tgt := 337) hx hb d_Mo_isValue_303 (by decide) (fun c_303 => ?_) (fun c_303 => ?_)
        · have E := (if_pos c_303).symm.trans E
          have O := Eq.mp (if_pos c_303) O
          refine lv_iload_n hx hb d_Mo_isValue_337 rfl (lv_at hl 1 rfl) ?_
          exact kr_z hx hb hr hlk hQ hK hP hD hS ⟨(v298_1 : Int32), E.trans E0.symm, rfl, rfl⟩ (by omega) (by omega) O.1 d_Mo_isValue_338
        · have E := (if_neg c_303).symm.trans E
          have O := Eq.mp (if_neg c_303) O
          refine lv_iload_n hx hb d_Mo_isValue_306 rfl (lv_at hl 1 rfl) ?_
          have J_328 : ∀ (j328_s0 : Int32), j_Mo_isValue_328 kk_298 v298_2 j328_s0 = RES → oj_Mo_isValue_328 okk_298 v298_2 j328_s0 → ∀ (H : Heap) (locs : List Loc), va_P D classes [(h_t, .inr (7, (.int t_thrown :: .int t_high :: .int t_wide :: .int t_components :: .ref h_t_bits :: .int t_unknown :: .int t_rights :: .int t_colours :: .int t_profiled :: .ref h_t_profile :: .int t_entries :: .int t_columns :: .ref h_t_columnBits :: .ref h_t_numbers :: .int t_maps :: .ref h_t_map :: .int t_lines :: .ref h_t_line :: .ref h_t_resolutions :: .ref h_t_file :: .int t_size :: .int t_scanned :: .int t_refusedAt :: .int t_cursor :: .int t_streamAt :: .int t_streamMany :: .int t_name :: .int t_from :: .int t_end :: .int t_sizeAt :: .int t_bitsAt :: .int t_colourAt :: .int t_colourEnd :: .int t_paletteAt :: .int t_mapAt :: .int t_mapEnd :: .int t_channelsAt :: .int t_captureAt :: .int t_displayAt :: .int t_resolved :: []))), (h_t_file, .inl (cI, 65536, .inl f_t_file))] H → va_D A [(h_t, .inr (7, (.int t_thrown :: .int t_high :: .int t_wide :: .int t_components :: .ref h_t_bits :: .int t_unknown :: .int t_rights :: .int t_colours :: .int t_profiled :: .ref h_t_profile :: .int t_entries :: .int t_columns :: .ref h_t_columnBits :: .ref h_t_numbers :: .int t_maps :: .ref h_t_map :: .int t_lines :: .ref h_t_line :: .ref h_t_resolutions :: .ref h_t_file :: .int t_size :: .int t_scanned :: .int t_refusedAt :: .int t_cursor :: .int t_streamAt :: .int t_streamMany :: .int t_name :: .int t_from :: .int t_end :: .int t_sizeAt :: .int t_bitsAt :: .int t_colourAt :: .int t_colourEnd :: .int t_paletteAt :: .int t_mapAt :: .int t_mapEnd :: .int t_channelsAt :: .int t_captureAt :: .int t_displayAt :: .int t_resolved :: []))), (h_t_file, .inl (cI, 65536, .inl f_t_file))] → va_S A s.heap H locs → ∀ ls : Array Slot, lv_has ls 3 [(2, .int v298_2), (0, .ref h_t)] → W p l e R s m args below meth c H locs 0 0 Q (F0 m 328 ls [.int j328_s0]) := by
            intro j328_s0 E O H locs hP hD hS ls hl
            refine lv_istore_n (lv' := [(1, .int j328_s0), (2, .int v298_2), (0, .ref h_t)]) hx hb d_Mo_isValue_328 rfl hl (by decide) rfl (fun ls hl => ?_)
            refine lv_iload_n hx hb d_Mo_isValue_329 rfl (lv_at hl 1 rfl) ?_
            refine lv_bipush (v := 6) hx hb d_Mo_isValue_330 (by decide) ?_
            refine lv_iadd hx hb d_Mo_isValue_332 ?_
            refine lv_istore_n (lv' := [(2, .int (v298_2 + 6)), (1, .int j328_s0), (0, .ref h_t)]) hx hb d_Mo_isValue_333 rfl hl (by decide) rfl (fun ls hl => ?_)
            refine lv_goto (tgt := 298) hx hb d_Mo_isValue_334 (by decide) ?_
            exact ih_298 (v298_2 + 6) j328_s0 E O _ _ hP hD hS ls (lv_sub hl [0, 1, 2] rfl)
          have J_327 : j_Mo_isValue_327 kk_298 v298_2 = RES → oj_Mo_isValue_327 okk_298 v298_2 → ∀ (H : Heap) (locs : List Loc), va_P D classes [(h_t, .inr (7, (.int t_thrown :: .int t_high :: .int t_wide :: .int t_components :: .ref h_t_bits :: .int t_unknown :: .int t_rights :: .int t_colours :: .int t_profiled :: .ref h_t_profile :: .int t_entries :: .int t_columns :: .ref h_t_columnBits :: .ref h_t_numbers :: .int t_maps :: .ref h_t_map :: .int t_lines :: .ref h_t_line :: .ref h_t_resolutions :: .ref h_t_file :: .int t_size :: .int t_scanned :: .int t_refusedAt :: .int t_cursor :: .int t_streamAt :: .int t_streamMany :: .int t_name :: .int t_from :: .int t_end :: .int t_sizeAt :: .int t_bitsAt :: .int t_colourAt :: .int t_colourEnd :: .int t_paletteAt :: .int t_mapAt :: .int t_mapEnd :: .int t_channelsAt :: .int t_captureAt :: .int t_displayAt :: .int t_resolved :: []))), (h_t_file, .inl (cI, 65536, .inl f_t_file))] H → va_D A [(h_t, .inr (7, (.int t_thrown :: .int t_high :: .int t_wide :: .int t_components :: .ref h_t_bits :: .int t_unknown :: .int t_rights :: .int t_colours :: .int t_profiled :: .ref h_t_profile :: .int t_entries :: .int t_columns :: .ref h_t_columnBits :: .ref h_t_numbers :: .int t_maps :: .ref h_t_map :: .int t_lines :: .ref h_t_line :: .ref h_t_resolutions :: .ref h_t_file :: .int t_size :: .int t_scanned :: .int t_refusedAt :: .int t_cursor :: .int t_streamAt :: .int t_streamMany :: .int t_name :: .int t_from :: .int t_end :: .int t_sizeAt :: .int t_bitsAt :: .int t_colourAt :: .int t_colourEnd :: .int t_paletteAt :: .int t_mapAt :: .int t_mapEnd :: .int t_channelsAt :: .int t_captureAt :: .int t_displayAt :: .int t_resolved :: []))), (h_t_file, .inl (cI, 65536, .inl f_t_file))] → va_S A s.heap H locs → ∀ ls : Array Slot, lv_has ls 3 [(2, .int v298_2), (0, .ref h_t)] → W p l e R s m args below meth c H locs 0 0 Q (F0 m 327 ls []) := by
            intro E O H locs hP hD hS ls hl
            refine lv_iconst (v := 0) hx hb d_Mo_isValue_327 (by decide) ?_
            exact J_328 0 E O _ _ hP hD hS ls (lv_sub hl [0, 1] rfl)
          refine lv_if_eq (tgt := 327) hx hb d_Mo_isValue_307 (by decide) (fun c_307 => ?_) (fun c_307 => ?_)
          · have E := (if_pos c_307).symm.trans E
            have O := Eq.mp (if_pos c_307) O
            exact J_327  E O _ _ hP hD hS ls (lv_sub hl [0, 2] rfl)
          · have E := (if_neg c_307).symm.trans E
            have O := Eq.mp (if_neg c_307) O
            refine lv_aload_n hx hb d_Mo_isValue_310 rfl (lv_at hl 2 rfl) ?_
            refine lv_iload_n hx hb d_Mo_isValue_311 rfl (lv_at hl 0 rfl) ?_
            refine lv_iconst (v := 2) hx hb d_Mo_isValue_312 (by decide) ?_
            refine lv_iadd hx hb d_Mo_isValue_313 ?_
            refine kc_V (As := [.int (v298_2 + 2)]) (rest := []) (wr := []) [0, 1] [] ⟨hx, hb, hml, hown, hta⟩ hK hN hP hD hS hA (c_Mo_u2 l D cB cI cJ h_t h_t_bits h_t_profile h_t_columnBits h_t_numbers h_t_map h_t_line h_t_resolutions h_t_file t_thrown t_high t_wide t_components t_unknown t_rights t_colours t_profiled t_entries t_columns t_maps t_lines t_size t_scanned t_refusedAt t_cursor t_streamAt t_streamMany t_name t_from t_end t_sizeAt t_bitsAt t_colourAt t_colourEnd t_paletteAt t_mapAt t_mapEnd t_channelsAt t_captureAt t_displayAt t_resolved f_t_file (v298_2 + 2) O.1 _) (hta _ lk_Mo_209) (hta _ ini_Mo) (hta _ code_Mo_u2) code_Mo_u2 (hta _ inst_Mo_u2) (hta _ sel_Mo_u2) hd_Mo_u2 rfl ⟨by omega, by omega⟩ (ci := 7) 0 rfl rfl rfl rfl (by decide) (by decide) (by decide) rfl hl.1 (lv_room (Nat.le_of_ble_eq_true rfl)) d_Mo_isValue_314 ⟨by omega, by omega⟩ (fun v w1 H locs hw hP hD hS => ?_)
            obtain ⟨x314, hx314, rfl, rfl⟩ := hw
            have hP : va_P D classes [(h_t, .inr (7, (.int t_thrown :: .int t_high :: .int t_wide :: .int t_components :: .ref h_t_bits :: .int t_unknown :: .int t_rights :: .int t_colours :: .int t_profiled :: .ref h_t_profile :: .int t_entries :: .int t_columns :: .ref h_t_columnBits :: .ref h_t_numbers :: .int t_maps :: .ref h_t_map :: .int t_lines :: .ref h_t_line :: .ref h_t_resolutions :: .ref h_t_file :: .int t_size :: .int t_scanned :: .int t_refusedAt :: .int t_cursor :: .int t_streamAt :: .int t_streamMany :: .int t_name :: .int t_from :: .int t_end :: .int t_sizeAt :: .int t_bitsAt :: .int t_colourAt :: .int t_colourEnd :: .int t_paletteAt :: .int t_mapAt :: .int t_mapEnd :: .int t_channelsAt :: .int t_captureAt :: .int t_displayAt :: .int t_resolved :: []))), (h_t_file, .inl (cI, 65536, .inl f_t_file))] H := hP.sub [0, 1] rfl
            have hD : va_D A [(h_t, .inr (7, (.int t_thrown :: .int t_high :: .int t_wide :: .int t_components :: .ref h_t_bits :: .int t_unknown :: .int t_rights :: .int t_colours :: .int t_profiled :: .ref h_t_profile :: .int t_entries :: .int t_columns :: .ref h_t_columnBits :: .ref h_t_numbers :: .int t_maps :: .ref h_t_map :: .int t_lines :: .ref h_t_line :: .ref h_t_resolutions :: .ref h_t_file :: .int t_size :: .int t_scanned :: .int t_refusedAt :: .int t_cursor :: .int t_streamAt :: .int t_streamMany :: .int t_name :: .int t_from :: .int t_end :: .int t_sizeAt :: .int t_bitsAt :: .int t_colourAt :: .int t_colourEnd :: .int t_paletteAt :: .int t_mapAt :: .int t_mapEnd :: .int t_channelsAt :: .int t_captureAt :: .int t_displayAt :: .int t_resolved :: []))), (h_t_file, .inl (cI, 65536, .inl f_t_file))] := hD.sub [0, 1] (by decide) rfl
            refine W.eq (g2 := F0 m 317 ls [.int x314]) rfl ?_
            have O := O.2
            have E : k_Mo_isValue_314 kk_298 v298_2 x314 = RES := (congrArg (k_Mo_isValue_314 kk_298 v298_2) hx314).trans E
            have O : ok_Mo_isValue_314 okk_298 v298_2 x314 := by rw [hx314]; exact O
            refine kc_S (As := [.int x314]) (rest := []) (wr := [(h_t, .inr (7, (.int t_thrown :: .int t_high :: .int t_wide :: .int t_components :: .ref h_t_bits :: .int t_unknown :: .int t_rights :: .int t_colours :: .int t_profiled :: .ref h_t_profile :: .int t_entries :: .int t_columns :: .ref h_t_columnBits :: .ref h_t_numbers :: .int t_maps :: .ref h_t_map :: .int t_lines :: .ref h_t_line :: .ref h_t_resolutions :: .ref h_t_file :: .int t_size :: .int t_scanned :: .int t_refusedAt :: .int t_cursor :: .int t_streamAt :: .int t_streamMany :: .int t_name :: .int t_from :: .int t_end :: .int t_sizeAt :: .int t_bitsAt :: .int t_colourAt :: .int t_colourEnd :: .int t_paletteAt :: .int t_mapAt :: .int t_mapEnd :: .int t_channelsAt :: .int t_captureAt :: .int t_displayAt :: .int t_resolved :: []))), (h_t_file, .inl (cI, 65536, .inl f_t_file))]) [] [0, 1] ⟨hx, hb, hml, hown, hta⟩ hK hN hP hD hS hA (c_Mo_isType l D cB cI cJ x314 O.1 _) (hta _ lk_Mo_109) (hta _ ini_Mo) (hta _ code_Mo_isType) code_Mo_isType (hta _ stat_Mo_isType) hd_Mo_isType rfl ⟨by omega, by omega⟩ rfl rfl (by decide) (by decide) (by decide) rfl hl.1 (lv_room (Nat.le_of_ble_eq_true rfl)) d_Mo_isValue_317 ⟨by omega, by omega⟩ (fun v w1 H locs hw hP hD hS => ?_)
            obtain ⟨x317, hx317, rfl, rfl⟩ := hw
            have hP : va_P D classes [(h_t, .inr (7, (.int t_thrown :: .int t_high :: .int t_wide :: .int t_components :: .ref h_t_bits :: .int t_unknown :: .int t_rights :: .int t_colours :: .int t_profiled :: .ref h_t_profile :: .int t_entries :: .int t_columns :: .ref h_t_columnBits :: .ref h_t_numbers :: .int t_maps :: .ref h_t_map :: .int t_lines :: .ref h_t_line :: .ref h_t_resolutions :: .ref h_t_file :: .int t_size :: .int t_scanned :: .int t_refusedAt :: .int t_cursor :: .int t_streamAt :: .int t_streamMany :: .int t_name :: .int t_from :: .int t_end :: .int t_sizeAt :: .int t_bitsAt :: .int t_colourAt :: .int t_colourEnd :: .int t_paletteAt :: .int t_mapAt :: .int t_mapEnd :: .int t_channelsAt :: .int t_captureAt :: .int t_displayAt :: .int t_resolved :: []))), (h_t_file, .inl (cI, 65536, .inl f_t_file))] H := hP.sub [0, 1] rfl
            have hD : va_D A [(h_t, .inr (7, (.int t_thrown :: .int t_high :: .int t_wide :: .int t_components :: .ref h_t_bits :: .int t_unknown :: .int t_rights :: .int t_colours :: .int t_profiled :: .ref h_t_profile :: .int t_entries :: .int t_columns :: .ref h_t_columnBits :: .ref h_t_numbers :: .int t_maps :: .ref h_t_map :: .int t_lines :: .ref h_t_line :: .ref h_t_resolutions :: .ref h_t_file :: .int t_size :: .int t_scanned :: .int t_refusedAt :: .int t_cursor :: .int t_streamAt :: .int t_streamMany :: .int t_name :: .int t_from :: .int t_end :: .int t_sizeAt :: .int t_bitsAt :: .int t_colourAt :: .int t_colourEnd :: .int t_paletteAt :: .int t_mapAt :: .int t_mapEnd :: .int t_channelsAt :: .int t_captureAt :: .int t_displayAt :: .int t_resolved :: []))), (h_t_file, .inl (cI, 65536, .inl f_t_file))] := hD.sub [0, 1] (by decide) rfl
            refine W.eq (g2 := F0 m 320 ls [.int x317]) rfl ?_
            have O := O.2
            have E : k_Mo_isValue_317 kk_298 v298_2 x317 = RES := (congrArg (k_Mo_isValue_317 kk_298 v298_2) hx317).trans E
            have O : ok_Mo_isValue_317 okk_298 v298_2 x317 := by rw [hx317]; exact O
            refine lv_if_eq (tgt := 327) hx hb d_Mo_isValue_320 (by decide) (fun c_320 => ?_) (fun c_320 => ?_)
            · have E := (if_pos c_320).symm.trans E
              have O := Eq.mp (if_pos c_320) O
              exact J_327  E O _ _ hP hD hS ls (lv_sub hl [0, 2] rfl)
            · have E := (if_neg c_320).symm.trans E
              have O := Eq.mp (if_neg c_320) O
              refine lv_iconst (v := 1) hx hb d_Mo_isValue_323 (by decide) ?_
              refine lv_goto (tgt := 328) hx hb d_Mo_isValue_324 (by decide) ?_
              exact J_328 1 E O _ _ hP hD hS ls (lv_sub hl [0, 2] rfl)
    exact L_298 _ (t_from + 2) 1 E O _ _ hP hD hS ls (lv_sub hl [0, 1, 2] rfl)
  have E := (if_neg c_6_1).symm.trans E
  have O := Eq.mp (if_neg c_6_1) O
  by_cases c_6_2 : t_name = 1668112752
  · have E := (if_pos c_6_2).symm.trans E
    have O := Eq.mp (if_pos c_6_2) O
    refine lv_lookup (off := 280) (tgt := 286) hx hb d_Mo_isValue_6 (by decide) (by rw [c_6_2]; rfl) (by decide) ?_
    refine lv_aload_n hx hb d_Mo_isValue_286 rfl (lv_at hl 1 rfl) ?_
    refine kc_V (As := []) (rest := []) (wr := []) [0, 1] [] ⟨hx, hb, hml, hown, hta⟩ hK hN hP hD hS hA (c_Mo_isMap l D cB cI cJ h_t h_t_bits h_t_profile h_t_columnBits h_t_numbers h_t_map h_t_line h_t_resolutions h_t_file t_thrown t_high t_wide t_components t_unknown t_rights t_colours t_profiled t_entries t_columns t_maps t_lines t_size t_scanned t_refusedAt t_cursor t_streamAt t_streamMany t_name t_from t_end t_sizeAt t_bitsAt t_colourAt t_colourEnd t_paletteAt t_mapAt t_mapEnd t_channelsAt t_captureAt t_displayAt t_resolved f_t_file O.1 _) (hta _ lk_Mo_258) (hta _ ini_Mo) (hta _ code_Mo_isMap) code_Mo_isMap (hta _ inst_Mo_isMap) (hta _ sel_Mo_isMap) hd_Mo_isMap rfl ⟨by omega, by omega⟩ (ci := 7) 0 rfl rfl rfl rfl (by decide) (by decide) (by decide) rfl hl.1 (lv_room (Nat.le_of_ble_eq_true rfl)) d_Mo_isValue_287 ⟨by omega, by omega⟩ (fun v w1 H locs hw hP hD hS => ?_)
    obtain ⟨x287, hx287, rfl, rfl⟩ := hw
    have hP : va_P D classes [(h_t, .inr (7, (.int t_thrown :: .int t_high :: .int t_wide :: .int t_components :: .ref h_t_bits :: .int t_unknown :: .int t_rights :: .int t_colours :: .int t_profiled :: .ref h_t_profile :: .int t_entries :: .int t_columns :: .ref h_t_columnBits :: .ref h_t_numbers :: .int t_maps :: .ref h_t_map :: .int t_lines :: .ref h_t_line :: .ref h_t_resolutions :: .ref h_t_file :: .int t_size :: .int t_scanned :: .int t_refusedAt :: .int t_cursor :: .int t_streamAt :: .int t_streamMany :: .int t_name :: .int t_from :: .int t_end :: .int t_sizeAt :: .int t_bitsAt :: .int t_colourAt :: .int t_colourEnd :: .int t_paletteAt :: .int t_mapAt :: .int t_mapEnd :: .int t_channelsAt :: .int t_captureAt :: .int t_displayAt :: .int t_resolved :: []))), (h_t_file, .inl (cI, 65536, .inl f_t_file))] H := hP.sub [0, 1] rfl
    have hD : va_D A [(h_t, .inr (7, (.int t_thrown :: .int t_high :: .int t_wide :: .int t_components :: .ref h_t_bits :: .int t_unknown :: .int t_rights :: .int t_colours :: .int t_profiled :: .ref h_t_profile :: .int t_entries :: .int t_columns :: .ref h_t_columnBits :: .ref h_t_numbers :: .int t_maps :: .ref h_t_map :: .int t_lines :: .ref h_t_line :: .ref h_t_resolutions :: .ref h_t_file :: .int t_size :: .int t_scanned :: .int t_refusedAt :: .int t_cursor :: .int t_streamAt :: .int t_streamMany :: .int t_name :: .int t_from :: .int t_end :: .int t_sizeAt :: .int t_bitsAt :: .int t_colourAt :: .int t_colourEnd :: .int t_paletteAt :: .int t_mapAt :: .int t_mapEnd :: .int t_channelsAt :: .int t_captureAt :: .int t_displayAt :: .int t_resolved :: []))), (h_t_file, .inl (cI, 65536, .inl f_t_file))] := hD.sub [0, 1] (by decide) rfl
    refine W.eq (g2 := F0 m 290 ls [.int x287]) rfl ?_
    have O := O.2
    have E : k_Mo_isValue_287 x287 = RES := (congrArg (k_Mo_isValue_287) hx287).trans E
    have O : ok_Mo_isValue_287 x287 := by rw [hx287]; exact O
    exact kr_z hx hb hr hlk hQ hK hP hD hS ⟨(x287 : Int32), E.trans E0.symm, rfl, rfl⟩ (by omega) (by omega) O.1 d_Mo_isValue_290
  have E := (if_neg c_6_2).symm.trans E
  have O := Eq.mp (if_neg c_6_2) O
  by_cases c_6_3 : t_name = 1668246642
  · have E := (if_pos c_6_3).symm.trans E
    have O := Eq.mp (if_pos c_6_3) O
    refine lv_lookup (off := 234) (tgt := 240) hx hb d_Mo_isValue_6 (by decide) (by rw [c_6_3]; rfl) (by decide) ?_
    refine lv_aload_n hx hb d_Mo_isValue_240 rfl (lv_at hl 1 rfl) ?_
    refine va_get (D := D) (v := .ref h_t_file) hx hb hta i_Mo hown hK hP 0 rfl rfl 19 (by decide) (hta _ lk_Mo_37) (fun _ h9 => h9) rfl d_Mo_isValue_241 ?_
    refine lv_aload_n hx hb d_Mo_isValue_244 rfl (lv_at hl 1 rfl) ?_
    refine va_get (D := D) (v := .int t_from) hx hb hta i_Mo hown hK hP 0 rfl rfl 27 (by decide) (hta _ lk_Mo_219) (fun _ h9 => h9) rfl d_Mo_isValue_245 ?_
    refine va_iald hx hb hK hP 1 1 rfl rfl O.1 d_Mo_isValue_248 ?_
    have O := O.2
    refine lv_iconst (v := 1) hx hb d_Mo_isValue_249 (by decide) ?_
    refine lv_icmp_ne (tgt := 275) hx hb d_Mo_isValue_250 (by decide) (fun c_250 => ?_) (fun c_250 => ?_)
    · have E := (if_neg c_250).symm.trans E
      have O := Eq.mp (if_neg c_250) O
      refine lv_iconst (v := 1) hx hb d_Mo_isValue_275 (by decide) ?_
      refine lv_goto (tgt := 280) hx hb d_Mo_isValue_276 (by decide) ?_
      exact kr_z hx hb hr hlk hQ hK hP hD hS ⟨(1 : Int32), E.trans E0.symm, rfl, rfl⟩ (by omega) (by omega) rfl d_Mo_isValue_280
    · have E := (if_pos c_250).symm.trans E
      have O := Eq.mp (if_pos c_250) O
      refine lv_aload_n hx hb d_Mo_isValue_253 rfl (lv_at hl 1 rfl) ?_
      refine lv_aload_n hx hb d_Mo_isValue_254 rfl (lv_at hl 1 rfl) ?_
      refine va_get (D := D) (v := .int t_from) hx hb hta i_Mo hown hK hP 0 rfl rfl 27 (by decide) (hta _ lk_Mo_219) (fun _ h9 => h9) rfl d_Mo_isValue_255 ?_
      refine lv_iconst (v := 3) hx hb d_Mo_isValue_258 (by decide) ?_
      refine lv_iadd hx hb d_Mo_isValue_259 ?_
      refine kc_V (As := [.int (t_from + 3)]) (rest := []) (wr := []) [0, 1] [] ⟨hx, hb, hml, hown, hta⟩ hK hN hP hD hS hA (c_Mo_u4 l D cB cI cJ h_t h_t_bits h_t_profile h_t_columnBits h_t_numbers h_t_map h_t_line h_t_resolutions h_t_file t_thrown t_high t_wide t_components t_unknown t_rights t_colours t_profiled t_entries t_columns t_maps t_lines t_size t_scanned t_refusedAt t_cursor t_streamAt t_streamMany t_name t_from t_end t_sizeAt t_bitsAt t_colourAt t_colourEnd t_paletteAt t_mapAt t_mapEnd t_channelsAt t_captureAt t_displayAt t_resolved f_t_file (t_from + 3) O.1 _) (hta _ lk_Mo_212) (hta _ ini_Mo) (hta _ code_Mo_u4) code_Mo_u4 (hta _ inst_Mo_u4) (hta _ sel_Mo_u4) hd_Mo_u4 rfl ⟨by omega, by omega⟩ (ci := 7) 0 rfl rfl rfl rfl (by decide) (by decide) (by decide) rfl hl.1 (lv_room (Nat.le_of_ble_eq_true rfl)) d_Mo_isValue_260 ⟨by omega, by omega⟩ (fun v w1 H locs hw hP hD hS => ?_)
      obtain ⟨x260, hx260, rfl, rfl⟩ := hw
      have hP : va_P D classes [(h_t, .inr (7, (.int t_thrown :: .int t_high :: .int t_wide :: .int t_components :: .ref h_t_bits :: .int t_unknown :: .int t_rights :: .int t_colours :: .int t_profiled :: .ref h_t_profile :: .int t_entries :: .int t_columns :: .ref h_t_columnBits :: .ref h_t_numbers :: .int t_maps :: .ref h_t_map :: .int t_lines :: .ref h_t_line :: .ref h_t_resolutions :: .ref h_t_file :: .int t_size :: .int t_scanned :: .int t_refusedAt :: .int t_cursor :: .int t_streamAt :: .int t_streamMany :: .int t_name :: .int t_from :: .int t_end :: .int t_sizeAt :: .int t_bitsAt :: .int t_colourAt :: .int t_colourEnd :: .int t_paletteAt :: .int t_mapAt :: .int t_mapEnd :: .int t_channelsAt :: .int t_captureAt :: .int t_displayAt :: .int t_resolved :: []))), (h_t_file, .inl (cI, 65536, .inl f_t_file))] H := hP.sub [0, 1] rfl
      have hD : va_D A [(h_t, .inr (7, (.int t_thrown :: .int t_high :: .int t_wide :: .int t_components :: .ref h_t_bits :: .int t_unknown :: .int t_rights :: .int t_colours :: .int t_profiled :: .ref h_t_profile :: .int t_entries :: .int t_columns :: .ref h_t_columnBits :: .ref h_t_numbers :: .int t_maps :: .ref h_t_map :: .int t_lines :: .ref h_t_line :: .ref h_t_resolutions :: .ref h_t_file :: .int t_size :: .int t_scanned :: .int t_refusedAt :: .int t_cursor :: .int t_streamAt :: .int t_streamMany :: .int t_name :: .int t_from :: .int t_end :: .int t_sizeAt :: .int t_bitsAt :: .int t_colourAt :: .int t_colourEnd :: .int t_paletteAt :: .int t_mapAt :: .int t_mapEnd :: .int t_channelsAt :: .int t_captureAt :: .int t_displayAt :: .int t_resolved :: []))), (h_t_file, .inl (cI, 65536, .inl f_t_file))] := hD.sub [0, 1] (by decide) rfl
      refine W.eq (g2 := F0 m 263 ls [.long x260]) rfl ?_
      have O := O.2
      have E : k_Mo_isValue_260 x260 = RES := (congrArg (k_Mo_isValue_260) hx260).trans E
      have O : ok_Mo_isValue_260 x260 := by rw [hx260]; exact O
      refine lv_ldc2 (v := 16) hx hb hown (hta _ lk_Mo_79) d_Mo_isValue_263 ?_
      refine lv_ldc2 (v := 18) hx hb hown (hta _ lk_Mo_92) d_Mo_isValue_266 ?_
      refine kc_S (As := [.long x260, .long 16, .long 18]) (rest := []) (wr := [(h_t, .inr (7, (.int t_thrown :: .int t_high :: .int t_wide :: .int t_components :: .ref h_t_bits :: .int t_unknown :: .int t_rights :: .int t_colours :: .int t_profiled :: .ref h_t_profile :: .int t_entries :: .int t_columns :: .ref h_t_columnBits :: .ref h_t_numbers :: .int t_maps :: .ref h_t_map :: .int t_lines :: .ref h_t_line :: .ref h_t_resolutions :: .ref h_t_file :: .int t_size :: .int t_scanned :: .int t_refusedAt :: .int t_cursor :: .int t_streamAt :: .int t_streamMany :: .int t_name :: .int t_from :: .int t_end :: .int t_sizeAt :: .int t_bitsAt :: .int t_colourAt :: .int t_colourEnd :: .int t_paletteAt :: .int t_mapAt :: .int t_mapEnd :: .int t_channelsAt :: .int t_captureAt :: .int t_displayAt :: .int t_resolved :: []))), (h_t_file, .inl (cI, 65536, .inl f_t_file))]) [] [0, 1] ⟨hx, hb, hml, hown, hta⟩ hK hN hP hD hS hA (c_Mo_in l D cB cI cJ x260 16 18 O.1 _) (hta _ lk_Mo_81) (hta _ ini_Mo) (hta _ code_Mo_in) code_Mo_in (hta _ stat_Mo_in) hd_Mo_in rfl ⟨by omega, by omega⟩ rfl rfl (by decide) (by decide) (by decide) rfl hl.1 (lv_room (Nat.le_of_ble_eq_true rfl)) d_Mo_isValue_269 ⟨by omega, by omega⟩ (fun v w1 H locs hw hP hD hS => ?_)
      obtain ⟨x269, hx269, rfl, rfl⟩ := hw
      have hP : va_P D classes [(h_t, .inr (7, (.int t_thrown :: .int t_high :: .int t_wide :: .int t_components :: .ref h_t_bits :: .int t_unknown :: .int t_rights :: .int t_colours :: .int t_profiled :: .ref h_t_profile :: .int t_entries :: .int t_columns :: .ref h_t_columnBits :: .ref h_t_numbers :: .int t_maps :: .ref h_t_map :: .int t_lines :: .ref h_t_line :: .ref h_t_resolutions :: .ref h_t_file :: .int t_size :: .int t_scanned :: .int t_refusedAt :: .int t_cursor :: .int t_streamAt :: .int t_streamMany :: .int t_name :: .int t_from :: .int t_end :: .int t_sizeAt :: .int t_bitsAt :: .int t_colourAt :: .int t_colourEnd :: .int t_paletteAt :: .int t_mapAt :: .int t_mapEnd :: .int t_channelsAt :: .int t_captureAt :: .int t_displayAt :: .int t_resolved :: []))), (h_t_file, .inl (cI, 65536, .inl f_t_file))] H := hP.sub [0, 1] rfl
      have hD : va_D A [(h_t, .inr (7, (.int t_thrown :: .int t_high :: .int t_wide :: .int t_components :: .ref h_t_bits :: .int t_unknown :: .int t_rights :: .int t_colours :: .int t_profiled :: .ref h_t_profile :: .int t_entries :: .int t_columns :: .ref h_t_columnBits :: .ref h_t_numbers :: .int t_maps :: .ref h_t_map :: .int t_lines :: .ref h_t_line :: .ref h_t_resolutions :: .ref h_t_file :: .int t_size :: .int t_scanned :: .int t_refusedAt :: .int t_cursor :: .int t_streamAt :: .int t_streamMany :: .int t_name :: .int t_from :: .int t_end :: .int t_sizeAt :: .int t_bitsAt :: .int t_colourAt :: .int t_colourEnd :: .int t_paletteAt :: .int t_mapAt :: .int t_mapEnd :: .int t_channelsAt :: .int t_captureAt :: .int t_displayAt :: .int t_resolved :: []))), (h_t_file, .inl (cI, 65536, .inl f_t_file))] := hD.sub [0, 1] (by decide) rfl
      refine W.eq (g2 := F0 m 272 ls [.int x269]) rfl ?_
      have O := O.2
      have E : k_Mo_isValue_269 x269 = RES := (congrArg (k_Mo_isValue_269) hx269).trans E
      have O : ok_Mo_isValue_269 x269 := by rw [hx269]; exact O
      refine lv_if_eq (tgt := 279) hx hb d_Mo_isValue_272 (by decide) (fun c_272 => ?_) (fun c_272 => ?_)
      · have E := (if_pos c_272).symm.trans E
        have O := Eq.mp (if_pos c_272) O
        refine lv_iconst (v := 0) hx hb d_Mo_isValue_279 (by decide) ?_
        exact kr_z hx hb hr hlk hQ hK hP hD hS ⟨(0 : Int32), E.trans E0.symm, rfl, rfl⟩ (by omega) (by omega) rfl d_Mo_isValue_280
      · have E := (if_neg c_272).symm.trans E
        have O := Eq.mp (if_neg c_272) O
        refine lv_iconst (v := 1) hx hb d_Mo_isValue_275 (by decide) ?_
        refine lv_goto (tgt := 280) hx hb d_Mo_isValue_276 (by decide) ?_
        exact kr_z hx hb hr hlk hQ hK hP hD hS ⟨(1 : Int32), E.trans E0.symm, rfl, rfl⟩ (by omega) (by omega) rfl d_Mo_isValue_280
  have E := (if_neg c_6_3).symm.trans E
  have O := Eq.mp (if_neg c_6_3) O
  by_cases c_6_4 : t_name = 1768449138
  · have E := (if_pos c_6_4).symm.trans E
    have O := Eq.mp (if_pos c_6_4) O
    refine lv_lookup (off := 58) (tgt := 64) hx hb d_Mo_isValue_6 (by decide) (by rw [c_6_4]; rfl) (by decide) ?_
    refine lv_aload_n hx hb d_Mo_isValue_64 rfl (lv_at hl 1 rfl) ?_
    refine lv_aload_n hx hb d_Mo_isValue_65 rfl (lv_at hl 1 rfl) ?_
    refine va_get (D := D) (v := .int t_from) hx hb hta i_Mo hown hK hP 0 rfl rfl 27 (by decide) (hta _ lk_Mo_219) (fun _ h9 => h9) rfl d_Mo_isValue_66 ?_
    refine kc_V (As := [.int t_from]) (rest := []) (wr := []) [0, 1] [] ⟨hx, hb, hml, hown, hta⟩ hK hN hP hD hS hA (c_Mo_u4 l D cB cI cJ h_t h_t_bits h_t_profile h_t_columnBits h_t_numbers h_t_map h_t_line h_t_resolutions h_t_file t_thrown t_high t_wide t_components t_unknown t_rights t_colours t_profiled t_entries t_columns t_maps t_lines t_size t_scanned t_refusedAt t_cursor t_streamAt t_streamMany t_name t_from t_end t_sizeAt t_bitsAt t_colourAt t_colourEnd t_paletteAt t_mapAt t_mapEnd t_channelsAt t_captureAt t_displayAt t_resolved f_t_file t_from O.1 _) (hta _ lk_Mo_212) (hta _ ini_Mo) (hta _ code_Mo_u4) code_Mo_u4 (hta _ inst_Mo_u4) (hta _ sel_Mo_u4) hd_Mo_u4 rfl ⟨by omega, by omega⟩ (ci := 7) 0 rfl rfl rfl rfl (by decide) (by decide) (by decide) rfl hl.1 (lv_room (Nat.le_of_ble_eq_true rfl)) d_Mo_isValue_69 ⟨by omega, by omega⟩ (fun v w1 H locs hw hP hD hS => ?_)
    obtain ⟨x69, hx69, rfl, rfl⟩ := hw
    have hP : va_P D classes [(h_t, .inr (7, (.int t_thrown :: .int t_high :: .int t_wide :: .int t_components :: .ref h_t_bits :: .int t_unknown :: .int t_rights :: .int t_colours :: .int t_profiled :: .ref h_t_profile :: .int t_entries :: .int t_columns :: .ref h_t_columnBits :: .ref h_t_numbers :: .int t_maps :: .ref h_t_map :: .int t_lines :: .ref h_t_line :: .ref h_t_resolutions :: .ref h_t_file :: .int t_size :: .int t_scanned :: .int t_refusedAt :: .int t_cursor :: .int t_streamAt :: .int t_streamMany :: .int t_name :: .int t_from :: .int t_end :: .int t_sizeAt :: .int t_bitsAt :: .int t_colourAt :: .int t_colourEnd :: .int t_paletteAt :: .int t_mapAt :: .int t_mapEnd :: .int t_channelsAt :: .int t_captureAt :: .int t_displayAt :: .int t_resolved :: []))), (h_t_file, .inl (cI, 65536, .inl f_t_file))] H := hP.sub [0, 1] rfl
    have hD : va_D A [(h_t, .inr (7, (.int t_thrown :: .int t_high :: .int t_wide :: .int t_components :: .ref h_t_bits :: .int t_unknown :: .int t_rights :: .int t_colours :: .int t_profiled :: .ref h_t_profile :: .int t_entries :: .int t_columns :: .ref h_t_columnBits :: .ref h_t_numbers :: .int t_maps :: .ref h_t_map :: .int t_lines :: .ref h_t_line :: .ref h_t_resolutions :: .ref h_t_file :: .int t_size :: .int t_scanned :: .int t_refusedAt :: .int t_cursor :: .int t_streamAt :: .int t_streamMany :: .int t_name :: .int t_from :: .int t_end :: .int t_sizeAt :: .int t_bitsAt :: .int t_colourAt :: .int t_colourEnd :: .int t_paletteAt :: .int t_mapAt :: .int t_mapEnd :: .int t_channelsAt :: .int t_captureAt :: .int t_displayAt :: .int t_resolved :: []))), (h_t_file, .inl (cI, 65536, .inl f_t_file))] := hD.sub [0, 1] (by decide) rfl
    refine W.eq (g2 := F0 m 72 ls [.long x69]) rfl ?_
    have O := O.2
    have E : k_Mo_isValue_69 t_from f_t_file x69 = RES := (congrArg (k_Mo_isValue_69 t_from f_t_file) hx69).trans E
    have O : ok_Mo_isValue_69 t_from f_t_file x69 := by rw [hx69]; exact O
    refine lv_lconst (v := 0) hx hb d_Mo_isValue_72 (by decide) ?_
    refine W.lcmp hx hb d_Mo_isValue_73 ?_
    refine lv_if_le (tgt := 195) hx hb d_Mo_isValue_74 (by decide) (fun c_74 => ?_) (fun c_74 => ?_)
    · have E := (if_pos c_74).symm.trans E
      have O := Eq.mp (if_pos c_74) O
      refine lv_iconst (v := 0) hx hb d_Mo_isValue_195 (by decide) ?_
      exact kr_z hx hb hr hlk hQ hK hP hD hS ⟨(0 : Int32), E.trans E0.symm, rfl, rfl⟩ (by omega) (by omega) rfl d_Mo_isValue_196
    · have E := (if_neg c_74).symm.trans E
      have O := Eq.mp (if_neg c_74) O
      refine lv_aload_n hx hb d_Mo_isValue_77 rfl (lv_at hl 1 rfl) ?_
      refine lv_aload_n hx hb d_Mo_isValue_78 rfl (lv_at hl 1 rfl) ?_
      refine va_get (D := D) (v := .int t_from) hx hb hta i_Mo hown hK hP 0 rfl rfl 27 (by decide) (hta _ lk_Mo_219) (fun _ h9 => h9) rfl d_Mo_isValue_79 ?_
      refine lv_iconst (v := 4) hx hb d_Mo_isValue_82 (by decide) ?_
      refine lv_iadd hx hb d_Mo_isValue_83 ?_
      refine kc_V (As := [.int (t_from + 4)]) (rest := []) (wr := []) [0, 1] [] ⟨hx, hb, hml, hown, hta⟩ hK hN hP hD hS hA (c_Mo_u4 l D cB cI cJ h_t h_t_bits h_t_profile h_t_columnBits h_t_numbers h_t_map h_t_line h_t_resolutions h_t_file t_thrown t_high t_wide t_components t_unknown t_rights t_colours t_profiled t_entries t_columns t_maps t_lines t_size t_scanned t_refusedAt t_cursor t_streamAt t_streamMany t_name t_from t_end t_sizeAt t_bitsAt t_colourAt t_colourEnd t_paletteAt t_mapAt t_mapEnd t_channelsAt t_captureAt t_displayAt t_resolved f_t_file (t_from + 4) O.1 _) (hta _ lk_Mo_212) (hta _ ini_Mo) (hta _ code_Mo_u4) code_Mo_u4 (hta _ inst_Mo_u4) (hta _ sel_Mo_u4) hd_Mo_u4 rfl ⟨by omega, by omega⟩ (ci := 7) 0 rfl rfl rfl rfl (by decide) (by decide) (by decide) rfl hl.1 (lv_room (Nat.le_of_ble_eq_true rfl)) d_Mo_isValue_84 ⟨by omega, by omega⟩ (fun v w1 H locs hw hP hD hS => ?_)
      obtain ⟨x84, hx84, rfl, rfl⟩ := hw
      have hP : va_P D classes [(h_t, .inr (7, (.int t_thrown :: .int t_high :: .int t_wide :: .int t_components :: .ref h_t_bits :: .int t_unknown :: .int t_rights :: .int t_colours :: .int t_profiled :: .ref h_t_profile :: .int t_entries :: .int t_columns :: .ref h_t_columnBits :: .ref h_t_numbers :: .int t_maps :: .ref h_t_map :: .int t_lines :: .ref h_t_line :: .ref h_t_resolutions :: .ref h_t_file :: .int t_size :: .int t_scanned :: .int t_refusedAt :: .int t_cursor :: .int t_streamAt :: .int t_streamMany :: .int t_name :: .int t_from :: .int t_end :: .int t_sizeAt :: .int t_bitsAt :: .int t_colourAt :: .int t_colourEnd :: .int t_paletteAt :: .int t_mapAt :: .int t_mapEnd :: .int t_channelsAt :: .int t_captureAt :: .int t_displayAt :: .int t_resolved :: []))), (h_t_file, .inl (cI, 65536, .inl f_t_file))] H := hP.sub [0, 1] rfl
      have hD : va_D A [(h_t, .inr (7, (.int t_thrown :: .int t_high :: .int t_wide :: .int t_components :: .ref h_t_bits :: .int t_unknown :: .int t_rights :: .int t_colours :: .int t_profiled :: .ref h_t_profile :: .int t_entries :: .int t_columns :: .ref h_t_columnBits :: .ref h_t_numbers :: .int t_maps :: .ref h_t_map :: .int t_lines :: .ref h_t_line :: .ref h_t_resolutions :: .ref h_t_file :: .int t_size :: .int t_scanned :: .int t_refusedAt :: .int t_cursor :: .int t_streamAt :: .int t_streamMany :: .int t_name :: .int t_from :: .int t_end :: .int t_sizeAt :: .int t_bitsAt :: .int t_colourAt :: .int t_colourEnd :: .int t_paletteAt :: .int t_mapAt :: .int t_mapEnd :: .int t_channelsAt :: .int t_captureAt :: .int t_displayAt :: .int t_resolved :: []))), (h_t_file, .inl (cI, 65536, .inl f_t_file))] := hD.sub [0, 1] (by decide) rfl
      refine W.eq (g2 := F0 m 87 ls [.long x84]) rfl ?_
      have O := O.2
      have E : k_Mo_isValue_84 t_from f_t_file x84 = RES := (congrArg (k_Mo_isValue_84 t_from f_t_file) hx84).trans E
      have O : ok_Mo_isValue_84 t_from f_t_file x84 := by rw [hx84]; exact O
      refine lv_lconst (v := 0) hx hb d_Mo_isValue_87 (by decide) ?_
      refine W.lcmp hx hb d_Mo_isValue_88 ?_
      refine lv_if_le (tgt := 195) hx hb d_Mo_isValue_89 (by decide) (fun c_89 => ?_) (fun c_89 => ?_)
      · have E := (if_pos c_89).symm.trans E
        have O := Eq.mp (if_pos c_89) O
        refine lv_iconst (v := 0) hx hb d_Mo_isValue_195 (by decide) ?_
        exact kr_z hx hb hr hlk hQ hK hP hD hS ⟨(0 : Int32), E.trans E0.symm, rfl, rfl⟩ (by omega) (by omega) rfl d_Mo_isValue_196
      · have E := (if_neg c_89).symm.trans E
        have O := Eq.mp (if_neg c_89) O
        refine lv_aload_n hx hb d_Mo_isValue_92 rfl (lv_at hl 1 rfl) ?_
        refine lv_aload_n hx hb d_Mo_isValue_93 rfl (lv_at hl 1 rfl) ?_
        refine va_get (D := D) (v := .int t_from) hx hb hta i_Mo hown hK hP 0 rfl rfl 27 (by decide) (hta _ lk_Mo_219) (fun _ h9 => h9) rfl d_Mo_isValue_94 ?_
        refine lv_bipush (v := 8) hx hb d_Mo_isValue_97 (by decide) ?_
        refine lv_iadd hx hb d_Mo_isValue_99 ?_
        refine kc_V (As := [.int (t_from + 8)]) (rest := []) (wr := []) [0, 1] [] ⟨hx, hb, hml, hown, hta⟩ hK hN hP hD hS hA (c_Mo_u2 l D cB cI cJ h_t h_t_bits h_t_profile h_t_columnBits h_t_numbers h_t_map h_t_line h_t_resolutions h_t_file t_thrown t_high t_wide t_components t_unknown t_rights t_colours t_profiled t_entries t_columns t_maps t_lines t_size t_scanned t_refusedAt t_cursor t_streamAt t_streamMany t_name t_from t_end t_sizeAt t_bitsAt t_colourAt t_colourEnd t_paletteAt t_mapAt t_mapEnd t_channelsAt t_captureAt t_displayAt t_resolved f_t_file (t_from + 8) O.1 _) (hta _ lk_Mo_209) (hta _ ini_Mo) (hta _ code_Mo_u2) code_Mo_u2 (hta _ inst_Mo_u2) (hta _ sel_Mo_u2) hd_Mo_u2 rfl ⟨by omega, by omega⟩ (ci := 7) 0 rfl rfl rfl rfl (by decide) (by decide) (by decide) rfl hl.1 (lv_room (Nat.le_of_ble_eq_true rfl)) d_Mo_isValue_100 ⟨by omega, by omega⟩ (fun v w1 H locs hw hP hD hS => ?_)
        obtain ⟨x100, hx100, rfl, rfl⟩ := hw
        have hP : va_P D classes [(h_t, .inr (7, (.int t_thrown :: .int t_high :: .int t_wide :: .int t_components :: .ref h_t_bits :: .int t_unknown :: .int t_rights :: .int t_colours :: .int t_profiled :: .ref h_t_profile :: .int t_entries :: .int t_columns :: .ref h_t_columnBits :: .ref h_t_numbers :: .int t_maps :: .ref h_t_map :: .int t_lines :: .ref h_t_line :: .ref h_t_resolutions :: .ref h_t_file :: .int t_size :: .int t_scanned :: .int t_refusedAt :: .int t_cursor :: .int t_streamAt :: .int t_streamMany :: .int t_name :: .int t_from :: .int t_end :: .int t_sizeAt :: .int t_bitsAt :: .int t_colourAt :: .int t_colourEnd :: .int t_paletteAt :: .int t_mapAt :: .int t_mapEnd :: .int t_channelsAt :: .int t_captureAt :: .int t_displayAt :: .int t_resolved :: []))), (h_t_file, .inl (cI, 65536, .inl f_t_file))] H := hP.sub [0, 1] rfl
        have hD : va_D A [(h_t, .inr (7, (.int t_thrown :: .int t_high :: .int t_wide :: .int t_components :: .ref h_t_bits :: .int t_unknown :: .int t_rights :: .int t_colours :: .int t_profiled :: .ref h_t_profile :: .int t_entries :: .int t_columns :: .ref h_t_columnBits :: .ref h_t_numbers :: .int t_maps :: .ref h_t_map :: .int t_lines :: .ref h_t_line :: .ref h_t_resolutions :: .ref h_t_file :: .int t_size :: .int t_scanned :: .int t_refusedAt :: .int t_cursor :: .int t_streamAt :: .int t_streamMany :: .int t_name :: .int t_from :: .int t_end :: .int t_sizeAt :: .int t_bitsAt :: .int t_colourAt :: .int t_colourEnd :: .int t_paletteAt :: .int t_mapAt :: .int t_mapEnd :: .int t_channelsAt :: .int t_captureAt :: .int t_displayAt :: .int t_resolved :: []))), (h_t_file, .inl (cI, 65536, .inl f_t_file))] := hD.sub [0, 1] (by decide) rfl
        refine W.eq (g2 := F0 m 103 ls [.int x100]) rfl ?_
        have O := O.2
        have E : k_Mo_isValue_100 t_from f_t_file x100 = RES := (congrArg (k_Mo_isValue_100 t_from f_t_file) hx100).trans E
        have O : ok_Mo_isValue_100 t_from f_t_file x100 := by rw [hx100]; exact O
        refine lv_if_le (tgt := 195) hx hb d_Mo_isValue_103 (by decide) (fun c_103 => ?_) (fun c_103 => ?_)
        · have E := (if_pos c_103).symm.trans E
          have O := Eq.mp (if_pos c_103) O
          refine lv_iconst (v := 0) hx hb d_Mo_isValue_195 (by decide) ?_
          exact kr_z hx hb hr hlk hQ hK hP hD hS ⟨(0 : Int32), E.trans E0.symm, rfl, rfl⟩ (by omega) (by omega) rfl d_Mo_isValue_196
        · have E := (if_neg c_103).symm.trans E
          have O := Eq.mp (if_neg c_103) O
          refine lv_aload_n hx hb d_Mo_isValue_106 rfl (lv_at hl 1 rfl) ?_
          refine va_get (D := D) (v := .ref h_t_file) hx hb hta i_Mo hown hK hP 0 rfl rfl 19 (by decide) (hta _ lk_Mo_37) (fun _ h9 => h9) rfl d_Mo_isValue_107 ?_
          refine lv_aload_n hx hb d_Mo_isValue_110 rfl (lv_at hl 1 rfl) ?_
          refine va_get (D := D) (v := .int t_from) hx hb hta i_Mo hown hK hP 0 rfl rfl 27 (by decide) (hta _ lk_Mo_219) (fun _ h9 => h9) rfl d_Mo_isValue_111 ?_
          refine lv_bipush (v := 10) hx hb d_Mo_isValue_114 (by decide) ?_
          refine lv_iadd hx hb d_Mo_isValue_116 ?_
          refine va_iald hx hb hK hP 1 1 rfl rfl O.1 d_Mo_isValue_117 ?_
          have O := O.2
          refine lv_sipush (v := 255) hx hb d_Mo_isValue_118 (by decide) ?_
          have J_142 : j_Mo_isValue_142 t_from f_t_file = RES → oj_Mo_isValue_142 t_from f_t_file → ∀ (H : Heap) (locs : List Loc), va_P D classes [(h_t, .inr (7, (.int t_thrown :: .int t_high :: .int t_wide :: .int t_components :: .ref h_t_bits :: .int t_unknown :: .int t_rights :: .int t_colours :: .int t_profiled :: .ref h_t_profile :: .int t_entries :: .int t_columns :: .ref h_t_columnBits :: .ref h_t_numbers :: .int t_maps :: .ref h_t_map :: .int t_lines :: .ref h_t_line :: .ref h_t_resolutions :: .ref h_t_file :: .int t_size :: .int t_scanned :: .int t_refusedAt :: .int t_cursor :: .int t_streamAt :: .int t_streamMany :: .int t_name :: .int t_from :: .int t_end :: .int t_sizeAt :: .int t_bitsAt :: .int t_colourAt :: .int t_colourEnd :: .int t_paletteAt :: .int t_mapAt :: .int t_mapEnd :: .int t_channelsAt :: .int t_captureAt :: .int t_displayAt :: .int t_resolved :: []))), (h_t_file, .inl (cI, 65536, .inl f_t_file))] H → va_D A [(h_t, .inr (7, (.int t_thrown :: .int t_high :: .int t_wide :: .int t_components :: .ref h_t_bits :: .int t_unknown :: .int t_rights :: .int t_colours :: .int t_profiled :: .ref h_t_profile :: .int t_entries :: .int t_columns :: .ref h_t_columnBits :: .ref h_t_numbers :: .int t_maps :: .ref h_t_map :: .int t_lines :: .ref h_t_line :: .ref h_t_resolutions :: .ref h_t_file :: .int t_size :: .int t_scanned :: .int t_refusedAt :: .int t_cursor :: .int t_streamAt :: .int t_streamMany :: .int t_name :: .int t_from :: .int t_end :: .int t_sizeAt :: .int t_bitsAt :: .int t_colourAt :: .int t_colourEnd :: .int t_paletteAt :: .int t_mapAt :: .int t_mapEnd :: .int t_channelsAt :: .int t_captureAt :: .int t_displayAt :: .int t_resolved :: []))), (h_t_file, .inl (cI, 65536, .inl f_t_file))] → va_S A s.heap H locs → ∀ ls : Array Slot, lv_has ls 3 [(0, .ref h_t)] → W p l e R s m args below meth c H locs 0 0 Q (F0 m 142 ls []) := by
            intro E O H locs hP hD hS ls hl
            refine lv_aload_n hx hb d_Mo_isValue_142 rfl (lv_at hl 0 rfl) ?_
            refine va_get (D := D) (v := .ref h_t_file) hx hb hta i_Mo hown hK hP 0 rfl rfl 19 (by decide) (hta _ lk_Mo_37) (fun _ h9 => h9) rfl d_Mo_isValue_143 ?_
            refine lv_aload_n hx hb d_Mo_isValue_146 rfl (lv_at hl 0 rfl) ?_
            refine va_get (D := D) (v := .int t_from) hx hb hta i_Mo hown hK hP 0 rfl rfl 27 (by decide) (hta _ lk_Mo_219) (fun _ h9 => h9) rfl d_Mo_isValue_147 ?_
            refine lv_bipush (v := 11) hx hb d_Mo_isValue_150 (by decide) ?_
            refine lv_iadd hx hb d_Mo_isValue_152 ?_
            refine va_iald hx hb hK hP 1 1 rfl rfl O.1 d_Mo_isValue_153 ?_
            have O := O.2
            refine lv_bipush (v := 7) hx hb d_Mo_isValue_154 (by decide) ?_
            refine lv_icmp_ne (tgt := 195) hx hb d_Mo_isValue_156 (by decide) (fun c_156 => ?_) (fun c_156 => ?_)
            · have E := (if_neg c_156).symm.trans E
              have O := Eq.mp (if_neg c_156) O
              refine lv_iconst (v := 0) hx hb d_Mo_isValue_195 (by decide) ?_
              exact kr_z hx hb hr hlk hQ hK hP hD hS ⟨(0 : Int32), E.trans E0.symm, rfl, rfl⟩ (by omega) (by omega) rfl d_Mo_isValue_196
            · have E := (if_pos c_156).symm.trans E
              have O := Eq.mp (if_pos c_156) O
              refine lv_aload_n hx hb d_Mo_isValue_159 rfl (lv_at hl 0 rfl) ?_
              refine va_get (D := D) (v := .ref h_t_file) hx hb hta i_Mo hown hK hP 0 rfl rfl 19 (by decide) (hta _ lk_Mo_37) (fun _ h9 => h9) rfl d_Mo_isValue_160 ?_
              refine lv_aload_n hx hb d_Mo_isValue_163 rfl (lv_at hl 0 rfl) ?_
              refine va_get (D := D) (v := .int t_from) hx hb hta i_Mo hown hK hP 0 rfl rfl 27 (by decide) (hta _ lk_Mo_219) (fun _ h9 => h9) rfl d_Mo_isValue_164 ?_
              refine lv_bipush (v := 12) hx hb d_Mo_isValue_167 (by decide) ?_
              refine lv_iadd hx hb d_Mo_isValue_169 ?_
              refine va_iald hx hb hK hP 1 1 rfl rfl O.1 d_Mo_isValue_170 ?_
              have O := O.2
              refine lv_iconst (v := 2) hx hb d_Mo_isValue_171 (by decide) ?_
              refine lv_icmp_ge (tgt := 195) hx hb d_Mo_isValue_172 (by decide) (fun c_172 => ?_) (fun c_172 => ?_)
              · have E := (if_pos c_172).symm.trans E
                have O := Eq.mp (if_pos c_172) O
                refine lv_iconst (v := 0) hx hb d_Mo_isValue_195 (by decide) ?_
                exact kr_z hx hb hr hlk hQ hK hP hD hS ⟨(0 : Int32), E.trans E0.symm, rfl, rfl⟩ (by omega) (by omega) rfl d_Mo_isValue_196
              · have E := (if_neg c_172).symm.trans E
                have O := Eq.mp (if_neg c_172) O
                refine lv_aload_n hx hb d_Mo_isValue_175 rfl (lv_at hl 0 rfl) ?_
                refine va_get (D := D) (v := .ref h_t_file) hx hb hta i_Mo hown hK hP 0 rfl rfl 19 (by decide) (hta _ lk_Mo_37) (fun _ h9 => h9) rfl d_Mo_isValue_176 ?_
                refine lv_aload_n hx hb d_Mo_isValue_179 rfl (lv_at hl 0 rfl) ?_
                refine va_get (D := D) (v := .int t_from) hx hb hta i_Mo hown hK hP 0 rfl rfl 27 (by decide) (hta _ lk_Mo_219) (fun _ h9 => h9) rfl d_Mo_isValue_180 ?_
                refine lv_bipush (v := 13) hx hb d_Mo_isValue_183 (by decide) ?_
                refine lv_iadd hx hb d_Mo_isValue_185 ?_
                refine va_iald hx hb hK hP 1 1 rfl rfl O.1 d_Mo_isValue_186 ?_
                have O := O.2
                refine lv_iconst (v := 2) hx hb d_Mo_isValue_187 (by decide) ?_
                refine lv_icmp_ge (tgt := 195) hx hb d_Mo_isValue_188 (by decide) (fun c_188 => ?_) (fun c_188 => ?_)
                · have E := (if_pos c_188).symm.trans E
                  have O := Eq.mp (if_pos c_188) O
                  refine lv_iconst (v := 0) hx hb d_Mo_isValue_195 (by decide) ?_
                  exact kr_z hx hb hr hlk hQ hK hP hD hS ⟨(0 : Int32), E.trans E0.symm, rfl, rfl⟩ (by omega) (by omega) rfl d_Mo_isValue_196
                · have E := (if_neg c_188).symm.trans E
                  have O := Eq.mp (if_neg c_188) O
                  refine lv_iconst (v := 1) hx hb d_Mo_isValue_191 (by decide) ?_
                  refine lv_goto (tgt := 196) hx hb d_Mo_isValue_192 (by decide) ?_
                  exact kr_z hx hb hr hlk hQ hK hP hD hS ⟨(1 : Int32), E.trans E0.symm, rfl, rfl⟩ (by omega) (by omega) rfl d_Mo_isValue_196
          refine lv_icmp_eq (tgt := 142) hx hb d_Mo_isValue_121 (by decide) (fun c_121 => ?_) (fun c_121 => ?_)
          · have E := (if_pos c_121).symm.trans E
            have O := Eq.mp (if_pos c_121) O
            exact J_142  E O _ _ hP hD hS ls (lv_sub hl [1] rfl)
          · have E := (if_neg c_121).symm.trans E
            have O := Eq.mp (if_neg c_121) O
            refine lv_aload_n hx hb d_Mo_isValue_124 rfl (lv_at hl 1 rfl) ?_
            refine va_get (D := D) (v := .ref h_t_file) hx hb hta i_Mo hown hK hP 0 rfl rfl 19 (by decide) (hta _ lk_Mo_37) (fun _ h9 => h9) rfl d_Mo_isValue_125 ?_
            refine lv_aload_n hx hb d_Mo_isValue_128 rfl (lv_at hl 1 rfl) ?_
            refine va_get (D := D) (v := .int t_from) hx hb hta i_Mo hown hK hP 0 rfl rfl 27 (by decide) (hta _ lk_Mo_219) (fun _ h9 => h9) rfl d_Mo_isValue_129 ?_
            refine lv_bipush (v := 10) hx hb d_Mo_isValue_132 (by decide) ?_
            refine lv_iadd hx hb d_Mo_isValue_134 ?_
            refine va_iald hx hb hK hP 1 1 rfl rfl O.1 d_Mo_isValue_135 ?_
            have O := O.2
            refine kc_S (As := [.int (f_t_file (t_from + 10).toNatClampNeg)]) (rest := []) (wr := [(h_t, .inr (7, (.int t_thrown :: .int t_high :: .int t_wide :: .int t_components :: .ref h_t_bits :: .int t_unknown :: .int t_rights :: .int t_colours :: .int t_profiled :: .ref h_t_profile :: .int t_entries :: .int t_columns :: .ref h_t_columnBits :: .ref h_t_numbers :: .int t_maps :: .ref h_t_map :: .int t_lines :: .ref h_t_line :: .ref h_t_resolutions :: .ref h_t_file :: .int t_size :: .int t_scanned :: .int t_refusedAt :: .int t_cursor :: .int t_streamAt :: .int t_streamMany :: .int t_name :: .int t_from :: .int t_end :: .int t_sizeAt :: .int t_bitsAt :: .int t_colourAt :: .int t_colourEnd :: .int t_paletteAt :: .int t_mapAt :: .int t_mapEnd :: .int t_channelsAt :: .int t_captureAt :: .int t_displayAt :: .int t_resolved :: []))), (h_t_file, .inl (cI, 65536, .inl f_t_file))]) [] [0, 1] ⟨hx, hb, hml, hown, hta⟩ hK hN hP hD hS hA (c_Mo_areBits l D cB cI cJ (f_t_file (t_from + 10).toNatClampNeg) O.1 _) (hta _ lk_Mo_85) (hta _ ini_Mo) (hta _ code_Mo_areBits) code_Mo_areBits (hta _ stat_Mo_areBits) hd_Mo_areBits rfl ⟨by omega, by omega⟩ rfl rfl (by decide) (by decide) (by decide) rfl hl.1 (lv_room (Nat.le_of_ble_eq_true rfl)) d_Mo_isValue_136 ⟨by omega, by omega⟩ (fun v w1 H locs hw hP hD hS => ?_)
            obtain ⟨x136, hx136, rfl, rfl⟩ := hw
            have hP : va_P D classes [(h_t, .inr (7, (.int t_thrown :: .int t_high :: .int t_wide :: .int t_components :: .ref h_t_bits :: .int t_unknown :: .int t_rights :: .int t_colours :: .int t_profiled :: .ref h_t_profile :: .int t_entries :: .int t_columns :: .ref h_t_columnBits :: .ref h_t_numbers :: .int t_maps :: .ref h_t_map :: .int t_lines :: .ref h_t_line :: .ref h_t_resolutions :: .ref h_t_file :: .int t_size :: .int t_scanned :: .int t_refusedAt :: .int t_cursor :: .int t_streamAt :: .int t_streamMany :: .int t_name :: .int t_from :: .int t_end :: .int t_sizeAt :: .int t_bitsAt :: .int t_colourAt :: .int t_colourEnd :: .int t_paletteAt :: .int t_mapAt :: .int t_mapEnd :: .int t_channelsAt :: .int t_captureAt :: .int t_displayAt :: .int t_resolved :: []))), (h_t_file, .inl (cI, 65536, .inl f_t_file))] H := hP.sub [0, 1] rfl
            have hD : va_D A [(h_t, .inr (7, (.int t_thrown :: .int t_high :: .int t_wide :: .int t_components :: .ref h_t_bits :: .int t_unknown :: .int t_rights :: .int t_colours :: .int t_profiled :: .ref h_t_profile :: .int t_entries :: .int t_columns :: .ref h_t_columnBits :: .ref h_t_numbers :: .int t_maps :: .ref h_t_map :: .int t_lines :: .ref h_t_line :: .ref h_t_resolutions :: .ref h_t_file :: .int t_size :: .int t_scanned :: .int t_refusedAt :: .int t_cursor :: .int t_streamAt :: .int t_streamMany :: .int t_name :: .int t_from :: .int t_end :: .int t_sizeAt :: .int t_bitsAt :: .int t_colourAt :: .int t_colourEnd :: .int t_paletteAt :: .int t_mapAt :: .int t_mapEnd :: .int t_channelsAt :: .int t_captureAt :: .int t_displayAt :: .int t_resolved :: []))), (h_t_file, .inl (cI, 65536, .inl f_t_file))] := hD.sub [0, 1] (by decide) rfl
            refine W.eq (g2 := F0 m 139 ls [.int x136]) rfl ?_
            have O := O.2
            have E : k_Mo_isValue_136 t_from f_t_file x136 = RES := (congrArg (k_Mo_isValue_136 t_from f_t_file) hx136).trans E
            have O : ok_Mo_isValue_136 t_from f_t_file x136 := by rw [hx136]; exact O
            refine lv_if_eq (tgt := 195) hx hb d_Mo_isValue_139 (by decide) (fun c_139 => ?_) (fun c_139 => ?_)
            · have E := (if_pos c_139).symm.trans E
              have O := Eq.mp (if_pos c_139) O
              refine lv_iconst (v := 0) hx hb d_Mo_isValue_195 (by decide) ?_
              exact kr_z hx hb hr hlk hQ hK hP hD hS ⟨(0 : Int32), E.trans E0.symm, rfl, rfl⟩ (by omega) (by omega) rfl d_Mo_isValue_196
            · have E := (if_neg c_139).symm.trans E
              have O := Eq.mp (if_neg c_139) O
              exact J_142  E O _ _ hP hD hS ls (lv_sub hl [1] rfl)
  have E := (if_neg c_6_4).symm.trans E
  have O := Eq.mp (if_neg c_6_4) O
  by_cases c_6_5 : t_name = 1885564018
  · have E := (if_pos c_6_5).symm.trans E
    have O := Eq.mp (if_pos c_6_5) O
    refine lv_lookup (off := 275) (tgt := 281) hx hb d_Mo_isValue_6 (by decide) (by rw [c_6_5]; rfl) (by decide) ?_
    refine lv_aload_n hx hb d_Mo_isValue_281 rfl (lv_at hl 1 rfl) ?_
    refine kc_V (As := []) (rest := []) (wr := []) [0, 1] [] ⟨hx, hb, hml, hown, hta⟩ hK hN hP hD hS hA (c_Mo_areColumns l D cB cI cJ h_t h_t_bits h_t_profile h_t_columnBits h_t_numbers h_t_map h_t_line h_t_resolutions h_t_file t_thrown t_high t_wide t_components t_unknown t_rights t_colours t_profiled t_entries t_columns t_maps t_lines t_size t_scanned t_refusedAt t_cursor t_streamAt t_streamMany t_name t_from t_end t_sizeAt t_bitsAt t_colourAt t_colourEnd t_paletteAt t_mapAt t_mapEnd t_channelsAt t_captureAt t_displayAt t_resolved f_t_file O.1 _) (hta _ lk_Mo_255) (hta _ ini_Mo) (hta _ code_Mo_areColumns) code_Mo_areColumns (hta _ inst_Mo_areColumns) (hta _ sel_Mo_areColumns) hd_Mo_areColumns rfl ⟨by omega, by omega⟩ (ci := 7) 0 rfl rfl rfl rfl (by decide) (by decide) (by decide) rfl hl.1 (lv_room (Nat.le_of_ble_eq_true rfl)) d_Mo_isValue_282 ⟨by omega, by omega⟩ (fun v w1 H locs hw hP hD hS => ?_)
    obtain ⟨x282, hx282, rfl, rfl⟩ := hw
    have hP : va_P D classes [(h_t, .inr (7, (.int t_thrown :: .int t_high :: .int t_wide :: .int t_components :: .ref h_t_bits :: .int t_unknown :: .int t_rights :: .int t_colours :: .int t_profiled :: .ref h_t_profile :: .int t_entries :: .int t_columns :: .ref h_t_columnBits :: .ref h_t_numbers :: .int t_maps :: .ref h_t_map :: .int t_lines :: .ref h_t_line :: .ref h_t_resolutions :: .ref h_t_file :: .int t_size :: .int t_scanned :: .int t_refusedAt :: .int t_cursor :: .int t_streamAt :: .int t_streamMany :: .int t_name :: .int t_from :: .int t_end :: .int t_sizeAt :: .int t_bitsAt :: .int t_colourAt :: .int t_colourEnd :: .int t_paletteAt :: .int t_mapAt :: .int t_mapEnd :: .int t_channelsAt :: .int t_captureAt :: .int t_displayAt :: .int t_resolved :: []))), (h_t_file, .inl (cI, 65536, .inl f_t_file))] H := hP.sub [0, 1] rfl
    have hD : va_D A [(h_t, .inr (7, (.int t_thrown :: .int t_high :: .int t_wide :: .int t_components :: .ref h_t_bits :: .int t_unknown :: .int t_rights :: .int t_colours :: .int t_profiled :: .ref h_t_profile :: .int t_entries :: .int t_columns :: .ref h_t_columnBits :: .ref h_t_numbers :: .int t_maps :: .ref h_t_map :: .int t_lines :: .ref h_t_line :: .ref h_t_resolutions :: .ref h_t_file :: .int t_size :: .int t_scanned :: .int t_refusedAt :: .int t_cursor :: .int t_streamAt :: .int t_streamMany :: .int t_name :: .int t_from :: .int t_end :: .int t_sizeAt :: .int t_bitsAt :: .int t_colourAt :: .int t_colourEnd :: .int t_paletteAt :: .int t_mapAt :: .int t_mapEnd :: .int t_channelsAt :: .int t_captureAt :: .int t_displayAt :: .int t_resolved :: []))), (h_t_file, .inl (cI, 65536, .inl f_t_file))] := hD.sub [0, 1] (by decide) rfl
    refine W.eq (g2 := F0 m 285 ls [.int x282]) rfl ?_
    have O := O.2
    have E : k_Mo_isValue_282 x282 = RES := (congrArg (k_Mo_isValue_282) hx282).trans E
    have O : ok_Mo_isValue_282 x282 := by rw [hx282]; exact O
    exact kr_z hx hb hr hlk hQ hK hP hD hS ⟨(x282 : Int32), E.trans E0.symm, rfl, rfl⟩ (by omega) (by omega) O.1 d_Mo_isValue_285
  have E := (if_neg c_6_5).symm.trans E
  have O := Eq.mp (if_neg c_6_5) O
  refine lv_lookup (off := 333) (tgt := 339) hx hb d_Mo_isValue_6 (by decide) (by rw [lv_osw c_6_0 (a := 1651532643) (by decide), lv_osw c_6_1 (a := 1667523942) (by decide), lv_osw c_6_2 (a := 1668112752) (by decide), lv_osw c_6_3 (a := 1668246642) (by decide), lv_osw c_6_4 (a := 1768449138) (by decide), lv_osw c_6_5 (a := 1885564018) (by decide)]; rfl) (by decide) ?_
  refine lv_iconst (v := 1) hx hb d_Mo_isValue_339 (by decide) ?_
  exact kr_z hx hb hr hlk hQ hK hP hD hS ⟨(1 : Int32), E.trans E0.symm, rfl, rfl⟩ (by omega) (by omega) rfl d_Mo_isValue_340
theorem d_Mo_note_0 : decode b_Mo_note 0 = .ok (.aload_n 0, 1) := by decide +kernel
theorem d_Mo_note_1 : decode b_Mo_note 1 = .ok (.getfield 216, 3) := by decide +kernel
theorem d_Mo_note_4 : decode b_Mo_note 4 = .ok (.lookupswitch 169 #[(1651532643, 71), (1667523942, 158), (1668112752, 139), (1668246642, 82), (1768449138, 60), (1885564018, 128)], 60) := by decide +kernel
theorem d_Mo_note_64 : decode b_Mo_note 64 = .ok (.aload_n 0, 1) := by decide +kernel
theorem d_Mo_note_65 : decode b_Mo_note 65 = .ok (.aload_n 0, 1) := by decide +kernel
theorem d_Mo_note_66 : decode b_Mo_note 66 = .ok (.getfield 219, 3) := by decide +kernel
theorem d_Mo_note_69 : decode b_Mo_note 69 = .ok (.putfield 226, 3) := by decide +kernel
theorem d_Mo_note_72 : decode b_Mo_note 72 = .ok (.goto 101, 3) := by decide +kernel
theorem d_Mo_note_75 : decode b_Mo_note 75 = .ok (.aload_n 0, 1) := by decide +kernel
theorem d_Mo_note_76 : decode b_Mo_note 76 = .ok (.aload_n 0, 1) := by decide +kernel
theorem d_Mo_note_77 : decode b_Mo_note 77 = .ok (.getfield 219, 3) := by decide +kernel
theorem d_Mo_note_80 : decode b_Mo_note 80 = .ok (.putfield 238, 3) := by decide +kernel
theorem d_Mo_note_83 : decode b_Mo_note 83 = .ok (.goto 90, 3) := by decide +kernel
theorem d_Mo_note_86 : decode b_Mo_note 86 = .ok (.aload_n 0, 1) := by decide +kernel
theorem d_Mo_note_87 : decode b_Mo_note 87 = .ok (.getfield 252, 3) := by decide +kernel
theorem d_Mo_note_90 : decode b_Mo_note 90 = .ok (.ifCond .ne 83, 3) := by decide +kernel
theorem d_Mo_note_93 : decode b_Mo_note 93 = .ok (.aload_n 0, 1) := by decide +kernel
theorem d_Mo_note_94 : decode b_Mo_note 94 = .ok (.getfield 37, 3) := by decide +kernel
theorem d_Mo_note_97 : decode b_Mo_note 97 = .ok (.aload_n 0, 1) := by decide +kernel
theorem d_Mo_note_98 : decode b_Mo_note 98 = .ok (.getfield 219, 3) := by decide +kernel
theorem d_Mo_note_101 : decode b_Mo_note 101 = .ok (.iaload, 1) := by decide +kernel
theorem d_Mo_note_102 : decode b_Mo_note 102 = .ok (.i2l, 1) := by decide +kernel
theorem d_Mo_note_103 : decode b_Mo_note 103 = .ok (.lconst 1, 1) := by decide +kernel
theorem d_Mo_note_104 : decode b_Mo_note 104 = .ok (.ldc2_w 106, 3) := by decide +kernel
theorem d_Mo_note_107 : decode b_Mo_note 107 = .ok (.invokestatic 81, 3) := by decide +kernel
theorem d_Mo_note_110 : decode b_Mo_note 110 = .ok (.ifCond .eq 63, 3) := by decide +kernel
theorem d_Mo_note_113 : decode b_Mo_note 113 = .ok (.aload_n 0, 1) := by decide +kernel
theorem d_Mo_note_114 : decode b_Mo_note 114 = .ok (.aload_n 0, 1) := by decide +kernel
theorem d_Mo_note_115 : decode b_Mo_note 115 = .ok (.getfield 219, 3) := by decide +kernel
theorem d_Mo_note_118 : decode b_Mo_note 118 = .ok (.putfield 252, 3) := by decide +kernel
theorem d_Mo_note_121 : decode b_Mo_note 121 = .ok (.aload_n 0, 1) := by decide +kernel
theorem d_Mo_note_122 : decode b_Mo_note 122 = .ok (.aload_n 0, 1) := by decide +kernel
theorem d_Mo_note_123 : decode b_Mo_note 123 = .ok (.getfield 222, 3) := by decide +kernel
theorem d_Mo_note_126 : decode b_Mo_note 126 = .ok (.putfield 261, 3) := by decide +kernel
theorem d_Mo_note_129 : decode b_Mo_note 129 = .ok (.goto 44, 3) := by decide +kernel
theorem d_Mo_note_132 : decode b_Mo_note 132 = .ok (.aload_n 0, 1) := by decide +kernel
theorem d_Mo_note_133 : decode b_Mo_note 133 = .ok (.aload_n 0, 1) := by decide +kernel
theorem d_Mo_note_134 : decode b_Mo_note 134 = .ok (.getfield 219, 3) := by decide +kernel
theorem d_Mo_note_137 : decode b_Mo_note 137 = .ok (.putfield 235, 3) := by decide +kernel
theorem d_Mo_note_140 : decode b_Mo_note 140 = .ok (.goto 33, 3) := by decide +kernel
theorem d_Mo_note_143 : decode b_Mo_note 143 = .ok (.aload_n 0, 1) := by decide +kernel
theorem d_Mo_note_144 : decode b_Mo_note 144 = .ok (.aload_n 0, 1) := by decide +kernel
theorem d_Mo_note_145 : decode b_Mo_note 145 = .ok (.getfield 219, 3) := by decide +kernel
theorem d_Mo_note_148 : decode b_Mo_note 148 = .ok (.putfield 241, 3) := by decide +kernel
theorem d_Mo_note_151 : decode b_Mo_note 151 = .ok (.aload_n 0, 1) := by decide +kernel
theorem d_Mo_note_152 : decode b_Mo_note 152 = .ok (.aload_n 0, 1) := by decide +kernel
theorem d_Mo_note_153 : decode b_Mo_note 153 = .ok (.getfield 222, 3) := by decide +kernel
theorem d_Mo_note_156 : decode b_Mo_note 156 = .ok (.putfield 264, 3) := by decide +kernel
theorem d_Mo_note_159 : decode b_Mo_note 159 = .ok (.goto 14, 3) := by decide +kernel
theorem d_Mo_note_162 : decode b_Mo_note 162 = .ok (.aload_n 0, 1) := by decide +kernel
theorem d_Mo_note_163 : decode b_Mo_note 163 = .ok (.aload_n 0, 1) := by decide +kernel
theorem d_Mo_note_164 : decode b_Mo_note 164 = .ok (.getfield 219, 3) := by decide +kernel
theorem d_Mo_note_167 : decode b_Mo_note 167 = .ok (.putfield 244, 3) := by decide +kernel
theorem d_Mo_note_170 : decode b_Mo_note 170 = .ok (.goto 3, 3) := by decide +kernel
theorem d_Mo_note_173 : decode b_Mo_note 173 = .ok (.return_, 1) := by decide +kernel
def k_Mo_note_107 (t_from : Int32) (t_end : Int32) (t_sizeAt : Int32) (t_bitsAt : Int32) (t_colourAt : Int32) (t_colourEnd : Int32) (t_paletteAt : Int32) (t_mapAt : Int32) (t_mapEnd : Int32) (t_channelsAt : Int32) (x107 : Int32) : Int32 × Int32 × Int32 × Int32 × Int32 × Int32 × Int32 × Int32 :=
  if x107 = 0 then (t_sizeAt, t_bitsAt, t_colourAt, t_colourEnd, t_paletteAt, t_mapAt, t_mapEnd, t_channelsAt) else (t_sizeAt, t_bitsAt, t_from, t_end, t_paletteAt, t_mapAt, t_mapEnd, t_channelsAt)
def ok_Mo_note_107 (x107 : Int32) : Prop :=
  if x107 = 0 then True else True
def om_Mo_note (t_name : Int32) (t_from : Int32) (t_colourAt : Int32) (f_t_file : Nat → Int32) : Prop :=
  if t_name = 1651532643 then True else (if t_name = 1667523942 then True else (if t_name = 1668112752 then True else (if t_name = 1668246642 then (if t_colourAt = 0 then (vp_in t_from 65536 ∧ om_Mo_in ((f_t_file t_from.toNatClampNeg : Int32).toInt64) 1 2 ∧ (ok_Mo_note_107 (m_Mo_in ((f_t_file t_from.toNatClampNeg : Int32).toInt64) 1 2))) else True) else (if t_name = 1768449138 then True else (if t_name = 1885564018 then True else True)))))
def m_Mo_note (t_name : Int32) (t_from : Int32) (t_end : Int32) (t_sizeAt : Int32) (t_bitsAt : Int32) (t_colourAt : Int32) (t_colourEnd : Int32) (t_paletteAt : Int32) (t_mapAt : Int32) (t_mapEnd : Int32) (t_channelsAt : Int32) (f_t_file : Nat → Int32) : Int32 × Int32 × Int32 × Int32 × Int32 × Int32 × Int32 × Int32 :=
  if t_name = 1651532643 then (t_sizeAt, t_from, t_colourAt, t_colourEnd, t_paletteAt, t_mapAt, t_mapEnd, t_channelsAt) else (if t_name = 1667523942 then (t_sizeAt, t_bitsAt, t_colourAt, t_colourEnd, t_paletteAt, t_mapAt, t_mapEnd, t_from) else (if t_name = 1668112752 then (t_sizeAt, t_bitsAt, t_colourAt, t_colourEnd, t_paletteAt, t_from, t_end, t_channelsAt) else (if t_name = 1668246642 then (if t_colourAt = 0 then (k_Mo_note_107 t_from t_end t_sizeAt t_bitsAt t_colourAt t_colourEnd t_paletteAt t_mapAt t_mapEnd t_channelsAt (m_Mo_in ((f_t_file t_from.toNatClampNeg : Int32).toInt64) 1 2)) else (t_sizeAt, t_bitsAt, t_colourAt, t_colourEnd, t_paletteAt, t_mapAt, t_mapEnd, t_channelsAt)) else (if t_name = 1768449138 then (t_from, t_bitsAt, t_colourAt, t_colourEnd, t_paletteAt, t_mapAt, t_mapEnd, t_channelsAt) else (if t_name = 1885564018 then (t_sizeAt, t_bitsAt, t_colourAt, t_colourEnd, t_from, t_mapAt, t_mapEnd, t_channelsAt) else (t_sizeAt, t_bitsAt, t_colourAt, t_colourEnd, t_paletteAt, t_mapAt, t_mapEnd, t_channelsAt))))))
set_option maxHeartbeats 4000000 in
set_option maxRecDepth 100000 in
theorem c_Mo_note (l : Launch) (D : va_G) (cB cI cJ : ClassId) (h_t h_t_bits h_t_profile h_t_columnBits h_t_numbers h_t_map h_t_line h_t_resolutions h_t_file : Nat) (t_thrown : Int32) (t_high : Int32) (t_wide : Int32) (t_components : Int32) (t_unknown : Int32) (t_rights : Int32) (t_colours : Int32) (t_profiled : Int32) (t_entries : Int32) (t_columns : Int32) (t_maps : Int32) (t_lines : Int32) (t_size : Int32) (t_scanned : Int32) (t_refusedAt : Int32) (t_cursor : Int32) (t_streamAt : Int32) (t_streamMany : Int32) (t_name : Int32) (t_from : Int32) (t_end : Int32) (t_sizeAt : Int32) (t_bitsAt : Int32) (t_colourAt : Int32) (t_colourEnd : Int32) (t_paletteAt : Int32) (t_mapAt : Int32) (t_mapEnd : Int32) (t_channelsAt : Int32) (t_captureAt : Int32) (t_displayAt : Int32) (t_resolved : Int32) (f_t_file : Nat → Int32) (hO : om_Mo_note t_name t_from t_colourAt f_t_file) (sz : Nat) : Ct l D cB cI cJ y_Mo_note b_Mo_note 1 none 1 25 0 0 [.ref h_t] [(h_t, .inr (7, (.int t_thrown :: .int t_high :: .int t_wide :: .int t_components :: .ref h_t_bits :: .int t_unknown :: .int t_rights :: .int t_colours :: .int t_profiled :: .ref h_t_profile :: .int t_entries :: .int t_columns :: .ref h_t_columnBits :: .ref h_t_numbers :: .int t_maps :: .ref h_t_map :: .int t_lines :: .ref h_t_line :: .ref h_t_resolutions :: .ref h_t_file :: .int t_size :: .int t_scanned :: .int t_refusedAt :: .int t_cursor :: .int t_streamAt :: .int t_streamMany :: .int t_name :: .int t_from :: .int t_end :: .int t_sizeAt :: .int t_bitsAt :: .int t_colourAt :: .int t_colourEnd :: .int t_paletteAt :: .int t_mapAt :: .int t_mapEnd :: .int t_channelsAt :: .int t_captureAt :: .int t_displayAt :: .int t_resolved :: []))), (h_t_file, .inl (cI, 65536, .inl f_t_file))] (fun v w1 => ∃ (x : Int32 × Int32 × Int32 × Int32 × Int32 × Int32 × Int32 × Int32), x = m_Mo_note t_name t_from t_end t_sizeAt t_bitsAt t_colourAt t_colourEnd t_paletteAt t_mapAt t_mapEnd t_channelsAt f_t_file ∧ v = none ∧ w1 = [(h_t, .inr (7, (.int t_thrown :: .int t_high :: .int t_wide :: .int t_components :: .ref h_t_bits :: .int t_unknown :: .int t_rights :: .int t_colours :: .int t_profiled :: .ref h_t_profile :: .int t_entries :: .int t_columns :: .ref h_t_columnBits :: .ref h_t_numbers :: .int t_maps :: .ref h_t_map :: .int t_lines :: .ref h_t_line :: .ref h_t_resolutions :: .ref h_t_file :: .int t_size :: .int t_scanned :: .int t_refusedAt :: .int t_cursor :: .int t_streamAt :: .int t_streamMany :: .int t_name :: .int t_from :: .int t_end :: .int x.1 :: .int x.2.1 :: .int x.2.2.1 :: .int x.2.2.2.1 :: .int x.2.2.2.2.1 :: .int x.2.2.2.2.2.1 :: .int x.2.2.2.2.2.2.1 :: .int x.2.2.2.2.2.2.2 :: .int t_captureAt :: .int t_displayAt :: .int t_resolved :: []))), (h_t_file, .inl (cI, 65536, .inl f_t_file))]) sz := by
  refine Ct.of (by decide) (Nat.le_of_ble_eq_true rfl) ?_
  intro p e R s m args below meth c A ls Q hx hb hr hlk hml hta hown hin hK hN hA hRf hRl hRc hRs hP hD hS hl hQ
  have hl : lv_has ls 1 [(0, .ref h_t)] := hl
  obtain ⟨RES, E0⟩ : ∃ R, m_Mo_note t_name t_from t_end t_sizeAt t_bitsAt t_colourAt t_colourEnd t_paletteAt t_mapAt t_mapEnd t_channelsAt f_t_file = R := ⟨_, rfl⟩
  have E := E0
  have O := hO
  refine lv_aload_n hx hb d_Mo_note_0 rfl (lv_at hl 0 rfl) ?_
  refine va_get (D := D) (v := .int t_name) hx hb hta i_Mo hown hK hP 0 rfl rfl 26 (by decide) (hta _ lk_Mo_216) (fun _ h9 => h9) rfl d_Mo_note_1 ?_
  by_cases c_4_0 : t_name = 1651532643
  · have E := (if_pos c_4_0).symm.trans E
    have O := Eq.mp (if_pos c_4_0) O
    refine lv_lookup (off := 71) (tgt := 75) hx hb d_Mo_note_4 (by decide) (by rw [c_4_0]; rfl) (by decide) ?_
    refine lv_aload_n hx hb d_Mo_note_75 rfl (lv_at hl 0 rfl) ?_
    refine lv_aload_n hx hb d_Mo_note_76 rfl (lv_at hl 0 rfl) ?_
    refine va_get (D := D) (v := .int t_from) hx hb hta i_Mo hown hK hP 0 rfl rfl 27 (by decide) (hta _ lk_Mo_219) (fun _ h9 => h9) rfl d_Mo_note_77 ?_
    refine va_put (D := D) (ty := .int) hx hb hta i_Mo t_Mo t_Mo_ok n_Mo hown hK hP hD hS 0 rfl rfl 30 (by decide) (hta _ lk_Mo_238) (fun _ h9 => h9) rfl (by decide +kernel) rfl rfl (Nat.le_of_ble_eq_true rfl) d_Mo_note_80 (fun H locs (hP : va_P D classes [(h_t, .inr (7, (.int t_thrown :: .int t_high :: .int t_wide :: .int t_components :: .ref h_t_bits :: .int t_unknown :: .int t_rights :: .int t_colours :: .int t_profiled :: .ref h_t_profile :: .int t_entries :: .int t_columns :: .ref h_t_columnBits :: .ref h_t_numbers :: .int t_maps :: .ref h_t_map :: .int t_lines :: .ref h_t_line :: .ref h_t_resolutions :: .ref h_t_file :: .int t_size :: .int t_scanned :: .int t_refusedAt :: .int t_cursor :: .int t_streamAt :: .int t_streamMany :: .int t_name :: .int t_from :: .int t_end :: .int t_sizeAt :: .int t_from :: .int t_colourAt :: .int t_colourEnd :: .int t_paletteAt :: .int t_mapAt :: .int t_mapEnd :: .int t_channelsAt :: .int t_captureAt :: .int t_displayAt :: .int t_resolved :: []))), (h_t_file, .inl (cI, 65536, .inl f_t_file))] H) (hD : va_D A [(h_t, .inr (7, (.int t_thrown :: .int t_high :: .int t_wide :: .int t_components :: .ref h_t_bits :: .int t_unknown :: .int t_rights :: .int t_colours :: .int t_profiled :: .ref h_t_profile :: .int t_entries :: .int t_columns :: .ref h_t_columnBits :: .ref h_t_numbers :: .int t_maps :: .ref h_t_map :: .int t_lines :: .ref h_t_line :: .ref h_t_resolutions :: .ref h_t_file :: .int t_size :: .int t_scanned :: .int t_refusedAt :: .int t_cursor :: .int t_streamAt :: .int t_streamMany :: .int t_name :: .int t_from :: .int t_end :: .int t_sizeAt :: .int t_from :: .int t_colourAt :: .int t_colourEnd :: .int t_paletteAt :: .int t_mapAt :: .int t_mapEnd :: .int t_channelsAt :: .int t_captureAt :: .int t_displayAt :: .int t_resolved :: []))), (h_t_file, .inl (cI, 65536, .inl f_t_file))]) hS => ?_)
    refine lv_goto (tgt := 173) hx hb d_Mo_note_83 (by decide) ?_
    exact kr_v hx hb hr hlk hQ hK hP hD hS ⟨((t_sizeAt, t_from, t_colourAt, t_colourEnd, t_paletteAt, t_mapAt, t_mapEnd, t_channelsAt) : Int32 × Int32 × Int32 × Int32 × Int32 × Int32 × Int32 × Int32), E.trans E0.symm, rfl, rfl⟩ (by omega) (by omega) d_Mo_note_173
  have E := (if_neg c_4_0).symm.trans E
  have O := Eq.mp (if_neg c_4_0) O
  by_cases c_4_1 : t_name = 1667523942
  · have E := (if_pos c_4_1).symm.trans E
    have O := Eq.mp (if_pos c_4_1) O
    refine lv_lookup (off := 158) (tgt := 162) hx hb d_Mo_note_4 (by decide) (by rw [c_4_1]; rfl) (by decide) ?_
    refine lv_aload_n hx hb d_Mo_note_162 rfl (lv_at hl 0 rfl) ?_
    refine lv_aload_n hx hb d_Mo_note_163 rfl (lv_at hl 0 rfl) ?_
    refine va_get (D := D) (v := .int t_from) hx hb hta i_Mo hown hK hP 0 rfl rfl 27 (by decide) (hta _ lk_Mo_219) (fun _ h9 => h9) rfl d_Mo_note_164 ?_
    refine va_put (D := D) (ty := .int) hx hb hta i_Mo t_Mo t_Mo_ok n_Mo hown hK hP hD hS 0 rfl rfl 36 (by decide) (hta _ lk_Mo_244) (fun _ h9 => h9) rfl (by decide +kernel) rfl rfl (Nat.le_of_ble_eq_true rfl) d_Mo_note_167 (fun H locs (hP : va_P D classes [(h_t, .inr (7, (.int t_thrown :: .int t_high :: .int t_wide :: .int t_components :: .ref h_t_bits :: .int t_unknown :: .int t_rights :: .int t_colours :: .int t_profiled :: .ref h_t_profile :: .int t_entries :: .int t_columns :: .ref h_t_columnBits :: .ref h_t_numbers :: .int t_maps :: .ref h_t_map :: .int t_lines :: .ref h_t_line :: .ref h_t_resolutions :: .ref h_t_file :: .int t_size :: .int t_scanned :: .int t_refusedAt :: .int t_cursor :: .int t_streamAt :: .int t_streamMany :: .int t_name :: .int t_from :: .int t_end :: .int t_sizeAt :: .int t_bitsAt :: .int t_colourAt :: .int t_colourEnd :: .int t_paletteAt :: .int t_mapAt :: .int t_mapEnd :: .int t_from :: .int t_captureAt :: .int t_displayAt :: .int t_resolved :: []))), (h_t_file, .inl (cI, 65536, .inl f_t_file))] H) (hD : va_D A [(h_t, .inr (7, (.int t_thrown :: .int t_high :: .int t_wide :: .int t_components :: .ref h_t_bits :: .int t_unknown :: .int t_rights :: .int t_colours :: .int t_profiled :: .ref h_t_profile :: .int t_entries :: .int t_columns :: .ref h_t_columnBits :: .ref h_t_numbers :: .int t_maps :: .ref h_t_map :: .int t_lines :: .ref h_t_line :: .ref h_t_resolutions :: .ref h_t_file :: .int t_size :: .int t_scanned :: .int t_refusedAt :: .int t_cursor :: .int t_streamAt :: .int t_streamMany :: .int t_name :: .int t_from :: .int t_end :: .int t_sizeAt :: .int t_bitsAt :: .int t_colourAt :: .int t_colourEnd :: .int t_paletteAt :: .int t_mapAt :: .int t_mapEnd :: .int t_from :: .int t_captureAt :: .int t_displayAt :: .int t_resolved :: []))), (h_t_file, .inl (cI, 65536, .inl f_t_file))]) hS => ?_)
    refine lv_goto (tgt := 173) hx hb d_Mo_note_170 (by decide) ?_
    exact kr_v hx hb hr hlk hQ hK hP hD hS ⟨((t_sizeAt, t_bitsAt, t_colourAt, t_colourEnd, t_paletteAt, t_mapAt, t_mapEnd, t_from) : Int32 × Int32 × Int32 × Int32 × Int32 × Int32 × Int32 × Int32), E.trans E0.symm, rfl, rfl⟩ (by omega) (by omega) d_Mo_note_173
  have E := (if_neg c_4_1).symm.trans E
  have O := Eq.mp (if_neg c_4_1) O
  by_cases c_4_2 : t_name = 1668112752
  · have E := (if_pos c_4_2).symm.trans E
    have O := Eq.mp (if_pos c_4_2) O
    refine lv_lookup (off := 139) (tgt := 143) hx hb d_Mo_note_4 (by decide) (by rw [c_4_2]; rfl) (by decide) ?_
    refine lv_aload_n hx hb d_Mo_note_143 rfl (lv_at hl 0 rfl) ?_
    refine lv_aload_n hx hb d_Mo_note_144 rfl (lv_at hl 0 rfl) ?_
    refine va_get (D := D) (v := .int t_from) hx hb hta i_Mo hown hK hP 0 rfl rfl 27 (by decide) (hta _ lk_Mo_219) (fun _ h9 => h9) rfl d_Mo_note_145 ?_
    refine va_put (D := D) (ty := .int) hx hb hta i_Mo t_Mo t_Mo_ok n_Mo hown hK hP hD hS 0 rfl rfl 34 (by decide) (hta _ lk_Mo_241) (fun _ h9 => h9) rfl (by decide +kernel) rfl rfl (Nat.le_of_ble_eq_true rfl) d_Mo_note_148 (fun H locs (hP : va_P D classes [(h_t, .inr (7, (.int t_thrown :: .int t_high :: .int t_wide :: .int t_components :: .ref h_t_bits :: .int t_unknown :: .int t_rights :: .int t_colours :: .int t_profiled :: .ref h_t_profile :: .int t_entries :: .int t_columns :: .ref h_t_columnBits :: .ref h_t_numbers :: .int t_maps :: .ref h_t_map :: .int t_lines :: .ref h_t_line :: .ref h_t_resolutions :: .ref h_t_file :: .int t_size :: .int t_scanned :: .int t_refusedAt :: .int t_cursor :: .int t_streamAt :: .int t_streamMany :: .int t_name :: .int t_from :: .int t_end :: .int t_sizeAt :: .int t_bitsAt :: .int t_colourAt :: .int t_colourEnd :: .int t_paletteAt :: .int t_from :: .int t_mapEnd :: .int t_channelsAt :: .int t_captureAt :: .int t_displayAt :: .int t_resolved :: []))), (h_t_file, .inl (cI, 65536, .inl f_t_file))] H) (hD : va_D A [(h_t, .inr (7, (.int t_thrown :: .int t_high :: .int t_wide :: .int t_components :: .ref h_t_bits :: .int t_unknown :: .int t_rights :: .int t_colours :: .int t_profiled :: .ref h_t_profile :: .int t_entries :: .int t_columns :: .ref h_t_columnBits :: .ref h_t_numbers :: .int t_maps :: .ref h_t_map :: .int t_lines :: .ref h_t_line :: .ref h_t_resolutions :: .ref h_t_file :: .int t_size :: .int t_scanned :: .int t_refusedAt :: .int t_cursor :: .int t_streamAt :: .int t_streamMany :: .int t_name :: .int t_from :: .int t_end :: .int t_sizeAt :: .int t_bitsAt :: .int t_colourAt :: .int t_colourEnd :: .int t_paletteAt :: .int t_from :: .int t_mapEnd :: .int t_channelsAt :: .int t_captureAt :: .int t_displayAt :: .int t_resolved :: []))), (h_t_file, .inl (cI, 65536, .inl f_t_file))]) hS => ?_)
    refine lv_aload_n hx hb d_Mo_note_151 rfl (lv_at hl 0 rfl) ?_
    refine lv_aload_n hx hb d_Mo_note_152 rfl (lv_at hl 0 rfl) ?_
    refine va_get (D := D) (v := .int t_end) hx hb hta i_Mo hown hK hP 0 rfl rfl 28 (by decide) (hta _ lk_Mo_222) (fun _ h9 => h9) rfl d_Mo_note_153 ?_
    refine va_put (D := D) (ty := .int) hx hb hta i_Mo t_Mo t_Mo_ok n_Mo hown hK hP hD hS 0 rfl rfl 35 (by decide) (hta _ lk_Mo_264) (fun _ h9 => h9) rfl (by decide +kernel) rfl rfl (Nat.le_of_ble_eq_true rfl) d_Mo_note_156 (fun H locs (hP : va_P D classes [(h_t, .inr (7, (.int t_thrown :: .int t_high :: .int t_wide :: .int t_components :: .ref h_t_bits :: .int t_unknown :: .int t_rights :: .int t_colours :: .int t_profiled :: .ref h_t_profile :: .int t_entries :: .int t_columns :: .ref h_t_columnBits :: .ref h_t_numbers :: .int t_maps :: .ref h_t_map :: .int t_lines :: .ref h_t_line :: .ref h_t_resolutions :: .ref h_t_file :: .int t_size :: .int t_scanned :: .int t_refusedAt :: .int t_cursor :: .int t_streamAt :: .int t_streamMany :: .int t_name :: .int t_from :: .int t_end :: .int t_sizeAt :: .int t_bitsAt :: .int t_colourAt :: .int t_colourEnd :: .int t_paletteAt :: .int t_from :: .int t_end :: .int t_channelsAt :: .int t_captureAt :: .int t_displayAt :: .int t_resolved :: []))), (h_t_file, .inl (cI, 65536, .inl f_t_file))] H) (hD : va_D A [(h_t, .inr (7, (.int t_thrown :: .int t_high :: .int t_wide :: .int t_components :: .ref h_t_bits :: .int t_unknown :: .int t_rights :: .int t_colours :: .int t_profiled :: .ref h_t_profile :: .int t_entries :: .int t_columns :: .ref h_t_columnBits :: .ref h_t_numbers :: .int t_maps :: .ref h_t_map :: .int t_lines :: .ref h_t_line :: .ref h_t_resolutions :: .ref h_t_file :: .int t_size :: .int t_scanned :: .int t_refusedAt :: .int t_cursor :: .int t_streamAt :: .int t_streamMany :: .int t_name :: .int t_from :: .int t_end :: .int t_sizeAt :: .int t_bitsAt :: .int t_colourAt :: .int t_colourEnd :: .int t_paletteAt :: .int t_from :: .int t_end :: .int t_channelsAt :: .int t_captureAt :: .int t_displayAt :: .int t_resolved :: []))), (h_t_file, .inl (cI, 65536, .inl f_t_file))]) hS => ?_)
    refine lv_goto (tgt := 173) hx hb d_Mo_note_159 (by decide) ?_
    exact kr_v hx hb hr hlk hQ hK hP hD hS ⟨((t_sizeAt, t_bitsAt, t_colourAt, t_colourEnd, t_paletteAt, t_from, t_end, t_channelsAt) : Int32 × Int32 × Int32 × Int32 × Int32 × Int32 × Int32 × Int32), E.trans E0.symm, rfl, rfl⟩ (by omega) (by omega) d_Mo_note_173
  have E := (if_neg c_4_2).symm.trans E
  have O := Eq.mp (if_neg c_4_2) O
  by_cases c_4_3 : t_name = 1668246642
  · have E := (if_pos c_4_3).symm.trans E
    have O := Eq.mp (if_pos c_4_3) O
    refine lv_lookup (off := 82) (tgt := 86) hx hb d_Mo_note_4 (by decide) (by rw [c_4_3]; rfl) (by decide) ?_
    refine lv_aload_n hx hb d_Mo_note_86 rfl (lv_at hl 0 rfl) ?_
    refine va_get (D := D) (v := .int t_colourAt) hx hb hta i_Mo hown hK hP 0 rfl rfl 31 (by decide) (hta _ lk_Mo_252) (fun _ h9 => h9) rfl d_Mo_note_87 ?_
    refine lv_if_ne (tgt := 173) hx hb d_Mo_note_90 (by decide) (fun c_90 => ?_) (fun c_90 => ?_)
    · have E := (if_neg c_90).symm.trans E
      have O := Eq.mp (if_neg c_90) O
      exact kr_v hx hb hr hlk hQ hK hP hD hS ⟨((t_sizeAt, t_bitsAt, t_colourAt, t_colourEnd, t_paletteAt, t_mapAt, t_mapEnd, t_channelsAt) : Int32 × Int32 × Int32 × Int32 × Int32 × Int32 × Int32 × Int32), E.trans E0.symm, rfl, rfl⟩ (by omega) (by omega) d_Mo_note_173
    · have E := (if_pos c_90).symm.trans E
      have O := Eq.mp (if_pos c_90) O
      refine lv_aload_n hx hb d_Mo_note_93 rfl (lv_at hl 0 rfl) ?_
      refine va_get (D := D) (v := .ref h_t_file) hx hb hta i_Mo hown hK hP 0 rfl rfl 19 (by decide) (hta _ lk_Mo_37) (fun _ h9 => h9) rfl d_Mo_note_94 ?_
      refine lv_aload_n hx hb d_Mo_note_97 rfl (lv_at hl 0 rfl) ?_
      refine va_get (D := D) (v := .int t_from) hx hb hta i_Mo hown hK hP 0 rfl rfl 27 (by decide) (hta _ lk_Mo_219) (fun _ h9 => h9) rfl d_Mo_note_98 ?_
      refine va_iald hx hb hK hP 1 1 rfl rfl O.1 d_Mo_note_101 ?_
      have O := O.2
      refine lv_i2l (v := (f_t_file t_from.toNatClampNeg : Int32).toInt64) hx hb d_Mo_note_102 rfl ?_
      refine lv_lconst (v := 1) hx hb d_Mo_note_103 (by decide) ?_
      refine lv_ldc2 (v := 2) hx hb hown (hta _ lk_Mo_106) d_Mo_note_104 ?_
      refine kc_S (As := [.long ((f_t_file t_from.toNatClampNeg : Int32).toInt64), .long 1, .long 2]) (rest := []) (wr := [(h_t, .inr (7, (.int t_thrown :: .int t_high :: .int t_wide :: .int t_components :: .ref h_t_bits :: .int t_unknown :: .int t_rights :: .int t_colours :: .int t_profiled :: .ref h_t_profile :: .int t_entries :: .int t_columns :: .ref h_t_columnBits :: .ref h_t_numbers :: .int t_maps :: .ref h_t_map :: .int t_lines :: .ref h_t_line :: .ref h_t_resolutions :: .ref h_t_file :: .int t_size :: .int t_scanned :: .int t_refusedAt :: .int t_cursor :: .int t_streamAt :: .int t_streamMany :: .int t_name :: .int t_from :: .int t_end :: .int t_sizeAt :: .int t_bitsAt :: .int t_colourAt :: .int t_colourEnd :: .int t_paletteAt :: .int t_mapAt :: .int t_mapEnd :: .int t_channelsAt :: .int t_captureAt :: .int t_displayAt :: .int t_resolved :: []))), (h_t_file, .inl (cI, 65536, .inl f_t_file))]) [] [0, 1] ⟨hx, hb, hml, hown, hta⟩ hK hN hP hD hS hA (c_Mo_in l D cB cI cJ ((f_t_file t_from.toNatClampNeg : Int32).toInt64) 1 2 O.1 _) (hta _ lk_Mo_81) (hta _ ini_Mo) (hta _ code_Mo_in) code_Mo_in (hta _ stat_Mo_in) hd_Mo_in rfl ⟨by omega, by omega⟩ rfl rfl (by decide) (by decide) (by decide) rfl hl.1 (lv_room (Nat.le_of_ble_eq_true rfl)) d_Mo_note_107 ⟨by omega, by omega⟩ (fun v w1 H locs hw hP hD hS => ?_)
      obtain ⟨x107, hx107, rfl, rfl⟩ := hw
      have hP : va_P D classes [(h_t, .inr (7, (.int t_thrown :: .int t_high :: .int t_wide :: .int t_components :: .ref h_t_bits :: .int t_unknown :: .int t_rights :: .int t_colours :: .int t_profiled :: .ref h_t_profile :: .int t_entries :: .int t_columns :: .ref h_t_columnBits :: .ref h_t_numbers :: .int t_maps :: .ref h_t_map :: .int t_lines :: .ref h_t_line :: .ref h_t_resolutions :: .ref h_t_file :: .int t_size :: .int t_scanned :: .int t_refusedAt :: .int t_cursor :: .int t_streamAt :: .int t_streamMany :: .int t_name :: .int t_from :: .int t_end :: .int t_sizeAt :: .int t_bitsAt :: .int t_colourAt :: .int t_colourEnd :: .int t_paletteAt :: .int t_mapAt :: .int t_mapEnd :: .int t_channelsAt :: .int t_captureAt :: .int t_displayAt :: .int t_resolved :: []))), (h_t_file, .inl (cI, 65536, .inl f_t_file))] H := hP.sub [0, 1] rfl
      have hD : va_D A [(h_t, .inr (7, (.int t_thrown :: .int t_high :: .int t_wide :: .int t_components :: .ref h_t_bits :: .int t_unknown :: .int t_rights :: .int t_colours :: .int t_profiled :: .ref h_t_profile :: .int t_entries :: .int t_columns :: .ref h_t_columnBits :: .ref h_t_numbers :: .int t_maps :: .ref h_t_map :: .int t_lines :: .ref h_t_line :: .ref h_t_resolutions :: .ref h_t_file :: .int t_size :: .int t_scanned :: .int t_refusedAt :: .int t_cursor :: .int t_streamAt :: .int t_streamMany :: .int t_name :: .int t_from :: .int t_end :: .int t_sizeAt :: .int t_bitsAt :: .int t_colourAt :: .int t_colourEnd :: .int t_paletteAt :: .int t_mapAt :: .int t_mapEnd :: .int t_channelsAt :: .int t_captureAt :: .int t_displayAt :: .int t_resolved :: []))), (h_t_file, .inl (cI, 65536, .inl f_t_file))] := hD.sub [0, 1] (by decide) rfl
      refine W.eq (g2 := F0 m 110 ls [.int x107]) rfl ?_
      have O := O.2
      have E : k_Mo_note_107 t_from t_end t_sizeAt t_bitsAt t_colourAt t_colourEnd t_paletteAt t_mapAt t_mapEnd t_channelsAt x107 = RES := (congrArg (k_Mo_note_107 t_from t_end t_sizeAt t_bitsAt t_colourAt t_colourEnd t_paletteAt t_mapAt t_mapEnd t_channelsAt) hx107).trans E
      have O : ok_Mo_note_107 x107 := by rw [hx107]; exact O
      refine lv_if_eq (tgt := 173) hx hb d_Mo_note_110 (by decide) (fun c_110 => ?_) (fun c_110 => ?_)
      · have E := (if_pos c_110).symm.trans E
        have O := Eq.mp (if_pos c_110) O
        exact kr_v hx hb hr hlk hQ hK hP hD hS ⟨((t_sizeAt, t_bitsAt, t_colourAt, t_colourEnd, t_paletteAt, t_mapAt, t_mapEnd, t_channelsAt) : Int32 × Int32 × Int32 × Int32 × Int32 × Int32 × Int32 × Int32), E.trans E0.symm, rfl, rfl⟩ (by omega) (by omega) d_Mo_note_173
      · have E := (if_neg c_110).symm.trans E
        have O := Eq.mp (if_neg c_110) O
        refine lv_aload_n hx hb d_Mo_note_113 rfl (lv_at hl 0 rfl) ?_
        refine lv_aload_n hx hb d_Mo_note_114 rfl (lv_at hl 0 rfl) ?_
        refine va_get (D := D) (v := .int t_from) hx hb hta i_Mo hown hK hP 0 rfl rfl 27 (by decide) (hta _ lk_Mo_219) (fun _ h9 => h9) rfl d_Mo_note_115 ?_
        refine va_put (D := D) (ty := .int) hx hb hta i_Mo t_Mo t_Mo_ok n_Mo hown hK hP hD hS 0 rfl rfl 31 (by decide) (hta _ lk_Mo_252) (fun _ h9 => h9) rfl (by decide +kernel) rfl rfl (Nat.le_of_ble_eq_true rfl) d_Mo_note_118 (fun H locs (hP : va_P D classes [(h_t, .inr (7, (.int t_thrown :: .int t_high :: .int t_wide :: .int t_components :: .ref h_t_bits :: .int t_unknown :: .int t_rights :: .int t_colours :: .int t_profiled :: .ref h_t_profile :: .int t_entries :: .int t_columns :: .ref h_t_columnBits :: .ref h_t_numbers :: .int t_maps :: .ref h_t_map :: .int t_lines :: .ref h_t_line :: .ref h_t_resolutions :: .ref h_t_file :: .int t_size :: .int t_scanned :: .int t_refusedAt :: .int t_cursor :: .int t_streamAt :: .int t_streamMany :: .int t_name :: .int t_from :: .int t_end :: .int t_sizeAt :: .int t_bitsAt :: .int t_from :: .int t_colourEnd :: .int t_paletteAt :: .int t_mapAt :: .int t_mapEnd :: .int t_channelsAt :: .int t_captureAt :: .int t_displayAt :: .int t_resolved :: []))), (h_t_file, .inl (cI, 65536, .inl f_t_file))] H) (hD : va_D A [(h_t, .inr (7, (.int t_thrown :: .int t_high :: .int t_wide :: .int t_components :: .ref h_t_bits :: .int t_unknown :: .int t_rights :: .int t_colours :: .int t_profiled :: .ref h_t_profile :: .int t_entries :: .int t_columns :: .ref h_t_columnBits :: .ref h_t_numbers :: .int t_maps :: .ref h_t_map :: .int t_lines :: .ref h_t_line :: .ref h_t_resolutions :: .ref h_t_file :: .int t_size :: .int t_scanned :: .int t_refusedAt :: .int t_cursor :: .int t_streamAt :: .int t_streamMany :: .int t_name :: .int t_from :: .int t_end :: .int t_sizeAt :: .int t_bitsAt :: .int t_from :: .int t_colourEnd :: .int t_paletteAt :: .int t_mapAt :: .int t_mapEnd :: .int t_channelsAt :: .int t_captureAt :: .int t_displayAt :: .int t_resolved :: []))), (h_t_file, .inl (cI, 65536, .inl f_t_file))]) hS => ?_)
        refine lv_aload_n hx hb d_Mo_note_121 rfl (lv_at hl 0 rfl) ?_
        refine lv_aload_n hx hb d_Mo_note_122 rfl (lv_at hl 0 rfl) ?_
        refine va_get (D := D) (v := .int t_end) hx hb hta i_Mo hown hK hP 0 rfl rfl 28 (by decide) (hta _ lk_Mo_222) (fun _ h9 => h9) rfl d_Mo_note_123 ?_
        refine va_put (D := D) (ty := .int) hx hb hta i_Mo t_Mo t_Mo_ok n_Mo hown hK hP hD hS 0 rfl rfl 32 (by decide) (hta _ lk_Mo_261) (fun _ h9 => h9) rfl (by decide +kernel) rfl rfl (Nat.le_of_ble_eq_true rfl) d_Mo_note_126 (fun H locs (hP : va_P D classes [(h_t, .inr (7, (.int t_thrown :: .int t_high :: .int t_wide :: .int t_components :: .ref h_t_bits :: .int t_unknown :: .int t_rights :: .int t_colours :: .int t_profiled :: .ref h_t_profile :: .int t_entries :: .int t_columns :: .ref h_t_columnBits :: .ref h_t_numbers :: .int t_maps :: .ref h_t_map :: .int t_lines :: .ref h_t_line :: .ref h_t_resolutions :: .ref h_t_file :: .int t_size :: .int t_scanned :: .int t_refusedAt :: .int t_cursor :: .int t_streamAt :: .int t_streamMany :: .int t_name :: .int t_from :: .int t_end :: .int t_sizeAt :: .int t_bitsAt :: .int t_from :: .int t_end :: .int t_paletteAt :: .int t_mapAt :: .int t_mapEnd :: .int t_channelsAt :: .int t_captureAt :: .int t_displayAt :: .int t_resolved :: []))), (h_t_file, .inl (cI, 65536, .inl f_t_file))] H) (hD : va_D A [(h_t, .inr (7, (.int t_thrown :: .int t_high :: .int t_wide :: .int t_components :: .ref h_t_bits :: .int t_unknown :: .int t_rights :: .int t_colours :: .int t_profiled :: .ref h_t_profile :: .int t_entries :: .int t_columns :: .ref h_t_columnBits :: .ref h_t_numbers :: .int t_maps :: .ref h_t_map :: .int t_lines :: .ref h_t_line :: .ref h_t_resolutions :: .ref h_t_file :: .int t_size :: .int t_scanned :: .int t_refusedAt :: .int t_cursor :: .int t_streamAt :: .int t_streamMany :: .int t_name :: .int t_from :: .int t_end :: .int t_sizeAt :: .int t_bitsAt :: .int t_from :: .int t_end :: .int t_paletteAt :: .int t_mapAt :: .int t_mapEnd :: .int t_channelsAt :: .int t_captureAt :: .int t_displayAt :: .int t_resolved :: []))), (h_t_file, .inl (cI, 65536, .inl f_t_file))]) hS => ?_)
        refine lv_goto (tgt := 173) hx hb d_Mo_note_129 (by decide) ?_
        exact kr_v hx hb hr hlk hQ hK hP hD hS ⟨((t_sizeAt, t_bitsAt, t_from, t_end, t_paletteAt, t_mapAt, t_mapEnd, t_channelsAt) : Int32 × Int32 × Int32 × Int32 × Int32 × Int32 × Int32 × Int32), E.trans E0.symm, rfl, rfl⟩ (by omega) (by omega) d_Mo_note_173
  have E := (if_neg c_4_3).symm.trans E
  have O := Eq.mp (if_neg c_4_3) O
  by_cases c_4_4 : t_name = 1768449138
  · have E := (if_pos c_4_4).symm.trans E
    have O := Eq.mp (if_pos c_4_4) O
    refine lv_lookup (off := 60) (tgt := 64) hx hb d_Mo_note_4 (by decide) (by rw [c_4_4]; rfl) (by decide) ?_
    refine lv_aload_n hx hb d_Mo_note_64 rfl (lv_at hl 0 rfl) ?_
    refine lv_aload_n hx hb d_Mo_note_65 rfl (lv_at hl 0 rfl) ?_
    refine va_get (D := D) (v := .int t_from) hx hb hta i_Mo hown hK hP 0 rfl rfl 27 (by decide) (hta _ lk_Mo_219) (fun _ h9 => h9) rfl d_Mo_note_66 ?_
    refine va_put (D := D) (ty := .int) hx hb hta i_Mo t_Mo t_Mo_ok n_Mo hown hK hP hD hS 0 rfl rfl 29 (by decide) (hta _ lk_Mo_226) (fun _ h9 => h9) rfl (by decide +kernel) rfl rfl (Nat.le_of_ble_eq_true rfl) d_Mo_note_69 (fun H locs (hP : va_P D classes [(h_t, .inr (7, (.int t_thrown :: .int t_high :: .int t_wide :: .int t_components :: .ref h_t_bits :: .int t_unknown :: .int t_rights :: .int t_colours :: .int t_profiled :: .ref h_t_profile :: .int t_entries :: .int t_columns :: .ref h_t_columnBits :: .ref h_t_numbers :: .int t_maps :: .ref h_t_map :: .int t_lines :: .ref h_t_line :: .ref h_t_resolutions :: .ref h_t_file :: .int t_size :: .int t_scanned :: .int t_refusedAt :: .int t_cursor :: .int t_streamAt :: .int t_streamMany :: .int t_name :: .int t_from :: .int t_end :: .int t_from :: .int t_bitsAt :: .int t_colourAt :: .int t_colourEnd :: .int t_paletteAt :: .int t_mapAt :: .int t_mapEnd :: .int t_channelsAt :: .int t_captureAt :: .int t_displayAt :: .int t_resolved :: []))), (h_t_file, .inl (cI, 65536, .inl f_t_file))] H) (hD : va_D A [(h_t, .inr (7, (.int t_thrown :: .int t_high :: .int t_wide :: .int t_components :: .ref h_t_bits :: .int t_unknown :: .int t_rights :: .int t_colours :: .int t_profiled :: .ref h_t_profile :: .int t_entries :: .int t_columns :: .ref h_t_columnBits :: .ref h_t_numbers :: .int t_maps :: .ref h_t_map :: .int t_lines :: .ref h_t_line :: .ref h_t_resolutions :: .ref h_t_file :: .int t_size :: .int t_scanned :: .int t_refusedAt :: .int t_cursor :: .int t_streamAt :: .int t_streamMany :: .int t_name :: .int t_from :: .int t_end :: .int t_from :: .int t_bitsAt :: .int t_colourAt :: .int t_colourEnd :: .int t_paletteAt :: .int t_mapAt :: .int t_mapEnd :: .int t_channelsAt :: .int t_captureAt :: .int t_displayAt :: .int t_resolved :: []))), (h_t_file, .inl (cI, 65536, .inl f_t_file))]) hS => ?_)
    refine lv_goto (tgt := 173) hx hb d_Mo_note_72 (by decide) ?_
    exact kr_v hx hb hr hlk hQ hK hP hD hS ⟨((t_from, t_bitsAt, t_colourAt, t_colourEnd, t_paletteAt, t_mapAt, t_mapEnd, t_channelsAt) : Int32 × Int32 × Int32 × Int32 × Int32 × Int32 × Int32 × Int32), E.trans E0.symm, rfl, rfl⟩ (by omega) (by omega) d_Mo_note_173
  have E := (if_neg c_4_4).symm.trans E
  have O := Eq.mp (if_neg c_4_4) O
  by_cases c_4_5 : t_name = 1885564018
  · have E := (if_pos c_4_5).symm.trans E
    have O := Eq.mp (if_pos c_4_5) O
    refine lv_lookup (off := 128) (tgt := 132) hx hb d_Mo_note_4 (by decide) (by rw [c_4_5]; rfl) (by decide) ?_
    refine lv_aload_n hx hb d_Mo_note_132 rfl (lv_at hl 0 rfl) ?_
    refine lv_aload_n hx hb d_Mo_note_133 rfl (lv_at hl 0 rfl) ?_
    refine va_get (D := D) (v := .int t_from) hx hb hta i_Mo hown hK hP 0 rfl rfl 27 (by decide) (hta _ lk_Mo_219) (fun _ h9 => h9) rfl d_Mo_note_134 ?_
    refine va_put (D := D) (ty := .int) hx hb hta i_Mo t_Mo t_Mo_ok n_Mo hown hK hP hD hS 0 rfl rfl 33 (by decide) (hta _ lk_Mo_235) (fun _ h9 => h9) rfl (by decide +kernel) rfl rfl (Nat.le_of_ble_eq_true rfl) d_Mo_note_137 (fun H locs (hP : va_P D classes [(h_t, .inr (7, (.int t_thrown :: .int t_high :: .int t_wide :: .int t_components :: .ref h_t_bits :: .int t_unknown :: .int t_rights :: .int t_colours :: .int t_profiled :: .ref h_t_profile :: .int t_entries :: .int t_columns :: .ref h_t_columnBits :: .ref h_t_numbers :: .int t_maps :: .ref h_t_map :: .int t_lines :: .ref h_t_line :: .ref h_t_resolutions :: .ref h_t_file :: .int t_size :: .int t_scanned :: .int t_refusedAt :: .int t_cursor :: .int t_streamAt :: .int t_streamMany :: .int t_name :: .int t_from :: .int t_end :: .int t_sizeAt :: .int t_bitsAt :: .int t_colourAt :: .int t_colourEnd :: .int t_from :: .int t_mapAt :: .int t_mapEnd :: .int t_channelsAt :: .int t_captureAt :: .int t_displayAt :: .int t_resolved :: []))), (h_t_file, .inl (cI, 65536, .inl f_t_file))] H) (hD : va_D A [(h_t, .inr (7, (.int t_thrown :: .int t_high :: .int t_wide :: .int t_components :: .ref h_t_bits :: .int t_unknown :: .int t_rights :: .int t_colours :: .int t_profiled :: .ref h_t_profile :: .int t_entries :: .int t_columns :: .ref h_t_columnBits :: .ref h_t_numbers :: .int t_maps :: .ref h_t_map :: .int t_lines :: .ref h_t_line :: .ref h_t_resolutions :: .ref h_t_file :: .int t_size :: .int t_scanned :: .int t_refusedAt :: .int t_cursor :: .int t_streamAt :: .int t_streamMany :: .int t_name :: .int t_from :: .int t_end :: .int t_sizeAt :: .int t_bitsAt :: .int t_colourAt :: .int t_colourEnd :: .int t_from :: .int t_mapAt :: .int t_mapEnd :: .int t_channelsAt :: .int t_captureAt :: .int t_displayAt :: .int t_resolved :: []))), (h_t_file, .inl (cI, 65536, .inl f_t_file))]) hS => ?_)
    refine lv_goto (tgt := 173) hx hb d_Mo_note_140 (by decide) ?_
    exact kr_v hx hb hr hlk hQ hK hP hD hS ⟨((t_sizeAt, t_bitsAt, t_colourAt, t_colourEnd, t_from, t_mapAt, t_mapEnd, t_channelsAt) : Int32 × Int32 × Int32 × Int32 × Int32 × Int32 × Int32 × Int32), E.trans E0.symm, rfl, rfl⟩ (by omega) (by omega) d_Mo_note_173
  have E := (if_neg c_4_5).symm.trans E
  have O := Eq.mp (if_neg c_4_5) O
  refine lv_lookup (off := 169) (tgt := 173) hx hb d_Mo_note_4 (by decide) (by rw [lv_osw c_4_0 (a := 1651532643) (by decide), lv_osw c_4_1 (a := 1667523942) (by decide), lv_osw c_4_2 (a := 1668112752) (by decide), lv_osw c_4_3 (a := 1668246642) (by decide), lv_osw c_4_4 (a := 1768449138) (by decide), lv_osw c_4_5 (a := 1885564018) (by decide)]; rfl) (by decide) ?_
  exact kr_v hx hb hr hlk hQ hK hP hD hS ⟨((t_sizeAt, t_bitsAt, t_colourAt, t_colourEnd, t_paletteAt, t_mapAt, t_mapEnd, t_channelsAt) : Int32 × Int32 × Int32 × Int32 × Int32 × Int32 × Int32 × Int32), E.trans E0.symm, rfl, rfl⟩ (by omega) (by omega) d_Mo_note_173
theorem d_Mo_inResolution_0 : decode b_Mo_inResolution 0 = .ok (.aload_n 0, 1) := by decide +kernel
theorem d_Mo_inResolution_1 : decode b_Mo_inResolution 1 = .ok (.getfield 219, 3) := by decide +kernel
theorem d_Mo_inResolution_4 : decode b_Mo_inResolution 4 = .ok (.istore_n 1, 1) := by decide +kernel
theorem d_Mo_inResolution_5 : decode b_Mo_inResolution 5 = .ok (.aload_n 0, 1) := by decide +kernel
theorem d_Mo_inResolution_6 : decode b_Mo_inResolution 6 = .ok (.getfield 222, 3) := by decide +kernel
theorem d_Mo_inResolution_9 : decode b_Mo_inResolution 9 = .ok (.istore_n 2, 1) := by decide +kernel
theorem d_Mo_inResolution_10 : decode b_Mo_inResolution 10 = .ok (.aload_n 0, 1) := by decide +kernel
theorem d_Mo_inResolution_11 : decode b_Mo_inResolution 11 = .ok (.iconst 1, 1) := by decide +kernel
theorem d_Mo_inResolution_12 : decode b_Mo_inResolution 12 = .ok (.putfield 247, 3) := by decide +kernel
theorem d_Mo_inResolution_15 : decode b_Mo_inResolution 15 = .ok (.iload_n 1, 1) := by decide +kernel
theorem d_Mo_inResolution_16 : decode b_Mo_inResolution 16 = .ok (.iload_n 2, 1) := by decide +kernel
theorem d_Mo_inResolution_17 : decode b_Mo_inResolution 17 = .ok (.if_icmp .ge 241, 3) := by decide +kernel
theorem d_Mo_inResolution_20 : decode b_Mo_inResolution 20 = .ok (.aload_n 0, 1) := by decide +kernel
theorem d_Mo_inResolution_21 : decode b_Mo_inResolution 21 = .ok (.iload_n 1, 1) := by decide +kernel
theorem d_Mo_inResolution_22 : decode b_Mo_inResolution 22 = .ok (.iload_n 2, 1) := by decide +kernel
theorem d_Mo_inResolution_23 : decode b_Mo_inResolution 23 = .ok (.iconst 0, 1) := by decide +kernel
theorem d_Mo_inResolution_24 : decode b_Mo_inResolution 24 = .ok (.invokevirtual 267, 3) := by decide +kernel
theorem d_Mo_inResolution_27 : decode b_Mo_inResolution 27 = .ok (.istore_n 3, 1) := by decide +kernel
theorem d_Mo_inResolution_28 : decode b_Mo_inResolution 28 = .ok (.aload_n 0, 1) := by decide +kernel
theorem d_Mo_inResolution_29 : decode b_Mo_inResolution 29 = .ok (.getfield 216, 3) := by decide +kernel
theorem d_Mo_inResolution_32 : decode b_Mo_inResolution 32 = .ok (.ldc 188, 2) := by decide +kernel
theorem d_Mo_inResolution_34 : decode b_Mo_inResolution 34 = .ok (.if_icmp .eq 12, 3) := by decide +kernel
theorem d_Mo_inResolution_37 : decode b_Mo_inResolution 37 = .ok (.aload_n 0, 1) := by decide +kernel
theorem d_Mo_inResolution_38 : decode b_Mo_inResolution 38 = .ok (.getfield 216, 3) := by decide +kernel
theorem d_Mo_inResolution_41 : decode b_Mo_inResolution 41 = .ok (.ldc 192, 2) := by decide +kernel
theorem d_Mo_inResolution_43 : decode b_Mo_inResolution 43 = .ok (.if_icmp .ne 7, 3) := by decide +kernel
theorem d_Mo_inResolution_46 : decode b_Mo_inResolution 46 = .ok (.iconst 1, 1) := by decide +kernel
theorem d_Mo_inResolution_47 : decode b_Mo_inResolution 47 = .ok (.goto 4, 3) := by decide +kernel
theorem d_Mo_inResolution_50 : decode b_Mo_inResolution 50 = .ok (.iconst 0, 1) := by decide +kernel
theorem d_Mo_inResolution_51 : decode b_Mo_inResolution 51 = .ok (.istore 4, 2) := by decide +kernel
theorem d_Mo_inResolution_53 : decode b_Mo_inResolution 53 = .ok (.iload_n 3, 1) := by decide +kernel
theorem d_Mo_inResolution_54 : decode b_Mo_inResolution 54 = .ok (.ifCond .ne 75, 3) := by decide +kernel
theorem d_Mo_inResolution_57 : decode b_Mo_inResolution 57 = .ok (.aload_n 0, 1) := by decide +kernel
theorem d_Mo_inResolution_58 : decode b_Mo_inResolution 58 = .ok (.invokevirtual 232, 3) := by decide +kernel
theorem d_Mo_inResolution_61 : decode b_Mo_inResolution 61 = .ok (.ifCond .eq 7, 3) := by decide +kernel
theorem d_Mo_inResolution_64 : decode b_Mo_inResolution 64 = .ok (.iconst 2, 1) := by decide +kernel
theorem d_Mo_inResolution_65 : decode b_Mo_inResolution 65 = .ok (.goto 63, 3) := by decide +kernel
theorem d_Mo_inResolution_68 : decode b_Mo_inResolution 68 = .ok (.iload 4, 2) := by decide +kernel
theorem d_Mo_inResolution_70 : decode b_Mo_inResolution 70 = .ok (.ifCond .eq 21, 3) := by decide +kernel
theorem d_Mo_inResolution_73 : decode b_Mo_inResolution 73 = .ok (.aload_n 0, 1) := by decide +kernel
theorem d_Mo_inResolution_74 : decode b_Mo_inResolution 74 = .ok (.getfield 222, 3) := by decide +kernel
theorem d_Mo_inResolution_77 : decode b_Mo_inResolution 77 = .ok (.aload_n 0, 1) := by decide +kernel
theorem d_Mo_inResolution_78 : decode b_Mo_inResolution 78 = .ok (.getfield 219, 3) := by decide +kernel
theorem d_Mo_inResolution_81 : decode b_Mo_inResolution 81 = .ok (.isub, 1) := by decide +kernel
theorem d_Mo_inResolution_82 : decode b_Mo_inResolution 82 = .ok (.bipush 10, 2) := by decide +kernel
theorem d_Mo_inResolution_84 : decode b_Mo_inResolution 84 = .ok (.if_icmp .eq 7, 3) := by decide +kernel
theorem d_Mo_inResolution_87 : decode b_Mo_inResolution 87 = .ok (.iconst 3, 1) := by decide +kernel
theorem d_Mo_inResolution_88 : decode b_Mo_inResolution 88 = .ok (.goto 40, 3) := by decide +kernel
theorem d_Mo_inResolution_91 : decode b_Mo_inResolution 91 = .ok (.aload_n 0, 1) := by decide +kernel
theorem d_Mo_inResolution_92 : decode b_Mo_inResolution 92 = .ok (.getfield 216, 3) := by decide +kernel
theorem d_Mo_inResolution_95 : decode b_Mo_inResolution 95 = .ok (.ldc 188, 2) := by decide +kernel
theorem d_Mo_inResolution_97 : decode b_Mo_inResolution 97 = .ok (.if_icmp .ne 10, 3) := by decide +kernel
theorem d_Mo_inResolution_100 : decode b_Mo_inResolution 100 = .ok (.aload_n 0, 1) := by decide +kernel
theorem d_Mo_inResolution_101 : decode b_Mo_inResolution 101 = .ok (.getfield 271, 3) := by decide +kernel
theorem d_Mo_inResolution_104 : decode b_Mo_inResolution 104 = .ok (.ifCond .gt 19, 3) := by decide +kernel
theorem d_Mo_inResolution_107 : decode b_Mo_inResolution 107 = .ok (.aload_n 0, 1) := by decide +kernel
theorem d_Mo_inResolution_108 : decode b_Mo_inResolution 108 = .ok (.getfield 216, 3) := by decide +kernel
theorem d_Mo_inResolution_111 : decode b_Mo_inResolution 111 = .ok (.ldc 192, 2) := by decide +kernel
theorem d_Mo_inResolution_113 : decode b_Mo_inResolution 113 = .ok (.if_icmp .ne 14, 3) := by decide +kernel
theorem d_Mo_inResolution_116 : decode b_Mo_inResolution 116 = .ok (.aload_n 0, 1) := by decide +kernel
theorem d_Mo_inResolution_117 : decode b_Mo_inResolution 117 = .ok (.getfield 274, 3) := by decide +kernel
theorem d_Mo_inResolution_120 : decode b_Mo_inResolution 120 = .ok (.ifCond .le 7, 3) := by decide +kernel
theorem d_Mo_inResolution_123 : decode b_Mo_inResolution 123 = .ok (.iconst 4, 1) := by decide +kernel
theorem d_Mo_inResolution_124 : decode b_Mo_inResolution 124 = .ok (.goto 4, 3) := by decide +kernel
theorem d_Mo_inResolution_127 : decode b_Mo_inResolution 127 = .ok (.iconst 0, 1) := by decide +kernel
theorem d_Mo_inResolution_128 : decode b_Mo_inResolution 128 = .ok (.istore_n 3, 1) := by decide +kernel
theorem d_Mo_inResolution_129 : decode b_Mo_inResolution 129 = .ok (.iload_n 3, 1) := by decide +kernel
theorem d_Mo_inResolution_130 : decode b_Mo_inResolution 130 = .ok (.ifCond .ne 61, 3) := by decide +kernel
theorem d_Mo_inResolution_133 : decode b_Mo_inResolution 133 = .ok (.iload 4, 2) := by decide +kernel
theorem d_Mo_inResolution_135 : decode b_Mo_inResolution 135 = .ok (.ifCond .eq 56, 3) := by decide +kernel
theorem d_Mo_inResolution_138 : decode b_Mo_inResolution 138 = .ok (.aload_n 0, 1) := by decide +kernel
theorem d_Mo_inResolution_139 : decode b_Mo_inResolution 139 = .ok (.aload_n 0, 1) := by decide +kernel
theorem d_Mo_inResolution_140 : decode b_Mo_inResolution 140 = .ok (.getfield 219, 3) := by decide +kernel
theorem d_Mo_inResolution_143 : decode b_Mo_inResolution 143 = .ok (.invokevirtual 209, 3) := by decide +kernel
theorem d_Mo_inResolution_146 : decode b_Mo_inResolution 146 = .ok (.ifCond .eq 43, 3) := by decide +kernel
theorem d_Mo_inResolution_149 : decode b_Mo_inResolution 149 = .ok (.aload_n 0, 1) := by decide +kernel
theorem d_Mo_inResolution_150 : decode b_Mo_inResolution 150 = .ok (.aload_n 0, 1) := by decide +kernel
theorem d_Mo_inResolution_151 : decode b_Mo_inResolution 151 = .ok (.getfield 219, 3) := by decide +kernel
theorem d_Mo_inResolution_154 : decode b_Mo_inResolution 154 = .ok (.iconst 2, 1) := by decide +kernel
theorem d_Mo_inResolution_155 : decode b_Mo_inResolution 155 = .ok (.iadd, 1) := by decide +kernel
theorem d_Mo_inResolution_156 : decode b_Mo_inResolution 156 = .ok (.invokevirtual 209, 3) := by decide +kernel
theorem d_Mo_inResolution_159 : decode b_Mo_inResolution 159 = .ok (.ifCond .eq 30, 3) := by decide +kernel
theorem d_Mo_inResolution_162 : decode b_Mo_inResolution 162 = .ok (.aload_n 0, 1) := by decide +kernel
theorem d_Mo_inResolution_163 : decode b_Mo_inResolution 163 = .ok (.aload_n 0, 1) := by decide +kernel
theorem d_Mo_inResolution_164 : decode b_Mo_inResolution 164 = .ok (.getfield 219, 3) := by decide +kernel
theorem d_Mo_inResolution_167 : decode b_Mo_inResolution 167 = .ok (.iconst 4, 1) := by decide +kernel
theorem d_Mo_inResolution_168 : decode b_Mo_inResolution 168 = .ok (.iadd, 1) := by decide +kernel
theorem d_Mo_inResolution_169 : decode b_Mo_inResolution 169 = .ok (.invokevirtual 209, 3) := by decide +kernel
theorem d_Mo_inResolution_172 : decode b_Mo_inResolution 172 = .ok (.ifCond .eq 17, 3) := by decide +kernel
theorem d_Mo_inResolution_175 : decode b_Mo_inResolution 175 = .ok (.aload_n 0, 1) := by decide +kernel
theorem d_Mo_inResolution_176 : decode b_Mo_inResolution 176 = .ok (.aload_n 0, 1) := by decide +kernel
theorem d_Mo_inResolution_177 : decode b_Mo_inResolution 177 = .ok (.getfield 219, 3) := by decide +kernel
theorem d_Mo_inResolution_180 : decode b_Mo_inResolution 180 = .ok (.bipush 6, 2) := by decide +kernel
theorem d_Mo_inResolution_182 : decode b_Mo_inResolution 182 = .ok (.iadd, 1) := by decide +kernel
theorem d_Mo_inResolution_183 : decode b_Mo_inResolution 183 = .ok (.invokevirtual 209, 3) := by decide +kernel
theorem d_Mo_inResolution_186 : decode b_Mo_inResolution 186 = .ok (.ifCond .ne 5, 3) := by decide +kernel
theorem d_Mo_inResolution_189 : decode b_Mo_inResolution 189 = .ok (.iconst 5, 1) := by decide +kernel
theorem d_Mo_inResolution_190 : decode b_Mo_inResolution 190 = .ok (.istore_n 3, 1) := by decide +kernel
theorem d_Mo_inResolution_191 : decode b_Mo_inResolution 191 = .ok (.iload_n 3, 1) := by decide +kernel
theorem d_Mo_inResolution_192 : decode b_Mo_inResolution 192 = .ok (.ifCond .le 10, 3) := by decide +kernel
theorem d_Mo_inResolution_195 : decode b_Mo_inResolution 195 = .ok (.aload_n 0, 1) := by decide +kernel
theorem d_Mo_inResolution_196 : decode b_Mo_inResolution 196 = .ok (.iload_n 3, 1) := by decide +kernel
theorem d_Mo_inResolution_197 : decode b_Mo_inResolution 197 = .ok (.iload_n 1, 1) := by decide +kernel
theorem d_Mo_inResolution_198 : decode b_Mo_inResolution 198 = .ok (.invokevirtual 277, 3) := by decide +kernel
theorem d_Mo_inResolution_201 : decode b_Mo_inResolution 201 = .ok (.ireturn, 1) := by decide +kernel
theorem d_Mo_inResolution_202 : decode b_Mo_inResolution 202 = .ok (.aload_n 0, 1) := by decide +kernel
theorem d_Mo_inResolution_203 : decode b_Mo_inResolution 203 = .ok (.aload_n 0, 1) := by decide +kernel
theorem d_Mo_inResolution_204 : decode b_Mo_inResolution 204 = .ok (.getfield 216, 3) := by decide +kernel
theorem d_Mo_inResolution_207 : decode b_Mo_inResolution 207 = .ok (.ldc 188, 2) := by decide +kernel
theorem d_Mo_inResolution_209 : decode b_Mo_inResolution 209 = .ok (.if_icmp .ne 10, 3) := by decide +kernel
theorem d_Mo_inResolution_212 : decode b_Mo_inResolution 212 = .ok (.aload_n 0, 1) := by decide +kernel
theorem d_Mo_inResolution_213 : decode b_Mo_inResolution 213 = .ok (.getfield 219, 3) := by decide +kernel
theorem d_Mo_inResolution_216 : decode b_Mo_inResolution 216 = .ok (.goto 7, 3) := by decide +kernel
theorem d_Mo_inResolution_219 : decode b_Mo_inResolution 219 = .ok (.aload_n 0, 1) := by decide +kernel
theorem d_Mo_inResolution_220 : decode b_Mo_inResolution 220 = .ok (.getfield 271, 3) := by decide +kernel
theorem d_Mo_inResolution_223 : decode b_Mo_inResolution 223 = .ok (.putfield 271, 3) := by decide +kernel
theorem d_Mo_inResolution_226 : decode b_Mo_inResolution 226 = .ok (.aload_n 0, 1) := by decide +kernel
theorem d_Mo_inResolution_227 : decode b_Mo_inResolution 227 = .ok (.aload_n 0, 1) := by decide +kernel
theorem d_Mo_inResolution_228 : decode b_Mo_inResolution 228 = .ok (.getfield 216, 3) := by decide +kernel
theorem d_Mo_inResolution_231 : decode b_Mo_inResolution 231 = .ok (.ldc 192, 2) := by decide +kernel
theorem d_Mo_inResolution_233 : decode b_Mo_inResolution 233 = .ok (.if_icmp .ne 10, 3) := by decide +kernel
theorem d_Mo_inResolution_236 : decode b_Mo_inResolution 236 = .ok (.aload_n 0, 1) := by decide +kernel
theorem d_Mo_inResolution_237 : decode b_Mo_inResolution 237 = .ok (.getfield 219, 3) := by decide +kernel
theorem d_Mo_inResolution_240 : decode b_Mo_inResolution 240 = .ok (.goto 7, 3) := by decide +kernel
theorem d_Mo_inResolution_243 : decode b_Mo_inResolution 243 = .ok (.aload_n 0, 1) := by decide +kernel
theorem d_Mo_inResolution_244 : decode b_Mo_inResolution 244 = .ok (.getfield 274, 3) := by decide +kernel
theorem d_Mo_inResolution_247 : decode b_Mo_inResolution 247 = .ok (.putfield 274, 3) := by decide +kernel
theorem d_Mo_inResolution_250 : decode b_Mo_inResolution 250 = .ok (.aload_n 0, 1) := by decide +kernel
theorem d_Mo_inResolution_251 : decode b_Mo_inResolution 251 = .ok (.getfield 222, 3) := by decide +kernel
theorem d_Mo_inResolution_254 : decode b_Mo_inResolution 254 = .ok (.istore_n 1, 1) := by decide +kernel
theorem d_Mo_inResolution_255 : decode b_Mo_inResolution 255 = .ok (.goto (-240), 3) := by decide +kernel
theorem d_Mo_inResolution_258 : decode b_Mo_inResolution 258 = .ok (.iconst 0, 1) := by decide +kernel
theorem d_Mo_inResolution_259 : decode b_Mo_inResolution 259 = .ok (.ireturn, 1) := by decide +kernel
def j_Mo_inResolution_247 (kk_15 : Int32 → Int32 → Int32 → Int32 → Int32 → Int32 → Int32 × Int32 × Int32 × Int32 × Int32 × Int32 × Int32 × Int32) (x24 : Int32 × Int32 × Int32 × Int32) (j223_s1 : Int32) (j247_s1 : Int32) : Int32 × Int32 × Int32 × Int32 × Int32 × Int32 × Int32 × Int32 :=
  kk_15 x24.2.2.2 x24.2.1 x24.2.2.1 x24.2.2.2 j223_s1 j247_s1
def oj_Mo_inResolution_247 (okk_15 : Int32 → Int32 → Int32 → Int32 → Int32 → Int32 → Prop) (x24 : Int32 × Int32 × Int32 × Int32) (j223_s1 : Int32) (j247_s1 : Int32) : Prop :=
  okk_15 x24.2.2.2 x24.2.1 x24.2.2.1 x24.2.2.2 j223_s1 j247_s1
def j_Mo_inResolution_223 (kk_15 : Int32 → Int32 → Int32 → Int32 → Int32 → Int32 → Int32 × Int32 × Int32 × Int32 × Int32 × Int32 × Int32 × Int32) (v15_t_displayAt : Int32) (x24 : Int32 × Int32 × Int32 × Int32) (j223_s1 : Int32) : Int32 × Int32 × Int32 × Int32 × Int32 × Int32 × Int32 × Int32 :=
  if x24.2.1 = 1919251300 then (j_Mo_inResolution_247 kk_15 x24 j223_s1 x24.2.2.1) else (j_Mo_inResolution_247 kk_15 x24 j223_s1 v15_t_displayAt)
def oj_Mo_inResolution_223 (okk_15 : Int32 → Int32 → Int32 → Int32 → Int32 → Int32 → Prop) (v15_t_displayAt : Int32) (x24 : Int32 × Int32 × Int32 × Int32) (j223_s1 : Int32) : Prop :=
  if x24.2.1 = 1919251300 then (oj_Mo_inResolution_247 okk_15 x24 j223_s1 x24.2.2.1) else (oj_Mo_inResolution_247 okk_15 x24 j223_s1 v15_t_displayAt)
def k_Mo_inResolution_198 (v15_1 : Int32) (v15_t_captureAt : Int32) (v15_t_displayAt : Int32) (x24 : Int32 × Int32 × Int32 × Int32) (x198 : Int32) : Int32 × Int32 × Int32 × Int32 × Int32 × Int32 × Int32 × Int32 :=
  (x198, v15_1, x24.2.1, x24.2.2.1, x24.2.2.2, v15_t_captureAt, v15_t_displayAt, 1)
def ok_Mo_inResolution_198 (x198 : Int32) : Prop :=
  True
def j_Mo_inResolution_191 (kk_15 : Int32 → Int32 → Int32 → Int32 → Int32 → Int32 → Int32 × Int32 × Int32 × Int32 × Int32 × Int32 × Int32 × Int32) (v15_1 : Int32) (v15_t_captureAt : Int32) (v15_t_displayAt : Int32) (x24 : Int32 × Int32 × Int32 × Int32) (j191_3 : Int32) : Int32 × Int32 × Int32 × Int32 × Int32 × Int32 × Int32 × Int32 :=
  if j191_3 ≤ 0 then (if x24.2.1 = 1919251299 then (j_Mo_inResolution_223 kk_15 v15_t_displayAt x24 x24.2.2.1) else (j_Mo_inResolution_223 kk_15 v15_t_displayAt x24 v15_t_captureAt)) else (k_Mo_inResolution_198 v15_1 v15_t_captureAt v15_t_displayAt x24 (m_Mo_no j191_3))
def oj_Mo_inResolution_191 (okk_15 : Int32 → Int32 → Int32 → Int32 → Int32 → Int32 → Prop) (v15_t_captureAt : Int32) (v15_t_displayAt : Int32) (x24 : Int32 × Int32 × Int32 × Int32) (j191_3 : Int32) : Prop :=
  if j191_3 ≤ 0 then (if x24.2.1 = 1919251299 then (oj_Mo_inResolution_223 okk_15 v15_t_displayAt x24 x24.2.2.1) else (oj_Mo_inResolution_223 okk_15 v15_t_displayAt x24 v15_t_captureAt)) else (om_Mo_no ∧ (ok_Mo_inResolution_198 (m_Mo_no j191_3)))
def j_Mo_inResolution_189 (kk_15 : Int32 → Int32 → Int32 → Int32 → Int32 → Int32 → Int32 × Int32 × Int32 × Int32 × Int32 × Int32 × Int32 × Int32) (v15_1 : Int32) (v15_t_captureAt : Int32) (v15_t_displayAt : Int32) (x24 : Int32 × Int32 × Int32 × Int32) : Int32 × Int32 × Int32 × Int32 × Int32 × Int32 × Int32 × Int32 :=
  j_Mo_inResolution_191 kk_15 v15_1 v15_t_captureAt v15_t_displayAt x24 5
def oj_Mo_inResolution_189 (okk_15 : Int32 → Int32 → Int32 → Int32 → Int32 → Int32 → Prop) (v15_t_captureAt : Int32) (v15_t_displayAt : Int32) (x24 : Int32 × Int32 × Int32 × Int32) : Prop :=
  oj_Mo_inResolution_191 okk_15 v15_t_captureAt v15_t_displayAt x24 5
def k_Mo_inResolution_183 (kk_15 : Int32 → Int32 → Int32 → Int32 → Int32 → Int32 → Int32 × Int32 × Int32 × Int32 × Int32 × Int32 × Int32 × Int32) (v15_1 : Int32) (v15_t_captureAt : Int32) (v15_t_displayAt : Int32) (x24 : Int32 × Int32 × Int32 × Int32) (j129_3 : Int32) (x183 : Int32) : Int32 × Int32 × Int32 × Int32 × Int32 × Int32 × Int32 × Int32 :=
  if x183 = 0 then (j_Mo_inResolution_189 kk_15 v15_1 v15_t_captureAt v15_t_displayAt x24) else (j_Mo_inResolution_191 kk_15 v15_1 v15_t_captureAt v15_t_displayAt x24 j129_3)
def ok_Mo_inResolution_183 (okk_15 : Int32 → Int32 → Int32 → Int32 → Int32 → Int32 → Prop) (v15_t_captureAt : Int32) (v15_t_displayAt : Int32) (x24 : Int32 × Int32 × Int32 × Int32) (j129_3 : Int32) (x183 : Int32) : Prop :=
  if x183 = 0 then (oj_Mo_inResolution_189 okk_15 v15_t_captureAt v15_t_displayAt x24) else (oj_Mo_inResolution_191 okk_15 v15_t_captureAt v15_t_displayAt x24 j129_3)
def k_Mo_inResolution_169 (f_t_file : Nat → Int32) (kk_15 : Int32 → Int32 → Int32 → Int32 → Int32 → Int32 → Int32 × Int32 × Int32 × Int32 × Int32 × Int32 × Int32 × Int32) (v15_1 : Int32) (v15_t_captureAt : Int32) (v15_t_displayAt : Int32) (x24 : Int32 × Int32 × Int32 × Int32) (j129_3 : Int32) (x169 : Int32) : Int32 × Int32 × Int32 × Int32 × Int32 × Int32 × Int32 × Int32 :=
  if x169 = 0 then (j_Mo_inResolution_189 kk_15 v15_1 v15_t_captureAt v15_t_displayAt x24) else (k_Mo_inResolution_183 kk_15 v15_1 v15_t_captureAt v15_t_displayAt x24 j129_3 (m_Mo_u2 f_t_file (x24.2.2.1 + 6)))
def ok_Mo_inResolution_169 (f_t_file : Nat → Int32) (okk_15 : Int32 → Int32 → Int32 → Int32 → Int32 → Int32 → Prop) (v15_t_captureAt : Int32) (v15_t_displayAt : Int32) (x24 : Int32 × Int32 × Int32 × Int32) (j129_3 : Int32) (x169 : Int32) : Prop :=
  if x169 = 0 then (oj_Mo_inResolution_189 okk_15 v15_t_captureAt v15_t_displayAt x24) else (om_Mo_u2 (x24.2.2.1 + 6) ∧ (ok_Mo_inResolution_183 okk_15 v15_t_captureAt v15_t_displayAt x24 j129_3 (m_Mo_u2 f_t_file (x24.2.2.1 + 6))))
def k_Mo_inResolution_156 (f_t_file : Nat → Int32) (kk_15 : Int32 → Int32 → Int32 → Int32 → Int32 → Int32 → Int32 × Int32 × Int32 × Int32 × Int32 × Int32 × Int32 × Int32) (v15_1 : Int32) (v15_t_captureAt : Int32) (v15_t_displayAt : Int32) (x24 : Int32 × Int32 × Int32 × Int32) (j129_3 : Int32) (x156 : Int32) : Int32 × Int32 × Int32 × Int32 × Int32 × Int32 × Int32 × Int32 :=
  if x156 = 0 then (j_Mo_inResolution_189 kk_15 v15_1 v15_t_captureAt v15_t_displayAt x24) else (k_Mo_inResolution_169 f_t_file kk_15 v15_1 v15_t_captureAt v15_t_displayAt x24 j129_3 (m_Mo_u2 f_t_file (x24.2.2.1 + 4)))
def ok_Mo_inResolution_156 (f_t_file : Nat → Int32) (okk_15 : Int32 → Int32 → Int32 → Int32 → Int32 → Int32 → Prop) (v15_t_captureAt : Int32) (v15_t_displayAt : Int32) (x24 : Int32 × Int32 × Int32 × Int32) (j129_3 : Int32) (x156 : Int32) : Prop :=
  if x156 = 0 then (oj_Mo_inResolution_189 okk_15 v15_t_captureAt v15_t_displayAt x24) else (om_Mo_u2 (x24.2.2.1 + 4) ∧ (ok_Mo_inResolution_169 f_t_file okk_15 v15_t_captureAt v15_t_displayAt x24 j129_3 (m_Mo_u2 f_t_file (x24.2.2.1 + 4))))
def k_Mo_inResolution_143 (f_t_file : Nat → Int32) (kk_15 : Int32 → Int32 → Int32 → Int32 → Int32 → Int32 → Int32 × Int32 × Int32 × Int32 × Int32 × Int32 × Int32 × Int32) (v15_1 : Int32) (v15_t_captureAt : Int32) (v15_t_displayAt : Int32) (x24 : Int32 × Int32 × Int32 × Int32) (j129_3 : Int32) (x143 : Int32) : Int32 × Int32 × Int32 × Int32 × Int32 × Int32 × Int32 × Int32 :=
  if x143 = 0 then (j_Mo_inResolution_189 kk_15 v15_1 v15_t_captureAt v15_t_displayAt x24) else (k_Mo_inResolution_156 f_t_file kk_15 v15_1 v15_t_captureAt v15_t_displayAt x24 j129_3 (m_Mo_u2 f_t_file (x24.2.2.1 + 2)))
def ok_Mo_inResolution_143 (f_t_file : Nat → Int32) (okk_15 : Int32 → Int32 → Int32 → Int32 → Int32 → Int32 → Prop) (v15_t_captureAt : Int32) (v15_t_displayAt : Int32) (x24 : Int32 × Int32 × Int32 × Int32) (j129_3 : Int32) (x143 : Int32) : Prop :=
  if x143 = 0 then (oj_Mo_inResolution_189 okk_15 v15_t_captureAt v15_t_displayAt x24) else (om_Mo_u2 (x24.2.2.1 + 2) ∧ (ok_Mo_inResolution_156 f_t_file okk_15 v15_t_captureAt v15_t_displayAt x24 j129_3 (m_Mo_u2 f_t_file (x24.2.2.1 + 2))))
def j_Mo_inResolution_129 (f_t_file : Nat → Int32) (kk_15 : Int32 → Int32 → Int32 → Int32 → Int32 → Int32 → Int32 × Int32 × Int32 × Int32 × Int32 × Int32 × Int32 × Int32) (v15_1 : Int32) (v15_t_captureAt : Int32) (v15_t_displayAt : Int32) (x24 : Int32 × Int32 × Int32 × Int32) (j51_s0 : Int32) (j129_3 : Int32) : Int32 × Int32 × Int32 × Int32 × Int32 × Int32 × Int32 × Int32 :=
  if j129_3 = 0 then (if j51_s0 = 0 then (j_Mo_inResolution_191 kk_15 v15_1 v15_t_captureAt v15_t_displayAt x24 j129_3) else (k_Mo_inResolution_143 f_t_file kk_15 v15_1 v15_t_captureAt v15_t_displayAt x24 j129_3 (m_Mo_u2 f_t_file x24.2.2.1))) else (j_Mo_inResolution_191 kk_15 v15_1 v15_t_captureAt v15_t_displayAt x24 j129_3)
def oj_Mo_inResolution_129 (f_t_file : Nat → Int32) (okk_15 : Int32 → Int32 → Int32 → Int32 → Int32 → Int32 → Prop) (v15_t_captureAt : Int32) (v15_t_displayAt : Int32) (x24 : Int32 × Int32 × Int32 × Int32) (j51_s0 : Int32) (j129_3 : Int32) : Prop :=
  if j129_3 = 0 then (if j51_s0 = 0 then (oj_Mo_inResolution_191 okk_15 v15_t_captureAt v15_t_displayAt x24 j129_3) else (om_Mo_u2 x24.2.2.1 ∧ (ok_Mo_inResolution_143 f_t_file okk_15 v15_t_captureAt v15_t_displayAt x24 j129_3 (m_Mo_u2 f_t_file x24.2.2.1)))) else (oj_Mo_inResolution_191 okk_15 v15_t_captureAt v15_t_displayAt x24 j129_3)
def j_Mo_inResolution_128 (f_t_file : Nat → Int32) (kk_15 : Int32 → Int32 → Int32 → Int32 → Int32 → Int32 → Int32 × Int32 × Int32 × Int32 × Int32 × Int32 × Int32 × Int32) (v15_1 : Int32) (v15_t_captureAt : Int32) (v15_t_displayAt : Int32) (x24 : Int32 × Int32 × Int32 × Int32) (j51_s0 : Int32) (j128_s0 : Int32) : Int32 × Int32 × Int32 × Int32 × Int32 × Int32 × Int32 × Int32 :=
  j_Mo_inResolution_129 f_t_file kk_15 v15_1 v15_t_captureAt v15_t_displayAt x24 j51_s0 j128_s0
def oj_Mo_inResolution_128 (f_t_file : Nat → Int32) (okk_15 : Int32 → Int32 → Int32 → Int32 → Int32 → Int32 → Prop) (v15_t_captureAt : Int32) (v15_t_displayAt : Int32) (x24 : Int32 × Int32 × Int32 × Int32) (j51_s0 : Int32) (j128_s0 : Int32) : Prop :=
  oj_Mo_inResolution_129 f_t_file okk_15 v15_t_captureAt v15_t_displayAt x24 j51_s0 j128_s0
def j_Mo_inResolution_123 (f_t_file : Nat → Int32) (kk_15 : Int32 → Int32 → Int32 → Int32 → Int32 → Int32 → Int32 × Int32 × Int32 × Int32 × Int32 × Int32 × Int32 × Int32) (v15_1 : Int32) (v15_t_captureAt : Int32) (v15_t_displayAt : Int32) (x24 : Int32 × Int32 × Int32 × Int32) (j51_s0 : Int32) : Int32 × Int32 × Int32 × Int32 × Int32 × Int32 × Int32 × Int32 :=
  j_Mo_inResolution_128 f_t_file kk_15 v15_1 v15_t_captureAt v15_t_displayAt x24 j51_s0 4
def oj_Mo_inResolution_123 (f_t_file : Nat → Int32) (okk_15 : Int32 → Int32 → Int32 → Int32 → Int32 → Int32 → Prop) (v15_t_captureAt : Int32) (v15_t_displayAt : Int32) (x24 : Int32 × Int32 × Int32 × Int32) (j51_s0 : Int32) : Prop :=
  oj_Mo_inResolution_128 f_t_file okk_15 v15_t_captureAt v15_t_displayAt x24 j51_s0 4
def j_Mo_inResolution_127 (f_t_file : Nat → Int32) (kk_15 : Int32 → Int32 → Int32 → Int32 → Int32 → Int32 → Int32 × Int32 × Int32 × Int32 × Int32 × Int32 × Int32 × Int32) (v15_1 : Int32) (v15_t_captureAt : Int32) (v15_t_displayAt : Int32) (x24 : Int32 × Int32 × Int32 × Int32) (j51_s0 : Int32) : Int32 × Int32 × Int32 × Int32 × Int32 × Int32 × Int32 × Int32 :=
  j_Mo_inResolution_128 f_t_file kk_15 v15_1 v15_t_captureAt v15_t_displayAt x24 j51_s0 0
def oj_Mo_inResolution_127 (f_t_file : Nat → Int32) (okk_15 : Int32 → Int32 → Int32 → Int32 → Int32 → Int32 → Prop) (v15_t_captureAt : Int32) (v15_t_displayAt : Int32) (x24 : Int32 × Int32 × Int32 × Int32) (j51_s0 : Int32) : Prop :=
  oj_Mo_inResolution_128 f_t_file okk_15 v15_t_captureAt v15_t_displayAt x24 j51_s0 0
def j_Mo_inResolution_107 (f_t_file : Nat → Int32) (kk_15 : Int32 → Int32 → Int32 → Int32 → Int32 → Int32 → Int32 × Int32 × Int32 × Int32 × Int32 × Int32 × Int32 × Int32) (v15_1 : Int32) (v15_t_captureAt : Int32) (v15_t_displayAt : Int32) (x24 : Int32 × Int32 × Int32 × Int32) (j51_s0 : Int32) : Int32 × Int32 × Int32 × Int32 × Int32 × Int32 × Int32 × Int32 :=
  if x24.2.1 = 1919251300 then (if v15_t_displayAt ≤ 0 then (j_Mo_inResolution_127 f_t_file kk_15 v15_1 v15_t_captureAt v15_t_displayAt x24 j51_s0) else (j_Mo_inResolution_123 f_t_file kk_15 v15_1 v15_t_captureAt v15_t_displayAt x24 j51_s0)) else (j_Mo_inResolution_127 f_t_file kk_15 v15_1 v15_t_captureAt v15_t_displayAt x24 j51_s0)
def oj_Mo_inResolution_107 (f_t_file : Nat → Int32) (okk_15 : Int32 → Int32 → Int32 → Int32 → Int32 → Int32 → Prop) (v15_t_captureAt : Int32) (v15_t_displayAt : Int32) (x24 : Int32 × Int32 × Int32 × Int32) (j51_s0 : Int32) : Prop :=
  if x24.2.1 = 1919251300 then (if v15_t_displayAt ≤ 0 then (oj_Mo_inResolution_127 f_t_file okk_15 v15_t_captureAt v15_t_displayAt x24 j51_s0) else (oj_Mo_inResolution_123 f_t_file okk_15 v15_t_captureAt v15_t_displayAt x24 j51_s0)) else (oj_Mo_inResolution_127 f_t_file okk_15 v15_t_captureAt v15_t_displayAt x24 j51_s0)
def j_Mo_inResolution_91 (f_t_file : Nat → Int32) (kk_15 : Int32 → Int32 → Int32 → Int32 → Int32 → Int32 → Int32 × Int32 × Int32 × Int32 × Int32 × Int32 × Int32 × Int32) (v15_1 : Int32) (v15_t_captureAt : Int32) (v15_t_displayAt : Int32) (x24 : Int32 × Int32 × Int32 × Int32) (j51_s0 : Int32) : Int32 × Int32 × Int32 × Int32 × Int32 × Int32 × Int32 × Int32 :=
  if x24.2.1 = 1919251299 then (if 0 < v15_t_captureAt then (j_Mo_inResolution_123 f_t_file kk_15 v15_1 v15_t_captureAt v15_t_displayAt x24 j51_s0) else (j_Mo_inResolution_107 f_t_file kk_15 v15_1 v15_t_captureAt v15_t_displayAt x24 j51_s0)) else (j_Mo_inResolution_107 f_t_file kk_15 v15_1 v15_t_captureAt v15_t_displayAt x24 j51_s0)
def oj_Mo_inResolution_91 (f_t_file : Nat → Int32) (okk_15 : Int32 → Int32 → Int32 → Int32 → Int32 → Int32 → Prop) (v15_t_captureAt : Int32) (v15_t_displayAt : Int32) (x24 : Int32 × Int32 × Int32 × Int32) (j51_s0 : Int32) : Prop :=
  if x24.2.1 = 1919251299 then (if 0 < v15_t_captureAt then (oj_Mo_inResolution_123 f_t_file okk_15 v15_t_captureAt v15_t_displayAt x24 j51_s0) else (oj_Mo_inResolution_107 f_t_file okk_15 v15_t_captureAt v15_t_displayAt x24 j51_s0)) else (oj_Mo_inResolution_107 f_t_file okk_15 v15_t_captureAt v15_t_displayAt x24 j51_s0)
def k_Mo_inResolution_58 (f_t_file : Nat → Int32) (kk_15 : Int32 → Int32 → Int32 → Int32 → Int32 → Int32 → Int32 × Int32 × Int32 × Int32 × Int32 × Int32 × Int32 × Int32) (v15_1 : Int32) (v15_t_captureAt : Int32) (v15_t_displayAt : Int32) (x24 : Int32 × Int32 × Int32 × Int32) (j51_s0 : Int32) (x58 : Int32) : Int32 × Int32 × Int32 × Int32 × Int32 × Int32 × Int32 × Int32 :=
  if x58 = 0 then (if j51_s0 = 0 then (j_Mo_inResolution_91 f_t_file kk_15 v15_1 v15_t_captureAt v15_t_displayAt x24 j51_s0) else (if (x24.2.2.2 - x24.2.2.1) = 10 then (j_Mo_inResolution_91 f_t_file kk_15 v15_1 v15_t_captureAt v15_t_displayAt x24 j51_s0) else (j_Mo_inResolution_128 f_t_file kk_15 v15_1 v15_t_captureAt v15_t_displayAt x24 j51_s0 3))) else (j_Mo_inResolution_128 f_t_file kk_15 v15_1 v15_t_captureAt v15_t_displayAt x24 j51_s0 2)
def ok_Mo_inResolution_58 (f_t_file : Nat → Int32) (okk_15 : Int32 → Int32 → Int32 → Int32 → Int32 → Int32 → Prop) (v15_t_captureAt : Int32) (v15_t_displayAt : Int32) (x24 : Int32 × Int32 × Int32 × Int32) (j51_s0 : Int32) (x58 : Int32) : Prop :=
  if x58 = 0 then (if j51_s0 = 0 then (oj_Mo_inResolution_91 f_t_file okk_15 v15_t_captureAt v15_t_displayAt x24 j51_s0) else (if (x24.2.2.2 - x24.2.2.1) = 10 then (oj_Mo_inResolution_91 f_t_file okk_15 v15_t_captureAt v15_t_displayAt x24 j51_s0) else (oj_Mo_inResolution_128 f_t_file okk_15 v15_t_captureAt v15_t_displayAt x24 j51_s0 3))) else (oj_Mo_inResolution_128 f_t_file okk_15 v15_t_captureAt v15_t_displayAt x24 j51_s0 2)
def j_Mo_inResolution_51 (f_t_file : Nat → Int32) (kk_15 : Int32 → Int32 → Int32 → Int32 → Int32 → Int32 → Int32 × Int32 × Int32 × Int32 × Int32 × Int32 × Int32 × Int32) (v15_1 : Int32) (v15_t_captureAt : Int32) (v15_t_displayAt : Int32) (x24 : Int32 × Int32 × Int32 × Int32) (j51_s0 : Int32) : Int32 × Int32 × Int32 × Int32 × Int32 × Int32 × Int32 × Int32 :=
  if x24.1 = 0 then (k_Mo_inResolution_58 f_t_file kk_15 v15_1 v15_t_captureAt v15_t_displayAt x24 j51_s0 (m_Mo_isTop x24.2.1)) else (j_Mo_inResolution_129 f_t_file kk_15 v15_1 v15_t_captureAt v15_t_displayAt x24 j51_s0 x24.1)
def oj_Mo_inResolution_51 (f_t_file : Nat → Int32) (okk_15 : Int32 → Int32 → Int32 → Int32 → Int32 → Int32 → Prop) (v15_t_captureAt : Int32) (v15_t_displayAt : Int32) (x24 : Int32 × Int32 × Int32 × Int32) (j51_s0 : Int32) : Prop :=
  if x24.1 = 0 then (om_Mo_isTop x24.2.1 ∧ (ok_Mo_inResolution_58 f_t_file okk_15 v15_t_captureAt v15_t_displayAt x24 j51_s0 (m_Mo_isTop x24.2.1))) else (oj_Mo_inResolution_129 f_t_file okk_15 v15_t_captureAt v15_t_displayAt x24 j51_s0 x24.1)
def j_Mo_inResolution_46 (f_t_file : Nat → Int32) (kk_15 : Int32 → Int32 → Int32 → Int32 → Int32 → Int32 → Int32 × Int32 × Int32 × Int32 × Int32 × Int32 × Int32 × Int32) (v15_1 : Int32) (v15_t_captureAt : Int32) (v15_t_displayAt : Int32) (x24 : Int32 × Int32 × Int32 × Int32) : Int32 × Int32 × Int32 × Int32 × Int32 × Int32 × Int32 × Int32 :=
  j_Mo_inResolution_51 f_t_file kk_15 v15_1 v15_t_captureAt v15_t_displayAt x24 1
def oj_Mo_inResolution_46 (f_t_file : Nat → Int32) (okk_15 : Int32 → Int32 → Int32 → Int32 → Int32 → Int32 → Prop) (v15_t_captureAt : Int32) (v15_t_displayAt : Int32) (x24 : Int32 × Int32 × Int32 × Int32) : Prop :=
  oj_Mo_inResolution_51 f_t_file okk_15 v15_t_captureAt v15_t_displayAt x24 1
def k_Mo_inResolution_24 (f_t_file : Nat → Int32) (kk_15 : Int32 → Int32 → Int32 → Int32 → Int32 → Int32 → Int32 × Int32 × Int32 × Int32 × Int32 × Int32 × Int32 × Int32) (v15_1 : Int32) (v15_t_captureAt : Int32) (v15_t_displayAt : Int32) (x24 : Int32 × Int32 × Int32 × Int32) : Int32 × Int32 × Int32 × Int32 × Int32 × Int32 × Int32 × Int32 :=
  if x24.2.1 = 1919251299 then (j_Mo_inResolution_46 f_t_file kk_15 v15_1 v15_t_captureAt v15_t_displayAt x24) else (if x24.2.1 = 1919251300 then (j_Mo_inResolution_46 f_t_file kk_15 v15_1 v15_t_captureAt v15_t_displayAt x24) else (j_Mo_inResolution_51 f_t_file kk_15 v15_1 v15_t_captureAt v15_t_displayAt x24 0))
def ok_Mo_inResolution_24 (f_t_file : Nat → Int32) (okk_15 : Int32 → Int32 → Int32 → Int32 → Int32 → Int32 → Prop) (v15_t_captureAt : Int32) (v15_t_displayAt : Int32) (x24 : Int32 × Int32 × Int32 × Int32) : Prop :=
  if x24.2.1 = 1919251299 then (oj_Mo_inResolution_46 f_t_file okk_15 v15_t_captureAt v15_t_displayAt x24) else (if x24.2.1 = 1919251300 then (oj_Mo_inResolution_46 f_t_file okk_15 v15_t_captureAt v15_t_displayAt x24) else (oj_Mo_inResolution_51 f_t_file okk_15 v15_t_captureAt v15_t_displayAt x24 0))
def lb_Mo_inResolution_15 (t_refusedAt : Int32) (t_end : Int32) (f_t_file : Nat → Int32) (kk_15 : Int32 → Int32 → Int32 → Int32 → Int32 → Int32 → Int32 × Int32 × Int32 × Int32 × Int32 × Int32 × Int32 × Int32) (v15_1 : Int32) (v15_t_name : Int32) (v15_t_from : Int32) (v15_t_end : Int32) (v15_t_captureAt : Int32) (v15_t_displayAt : Int32) : Int32 × Int32 × Int32 × Int32 × Int32 × Int32 × Int32 × Int32 :=
  if t_end ≤ v15_1 then (0, t_refusedAt, v15_t_name, v15_t_from, v15_t_end, v15_t_captureAt, v15_t_displayAt, 1) else (k_Mo_inResolution_24 f_t_file kk_15 v15_1 v15_t_captureAt v15_t_displayAt (m_Mo_frame v15_t_name v15_t_from v15_t_end f_t_file v15_1 t_end 0))
def lp_Mo_inResolution_15 (t_refusedAt : Int32) (t_end : Int32) (f_t_file : Nat → Int32) : Nat → Int32 → Int32 → Int32 → Int32 → Int32 → Int32 → Int32 × Int32 × Int32 × Int32 × Int32 × Int32 × Int32 × Int32
  | 0, v15_1, v15_t_name, v15_t_from, v15_t_end, v15_t_captureAt, v15_t_displayAt => (0, t_refusedAt, v15_t_name, v15_t_from, v15_t_end, v15_t_captureAt, v15_t_displayAt, 1)
  | n + 1, v15_1, v15_t_name, v15_t_from, v15_t_end, v15_t_captureAt, v15_t_displayAt => lb_Mo_inResolution_15 t_refusedAt t_end f_t_file (lp_Mo_inResolution_15 t_refusedAt t_end f_t_file n) v15_1 v15_t_name v15_t_from v15_t_end v15_t_captureAt v15_t_displayAt
def olb_Mo_inResolution_15 (t_end : Int32) (f_t_file : Nat → Int32) (okk_15 : Int32 → Int32 → Int32 → Int32 → Int32 → Int32 → Prop) (v15_1 : Int32) (v15_t_name : Int32) (v15_t_from : Int32) (v15_t_end : Int32) (v15_t_captureAt : Int32) (v15_t_displayAt : Int32) : Prop :=
  if t_end ≤ v15_1 then True else (om_Mo_frame f_t_file v15_1 t_end 0 ∧ (ok_Mo_inResolution_24 f_t_file okk_15 v15_t_captureAt v15_t_displayAt (m_Mo_frame v15_t_name v15_t_from v15_t_end f_t_file v15_1 t_end 0)))
def olp_Mo_inResolution_15 (t_end : Int32) (f_t_file : Nat → Int32) : Nat → Int32 → Int32 → Int32 → Int32 → Int32 → Int32 → Prop
  | 0, _, _, _, _, _, _ => False
  | n + 1, v15_1, v15_t_name, v15_t_from, v15_t_end, v15_t_captureAt, v15_t_displayAt => olb_Mo_inResolution_15 t_end f_t_file (olp_Mo_inResolution_15 t_end f_t_file n) v15_1 v15_t_name v15_t_from v15_t_end v15_t_captureAt v15_t_displayAt
def om_Mo_inResolution (t_name : Int32) (t_from : Int32) (t_end : Int32) (t_captureAt : Int32) (t_displayAt : Int32) (f_t_file : Nat → Int32) : Prop :=
  olp_Mo_inResolution_15 t_end f_t_file 70000 t_from t_name t_from t_end t_captureAt t_displayAt
def m_Mo_inResolution (t_refusedAt : Int32) (t_name : Int32) (t_from : Int32) (t_end : Int32) (t_captureAt : Int32) (t_displayAt : Int32) (f_t_file : Nat → Int32) : Int32 × Int32 × Int32 × Int32 × Int32 × Int32 × Int32 × Int32 :=
  lp_Mo_inResolution_15 t_refusedAt t_end f_t_file 70000 t_from t_name t_from t_end t_captureAt t_displayAt
set_option maxHeartbeats 4000000 in
set_option maxRecDepth 100000 in
theorem c_Mo_inResolution (l : Launch) (D : va_G) (cB cI cJ : ClassId) (h_t h_t_bits h_t_profile h_t_columnBits h_t_numbers h_t_map h_t_line h_t_resolutions h_t_file : Nat) (t_thrown : Int32) (t_high : Int32) (t_wide : Int32) (t_components : Int32) (t_unknown : Int32) (t_rights : Int32) (t_colours : Int32) (t_profiled : Int32) (t_entries : Int32) (t_columns : Int32) (t_maps : Int32) (t_lines : Int32) (t_size : Int32) (t_scanned : Int32) (t_refusedAt : Int32) (t_cursor : Int32) (t_streamAt : Int32) (t_streamMany : Int32) (t_name : Int32) (t_from : Int32) (t_end : Int32) (t_sizeAt : Int32) (t_bitsAt : Int32) (t_colourAt : Int32) (t_colourEnd : Int32) (t_paletteAt : Int32) (t_mapAt : Int32) (t_mapEnd : Int32) (t_channelsAt : Int32) (t_captureAt : Int32) (t_displayAt : Int32) (t_resolved : Int32) (f_t_file : Nat → Int32) (hO : om_Mo_inResolution t_name t_from t_end t_captureAt t_displayAt f_t_file) (sz : Nat) : Ct l D cB cI cJ y_Mo_inResolution b_Mo_inResolution 5 (some .int) 3 67 0 0 [.ref h_t] [(h_t, .inr (7, (.int t_thrown :: .int t_high :: .int t_wide :: .int t_components :: .ref h_t_bits :: .int t_unknown :: .int t_rights :: .int t_colours :: .int t_profiled :: .ref h_t_profile :: .int t_entries :: .int t_columns :: .ref h_t_columnBits :: .ref h_t_numbers :: .int t_maps :: .ref h_t_map :: .int t_lines :: .ref h_t_line :: .ref h_t_resolutions :: .ref h_t_file :: .int t_size :: .int t_scanned :: .int t_refusedAt :: .int t_cursor :: .int t_streamAt :: .int t_streamMany :: .int t_name :: .int t_from :: .int t_end :: .int t_sizeAt :: .int t_bitsAt :: .int t_colourAt :: .int t_colourEnd :: .int t_paletteAt :: .int t_mapAt :: .int t_mapEnd :: .int t_channelsAt :: .int t_captureAt :: .int t_displayAt :: .int t_resolved :: []))), (h_t_file, .inl (cI, 65536, .inl f_t_file))] (fun v w1 => ∃ (x : Int32 × Int32 × Int32 × Int32 × Int32 × Int32 × Int32 × Int32), x = m_Mo_inResolution t_refusedAt t_name t_from t_end t_captureAt t_displayAt f_t_file ∧ v = some (.int x.1) ∧ w1 = [(h_t, .inr (7, (.int t_thrown :: .int t_high :: .int t_wide :: .int t_components :: .ref h_t_bits :: .int t_unknown :: .int t_rights :: .int t_colours :: .int t_profiled :: .ref h_t_profile :: .int t_entries :: .int t_columns :: .ref h_t_columnBits :: .ref h_t_numbers :: .int t_maps :: .ref h_t_map :: .int t_lines :: .ref h_t_line :: .ref h_t_resolutions :: .ref h_t_file :: .int t_size :: .int t_scanned :: .int x.2.1 :: .int t_cursor :: .int t_streamAt :: .int t_streamMany :: .int x.2.2.1 :: .int x.2.2.2.1 :: .int x.2.2.2.2.1 :: .int t_sizeAt :: .int t_bitsAt :: .int t_colourAt :: .int t_colourEnd :: .int t_paletteAt :: .int t_mapAt :: .int t_mapEnd :: .int t_channelsAt :: .int x.2.2.2.2.2.1 :: .int x.2.2.2.2.2.2.1 :: .int x.2.2.2.2.2.2.2 :: []))), (h_t_file, .inl (cI, 65536, .inl f_t_file))]) sz := by
  refine Ct.of (by decide) (Nat.le_of_ble_eq_true rfl) ?_
  intro p e R s m args below meth c A ls Q hx hb hr hlk hml hta hown hin hK hN hA hRf hRl hRc hRs hP hD hS hl hQ
  have hl : lv_has ls 5 [(0, .ref h_t)] := hl
  obtain ⟨RES, E0⟩ : ∃ R, m_Mo_inResolution t_refusedAt t_name t_from t_end t_captureAt t_displayAt f_t_file = R := ⟨_, rfl⟩
  have E := E0
  have O := hO
  refine lv_aload_n hx hb d_Mo_inResolution_0 rfl (lv_at hl 0 rfl) ?_
  refine va_get (D := D) (v := .int t_from) hx hb hta i_Mo hown hK hP 0 rfl rfl 27 (by decide) (hta _ lk_Mo_219) (fun _ h9 => h9) rfl d_Mo_inResolution_1 ?_
  refine lv_istore_n (lv' := [(1, .int t_from), (0, .ref h_t)]) hx hb d_Mo_inResolution_4 rfl hl (by decide) rfl (fun ls hl => ?_)
  refine lv_aload_n hx hb d_Mo_inResolution_5 rfl (lv_at hl 1 rfl) ?_
  refine va_get (D := D) (v := .int t_end) hx hb hta i_Mo hown hK hP 0 rfl rfl 28 (by decide) (hta _ lk_Mo_222) (fun _ h9 => h9) rfl d_Mo_inResolution_6 ?_
  refine lv_istore_n (lv' := [(2, .int t_end), (1, .int t_from), (0, .ref h_t)]) hx hb d_Mo_inResolution_9 rfl hl (by decide) rfl (fun ls hl => ?_)
  refine lv_aload_n hx hb d_Mo_inResolution_10 rfl (lv_at hl 2 rfl) ?_
  refine lv_iconst (v := 1) hx hb d_Mo_inResolution_11 (by decide) ?_
  refine va_put (D := D) (ty := .boolean) hx hb hta i_Mo t_Mo t_Mo_ok n_Mo hown hK hP hD hS 0 rfl rfl 39 (by decide) (hta _ lk_Mo_247) (fun _ h9 => h9) rfl (by decide +kernel) rfl rfl (Nat.le_of_ble_eq_true rfl) d_Mo_inResolution_12 (fun H locs (hP : va_P D classes [(h_t, .inr (7, (.int t_thrown :: .int t_high :: .int t_wide :: .int t_components :: .ref h_t_bits :: .int t_unknown :: .int t_rights :: .int t_colours :: .int t_profiled :: .ref h_t_profile :: .int t_entries :: .int t_columns :: .ref h_t_columnBits :: .ref h_t_numbers :: .int t_maps :: .ref h_t_map :: .int t_lines :: .ref h_t_line :: .ref h_t_resolutions :: .ref h_t_file :: .int t_size :: .int t_scanned :: .int t_refusedAt :: .int t_cursor :: .int t_streamAt :: .int t_streamMany :: .int t_name :: .int t_from :: .int t_end :: .int t_sizeAt :: .int t_bitsAt :: .int t_colourAt :: .int t_colourEnd :: .int t_paletteAt :: .int t_mapAt :: .int t_mapEnd :: .int t_channelsAt :: .int t_captureAt :: .int t_displayAt :: .int 1 :: []))), (h_t_file, .inl (cI, 65536, .inl f_t_file))] H) (hD : va_D A [(h_t, .inr (7, (.int t_thrown :: .int t_high :: .int t_wide :: .int t_components :: .ref h_t_bits :: .int t_unknown :: .int t_rights :: .int t_colours :: .int t_profiled :: .ref h_t_profile :: .int t_entries :: .int t_columns :: .ref h_t_columnBits :: .ref h_t_numbers :: .int t_maps :: .ref h_t_map :: .int t_lines :: .ref h_t_line :: .ref h_t_resolutions :: .ref h_t_file :: .int t_size :: .int t_scanned :: .int t_refusedAt :: .int t_cursor :: .int t_streamAt :: .int t_streamMany :: .int t_name :: .int t_from :: .int t_end :: .int t_sizeAt :: .int t_bitsAt :: .int t_colourAt :: .int t_colourEnd :: .int t_paletteAt :: .int t_mapAt :: .int t_mapEnd :: .int t_channelsAt :: .int t_captureAt :: .int t_displayAt :: .int 1 :: []))), (h_t_file, .inl (cI, 65536, .inl f_t_file))]) hS => ?_)
  have L_15 : ∀ (n : Nat) (v15_1 : Int32) (v15_t_name : Int32) (v15_t_from : Int32) (v15_t_end : Int32) (v15_t_captureAt : Int32) (v15_t_displayAt : Int32), lp_Mo_inResolution_15 t_refusedAt t_end f_t_file n v15_1 v15_t_name v15_t_from v15_t_end v15_t_captureAt v15_t_displayAt = RES → olp_Mo_inResolution_15 t_end f_t_file n v15_1 v15_t_name v15_t_from v15_t_end v15_t_captureAt v15_t_displayAt → ∀ (H : Heap) (locs : List Loc), va_P D classes [(h_t, .inr (7, (.int t_thrown :: .int t_high :: .int t_wide :: .int t_components :: .ref h_t_bits :: .int t_unknown :: .int t_rights :: .int t_colours :: .int t_profiled :: .ref h_t_profile :: .int t_entries :: .int t_columns :: .ref h_t_columnBits :: .ref h_t_numbers :: .int t_maps :: .ref h_t_map :: .int t_lines :: .ref h_t_line :: .ref h_t_resolutions :: .ref h_t_file :: .int t_size :: .int t_scanned :: .int t_refusedAt :: .int t_cursor :: .int t_streamAt :: .int t_streamMany :: .int v15_t_name :: .int v15_t_from :: .int v15_t_end :: .int t_sizeAt :: .int t_bitsAt :: .int t_colourAt :: .int t_colourEnd :: .int t_paletteAt :: .int t_mapAt :: .int t_mapEnd :: .int t_channelsAt :: .int v15_t_captureAt :: .int v15_t_displayAt :: .int 1 :: []))), (h_t_file, .inl (cI, 65536, .inl f_t_file))] H → va_D A [(h_t, .inr (7, (.int t_thrown :: .int t_high :: .int t_wide :: .int t_components :: .ref h_t_bits :: .int t_unknown :: .int t_rights :: .int t_colours :: .int t_profiled :: .ref h_t_profile :: .int t_entries :: .int t_columns :: .ref h_t_columnBits :: .ref h_t_numbers :: .int t_maps :: .ref h_t_map :: .int t_lines :: .ref h_t_line :: .ref h_t_resolutions :: .ref h_t_file :: .int t_size :: .int t_scanned :: .int t_refusedAt :: .int t_cursor :: .int t_streamAt :: .int t_streamMany :: .int v15_t_name :: .int v15_t_from :: .int v15_t_end :: .int t_sizeAt :: .int t_bitsAt :: .int t_colourAt :: .int t_colourEnd :: .int t_paletteAt :: .int t_mapAt :: .int t_mapEnd :: .int t_channelsAt :: .int v15_t_captureAt :: .int v15_t_displayAt :: .int 1 :: []))), (h_t_file, .inl (cI, 65536, .inl f_t_file))] → va_S A s.heap H locs → ∀ ls : Array Slot, lv_has ls 5 [(2, .int t_end), (1, .int v15_1), (0, .ref h_t)] → W p l e R s m args below meth c H locs 0 0 Q (F0 m 15 ls []) := by
    intro n
    induction n with
    | zero => intro v15_1 v15_t_name v15_t_from v15_t_end v15_t_captureAt v15_t_displayAt E O; exact O.elim
    | succ n ih =>
      intro v15_1 v15_t_name v15_t_from v15_t_end v15_t_captureAt v15_t_displayAt E O H locs hP hD hS ls hl
      have E : lb_Mo_inResolution_15 t_refusedAt t_end f_t_file (lp_Mo_inResolution_15 t_refusedAt t_end f_t_file n) v15_1 v15_t_name v15_t_from v15_t_end v15_t_captureAt v15_t_displayAt = RES := E
      have O : olb_Mo_inResolution_15 t_end f_t_file (olp_Mo_inResolution_15 t_end f_t_file n) v15_1 v15_t_name v15_t_from v15_t_end v15_t_captureAt v15_t_displayAt := O
      generalize lp_Mo_inResolution_15 t_refusedAt t_end f_t_file n = kk_15 at ih E
      generalize olp_Mo_inResolution_15 t_end f_t_file n = okk_15 at ih O
      have ih_15 := ih
      clear ih
      refine lv_iload_n hx hb d_Mo_inResolution_15 rfl (lv_at hl 1 rfl) ?_
      refine lv_iload_n hx hb d_Mo_inResolution_16 rfl (lv_at hl 0 rfl) ?_
      refine lv_icmp_ge (tgt := 258) hx hb d_Mo_inResolution_17 (by decide) (fun c_17 => ?_) (fun c_17 => ?_)
      · have E := (if_pos c_17).symm.trans E
        have O := Eq.mp (if_pos c_17) O
        refine lv_iconst (v := 0) hx hb d_Mo_inResolution_258 (by decide) ?_
        exact kr_i hx hb hr hlk hQ hK hP hD hS ⟨((0, t_refusedAt, v15_t_name, v15_t_from, v15_t_end, v15_t_captureAt, v15_t_displayAt, 1) : Int32 × Int32 × Int32 × Int32 × Int32 × Int32 × Int32 × Int32), E.trans E0.symm, rfl, rfl⟩ (by omega) (by omega) d_Mo_inResolution_259
      · have E := (if_neg c_17).symm.trans E
        have O := Eq.mp (if_neg c_17) O
        refine lv_aload_n hx hb d_Mo_inResolution_20 rfl (lv_at hl 2 rfl) ?_
        refine lv_iload_n hx hb d_Mo_inResolution_21 rfl (lv_at hl 1 rfl) ?_
        refine lv_iload_n hx hb d_Mo_inResolution_22 rfl (lv_at hl 0 rfl) ?_
        refine lv_iconst (v := 0) hx hb d_Mo_inResolution_23 (by decide) ?_
        refine kc_V (As := [.int v15_1, .int t_end, .int 0]) (rest := []) (wr := []) [0, 1] [] ⟨hx, hb, hml, hown, hta⟩ hK hN hP hD hS hA (c_Mo_frame l D cB cI cJ h_t h_t_bits h_t_profile h_t_columnBits h_t_numbers h_t_map h_t_line h_t_resolutions h_t_file t_thrown t_high t_wide t_components t_unknown t_rights t_colours t_profiled t_entries t_columns t_maps t_lines t_size t_scanned t_refusedAt t_cursor t_streamAt t_streamMany v15_t_name v15_t_from v15_t_end t_sizeAt t_bitsAt t_colourAt t_colourEnd t_paletteAt t_mapAt t_mapEnd t_channelsAt v15_t_captureAt v15_t_displayAt 1 f_t_file v15_1 t_end 0 O.1 _) (hta _ lk_Mo_267) (hta _ ini_Mo) (hta _ code_Mo_frame) code_Mo_frame (hta _ inst_Mo_frame) (hta _ sel_Mo_frame) hd_Mo_frame rfl ⟨by omega, by omega⟩ (ci := 7) 0 rfl rfl rfl rfl (by decide) (by decide) (by decide) rfl hl.1 (lv_room (Nat.le_of_ble_eq_true rfl)) d_Mo_inResolution_24 ⟨by omega, by omega⟩ (fun v w1 H locs hw hP hD hS => ?_)
        obtain ⟨x24, hx24, rfl, rfl⟩ := hw
        have hP : va_P D classes [(h_t, .inr (7, (.int t_thrown :: .int t_high :: .int t_wide :: .int t_components :: .ref h_t_bits :: .int t_unknown :: .int t_rights :: .int t_colours :: .int t_profiled :: .ref h_t_profile :: .int t_entries :: .int t_columns :: .ref h_t_columnBits :: .ref h_t_numbers :: .int t_maps :: .ref h_t_map :: .int t_lines :: .ref h_t_line :: .ref h_t_resolutions :: .ref h_t_file :: .int t_size :: .int t_scanned :: .int t_refusedAt :: .int t_cursor :: .int t_streamAt :: .int t_streamMany :: .int x24.2.1 :: .int x24.2.2.1 :: .int x24.2.2.2 :: .int t_sizeAt :: .int t_bitsAt :: .int t_colourAt :: .int t_colourEnd :: .int t_paletteAt :: .int t_mapAt :: .int t_mapEnd :: .int t_channelsAt :: .int v15_t_captureAt :: .int v15_t_displayAt :: .int 1 :: []))), (h_t_file, .inl (cI, 65536, .inl f_t_file))] H := hP.sub [0, 1] rfl
        have hD : va_D A [(h_t, .inr (7, (.int t_thrown :: .int t_high :: .int t_wide :: .int t_components :: .ref h_t_bits :: .int t_unknown :: .int t_rights :: .int t_colours :: .int t_profiled :: .ref h_t_profile :: .int t_entries :: .int t_columns :: .ref h_t_columnBits :: .ref h_t_numbers :: .int t_maps :: .ref h_t_map :: .int t_lines :: .ref h_t_line :: .ref h_t_resolutions :: .ref h_t_file :: .int t_size :: .int t_scanned :: .int t_refusedAt :: .int t_cursor :: .int t_streamAt :: .int t_streamMany :: .int x24.2.1 :: .int x24.2.2.1 :: .int x24.2.2.2 :: .int t_sizeAt :: .int t_bitsAt :: .int t_colourAt :: .int t_colourEnd :: .int t_paletteAt :: .int t_mapAt :: .int t_mapEnd :: .int t_channelsAt :: .int v15_t_captureAt :: .int v15_t_displayAt :: .int 1 :: []))), (h_t_file, .inl (cI, 65536, .inl f_t_file))] := hD.sub [0, 1] (by decide) rfl
        refine W.eq (g2 := F0 m 27 ls [.int x24.1]) rfl ?_
        have O := O.2
        have E : k_Mo_inResolution_24 f_t_file kk_15 v15_1 v15_t_captureAt v15_t_displayAt x24 = RES := (congrArg (k_Mo_inResolution_24 f_t_file kk_15 v15_1 v15_t_captureAt v15_t_displayAt) hx24).trans E
        have O : ok_Mo_inResolution_24 f_t_file okk_15 v15_t_captureAt v15_t_displayAt x24 := by rw [hx24]; exact O
        refine lv_istore_n (lv' := [(3, .int x24.1), (2, .int t_end), (1, .int v15_1), (0, .ref h_t)]) hx hb d_Mo_inResolution_27 rfl hl (by decide) rfl (fun ls hl => ?_)
        refine lv_aload_n hx hb d_Mo_inResolution_28 rfl (lv_at hl 3 rfl) ?_
        refine va_get (D := D) (v := .int x24.2.1) hx hb hta i_Mo hown hK hP 0 rfl rfl 26 (by decide) (hta _ lk_Mo_216) (fun _ h9 => h9) rfl d_Mo_inResolution_29 ?_
        refine lv_ldc (v := 1919251299) hx hb hown (hta _ lk_Mo_188) d_Mo_inResolution_32 ?_
        have J_51 : ∀ (j51_s0 : Int32), j_Mo_inResolution_51 f_t_file kk_15 v15_1 v15_t_captureAt v15_t_displayAt x24 j51_s0 = RES → oj_Mo_inResolution_51 f_t_file okk_15 v15_t_captureAt v15_t_displayAt x24 j51_s0 → ∀ (H : Heap) (locs : List Loc), va_P D classes [(h_t, .inr (7, (.int t_thrown :: .int t_high :: .int t_wide :: .int t_components :: .ref h_t_bits :: .int t_unknown :: .int t_rights :: .int t_colours :: .int t_profiled :: .ref h_t_profile :: .int t_entries :: .int t_columns :: .ref h_t_columnBits :: .ref h_t_numbers :: .int t_maps :: .ref h_t_map :: .int t_lines :: .ref h_t_line :: .ref h_t_resolutions :: .ref h_t_file :: .int t_size :: .int t_scanned :: .int t_refusedAt :: .int t_cursor :: .int t_streamAt :: .int t_streamMany :: .int x24.2.1 :: .int x24.2.2.1 :: .int x24.2.2.2 :: .int t_sizeAt :: .int t_bitsAt :: .int t_colourAt :: .int t_colourEnd :: .int t_paletteAt :: .int t_mapAt :: .int t_mapEnd :: .int t_channelsAt :: .int v15_t_captureAt :: .int v15_t_displayAt :: .int 1 :: []))), (h_t_file, .inl (cI, 65536, .inl f_t_file))] H → va_D A [(h_t, .inr (7, (.int t_thrown :: .int t_high :: .int t_wide :: .int t_components :: .ref h_t_bits :: .int t_unknown :: .int t_rights :: .int t_colours :: .int t_profiled :: .ref h_t_profile :: .int t_entries :: .int t_columns :: .ref h_t_columnBits :: .ref h_t_numbers :: .int t_maps :: .ref h_t_map :: .int t_lines :: .ref h_t_line :: .ref h_t_resolutions :: .ref h_t_file :: .int t_size :: .int t_scanned :: .int t_refusedAt :: .int t_cursor :: .int t_streamAt :: .int t_streamMany :: .int x24.2.1 :: .int x24.2.2.1 :: .int x24.2.2.2 :: .int t_sizeAt :: .int t_bitsAt :: .int t_colourAt :: .int t_colourEnd :: .int t_paletteAt :: .int t_mapAt :: .int t_mapEnd :: .int t_channelsAt :: .int v15_t_captureAt :: .int v15_t_displayAt :: .int 1 :: []))), (h_t_file, .inl (cI, 65536, .inl f_t_file))] → va_S A s.heap H locs → ∀ ls : Array Slot, lv_has ls 5 [(3, .int x24.1), (2, .int t_end), (1, .int v15_1), (0, .ref h_t)] → W p l e R s m args below meth c H locs 0 0 Q (F0 m 51 ls [.int j51_s0]) := by
          intro j51_s0 E O H locs hP hD hS ls hl
          refine lv_istore (lv' := [(4, .int j51_s0), (3, .int x24.1), (2, .int t_end), (1, .int v15_1), (0, .ref h_t)]) hx hb d_Mo_inResolution_51 hl (by decide) rfl (fun ls hl => ?_)
          refine lv_iload_n hx hb d_Mo_inResolution_53 rfl (lv_at hl 1 rfl) ?_
          have J_129 : ∀ (j129_3 : Int32), j_Mo_inResolution_129 f_t_file kk_15 v15_1 v15_t_captureAt v15_t_displayAt x24 j51_s0 j129_3 = RES → oj_Mo_inResolution_129 f_t_file okk_15 v15_t_captureAt v15_t_displayAt x24 j51_s0 j129_3 → ∀ (H : Heap) (locs : List Loc), va_P D classes [(h_t, .inr (7, (.int t_thrown :: .int t_high :: .int t_wide :: .int t_components :: .ref h_t_bits :: .int t_unknown :: .int t_rights :: .int t_colours :: .int t_profiled :: .ref h_t_profile :: .int t_entries :: .int t_columns :: .ref h_t_columnBits :: .ref h_t_numbers :: .int t_maps :: .ref h_t_map :: .int t_lines :: .ref h_t_line :: .ref h_t_resolutions :: .ref h_t_file :: .int t_size :: .int t_scanned :: .int t_refusedAt :: .int t_cursor :: .int t_streamAt :: .int t_streamMany :: .int x24.2.1 :: .int x24.2.2.1 :: .int x24.2.2.2 :: .int t_sizeAt :: .int t_bitsAt :: .int t_colourAt :: .int t_colourEnd :: .int t_paletteAt :: .int t_mapAt :: .int t_mapEnd :: .int t_channelsAt :: .int v15_t_captureAt :: .int v15_t_displayAt :: .int 1 :: []))), (h_t_file, .inl (cI, 65536, .inl f_t_file))] H → va_D A [(h_t, .inr (7, (.int t_thrown :: .int t_high :: .int t_wide :: .int t_components :: .ref h_t_bits :: .int t_unknown :: .int t_rights :: .int t_colours :: .int t_profiled :: .ref h_t_profile :: .int t_entries :: .int t_columns :: .ref h_t_columnBits :: .ref h_t_numbers :: .int t_maps :: .ref h_t_map :: .int t_lines :: .ref h_t_line :: .ref h_t_resolutions :: .ref h_t_file :: .int t_size :: .int t_scanned :: .int t_refusedAt :: .int t_cursor :: .int t_streamAt :: .int t_streamMany :: .int x24.2.1 :: .int x24.2.2.1 :: .int x24.2.2.2 :: .int t_sizeAt :: .int t_bitsAt :: .int t_colourAt :: .int t_colourEnd :: .int t_paletteAt :: .int t_mapAt :: .int t_mapEnd :: .int t_channelsAt :: .int v15_t_captureAt :: .int v15_t_displayAt :: .int 1 :: []))), (h_t_file, .inl (cI, 65536, .inl f_t_file))] → va_S A s.heap H locs → ∀ ls : Array Slot, lv_has ls 5 [(4, .int j51_s0), (3, .int j129_3), (2, .int t_end), (1, .int v15_1), (0, .ref h_t)] → W p l e R s m args below meth c H locs 0 0 Q (F0 m 129 ls []) := by
            intro j129_3 E O H locs hP hD hS ls hl
            refine lv_iload_n hx hb d_Mo_inResolution_129 rfl (lv_at hl 1 rfl) ?_
            have J_191 : ∀ (j191_3 : Int32), j_Mo_inResolution_191 kk_15 v15_1 v15_t_captureAt v15_t_displayAt x24 j191_3 = RES → oj_Mo_inResolution_191 okk_15 v15_t_captureAt v15_t_displayAt x24 j191_3 → ∀ (H : Heap) (locs : List Loc), va_P D classes [(h_t, .inr (7, (.int t_thrown :: .int t_high :: .int t_wide :: .int t_components :: .ref h_t_bits :: .int t_unknown :: .int t_rights :: .int t_colours :: .int t_profiled :: .ref h_t_profile :: .int t_entries :: .int t_columns :: .ref h_t_columnBits :: .ref h_t_numbers :: .int t_maps :: .ref h_t_map :: .int t_lines :: .ref h_t_line :: .ref h_t_resolutions :: .ref h_t_file :: .int t_size :: .int t_scanned :: .int t_refusedAt :: .int t_cursor :: .int t_streamAt :: .int t_streamMany :: .int x24.2.1 :: .int x24.2.2.1 :: .int x24.2.2.2 :: .int t_sizeAt :: .int t_bitsAt :: .int t_colourAt :: .int t_colourEnd :: .int t_paletteAt :: .int t_mapAt :: .int t_mapEnd :: .int t_channelsAt :: .int v15_t_captureAt :: .int v15_t_displayAt :: .int 1 :: []))), (h_t_file, .inl (cI, 65536, .inl f_t_file))] H → va_D A [(h_t, .inr (7, (.int t_thrown :: .int t_high :: .int t_wide :: .int t_components :: .ref h_t_bits :: .int t_unknown :: .int t_rights :: .int t_colours :: .int t_profiled :: .ref h_t_profile :: .int t_entries :: .int t_columns :: .ref h_t_columnBits :: .ref h_t_numbers :: .int t_maps :: .ref h_t_map :: .int t_lines :: .ref h_t_line :: .ref h_t_resolutions :: .ref h_t_file :: .int t_size :: .int t_scanned :: .int t_refusedAt :: .int t_cursor :: .int t_streamAt :: .int t_streamMany :: .int x24.2.1 :: .int x24.2.2.1 :: .int x24.2.2.2 :: .int t_sizeAt :: .int t_bitsAt :: .int t_colourAt :: .int t_colourEnd :: .int t_paletteAt :: .int t_mapAt :: .int t_mapEnd :: .int t_channelsAt :: .int v15_t_captureAt :: .int v15_t_displayAt :: .int 1 :: []))), (h_t_file, .inl (cI, 65536, .inl f_t_file))] → va_S A s.heap H locs → ∀ ls : Array Slot, lv_has ls 5 [(3, .int j191_3), (2, .int t_end), (1, .int v15_1), (0, .ref h_t)] → W p l e R s m args below meth c H locs 0 0 Q (F0 m 191 ls []) := by
              intro j191_3 E O H locs hP hD hS ls hl
              refine lv_iload_n hx hb d_Mo_inResolution_191 rfl (lv_at hl 0 rfl) ?_
              refine lv_if_le (tgt := 202) hx hb d_Mo_inResolution_192 (by decide) (fun c_192 => ?_) (fun c_192 => ?_)
              · have E := (if_pos c_192).symm.trans E
                have O := Eq.mp (if_pos c_192) O
                refine lv_aload_n hx hb d_Mo_inResolution_202 rfl (lv_at hl 3 rfl) ?_
                refine lv_aload_n hx hb d_Mo_inResolution_203 rfl (lv_at hl 3 rfl) ?_
                refine va_get (D := D) (v := .int x24.2.1) hx hb hta i_Mo hown hK hP 0 rfl rfl 26 (by decide) (hta _ lk_Mo_216) (fun _ h9 => h9) rfl d_Mo_inResolution_204 ?_
                refine lv_ldc (v := 1919251299) hx hb hown (hta _ lk_Mo_188) d_Mo_inResolution_207 ?_
                have J_223 : ∀ (j223_s1 : Int32), j_Mo_inResolution_223 kk_15 v15_t_displayAt x24 j223_s1 = RES → oj_Mo_inResolution_223 okk_15 v15_t_displayAt x24 j223_s1 → ∀ (H : Heap) (locs : List Loc), va_P D classes [(h_t, .inr (7, (.int t_thrown :: .int t_high :: .int t_wide :: .int t_components :: .ref h_t_bits :: .int t_unknown :: .int t_rights :: .int t_colours :: .int t_profiled :: .ref h_t_profile :: .int t_entries :: .int t_columns :: .ref h_t_columnBits :: .ref h_t_numbers :: .int t_maps :: .ref h_t_map :: .int t_lines :: .ref h_t_line :: .ref h_t_resolutions :: .ref h_t_file :: .int t_size :: .int t_scanned :: .int t_refusedAt :: .int t_cursor :: .int t_streamAt :: .int t_streamMany :: .int x24.2.1 :: .int x24.2.2.1 :: .int x24.2.2.2 :: .int t_sizeAt :: .int t_bitsAt :: .int t_colourAt :: .int t_colourEnd :: .int t_paletteAt :: .int t_mapAt :: .int t_mapEnd :: .int t_channelsAt :: .int v15_t_captureAt :: .int v15_t_displayAt :: .int 1 :: []))), (h_t_file, .inl (cI, 65536, .inl f_t_file))] H → va_D A [(h_t, .inr (7, (.int t_thrown :: .int t_high :: .int t_wide :: .int t_components :: .ref h_t_bits :: .int t_unknown :: .int t_rights :: .int t_colours :: .int t_profiled :: .ref h_t_profile :: .int t_entries :: .int t_columns :: .ref h_t_columnBits :: .ref h_t_numbers :: .int t_maps :: .ref h_t_map :: .int t_lines :: .ref h_t_line :: .ref h_t_resolutions :: .ref h_t_file :: .int t_size :: .int t_scanned :: .int t_refusedAt :: .int t_cursor :: .int t_streamAt :: .int t_streamMany :: .int x24.2.1 :: .int x24.2.2.1 :: .int x24.2.2.2 :: .int t_sizeAt :: .int t_bitsAt :: .int t_colourAt :: .int t_colourEnd :: .int t_paletteAt :: .int t_mapAt :: .int t_mapEnd :: .int t_channelsAt :: .int v15_t_captureAt :: .int v15_t_displayAt :: .int 1 :: []))), (h_t_file, .inl (cI, 65536, .inl f_t_file))] → va_S A s.heap H locs → ∀ ls : Array Slot, lv_has ls 5 [(2, .int t_end), (0, .ref h_t)] → W p l e R s m args below meth c H locs 0 0 Q (F0 m 223 ls [.int j223_s1, .ref h_t]) := by
                  intro j223_s1 E O H locs hP hD hS ls hl
                  refine va_put (D := D) (ty := .int) hx hb hta i_Mo t_Mo t_Mo_ok n_Mo hown hK hP hD hS 0 rfl rfl 37 (by decide) (hta _ lk_Mo_271) (fun _ h9 => h9) rfl (by decide +kernel) rfl rfl (Nat.le_of_ble_eq_true rfl) d_Mo_inResolution_223 (fun H locs (hP : va_P D classes [(h_t, .inr (7, (.int t_thrown :: .int t_high :: .int t_wide :: .int t_components :: .ref h_t_bits :: .int t_unknown :: .int t_rights :: .int t_colours :: .int t_profiled :: .ref h_t_profile :: .int t_entries :: .int t_columns :: .ref h_t_columnBits :: .ref h_t_numbers :: .int t_maps :: .ref h_t_map :: .int t_lines :: .ref h_t_line :: .ref h_t_resolutions :: .ref h_t_file :: .int t_size :: .int t_scanned :: .int t_refusedAt :: .int t_cursor :: .int t_streamAt :: .int t_streamMany :: .int x24.2.1 :: .int x24.2.2.1 :: .int x24.2.2.2 :: .int t_sizeAt :: .int t_bitsAt :: .int t_colourAt :: .int t_colourEnd :: .int t_paletteAt :: .int t_mapAt :: .int t_mapEnd :: .int t_channelsAt :: .int j223_s1 :: .int v15_t_displayAt :: .int 1 :: []))), (h_t_file, .inl (cI, 65536, .inl f_t_file))] H) (hD : va_D A [(h_t, .inr (7, (.int t_thrown :: .int t_high :: .int t_wide :: .int t_components :: .ref h_t_bits :: .int t_unknown :: .int t_rights :: .int t_colours :: .int t_profiled :: .ref h_t_profile :: .int t_entries :: .int t_columns :: .ref h_t_columnBits :: .ref h_t_numbers :: .int t_maps :: .ref h_t_map :: .int t_lines :: .ref h_t_line :: .ref h_t_resolutions :: .ref h_t_file :: .int t_size :: .int t_scanned :: .int t_refusedAt :: .int t_cursor :: .int t_streamAt :: .int t_streamMany :: .int x24.2.1 :: .int x24.2.2.1 :: .int x24.2.2.2 :: .int t_sizeAt :: .int t_bitsAt :: .int t_colourAt :: .int t_colourEnd :: .int t_paletteAt :: .int t_mapAt :: .int t_mapEnd :: .int t_channelsAt :: .int j223_s1 :: .int v15_t_displayAt :: .int 1 :: []))), (h_t_file, .inl (cI, 65536, .inl f_t_file))]) hS => ?_)
                  refine lv_aload_n hx hb d_Mo_inResolution_226 rfl (lv_at hl 1 rfl) ?_
                  refine lv_aload_n hx hb d_Mo_inResolution_227 rfl (lv_at hl 1 rfl) ?_
                  refine va_get (D := D) (v := .int x24.2.1) hx hb hta i_Mo hown hK hP 0 rfl rfl 26 (by decide) (hta _ lk_Mo_216) (fun _ h9 => h9) rfl d_Mo_inResolution_228 ?_
                  refine lv_ldc (v := 1919251300) hx hb hown (hta _ lk_Mo_192) d_Mo_inResolution_231 ?_
                  have J_247 : ∀ (j247_s1 : Int32), j_Mo_inResolution_247 kk_15 x24 j223_s1 j247_s1 = RES → oj_Mo_inResolution_247 okk_15 x24 j223_s1 j247_s1 → ∀ (H : Heap) (locs : List Loc), va_P D classes [(h_t, .inr (7, (.int t_thrown :: .int t_high :: .int t_wide :: .int t_components :: .ref h_t_bits :: .int t_unknown :: .int t_rights :: .int t_colours :: .int t_profiled :: .ref h_t_profile :: .int t_entries :: .int t_columns :: .ref h_t_columnBits :: .ref h_t_numbers :: .int t_maps :: .ref h_t_map :: .int t_lines :: .ref h_t_line :: .ref h_t_resolutions :: .ref h_t_file :: .int t_size :: .int t_scanned :: .int t_refusedAt :: .int t_cursor :: .int t_streamAt :: .int t_streamMany :: .int x24.2.1 :: .int x24.2.2.1 :: .int x24.2.2.2 :: .int t_sizeAt :: .int t_bitsAt :: .int t_colourAt :: .int t_colourEnd :: .int t_paletteAt :: .int t_mapAt :: .int t_mapEnd :: .int t_channelsAt :: .int j223_s1 :: .int v15_t_displayAt :: .int 1 :: []))), (h_t_file, .inl (cI, 65536, .inl f_t_file))] H → va_D A [(h_t, .inr (7, (.int t_thrown :: .int t_high :: .int t_wide :: .int t_components :: .ref h_t_bits :: .int t_unknown :: .int t_rights :: .int t_colours :: .int t_profiled :: .ref h_t_profile :: .int t_entries :: .int t_columns :: .ref h_t_columnBits :: .ref h_t_numbers :: .int t_maps :: .ref h_t_map :: .int t_lines :: .ref h_t_line :: .ref h_t_resolutions :: .ref h_t_file :: .int t_size :: .int t_scanned :: .int t_refusedAt :: .int t_cursor :: .int t_streamAt :: .int t_streamMany :: .int x24.2.1 :: .int x24.2.2.1 :: .int x24.2.2.2 :: .int t_sizeAt :: .int t_bitsAt :: .int t_colourAt :: .int t_colourEnd :: .int t_paletteAt :: .int t_mapAt :: .int t_mapEnd :: .int t_channelsAt :: .int j223_s1 :: .int v15_t_displayAt :: .int 1 :: []))), (h_t_file, .inl (cI, 65536, .inl f_t_file))] → va_S A s.heap H locs → ∀ ls : Array Slot, lv_has ls 5 [(2, .int t_end), (0, .ref h_t)] → W p l e R s m args below meth c H locs 0 0 Q (F0 m 247 ls [.int j247_s1, .ref h_t]) := by
                    intro j247_s1 E O H locs hP hD hS ls hl
                    refine va_put (D := D) (ty := .int) hx hb hta i_Mo t_Mo t_Mo_ok n_Mo hown hK hP hD hS 0 rfl rfl 38 (by decide) (hta _ lk_Mo_274) (fun _ h9 => h9) rfl (by decide +kernel) rfl rfl (Nat.le_of_ble_eq_true rfl) d_Mo_inResolution_247 (fun H locs (hP : va_P D classes [(h_t, .inr (7, (.int t_thrown :: .int t_high :: .int t_wide :: .int t_components :: .ref h_t_bits :: .int t_unknown :: .int t_rights :: .int t_colours :: .int t_profiled :: .ref h_t_profile :: .int t_entries :: .int t_columns :: .ref h_t_columnBits :: .ref h_t_numbers :: .int t_maps :: .ref h_t_map :: .int t_lines :: .ref h_t_line :: .ref h_t_resolutions :: .ref h_t_file :: .int t_size :: .int t_scanned :: .int t_refusedAt :: .int t_cursor :: .int t_streamAt :: .int t_streamMany :: .int x24.2.1 :: .int x24.2.2.1 :: .int x24.2.2.2 :: .int t_sizeAt :: .int t_bitsAt :: .int t_colourAt :: .int t_colourEnd :: .int t_paletteAt :: .int t_mapAt :: .int t_mapEnd :: .int t_channelsAt :: .int j223_s1 :: .int j247_s1 :: .int 1 :: []))), (h_t_file, .inl (cI, 65536, .inl f_t_file))] H) (hD : va_D A [(h_t, .inr (7, (.int t_thrown :: .int t_high :: .int t_wide :: .int t_components :: .ref h_t_bits :: .int t_unknown :: .int t_rights :: .int t_colours :: .int t_profiled :: .ref h_t_profile :: .int t_entries :: .int t_columns :: .ref h_t_columnBits :: .ref h_t_numbers :: .int t_maps :: .ref h_t_map :: .int t_lines :: .ref h_t_line :: .ref h_t_resolutions :: .ref h_t_file :: .int t_size :: .int t_scanned :: .int t_refusedAt :: .int t_cursor :: .int t_streamAt :: .int t_streamMany :: .int x24.2.1 :: .int x24.2.2.1 :: .int x24.2.2.2 :: .int t_sizeAt :: .int t_bitsAt :: .int t_colourAt :: .int t_colourEnd :: .int t_paletteAt :: .int t_mapAt :: .int t_mapEnd :: .int t_channelsAt :: .int j223_s1 :: .int j247_s1 :: .int 1 :: []))), (h_t_file, .inl (cI, 65536, .inl f_t_file))]) hS => ?_)
                    refine lv_aload_n hx hb d_Mo_inResolution_250 rfl (lv_at hl 1 rfl) ?_
                    refine va_get (D := D) (v := .int x24.2.2.2) hx hb hta i_Mo hown hK hP 0 rfl rfl 28 (by decide) (hta _ lk_Mo_222) (fun _ h9 => h9) rfl d_Mo_inResolution_251 ?_
                    refine lv_istore_n (lv' := [(1, .int x24.2.2.2), (2, .int t_end), (0, .ref h_t)]) hx hb d_Mo_inResolution_254 rfl hl (by decide) rfl (fun ls hl => ?_)
                    refine lv_goto (tgt := 15) hx hb d_Mo_inResolution_255 (by decide) ?_
                    exact ih_15 x24.2.2.2 x24.2.1 x24.2.2.1 x24.2.2.2 j223_s1 j247_s1 E O _ _ hP hD hS ls (lv_sub hl [1, 0, 2] rfl)
                  refine lv_icmp_ne (tgt := 243) hx hb d_Mo_inResolution_233 (by decide) (fun c_233 => ?_) (fun c_233 => ?_)
                  · have E := (if_neg c_233).symm.trans E
                    have O := Eq.mp (if_neg c_233) O
                    refine lv_aload_n hx hb d_Mo_inResolution_243 rfl (lv_at hl 1 rfl) ?_
                    refine va_get (D := D) (v := .int v15_t_displayAt) hx hb hta i_Mo hown hK hP 0 rfl rfl 38 (by decide) (hta _ lk_Mo_274) (fun _ h9 => h9) rfl d_Mo_inResolution_244 ?_
                    exact J_247 v15_t_displayAt E O _ _ hP hD hS ls (lv_sub hl [0, 1] rfl)
                  · have E := (if_pos c_233).symm.trans E
                    have O := Eq.mp (if_pos c_233) O
                    refine lv_aload_n hx hb d_Mo_inResolution_236 rfl (lv_at hl 1 rfl) ?_
                    refine va_get (D := D) (v := .int x24.2.2.1) hx hb hta i_Mo hown hK hP 0 rfl rfl 27 (by decide) (hta _ lk_Mo_219) (fun _ h9 => h9) rfl d_Mo_inResolution_237 ?_
                    refine lv_goto (tgt := 247) hx hb d_Mo_inResolution_240 (by decide) ?_
                    exact J_247 x24.2.2.1 E O _ _ hP hD hS ls (lv_sub hl [0, 1] rfl)
                refine lv_icmp_ne (tgt := 219) hx hb d_Mo_inResolution_209 (by decide) (fun c_209 => ?_) (fun c_209 => ?_)
                · have E := (if_neg c_209).symm.trans E
                  have O := Eq.mp (if_neg c_209) O
                  refine lv_aload_n hx hb d_Mo_inResolution_219 rfl (lv_at hl 3 rfl) ?_
                  refine va_get (D := D) (v := .int v15_t_captureAt) hx hb hta i_Mo hown hK hP 0 rfl rfl 37 (by decide) (hta _ lk_Mo_271) (fun _ h9 => h9) rfl d_Mo_inResolution_220 ?_
                  exact J_223 v15_t_captureAt E O _ _ hP hD hS ls (lv_sub hl [1, 3] rfl)
                · have E := (if_pos c_209).symm.trans E
                  have O := Eq.mp (if_pos c_209) O
                  refine lv_aload_n hx hb d_Mo_inResolution_212 rfl (lv_at hl 3 rfl) ?_
                  refine va_get (D := D) (v := .int x24.2.2.1) hx hb hta i_Mo hown hK hP 0 rfl rfl 27 (by decide) (hta _ lk_Mo_219) (fun _ h9 => h9) rfl d_Mo_inResolution_213 ?_
                  refine lv_goto (tgt := 223) hx hb d_Mo_inResolution_216 (by decide) ?_
                  exact J_223 x24.2.2.1 E O _ _ hP hD hS ls (lv_sub hl [1, 3] rfl)
              · have E := (if_neg c_192).symm.trans E
                have O := Eq.mp (if_neg c_192) O
                refine lv_aload_n hx hb d_Mo_inResolution_195 rfl (lv_at hl 3 rfl) ?_
                refine lv_iload_n hx hb d_Mo_inResolution_196 rfl (lv_at hl 0 rfl) ?_
                refine lv_iload_n hx hb d_Mo_inResolution_197 rfl (lv_at hl 2 rfl) ?_
                refine kc_V (As := [.int j191_3, .int v15_1]) (rest := []) (wr := [(h_t_file, .inl (cI, 65536, .inl f_t_file))]) [0] [1] ⟨hx, hb, hml, hown, hta⟩ hK hN hP hD hS hA (c_Mo_no l D cB cI cJ h_t h_t_bits h_t_profile h_t_columnBits h_t_numbers h_t_map h_t_line h_t_resolutions h_t_file t_thrown t_high t_wide t_components t_unknown t_rights t_colours t_profiled t_entries t_columns t_maps t_lines t_size t_scanned t_refusedAt t_cursor t_streamAt t_streamMany x24.2.1 x24.2.2.1 x24.2.2.2 t_sizeAt t_bitsAt t_colourAt t_colourEnd t_paletteAt t_mapAt t_mapEnd t_channelsAt v15_t_captureAt v15_t_displayAt 1 j191_3 v15_1 O.1 _) (hta _ lk_Mo_277) (hta _ ini_Mo) (hta _ code_Mo_no) code_Mo_no (hta _ inst_Mo_no) (hta _ sel_Mo_no) hd_Mo_no rfl ⟨by omega, by omega⟩ (ci := 7) 0 rfl rfl rfl rfl (by decide) (by decide) (by decide) rfl hl.1 (lv_room (Nat.le_of_ble_eq_true rfl)) d_Mo_inResolution_198 ⟨by omega, by omega⟩ (fun v w1 H locs hw hP hD hS => ?_)
                obtain ⟨x198, hx198, rfl, rfl⟩ := hw
                have hP : va_P D classes [(h_t, .inr (7, (.int t_thrown :: .int t_high :: .int t_wide :: .int t_components :: .ref h_t_bits :: .int t_unknown :: .int t_rights :: .int t_colours :: .int t_profiled :: .ref h_t_profile :: .int t_entries :: .int t_columns :: .ref h_t_columnBits :: .ref h_t_numbers :: .int t_maps :: .ref h_t_map :: .int t_lines :: .ref h_t_line :: .ref h_t_resolutions :: .ref h_t_file :: .int t_size :: .int t_scanned :: .int v15_1 :: .int t_cursor :: .int t_streamAt :: .int t_streamMany :: .int x24.2.1 :: .int x24.2.2.1 :: .int x24.2.2.2 :: .int t_sizeAt :: .int t_bitsAt :: .int t_colourAt :: .int t_colourEnd :: .int t_paletteAt :: .int t_mapAt :: .int t_mapEnd :: .int t_channelsAt :: .int v15_t_captureAt :: .int v15_t_displayAt :: .int 1 :: []))), (h_t_file, .inl (cI, 65536, .inl f_t_file))] H := hP.sub [1, 0] rfl
                have hD : va_D A [(h_t, .inr (7, (.int t_thrown :: .int t_high :: .int t_wide :: .int t_components :: .ref h_t_bits :: .int t_unknown :: .int t_rights :: .int t_colours :: .int t_profiled :: .ref h_t_profile :: .int t_entries :: .int t_columns :: .ref h_t_columnBits :: .ref h_t_numbers :: .int t_maps :: .ref h_t_map :: .int t_lines :: .ref h_t_line :: .ref h_t_resolutions :: .ref h_t_file :: .int t_size :: .int t_scanned :: .int v15_1 :: .int t_cursor :: .int t_streamAt :: .int t_streamMany :: .int x24.2.1 :: .int x24.2.2.1 :: .int x24.2.2.2 :: .int t_sizeAt :: .int t_bitsAt :: .int t_colourAt :: .int t_colourEnd :: .int t_paletteAt :: .int t_mapAt :: .int t_mapEnd :: .int t_channelsAt :: .int v15_t_captureAt :: .int v15_t_displayAt :: .int 1 :: []))), (h_t_file, .inl (cI, 65536, .inl f_t_file))] := hD.sub [1, 0] (by decide) rfl
                refine W.eq (g2 := F0 m 201 ls [.int x198]) rfl ?_
                have O := O.2
                have E : k_Mo_inResolution_198 v15_1 v15_t_captureAt v15_t_displayAt x24 x198 = RES := (congrArg (k_Mo_inResolution_198 v15_1 v15_t_captureAt v15_t_displayAt x24) hx198).trans E
                have O : ok_Mo_inResolution_198 x198 := by rw [hx198]; exact O
                exact kr_i hx hb hr hlk hQ hK hP hD hS ⟨((x198, v15_1, x24.2.1, x24.2.2.1, x24.2.2.2, v15_t_captureAt, v15_t_displayAt, 1) : Int32 × Int32 × Int32 × Int32 × Int32 × Int32 × Int32 × Int32), E.trans E0.symm, rfl, rfl⟩ (by omega) (by omega) d_Mo_inResolution_201
            refine lv_if_ne (tgt := 191) hx hb d_Mo_inResolution_130 (by decide) (fun c_130 => ?_) (fun c_130 => ?_)
            · have E := (if_neg c_130).symm.trans E
              have O := Eq.mp (if_neg c_130) O
              exact J_191 j129_3 E O _ _ hP hD hS ls (lv_sub hl [1, 2, 3, 4] rfl)
            · have E := (if_pos c_130).symm.trans E
              have O := Eq.mp (if_pos c_130) O
              refine lv_iload hx hb d_Mo_inResolution_133 (lv_at hl 0 rfl) ?_
              refine lv_if_eq (tgt := 191) hx hb d_Mo_inResolution_135 (by decide) (fun c_135 => ?_) (fun c_135 => ?_)
              · have E := (if_pos c_135).symm.trans E
                have O := Eq.mp (if_pos c_135) O
                exact J_191 j129_3 E O _ _ hP hD hS ls (lv_sub hl [1, 2, 3, 4] rfl)
              · have E := (if_neg c_135).symm.trans E
                have O := Eq.mp (if_neg c_135) O
                refine lv_aload_n hx hb d_Mo_inResolution_138 rfl (lv_at hl 4 rfl) ?_
                refine lv_aload_n hx hb d_Mo_inResolution_139 rfl (lv_at hl 4 rfl) ?_
                refine va_get (D := D) (v := .int x24.2.2.1) hx hb hta i_Mo hown hK hP 0 rfl rfl 27 (by decide) (hta _ lk_Mo_219) (fun _ h9 => h9) rfl d_Mo_inResolution_140 ?_
                refine kc_V (As := [.int x24.2.2.1]) (rest := []) (wr := []) [0, 1] [] ⟨hx, hb, hml, hown, hta⟩ hK hN hP hD hS hA (c_Mo_u2 l D cB cI cJ h_t h_t_bits h_t_profile h_t_columnBits h_t_numbers h_t_map h_t_line h_t_resolutions h_t_file t_thrown t_high t_wide t_components t_unknown t_rights t_colours t_profiled t_entries t_columns t_maps t_lines t_size t_scanned t_refusedAt t_cursor t_streamAt t_streamMany x24.2.1 x24.2.2.1 x24.2.2.2 t_sizeAt t_bitsAt t_colourAt t_colourEnd t_paletteAt t_mapAt t_mapEnd t_channelsAt v15_t_captureAt v15_t_displayAt 1 f_t_file x24.2.2.1 O.1 _) (hta _ lk_Mo_209) (hta _ ini_Mo) (hta _ code_Mo_u2) code_Mo_u2 (hta _ inst_Mo_u2) (hta _ sel_Mo_u2) hd_Mo_u2 rfl ⟨by omega, by omega⟩ (ci := 7) 0 rfl rfl rfl rfl (by decide) (by decide) (by decide) rfl hl.1 (lv_room (Nat.le_of_ble_eq_true rfl)) d_Mo_inResolution_143 ⟨by omega, by omega⟩ (fun v w1 H locs hw hP hD hS => ?_)
                obtain ⟨x143, hx143, rfl, rfl⟩ := hw
                have hP : va_P D classes [(h_t, .inr (7, (.int t_thrown :: .int t_high :: .int t_wide :: .int t_components :: .ref h_t_bits :: .int t_unknown :: .int t_rights :: .int t_colours :: .int t_profiled :: .ref h_t_profile :: .int t_entries :: .int t_columns :: .ref h_t_columnBits :: .ref h_t_numbers :: .int t_maps :: .ref h_t_map :: .int t_lines :: .ref h_t_line :: .ref h_t_resolutions :: .ref h_t_file :: .int t_size :: .int t_scanned :: .int t_refusedAt :: .int t_cursor :: .int t_streamAt :: .int t_streamMany :: .int x24.2.1 :: .int x24.2.2.1 :: .int x24.2.2.2 :: .int t_sizeAt :: .int t_bitsAt :: .int t_colourAt :: .int t_colourEnd :: .int t_paletteAt :: .int t_mapAt :: .int t_mapEnd :: .int t_channelsAt :: .int v15_t_captureAt :: .int v15_t_displayAt :: .int 1 :: []))), (h_t_file, .inl (cI, 65536, .inl f_t_file))] H := hP.sub [0, 1] rfl
                have hD : va_D A [(h_t, .inr (7, (.int t_thrown :: .int t_high :: .int t_wide :: .int t_components :: .ref h_t_bits :: .int t_unknown :: .int t_rights :: .int t_colours :: .int t_profiled :: .ref h_t_profile :: .int t_entries :: .int t_columns :: .ref h_t_columnBits :: .ref h_t_numbers :: .int t_maps :: .ref h_t_map :: .int t_lines :: .ref h_t_line :: .ref h_t_resolutions :: .ref h_t_file :: .int t_size :: .int t_scanned :: .int t_refusedAt :: .int t_cursor :: .int t_streamAt :: .int t_streamMany :: .int x24.2.1 :: .int x24.2.2.1 :: .int x24.2.2.2 :: .int t_sizeAt :: .int t_bitsAt :: .int t_colourAt :: .int t_colourEnd :: .int t_paletteAt :: .int t_mapAt :: .int t_mapEnd :: .int t_channelsAt :: .int v15_t_captureAt :: .int v15_t_displayAt :: .int 1 :: []))), (h_t_file, .inl (cI, 65536, .inl f_t_file))] := hD.sub [0, 1] (by decide) rfl
                refine W.eq (g2 := F0 m 146 ls [.int x143]) rfl ?_
                have O := O.2
                have E : k_Mo_inResolution_143 f_t_file kk_15 v15_1 v15_t_captureAt v15_t_displayAt x24 j129_3 x143 = RES := (congrArg (k_Mo_inResolution_143 f_t_file kk_15 v15_1 v15_t_captureAt v15_t_displayAt x24 j129_3) hx143).trans E
                have O : ok_Mo_inResolution_143 f_t_file okk_15 v15_t_captureAt v15_t_displayAt x24 j129_3 x143 := by rw [hx143]; exact O
                have J_189 : j_Mo_inResolution_189 kk_15 v15_1 v15_t_captureAt v15_t_displayAt x24 = RES → oj_Mo_inResolution_189 okk_15 v15_t_captureAt v15_t_displayAt x24 → ∀ (H : Heap) (locs : List Loc), va_P D classes [(h_t, .inr (7, (.int t_thrown :: .int t_high :: .int t_wide :: .int t_components :: .ref h_t_bits :: .int t_unknown :: .int t_rights :: .int t_colours :: .int t_profiled :: .ref h_t_profile :: .int t_entries :: .int t_columns :: .ref h_t_columnBits :: .ref h_t_numbers :: .int t_maps :: .ref h_t_map :: .int t_lines :: .ref h_t_line :: .ref h_t_resolutions :: .ref h_t_file :: .int t_size :: .int t_scanned :: .int t_refusedAt :: .int t_cursor :: .int t_streamAt :: .int t_streamMany :: .int x24.2.1 :: .int x24.2.2.1 :: .int x24.2.2.2 :: .int t_sizeAt :: .int t_bitsAt :: .int t_colourAt :: .int t_colourEnd :: .int t_paletteAt :: .int t_mapAt :: .int t_mapEnd :: .int t_channelsAt :: .int v15_t_captureAt :: .int v15_t_displayAt :: .int 1 :: []))), (h_t_file, .inl (cI, 65536, .inl f_t_file))] H → va_D A [(h_t, .inr (7, (.int t_thrown :: .int t_high :: .int t_wide :: .int t_components :: .ref h_t_bits :: .int t_unknown :: .int t_rights :: .int t_colours :: .int t_profiled :: .ref h_t_profile :: .int t_entries :: .int t_columns :: .ref h_t_columnBits :: .ref h_t_numbers :: .int t_maps :: .ref h_t_map :: .int t_lines :: .ref h_t_line :: .ref h_t_resolutions :: .ref h_t_file :: .int t_size :: .int t_scanned :: .int t_refusedAt :: .int t_cursor :: .int t_streamAt :: .int t_streamMany :: .int x24.2.1 :: .int x24.2.2.1 :: .int x24.2.2.2 :: .int t_sizeAt :: .int t_bitsAt :: .int t_colourAt :: .int t_colourEnd :: .int t_paletteAt :: .int t_mapAt :: .int t_mapEnd :: .int t_channelsAt :: .int v15_t_captureAt :: .int v15_t_displayAt :: .int 1 :: []))), (h_t_file, .inl (cI, 65536, .inl f_t_file))] → va_S A s.heap H locs → ∀ ls : Array Slot, lv_has ls 5 [(2, .int t_end), (1, .int v15_1), (0, .ref h_t)] → W p l e R s m args below meth c H locs 0 0 Q (F0 m 189 ls []) := by
                  intro E O H locs hP hD hS ls hl
                  refine lv_iconst (v := 5) hx hb d_Mo_inResolution_189 (by decide) ?_
                  refine lv_istore_n (lv' := [(3, .int 5), (2, .int t_end), (1, .int v15_1), (0, .ref h_t)]) hx hb d_Mo_inResolution_190 rfl hl (by decide) rfl (fun ls hl => ?_)
                  exact J_191 5 E O _ _ hP hD hS ls (lv_sub hl [0, 1, 2, 3] rfl)
                refine lv_if_eq (tgt := 189) hx hb d_Mo_inResolution_146 (by decide) (fun c_146 => ?_) (fun c_146 => ?_)
                · have E := (if_pos c_146).symm.trans E
                  have O := Eq.mp (if_pos c_146) O
                  exact J_189  E O _ _ hP hD hS ls (lv_sub hl [2, 3, 4] rfl)
                · have E := (if_neg c_146).symm.trans E
                  have O := Eq.mp (if_neg c_146) O
                  refine lv_aload_n hx hb d_Mo_inResolution_149 rfl (lv_at hl 4 rfl) ?_
                  refine lv_aload_n hx hb d_Mo_inResolution_150 rfl (lv_at hl 4 rfl) ?_
                  refine va_get (D := D) (v := .int x24.2.2.1) hx hb hta i_Mo hown hK hP 0 rfl rfl 27 (by decide) (hta _ lk_Mo_219) (fun _ h9 => h9) rfl d_Mo_inResolution_151 ?_
                  refine lv_iconst (v := 2) hx hb d_Mo_inResolution_154 (by decide) ?_
                  refine lv_iadd hx hb d_Mo_inResolution_155 ?_
                  refine kc_V (As := [.int (x24.2.2.1 + 2)]) (rest := []) (wr := []) [0, 1] [] ⟨hx, hb, hml, hown, hta⟩ hK hN hP hD hS hA (c_Mo_u2 l D cB cI cJ h_t h_t_bits h_t_profile h_t_columnBits h_t_numbers h_t_map h_t_line h_t_resolutions h_t_file t_thrown t_high t_wide t_components t_unknown t_rights t_colours t_profiled t_entries t_columns t_maps t_lines t_size t_scanned t_refusedAt t_cursor t_streamAt t_streamMany x24.2.1 x24.2.2.1 x24.2.2.2 t_sizeAt t_bitsAt t_colourAt t_colourEnd t_paletteAt t_mapAt t_mapEnd t_channelsAt v15_t_captureAt v15_t_displayAt 1 f_t_file (x24.2.2.1 + 2) O.1 _) (hta _ lk_Mo_209) (hta _ ini_Mo) (hta _ code_Mo_u2) code_Mo_u2 (hta _ inst_Mo_u2) (hta _ sel_Mo_u2) hd_Mo_u2 rfl ⟨by omega, by omega⟩ (ci := 7) 0 rfl rfl rfl rfl (by decide) (by decide) (by decide) rfl hl.1 (lv_room (Nat.le_of_ble_eq_true rfl)) d_Mo_inResolution_156 ⟨by omega, by omega⟩ (fun v w1 H locs hw hP hD hS => ?_)
                  obtain ⟨x156, hx156, rfl, rfl⟩ := hw
                  have hP : va_P D classes [(h_t, .inr (7, (.int t_thrown :: .int t_high :: .int t_wide :: .int t_components :: .ref h_t_bits :: .int t_unknown :: .int t_rights :: .int t_colours :: .int t_profiled :: .ref h_t_profile :: .int t_entries :: .int t_columns :: .ref h_t_columnBits :: .ref h_t_numbers :: .int t_maps :: .ref h_t_map :: .int t_lines :: .ref h_t_line :: .ref h_t_resolutions :: .ref h_t_file :: .int t_size :: .int t_scanned :: .int t_refusedAt :: .int t_cursor :: .int t_streamAt :: .int t_streamMany :: .int x24.2.1 :: .int x24.2.2.1 :: .int x24.2.2.2 :: .int t_sizeAt :: .int t_bitsAt :: .int t_colourAt :: .int t_colourEnd :: .int t_paletteAt :: .int t_mapAt :: .int t_mapEnd :: .int t_channelsAt :: .int v15_t_captureAt :: .int v15_t_displayAt :: .int 1 :: []))), (h_t_file, .inl (cI, 65536, .inl f_t_file))] H := hP.sub [0, 1] rfl
                  have hD : va_D A [(h_t, .inr (7, (.int t_thrown :: .int t_high :: .int t_wide :: .int t_components :: .ref h_t_bits :: .int t_unknown :: .int t_rights :: .int t_colours :: .int t_profiled :: .ref h_t_profile :: .int t_entries :: .int t_columns :: .ref h_t_columnBits :: .ref h_t_numbers :: .int t_maps :: .ref h_t_map :: .int t_lines :: .ref h_t_line :: .ref h_t_resolutions :: .ref h_t_file :: .int t_size :: .int t_scanned :: .int t_refusedAt :: .int t_cursor :: .int t_streamAt :: .int t_streamMany :: .int x24.2.1 :: .int x24.2.2.1 :: .int x24.2.2.2 :: .int t_sizeAt :: .int t_bitsAt :: .int t_colourAt :: .int t_colourEnd :: .int t_paletteAt :: .int t_mapAt :: .int t_mapEnd :: .int t_channelsAt :: .int v15_t_captureAt :: .int v15_t_displayAt :: .int 1 :: []))), (h_t_file, .inl (cI, 65536, .inl f_t_file))] := hD.sub [0, 1] (by decide) rfl
                  refine W.eq (g2 := F0 m 159 ls [.int x156]) rfl ?_
                  have O := O.2
                  have E : k_Mo_inResolution_156 f_t_file kk_15 v15_1 v15_t_captureAt v15_t_displayAt x24 j129_3 x156 = RES := (congrArg (k_Mo_inResolution_156 f_t_file kk_15 v15_1 v15_t_captureAt v15_t_displayAt x24 j129_3) hx156).trans E
                  have O : ok_Mo_inResolution_156 f_t_file okk_15 v15_t_captureAt v15_t_displayAt x24 j129_3 x156 := by rw [hx156]; exact O
                  refine lv_if_eq (tgt := 189) hx hb d_Mo_inResolution_159 (by decide) (fun c_159 => ?_) (fun c_159 => ?_)
                  · have E := (if_pos c_159).symm.trans E
                    have O := Eq.mp (if_pos c_159) O
                    exact J_189  E O _ _ hP hD hS ls (lv_sub hl [2, 3, 4] rfl)
                  · have E := (if_neg c_159).symm.trans E
                    have O := Eq.mp (if_neg c_159) O
                    refine lv_aload_n hx hb d_Mo_inResolution_162 rfl (lv_at hl 4 rfl) ?_
                    refine lv_aload_n hx hb d_Mo_inResolution_163 rfl (lv_at hl 4 rfl) ?_
                    refine va_get (D := D) (v := .int x24.2.2.1) hx hb hta i_Mo hown hK hP 0 rfl rfl 27 (by decide) (hta _ lk_Mo_219) (fun _ h9 => h9) rfl d_Mo_inResolution_164 ?_
                    refine lv_iconst (v := 4) hx hb d_Mo_inResolution_167 (by decide) ?_
                    refine lv_iadd hx hb d_Mo_inResolution_168 ?_
                    refine kc_V (As := [.int (x24.2.2.1 + 4)]) (rest := []) (wr := []) [0, 1] [] ⟨hx, hb, hml, hown, hta⟩ hK hN hP hD hS hA (c_Mo_u2 l D cB cI cJ h_t h_t_bits h_t_profile h_t_columnBits h_t_numbers h_t_map h_t_line h_t_resolutions h_t_file t_thrown t_high t_wide t_components t_unknown t_rights t_colours t_profiled t_entries t_columns t_maps t_lines t_size t_scanned t_refusedAt t_cursor t_streamAt t_streamMany x24.2.1 x24.2.2.1 x24.2.2.2 t_sizeAt t_bitsAt t_colourAt t_colourEnd t_paletteAt t_mapAt t_mapEnd t_channelsAt v15_t_captureAt v15_t_displayAt 1 f_t_file (x24.2.2.1 + 4) O.1 _) (hta _ lk_Mo_209) (hta _ ini_Mo) (hta _ code_Mo_u2) code_Mo_u2 (hta _ inst_Mo_u2) (hta _ sel_Mo_u2) hd_Mo_u2 rfl ⟨by omega, by omega⟩ (ci := 7) 0 rfl rfl rfl rfl (by decide) (by decide) (by decide) rfl hl.1 (lv_room (Nat.le_of_ble_eq_true rfl)) d_Mo_inResolution_169 ⟨by omega, by omega⟩ (fun v w1 H locs hw hP hD hS => ?_)
                    obtain ⟨x169, hx169, rfl, rfl⟩ := hw
                    have hP : va_P D classes [(h_t, .inr (7, (.int t_thrown :: .int t_high :: .int t_wide :: .int t_components :: .ref h_t_bits :: .int t_unknown :: .int t_rights :: .int t_colours :: .int t_profiled :: .ref h_t_profile :: .int t_entries :: .int t_columns :: .ref h_t_columnBits :: .ref h_t_numbers :: .int t_maps :: .ref h_t_map :: .int t_lines :: .ref h_t_line :: .ref h_t_resolutions :: .ref h_t_file :: .int t_size :: .int t_scanned :: .int t_refusedAt :: .int t_cursor :: .int t_streamAt :: .int t_streamMany :: .int x24.2.1 :: .int x24.2.2.1 :: .int x24.2.2.2 :: .int t_sizeAt :: .int t_bitsAt :: .int t_colourAt :: .int t_colourEnd :: .int t_paletteAt :: .int t_mapAt :: .int t_mapEnd :: .int t_channelsAt :: .int v15_t_captureAt :: .int v15_t_displayAt :: .int 1 :: []))), (h_t_file, .inl (cI, 65536, .inl f_t_file))] H := hP.sub [0, 1] rfl
                    have hD : va_D A [(h_t, .inr (7, (.int t_thrown :: .int t_high :: .int t_wide :: .int t_components :: .ref h_t_bits :: .int t_unknown :: .int t_rights :: .int t_colours :: .int t_profiled :: .ref h_t_profile :: .int t_entries :: .int t_columns :: .ref h_t_columnBits :: .ref h_t_numbers :: .int t_maps :: .ref h_t_map :: .int t_lines :: .ref h_t_line :: .ref h_t_resolutions :: .ref h_t_file :: .int t_size :: .int t_scanned :: .int t_refusedAt :: .int t_cursor :: .int t_streamAt :: .int t_streamMany :: .int x24.2.1 :: .int x24.2.2.1 :: .int x24.2.2.2 :: .int t_sizeAt :: .int t_bitsAt :: .int t_colourAt :: .int t_colourEnd :: .int t_paletteAt :: .int t_mapAt :: .int t_mapEnd :: .int t_channelsAt :: .int v15_t_captureAt :: .int v15_t_displayAt :: .int 1 :: []))), (h_t_file, .inl (cI, 65536, .inl f_t_file))] := hD.sub [0, 1] (by decide) rfl
                    refine W.eq (g2 := F0 m 172 ls [.int x169]) rfl ?_
                    have O := O.2
                    have E : k_Mo_inResolution_169 f_t_file kk_15 v15_1 v15_t_captureAt v15_t_displayAt x24 j129_3 x169 = RES := (congrArg (k_Mo_inResolution_169 f_t_file kk_15 v15_1 v15_t_captureAt v15_t_displayAt x24 j129_3) hx169).trans E
                    have O : ok_Mo_inResolution_169 f_t_file okk_15 v15_t_captureAt v15_t_displayAt x24 j129_3 x169 := by rw [hx169]; exact O
                    refine lv_if_eq (tgt := 189) hx hb d_Mo_inResolution_172 (by decide) (fun c_172 => ?_) (fun c_172 => ?_)
                    · have E := (if_pos c_172).symm.trans E
                      have O := Eq.mp (if_pos c_172) O
                      exact J_189  E O _ _ hP hD hS ls (lv_sub hl [2, 3, 4] rfl)
                    · have E := (if_neg c_172).symm.trans E
                      have O := Eq.mp (if_neg c_172) O
                      refine lv_aload_n hx hb d_Mo_inResolution_175 rfl (lv_at hl 4 rfl) ?_
                      refine lv_aload_n hx hb d_Mo_inResolution_176 rfl (lv_at hl 4 rfl) ?_
                      refine va_get (D := D) (v := .int x24.2.2.1) hx hb hta i_Mo hown hK hP 0 rfl rfl 27 (by decide) (hta _ lk_Mo_219) (fun _ h9 => h9) rfl d_Mo_inResolution_177 ?_
                      refine lv_bipush (v := 6) hx hb d_Mo_inResolution_180 (by decide) ?_
                      refine lv_iadd hx hb d_Mo_inResolution_182 ?_
                      refine kc_V (As := [.int (x24.2.2.1 + 6)]) (rest := []) (wr := []) [0, 1] [] ⟨hx, hb, hml, hown, hta⟩ hK hN hP hD hS hA (c_Mo_u2 l D cB cI cJ h_t h_t_bits h_t_profile h_t_columnBits h_t_numbers h_t_map h_t_line h_t_resolutions h_t_file t_thrown t_high t_wide t_components t_unknown t_rights t_colours t_profiled t_entries t_columns t_maps t_lines t_size t_scanned t_refusedAt t_cursor t_streamAt t_streamMany x24.2.1 x24.2.2.1 x24.2.2.2 t_sizeAt t_bitsAt t_colourAt t_colourEnd t_paletteAt t_mapAt t_mapEnd t_channelsAt v15_t_captureAt v15_t_displayAt 1 f_t_file (x24.2.2.1 + 6) O.1 _) (hta _ lk_Mo_209) (hta _ ini_Mo) (hta _ code_Mo_u2) code_Mo_u2 (hta _ inst_Mo_u2) (hta _ sel_Mo_u2) hd_Mo_u2 rfl ⟨by omega, by omega⟩ (ci := 7) 0 rfl rfl rfl rfl (by decide) (by decide) (by decide) rfl hl.1 (lv_room (Nat.le_of_ble_eq_true rfl)) d_Mo_inResolution_183 ⟨by omega, by omega⟩ (fun v w1 H locs hw hP hD hS => ?_)
                      obtain ⟨x183, hx183, rfl, rfl⟩ := hw
                      have hP : va_P D classes [(h_t, .inr (7, (.int t_thrown :: .int t_high :: .int t_wide :: .int t_components :: .ref h_t_bits :: .int t_unknown :: .int t_rights :: .int t_colours :: .int t_profiled :: .ref h_t_profile :: .int t_entries :: .int t_columns :: .ref h_t_columnBits :: .ref h_t_numbers :: .int t_maps :: .ref h_t_map :: .int t_lines :: .ref h_t_line :: .ref h_t_resolutions :: .ref h_t_file :: .int t_size :: .int t_scanned :: .int t_refusedAt :: .int t_cursor :: .int t_streamAt :: .int t_streamMany :: .int x24.2.1 :: .int x24.2.2.1 :: .int x24.2.2.2 :: .int t_sizeAt :: .int t_bitsAt :: .int t_colourAt :: .int t_colourEnd :: .int t_paletteAt :: .int t_mapAt :: .int t_mapEnd :: .int t_channelsAt :: .int v15_t_captureAt :: .int v15_t_displayAt :: .int 1 :: []))), (h_t_file, .inl (cI, 65536, .inl f_t_file))] H := hP.sub [0, 1] rfl
                      have hD : va_D A [(h_t, .inr (7, (.int t_thrown :: .int t_high :: .int t_wide :: .int t_components :: .ref h_t_bits :: .int t_unknown :: .int t_rights :: .int t_colours :: .int t_profiled :: .ref h_t_profile :: .int t_entries :: .int t_columns :: .ref h_t_columnBits :: .ref h_t_numbers :: .int t_maps :: .ref h_t_map :: .int t_lines :: .ref h_t_line :: .ref h_t_resolutions :: .ref h_t_file :: .int t_size :: .int t_scanned :: .int t_refusedAt :: .int t_cursor :: .int t_streamAt :: .int t_streamMany :: .int x24.2.1 :: .int x24.2.2.1 :: .int x24.2.2.2 :: .int t_sizeAt :: .int t_bitsAt :: .int t_colourAt :: .int t_colourEnd :: .int t_paletteAt :: .int t_mapAt :: .int t_mapEnd :: .int t_channelsAt :: .int v15_t_captureAt :: .int v15_t_displayAt :: .int 1 :: []))), (h_t_file, .inl (cI, 65536, .inl f_t_file))] := hD.sub [0, 1] (by decide) rfl
                      refine W.eq (g2 := F0 m 186 ls [.int x183]) rfl ?_
                      have O := O.2
                      have E : k_Mo_inResolution_183 kk_15 v15_1 v15_t_captureAt v15_t_displayAt x24 j129_3 x183 = RES := (congrArg (k_Mo_inResolution_183 kk_15 v15_1 v15_t_captureAt v15_t_displayAt x24 j129_3) hx183).trans E
                      have O : ok_Mo_inResolution_183 okk_15 v15_t_captureAt v15_t_displayAt x24 j129_3 x183 := by rw [hx183]; exact O
                      refine lv_if_ne (tgt := 191) hx hb d_Mo_inResolution_186 (by decide) (fun c_186 => ?_) (fun c_186 => ?_)
                      · have E := (if_neg c_186).symm.trans E
                        have O := Eq.mp (if_neg c_186) O
                        exact J_191 j129_3 E O _ _ hP hD hS ls (lv_sub hl [1, 2, 3, 4] rfl)
                      · have E := (if_pos c_186).symm.trans E
                        have O := Eq.mp (if_pos c_186) O
                        exact J_189  E O _ _ hP hD hS ls (lv_sub hl [2, 3, 4] rfl)
          refine lv_if_ne (tgt := 129) hx hb d_Mo_inResolution_54 (by decide) (fun c_54 => ?_) (fun c_54 => ?_)
          · have E := (if_neg c_54).symm.trans E
            have O := Eq.mp (if_neg c_54) O
            exact J_129 x24.1 E O _ _ hP hD hS ls (lv_sub hl [0, 1, 2, 3, 4] rfl)
          · have E := (if_pos c_54).symm.trans E
            have O := Eq.mp (if_pos c_54) O
            refine lv_aload_n hx hb d_Mo_inResolution_57 rfl (lv_at hl 4 rfl) ?_
            refine kc_V (As := []) (rest := []) (wr := [(h_t_file, .inl (cI, 65536, .inl f_t_file))]) [0] [1] ⟨hx, hb, hml, hown, hta⟩ hK hN hP hD hS hA (c_Mo_isTop l D cB cI cJ h_t h_t_bits h_t_profile h_t_columnBits h_t_numbers h_t_map h_t_line h_t_resolutions h_t_file t_thrown t_high t_wide t_components t_unknown t_rights t_colours t_profiled t_entries t_columns t_maps t_lines t_size t_scanned t_refusedAt t_cursor t_streamAt t_streamMany x24.2.1 x24.2.2.1 x24.2.2.2 t_sizeAt t_bitsAt t_colourAt t_colourEnd t_paletteAt t_mapAt t_mapEnd t_channelsAt v15_t_captureAt v15_t_displayAt 1 O.1 _) (hta _ lk_Mo_232) (hta _ ini_Mo) (hta _ code_Mo_isTop) code_Mo_isTop (hta _ inst_Mo_isTop) (hta _ sel_Mo_isTop) hd_Mo_isTop rfl ⟨by omega, by omega⟩ (ci := 7) 0 rfl rfl rfl rfl (by decide) (by decide) (by decide) rfl hl.1 (lv_room (Nat.le_of_ble_eq_true rfl)) d_Mo_inResolution_58 ⟨by omega, by omega⟩ (fun v w1 H locs hw hP hD hS => ?_)
            obtain ⟨x58, hx58, rfl, rfl⟩ := hw
            have hP : va_P D classes [(h_t, .inr (7, (.int t_thrown :: .int t_high :: .int t_wide :: .int t_components :: .ref h_t_bits :: .int t_unknown :: .int t_rights :: .int t_colours :: .int t_profiled :: .ref h_t_profile :: .int t_entries :: .int t_columns :: .ref h_t_columnBits :: .ref h_t_numbers :: .int t_maps :: .ref h_t_map :: .int t_lines :: .ref h_t_line :: .ref h_t_resolutions :: .ref h_t_file :: .int t_size :: .int t_scanned :: .int t_refusedAt :: .int t_cursor :: .int t_streamAt :: .int t_streamMany :: .int x24.2.1 :: .int x24.2.2.1 :: .int x24.2.2.2 :: .int t_sizeAt :: .int t_bitsAt :: .int t_colourAt :: .int t_colourEnd :: .int t_paletteAt :: .int t_mapAt :: .int t_mapEnd :: .int t_channelsAt :: .int v15_t_captureAt :: .int v15_t_displayAt :: .int 1 :: []))), (h_t_file, .inl (cI, 65536, .inl f_t_file))] H := hP.sub [1, 0] rfl
            have hD : va_D A [(h_t, .inr (7, (.int t_thrown :: .int t_high :: .int t_wide :: .int t_components :: .ref h_t_bits :: .int t_unknown :: .int t_rights :: .int t_colours :: .int t_profiled :: .ref h_t_profile :: .int t_entries :: .int t_columns :: .ref h_t_columnBits :: .ref h_t_numbers :: .int t_maps :: .ref h_t_map :: .int t_lines :: .ref h_t_line :: .ref h_t_resolutions :: .ref h_t_file :: .int t_size :: .int t_scanned :: .int t_refusedAt :: .int t_cursor :: .int t_streamAt :: .int t_streamMany :: .int x24.2.1 :: .int x24.2.2.1 :: .int x24.2.2.2 :: .int t_sizeAt :: .int t_bitsAt :: .int t_colourAt :: .int t_colourEnd :: .int t_paletteAt :: .int t_mapAt :: .int t_mapEnd :: .int t_channelsAt :: .int v15_t_captureAt :: .int v15_t_displayAt :: .int 1 :: []))), (h_t_file, .inl (cI, 65536, .inl f_t_file))] := hD.sub [1, 0] (by decide) rfl
            refine W.eq (g2 := F0 m 61 ls [.int x58]) rfl ?_
            have O := O.2
            have E : k_Mo_inResolution_58 f_t_file kk_15 v15_1 v15_t_captureAt v15_t_displayAt x24 j51_s0 x58 = RES := (congrArg (k_Mo_inResolution_58 f_t_file kk_15 v15_1 v15_t_captureAt v15_t_displayAt x24 j51_s0) hx58).trans E
            have O : ok_Mo_inResolution_58 f_t_file okk_15 v15_t_captureAt v15_t_displayAt x24 j51_s0 x58 := by rw [hx58]; exact O
            have J_128 : ∀ (j128_s0 : Int32), j_Mo_inResolution_128 f_t_file kk_15 v15_1 v15_t_captureAt v15_t_displayAt x24 j51_s0 j128_s0 = RES → oj_Mo_inResolution_128 f_t_file okk_15 v15_t_captureAt v15_t_displayAt x24 j51_s0 j128_s0 → ∀ (H : Heap) (locs : List Loc), va_P D classes [(h_t, .inr (7, (.int t_thrown :: .int t_high :: .int t_wide :: .int t_components :: .ref h_t_bits :: .int t_unknown :: .int t_rights :: .int t_colours :: .int t_profiled :: .ref h_t_profile :: .int t_entries :: .int t_columns :: .ref h_t_columnBits :: .ref h_t_numbers :: .int t_maps :: .ref h_t_map :: .int t_lines :: .ref h_t_line :: .ref h_t_resolutions :: .ref h_t_file :: .int t_size :: .int t_scanned :: .int t_refusedAt :: .int t_cursor :: .int t_streamAt :: .int t_streamMany :: .int x24.2.1 :: .int x24.2.2.1 :: .int x24.2.2.2 :: .int t_sizeAt :: .int t_bitsAt :: .int t_colourAt :: .int t_colourEnd :: .int t_paletteAt :: .int t_mapAt :: .int t_mapEnd :: .int t_channelsAt :: .int v15_t_captureAt :: .int v15_t_displayAt :: .int 1 :: []))), (h_t_file, .inl (cI, 65536, .inl f_t_file))] H → va_D A [(h_t, .inr (7, (.int t_thrown :: .int t_high :: .int t_wide :: .int t_components :: .ref h_t_bits :: .int t_unknown :: .int t_rights :: .int t_colours :: .int t_profiled :: .ref h_t_profile :: .int t_entries :: .int t_columns :: .ref h_t_columnBits :: .ref h_t_numbers :: .int t_maps :: .ref h_t_map :: .int t_lines :: .ref h_t_line :: .ref h_t_resolutions :: .ref h_t_file :: .int t_size :: .int t_scanned :: .int t_refusedAt :: .int t_cursor :: .int t_streamAt :: .int t_streamMany :: .int x24.2.1 :: .int x24.2.2.1 :: .int x24.2.2.2 :: .int t_sizeAt :: .int t_bitsAt :: .int t_colourAt :: .int t_colourEnd :: .int t_paletteAt :: .int t_mapAt :: .int t_mapEnd :: .int t_channelsAt :: .int v15_t_captureAt :: .int v15_t_displayAt :: .int 1 :: []))), (h_t_file, .inl (cI, 65536, .inl f_t_file))] → va_S A s.heap H locs → ∀ ls : Array Slot, lv_has ls 5 [(4, .int j51_s0), (2, .int t_end), (1, .int v15_1), (0, .ref h_t)] → W p l e R s m args below meth c H locs 0 0 Q (F0 m 128 ls [.int j128_s0]) := by
              intro j128_s0 E O H locs hP hD hS ls hl
              refine lv_istore_n (lv' := [(3, .int j128_s0), (4, .int j51_s0), (2, .int t_end), (1, .int v15_1), (0, .ref h_t)]) hx hb d_Mo_inResolution_128 rfl hl (by decide) rfl (fun ls hl => ?_)
              exact J_129 j128_s0 E O _ _ hP hD hS ls (lv_sub hl [1, 0, 2, 3, 4] rfl)
            refine lv_if_eq (tgt := 68) hx hb d_Mo_inResolution_61 (by decide) (fun c_61 => ?_) (fun c_61 => ?_)
            · have E := (if_pos c_61).symm.trans E
              have O := Eq.mp (if_pos c_61) O
              refine lv_iload hx hb d_Mo_inResolution_68 (lv_at hl 0 rfl) ?_
              have J_91 : j_Mo_inResolution_91 f_t_file kk_15 v15_1 v15_t_captureAt v15_t_displayAt x24 j51_s0 = RES → oj_Mo_inResolution_91 f_t_file okk_15 v15_t_captureAt v15_t_displayAt x24 j51_s0 → ∀ (H : Heap) (locs : List Loc), va_P D classes [(h_t, .inr (7, (.int t_thrown :: .int t_high :: .int t_wide :: .int t_components :: .ref h_t_bits :: .int t_unknown :: .int t_rights :: .int t_colours :: .int t_profiled :: .ref h_t_profile :: .int t_entries :: .int t_columns :: .ref h_t_columnBits :: .ref h_t_numbers :: .int t_maps :: .ref h_t_map :: .int t_lines :: .ref h_t_line :: .ref h_t_resolutions :: .ref h_t_file :: .int t_size :: .int t_scanned :: .int t_refusedAt :: .int t_cursor :: .int t_streamAt :: .int t_streamMany :: .int x24.2.1 :: .int x24.2.2.1 :: .int x24.2.2.2 :: .int t_sizeAt :: .int t_bitsAt :: .int t_colourAt :: .int t_colourEnd :: .int t_paletteAt :: .int t_mapAt :: .int t_mapEnd :: .int t_channelsAt :: .int v15_t_captureAt :: .int v15_t_displayAt :: .int 1 :: []))), (h_t_file, .inl (cI, 65536, .inl f_t_file))] H → va_D A [(h_t, .inr (7, (.int t_thrown :: .int t_high :: .int t_wide :: .int t_components :: .ref h_t_bits :: .int t_unknown :: .int t_rights :: .int t_colours :: .int t_profiled :: .ref h_t_profile :: .int t_entries :: .int t_columns :: .ref h_t_columnBits :: .ref h_t_numbers :: .int t_maps :: .ref h_t_map :: .int t_lines :: .ref h_t_line :: .ref h_t_resolutions :: .ref h_t_file :: .int t_size :: .int t_scanned :: .int t_refusedAt :: .int t_cursor :: .int t_streamAt :: .int t_streamMany :: .int x24.2.1 :: .int x24.2.2.1 :: .int x24.2.2.2 :: .int t_sizeAt :: .int t_bitsAt :: .int t_colourAt :: .int t_colourEnd :: .int t_paletteAt :: .int t_mapAt :: .int t_mapEnd :: .int t_channelsAt :: .int v15_t_captureAt :: .int v15_t_displayAt :: .int 1 :: []))), (h_t_file, .inl (cI, 65536, .inl f_t_file))] → va_S A s.heap H locs → ∀ ls : Array Slot, lv_has ls 5 [(4, .int j51_s0), (2, .int t_end), (1, .int v15_1), (0, .ref h_t)] → W p l e R s m args below meth c H locs 0 0 Q (F0 m 91 ls []) := by
                intro E O H locs hP hD hS ls hl
                refine lv_aload_n hx hb d_Mo_inResolution_91 rfl (lv_at hl 3 rfl) ?_
                refine va_get (D := D) (v := .int x24.2.1) hx hb hta i_Mo hown hK hP 0 rfl rfl 26 (by decide) (hta _ lk_Mo_216) (fun _ h9 => h9) rfl d_Mo_inResolution_92 ?_
                refine lv_ldc (v := 1919251299) hx hb hown (hta _ lk_Mo_188) d_Mo_inResolution_95 ?_
                have J_123 : j_Mo_inResolution_123 f_t_file kk_15 v15_1 v15_t_captureAt v15_t_displayAt x24 j51_s0 = RES → oj_Mo_inResolution_123 f_t_file okk_15 v15_t_captureAt v15_t_displayAt x24 j51_s0 → ∀ (H : Heap) (locs : List Loc), va_P D classes [(h_t, .inr (7, (.int t_thrown :: .int t_high :: .int t_wide :: .int t_components :: .ref h_t_bits :: .int t_unknown :: .int t_rights :: .int t_colours :: .int t_profiled :: .ref h_t_profile :: .int t_entries :: .int t_columns :: .ref h_t_columnBits :: .ref h_t_numbers :: .int t_maps :: .ref h_t_map :: .int t_lines :: .ref h_t_line :: .ref h_t_resolutions :: .ref h_t_file :: .int t_size :: .int t_scanned :: .int t_refusedAt :: .int t_cursor :: .int t_streamAt :: .int t_streamMany :: .int x24.2.1 :: .int x24.2.2.1 :: .int x24.2.2.2 :: .int t_sizeAt :: .int t_bitsAt :: .int t_colourAt :: .int t_colourEnd :: .int t_paletteAt :: .int t_mapAt :: .int t_mapEnd :: .int t_channelsAt :: .int v15_t_captureAt :: .int v15_t_displayAt :: .int 1 :: []))), (h_t_file, .inl (cI, 65536, .inl f_t_file))] H → va_D A [(h_t, .inr (7, (.int t_thrown :: .int t_high :: .int t_wide :: .int t_components :: .ref h_t_bits :: .int t_unknown :: .int t_rights :: .int t_colours :: .int t_profiled :: .ref h_t_profile :: .int t_entries :: .int t_columns :: .ref h_t_columnBits :: .ref h_t_numbers :: .int t_maps :: .ref h_t_map :: .int t_lines :: .ref h_t_line :: .ref h_t_resolutions :: .ref h_t_file :: .int t_size :: .int t_scanned :: .int t_refusedAt :: .int t_cursor :: .int t_streamAt :: .int t_streamMany :: .int x24.2.1 :: .int x24.2.2.1 :: .int x24.2.2.2 :: .int t_sizeAt :: .int t_bitsAt :: .int t_colourAt :: .int t_colourEnd :: .int t_paletteAt :: .int t_mapAt :: .int t_mapEnd :: .int t_channelsAt :: .int v15_t_captureAt :: .int v15_t_displayAt :: .int 1 :: []))), (h_t_file, .inl (cI, 65536, .inl f_t_file))] → va_S A s.heap H locs → ∀ ls : Array Slot, lv_has ls 5 [(4, .int j51_s0), (2, .int t_end), (1, .int v15_1), (0, .ref h_t)] → W p l e R s m args below meth c H locs 0 0 Q (F0 m 123 ls []) := by
                  intro E O H locs hP hD hS ls hl
                  refine lv_iconst (v := 4) hx hb d_Mo_inResolution_123 (by decide) ?_
                  refine lv_goto (tgt := 128) hx hb d_Mo_inResolution_124 (by decide) ?_
                  exact J_128 4 E O _ _ hP hD hS ls (lv_sub hl [0, 1, 2, 3] rfl)
                have J_107 : j_Mo_inResolution_107 f_t_file kk_15 v15_1 v15_t_captureAt v15_t_displayAt x24 j51_s0 = RES → oj_Mo_inResolution_107 f_t_file okk_15 v15_t_captureAt v15_t_displayAt x24 j51_s0 → ∀ (H : Heap) (locs : List Loc), va_P D classes [(h_t, .inr (7, (.int t_thrown :: .int t_high :: .int t_wide :: .int t_components :: .ref h_t_bits :: .int t_unknown :: .int t_rights :: .int t_colours :: .int t_profiled :: .ref h_t_profile :: .int t_entries :: .int t_columns :: .ref h_t_columnBits :: .ref h_t_numbers :: .int t_maps :: .ref h_t_map :: .int t_lines :: .ref h_t_line :: .ref h_t_resolutions :: .ref h_t_file :: .int t_size :: .int t_scanned :: .int t_refusedAt :: .int t_cursor :: .int t_streamAt :: .int t_streamMany :: .int x24.2.1 :: .int x24.2.2.1 :: .int x24.2.2.2 :: .int t_sizeAt :: .int t_bitsAt :: .int t_colourAt :: .int t_colourEnd :: .int t_paletteAt :: .int t_mapAt :: .int t_mapEnd :: .int t_channelsAt :: .int v15_t_captureAt :: .int v15_t_displayAt :: .int 1 :: []))), (h_t_file, .inl (cI, 65536, .inl f_t_file))] H → va_D A [(h_t, .inr (7, (.int t_thrown :: .int t_high :: .int t_wide :: .int t_components :: .ref h_t_bits :: .int t_unknown :: .int t_rights :: .int t_colours :: .int t_profiled :: .ref h_t_profile :: .int t_entries :: .int t_columns :: .ref h_t_columnBits :: .ref h_t_numbers :: .int t_maps :: .ref h_t_map :: .int t_lines :: .ref h_t_line :: .ref h_t_resolutions :: .ref h_t_file :: .int t_size :: .int t_scanned :: .int t_refusedAt :: .int t_cursor :: .int t_streamAt :: .int t_streamMany :: .int x24.2.1 :: .int x24.2.2.1 :: .int x24.2.2.2 :: .int t_sizeAt :: .int t_bitsAt :: .int t_colourAt :: .int t_colourEnd :: .int t_paletteAt :: .int t_mapAt :: .int t_mapEnd :: .int t_channelsAt :: .int v15_t_captureAt :: .int v15_t_displayAt :: .int 1 :: []))), (h_t_file, .inl (cI, 65536, .inl f_t_file))] → va_S A s.heap H locs → ∀ ls : Array Slot, lv_has ls 5 [(4, .int j51_s0), (2, .int t_end), (1, .int v15_1), (0, .ref h_t)] → W p l e R s m args below meth c H locs 0 0 Q (F0 m 107 ls []) := by
                  intro E O H locs hP hD hS ls hl
                  refine lv_aload_n hx hb d_Mo_inResolution_107 rfl (lv_at hl 3 rfl) ?_
                  refine va_get (D := D) (v := .int x24.2.1) hx hb hta i_Mo hown hK hP 0 rfl rfl 26 (by decide) (hta _ lk_Mo_216) (fun _ h9 => h9) rfl d_Mo_inResolution_108 ?_
                  refine lv_ldc (v := 1919251300) hx hb hown (hta _ lk_Mo_192) d_Mo_inResolution_111 ?_
                  have J_127 : j_Mo_inResolution_127 f_t_file kk_15 v15_1 v15_t_captureAt v15_t_displayAt x24 j51_s0 = RES → oj_Mo_inResolution_127 f_t_file okk_15 v15_t_captureAt v15_t_displayAt x24 j51_s0 → ∀ (H : Heap) (locs : List Loc), va_P D classes [(h_t, .inr (7, (.int t_thrown :: .int t_high :: .int t_wide :: .int t_components :: .ref h_t_bits :: .int t_unknown :: .int t_rights :: .int t_colours :: .int t_profiled :: .ref h_t_profile :: .int t_entries :: .int t_columns :: .ref h_t_columnBits :: .ref h_t_numbers :: .int t_maps :: .ref h_t_map :: .int t_lines :: .ref h_t_line :: .ref h_t_resolutions :: .ref h_t_file :: .int t_size :: .int t_scanned :: .int t_refusedAt :: .int t_cursor :: .int t_streamAt :: .int t_streamMany :: .int x24.2.1 :: .int x24.2.2.1 :: .int x24.2.2.2 :: .int t_sizeAt :: .int t_bitsAt :: .int t_colourAt :: .int t_colourEnd :: .int t_paletteAt :: .int t_mapAt :: .int t_mapEnd :: .int t_channelsAt :: .int v15_t_captureAt :: .int v15_t_displayAt :: .int 1 :: []))), (h_t_file, .inl (cI, 65536, .inl f_t_file))] H → va_D A [(h_t, .inr (7, (.int t_thrown :: .int t_high :: .int t_wide :: .int t_components :: .ref h_t_bits :: .int t_unknown :: .int t_rights :: .int t_colours :: .int t_profiled :: .ref h_t_profile :: .int t_entries :: .int t_columns :: .ref h_t_columnBits :: .ref h_t_numbers :: .int t_maps :: .ref h_t_map :: .int t_lines :: .ref h_t_line :: .ref h_t_resolutions :: .ref h_t_file :: .int t_size :: .int t_scanned :: .int t_refusedAt :: .int t_cursor :: .int t_streamAt :: .int t_streamMany :: .int x24.2.1 :: .int x24.2.2.1 :: .int x24.2.2.2 :: .int t_sizeAt :: .int t_bitsAt :: .int t_colourAt :: .int t_colourEnd :: .int t_paletteAt :: .int t_mapAt :: .int t_mapEnd :: .int t_channelsAt :: .int v15_t_captureAt :: .int v15_t_displayAt :: .int 1 :: []))), (h_t_file, .inl (cI, 65536, .inl f_t_file))] → va_S A s.heap H locs → ∀ ls : Array Slot, lv_has ls 5 [(4, .int j51_s0), (2, .int t_end), (1, .int v15_1), (0, .ref h_t)] → W p l e R s m args below meth c H locs 0 0 Q (F0 m 127 ls []) := by
                    intro E O H locs hP hD hS ls hl
                    refine lv_iconst (v := 0) hx hb d_Mo_inResolution_127 (by decide) ?_
                    exact J_128 0 E O _ _ hP hD hS ls (lv_sub hl [0, 1, 2, 3] rfl)
                  refine lv_icmp_ne (tgt := 127) hx hb d_Mo_inResolution_113 (by decide) (fun c_113 => ?_) (fun c_113 => ?_)
                  · have E := (if_neg c_113).symm.trans E
                    have O := Eq.mp (if_neg c_113) O
                    exact J_127  E O _ _ hP hD hS ls (lv_sub hl [0, 1, 2, 3] rfl)
                  · have E := (if_pos c_113).symm.trans E
                    have O := Eq.mp (if_pos c_113) O
                    refine lv_aload_n hx hb d_Mo_inResolution_116 rfl (lv_at hl 3 rfl) ?_
                    refine va_get (D := D) (v := .int v15_t_displayAt) hx hb hta i_Mo hown hK hP 0 rfl rfl 38 (by decide) (hta _ lk_Mo_274) (fun _ h9 => h9) rfl d_Mo_inResolution_117 ?_
                    refine lv_if_le (tgt := 127) hx hb d_Mo_inResolution_120 (by decide) (fun c_120 => ?_) (fun c_120 => ?_)
                    · have E := (if_pos c_120).symm.trans E
                      have O := Eq.mp (if_pos c_120) O
                      exact J_127  E O _ _ hP hD hS ls (lv_sub hl [0, 1, 2, 3] rfl)
                    · have E := (if_neg c_120).symm.trans E
                      have O := Eq.mp (if_neg c_120) O
                      exact J_123  E O _ _ hP hD hS ls (lv_sub hl [0, 1, 2, 3] rfl)
                refine lv_icmp_ne (tgt := 107) hx hb d_Mo_inResolution_97 (by decide) (fun c_97 => ?_) (fun c_97 => ?_)
                · have E := (if_neg c_97).symm.trans E
                  have O := Eq.mp (if_neg c_97) O
                  exact J_107  E O _ _ hP hD hS ls (lv_sub hl [0, 1, 2, 3] rfl)
                · have E := (if_pos c_97).symm.trans E
                  have O := Eq.mp (if_pos c_97) O
                  refine lv_aload_n hx hb d_Mo_inResolution_100 rfl (lv_at hl 3 rfl) ?_
                  refine va_get (D := D) (v := .int v15_t_captureAt) hx hb hta i_Mo hown hK hP 0 rfl rfl 37 (by decide) (hta _ lk_Mo_271) (fun _ h9 => h9) rfl d_Mo_inResolution_101 ?_
                  refine lv_if_gt (tgt := 123) hx hb d_Mo_inResolution_104 (by decide) (fun c_104 => ?_) (fun c_104 => ?_)
                  · have E := (if_pos c_104).symm.trans E
                    have O := Eq.mp (if_pos c_104) O
                    exact J_123  E O _ _ hP hD hS ls (lv_sub hl [0, 1, 2, 3] rfl)
                  · have E := (if_neg c_104).symm.trans E
                    have O := Eq.mp (if_neg c_104) O
                    exact J_107  E O _ _ hP hD hS ls (lv_sub hl [0, 1, 2, 3] rfl)
              refine lv_if_eq (tgt := 91) hx hb d_Mo_inResolution_70 (by decide) (fun c_70 => ?_) (fun c_70 => ?_)
              · have E := (if_pos c_70).symm.trans E
                have O := Eq.mp (if_pos c_70) O
                exact J_91  E O _ _ hP hD hS ls (lv_sub hl [0, 2, 3, 4] rfl)
              · have E := (if_neg c_70).symm.trans E
                have O := Eq.mp (if_neg c_70) O
                refine lv_aload_n hx hb d_Mo_inResolution_73 rfl (lv_at hl 4 rfl) ?_
                refine va_get (D := D) (v := .int x24.2.2.2) hx hb hta i_Mo hown hK hP 0 rfl rfl 28 (by decide) (hta _ lk_Mo_222) (fun _ h9 => h9) rfl d_Mo_inResolution_74 ?_
                refine lv_aload_n hx hb d_Mo_inResolution_77 rfl (lv_at hl 4 rfl) ?_
                refine va_get (D := D) (v := .int x24.2.2.1) hx hb hta i_Mo hown hK hP 0 rfl rfl 27 (by decide) (hta _ lk_Mo_219) (fun _ h9 => h9) rfl d_Mo_inResolution_78 ?_
                refine lv_isub hx hb d_Mo_inResolution_81 ?_
                refine lv_bipush (v := 10) hx hb d_Mo_inResolution_82 (by decide) ?_
                refine lv_icmp_eq (tgt := 91) hx hb d_Mo_inResolution_84 (by decide) (fun c_84 => ?_) (fun c_84 => ?_)
                · have E := (if_pos c_84).symm.trans E
                  have O := Eq.mp (if_pos c_84) O
                  exact J_91  E O _ _ hP hD hS ls (lv_sub hl [0, 2, 3, 4] rfl)
                · have E := (if_neg c_84).symm.trans E
                  have O := Eq.mp (if_neg c_84) O
                  refine lv_iconst (v := 3) hx hb d_Mo_inResolution_87 (by decide) ?_
                  refine lv_goto (tgt := 128) hx hb d_Mo_inResolution_88 (by decide) ?_
                  exact J_128 3 E O _ _ hP hD hS ls (lv_sub hl [0, 2, 3, 4] rfl)
            · have E := (if_neg c_61).symm.trans E
              have O := Eq.mp (if_neg c_61) O
              refine lv_iconst (v := 2) hx hb d_Mo_inResolution_64 (by decide) ?_
              refine lv_goto (tgt := 128) hx hb d_Mo_inResolution_65 (by decide) ?_
              exact J_128 2 E O _ _ hP hD hS ls (lv_sub hl [0, 2, 3, 4] rfl)
        have J_46 : j_Mo_inResolution_46 f_t_file kk_15 v15_1 v15_t_captureAt v15_t_displayAt x24 = RES → oj_Mo_inResolution_46 f_t_file okk_15 v15_t_captureAt v15_t_displayAt x24 → ∀ (H : Heap) (locs : List Loc), va_P D classes [(h_t, .inr (7, (.int t_thrown :: .int t_high :: .int t_wide :: .int t_components :: .ref h_t_bits :: .int t_unknown :: .int t_rights :: .int t_colours :: .int t_profiled :: .ref h_t_profile :: .int t_entries :: .int t_columns :: .ref h_t_columnBits :: .ref h_t_numbers :: .int t_maps :: .ref h_t_map :: .int t_lines :: .ref h_t_line :: .ref h_t_resolutions :: .ref h_t_file :: .int t_size :: .int t_scanned :: .int t_refusedAt :: .int t_cursor :: .int t_streamAt :: .int t_streamMany :: .int x24.2.1 :: .int x24.2.2.1 :: .int x24.2.2.2 :: .int t_sizeAt :: .int t_bitsAt :: .int t_colourAt :: .int t_colourEnd :: .int t_paletteAt :: .int t_mapAt :: .int t_mapEnd :: .int t_channelsAt :: .int v15_t_captureAt :: .int v15_t_displayAt :: .int 1 :: []))), (h_t_file, .inl (cI, 65536, .inl f_t_file))] H → va_D A [(h_t, .inr (7, (.int t_thrown :: .int t_high :: .int t_wide :: .int t_components :: .ref h_t_bits :: .int t_unknown :: .int t_rights :: .int t_colours :: .int t_profiled :: .ref h_t_profile :: .int t_entries :: .int t_columns :: .ref h_t_columnBits :: .ref h_t_numbers :: .int t_maps :: .ref h_t_map :: .int t_lines :: .ref h_t_line :: .ref h_t_resolutions :: .ref h_t_file :: .int t_size :: .int t_scanned :: .int t_refusedAt :: .int t_cursor :: .int t_streamAt :: .int t_streamMany :: .int x24.2.1 :: .int x24.2.2.1 :: .int x24.2.2.2 :: .int t_sizeAt :: .int t_bitsAt :: .int t_colourAt :: .int t_colourEnd :: .int t_paletteAt :: .int t_mapAt :: .int t_mapEnd :: .int t_channelsAt :: .int v15_t_captureAt :: .int v15_t_displayAt :: .int 1 :: []))), (h_t_file, .inl (cI, 65536, .inl f_t_file))] → va_S A s.heap H locs → ∀ ls : Array Slot, lv_has ls 5 [(3, .int x24.1), (2, .int t_end), (1, .int v15_1), (0, .ref h_t)] → W p l e R s m args below meth c H locs 0 0 Q (F0 m 46 ls []) := by
          intro E O H locs hP hD hS ls hl
          refine lv_iconst (v := 1) hx hb d_Mo_inResolution_46 (by decide) ?_
          refine lv_goto (tgt := 51) hx hb d_Mo_inResolution_47 (by decide) ?_
          exact J_51 1 E O _ _ hP hD hS ls (lv_sub hl [0, 1, 2, 3] rfl)
        refine lv_icmp_eq (tgt := 46) hx hb d_Mo_inResolution_34 (by decide) (fun c_34 => ?_) (fun c_34 => ?_)
        · have E := (if_pos c_34).symm.trans E
          have O := Eq.mp (if_pos c_34) O
          exact J_46  E O _ _ hP hD hS ls (lv_sub hl [0, 1, 2, 3] rfl)
        · have E := (if_neg c_34).symm.trans E
          have O := Eq.mp (if_neg c_34) O
          refine lv_aload_n hx hb d_Mo_inResolution_37 rfl (lv_at hl 3 rfl) ?_
          refine va_get (D := D) (v := .int x24.2.1) hx hb hta i_Mo hown hK hP 0 rfl rfl 26 (by decide) (hta _ lk_Mo_216) (fun _ h9 => h9) rfl d_Mo_inResolution_38 ?_
          refine lv_ldc (v := 1919251300) hx hb hown (hta _ lk_Mo_192) d_Mo_inResolution_41 ?_
          refine lv_icmp_ne (tgt := 50) hx hb d_Mo_inResolution_43 (by decide) (fun c_43 => ?_) (fun c_43 => ?_)
          · have E := (if_neg c_43).symm.trans E
            have O := Eq.mp (if_neg c_43) O
            refine lv_iconst (v := 0) hx hb d_Mo_inResolution_50 (by decide) ?_
            exact J_51 0 E O _ _ hP hD hS ls (lv_sub hl [0, 1, 2, 3] rfl)
          · have E := (if_pos c_43).symm.trans E
            have O := Eq.mp (if_pos c_43) O
            exact J_46  E O _ _ hP hD hS ls (lv_sub hl [0, 1, 2, 3] rfl)
  exact L_15 _ t_from t_name t_from t_end t_captureAt t_displayAt E O _ _ hP hD hS ls (lv_sub hl [0, 1, 2] rfl)
theorem d_Mo_channelsThere_0 : decode b_Mo_channelsThere 0 = .ok (.aload_n 0, 1) := by decide +kernel
theorem d_Mo_channelsThere_1 : decode b_Mo_channelsThere 1 = .ok (.getfield 241, 3) := by decide +kernel
theorem d_Mo_channelsThere_4 : decode b_Mo_channelsThere 4 = .ok (.ifCond .le 17, 3) := by decide +kernel
theorem d_Mo_channelsThere_7 : decode b_Mo_channelsThere 7 = .ok (.aload_n 0, 1) := by decide +kernel
theorem d_Mo_channelsThere_8 : decode b_Mo_channelsThere 8 = .ok (.getfield 264, 3) := by decide +kernel
theorem d_Mo_channelsThere_11 : decode b_Mo_channelsThere 11 = .ok (.aload_n 0, 1) := by decide +kernel
theorem d_Mo_channelsThere_12 : decode b_Mo_channelsThere 12 = .ok (.getfield 241, 3) := by decide +kernel
theorem d_Mo_channelsThere_15 : decode b_Mo_channelsThere 15 = .ok (.isub, 1) := by decide +kernel
theorem d_Mo_channelsThere_16 : decode b_Mo_channelsThere 16 = .ok (.iconst 4, 1) := by decide +kernel
theorem d_Mo_channelsThere_17 : decode b_Mo_channelsThere 17 = .ok (.idiv, 1) := by decide +kernel
theorem d_Mo_channelsThere_18 : decode b_Mo_channelsThere 18 = .ok (.goto 14, 3) := by decide +kernel
theorem d_Mo_channelsThere_21 : decode b_Mo_channelsThere 21 = .ok (.aload_n 0, 1) := by decide +kernel
theorem d_Mo_channelsThere_22 : decode b_Mo_channelsThere 22 = .ok (.aload_n 0, 1) := by decide +kernel
theorem d_Mo_channelsThere_23 : decode b_Mo_channelsThere 23 = .ok (.getfield 226, 3) := by decide +kernel
theorem d_Mo_channelsThere_26 : decode b_Mo_channelsThere 26 = .ok (.bipush 8, 2) := by decide +kernel
theorem d_Mo_channelsThere_28 : decode b_Mo_channelsThere 28 = .ok (.iadd, 1) := by decide +kernel
theorem d_Mo_channelsThere_29 : decode b_Mo_channelsThere 29 = .ok (.invokevirtual 209, 3) := by decide +kernel
theorem d_Mo_channelsThere_32 : decode b_Mo_channelsThere 32 = .ok (.ireturn, 1) := by decide +kernel
def k_Mo_channelsThere_29 (x29 : Int32) : Int32 :=
  x29
def ok_Mo_channelsThere_29 (x29 : Int32) : Prop :=
  True
def om_Mo_channelsThere (t_sizeAt : Int32) (t_mapAt : Int32) (f_t_file : Nat → Int32) : Prop :=
  if t_mapAt ≤ 0 then (om_Mo_u2 (t_sizeAt + 8) ∧ (ok_Mo_channelsThere_29 (m_Mo_u2 f_t_file (t_sizeAt + 8)))) else True
def m_Mo_channelsThere (t_sizeAt : Int32) (t_mapAt : Int32) (t_mapEnd : Int32) (f_t_file : Nat → Int32) : Int32 :=
  if t_mapAt ≤ 0 then (k_Mo_channelsThere_29 (m_Mo_u2 f_t_file (t_sizeAt + 8))) else ((t_mapEnd - t_mapAt) / 4)
set_option maxHeartbeats 4000000 in
set_option maxRecDepth 100000 in
theorem c_Mo_channelsThere (l : Launch) (D : va_G) (cB cI cJ : ClassId) (h_t h_t_bits h_t_profile h_t_columnBits h_t_numbers h_t_map h_t_line h_t_resolutions h_t_file : Nat) (t_thrown : Int32) (t_high : Int32) (t_wide : Int32) (t_components : Int32) (t_unknown : Int32) (t_rights : Int32) (t_colours : Int32) (t_profiled : Int32) (t_entries : Int32) (t_columns : Int32) (t_maps : Int32) (t_lines : Int32) (t_size : Int32) (t_scanned : Int32) (t_refusedAt : Int32) (t_cursor : Int32) (t_streamAt : Int32) (t_streamMany : Int32) (t_name : Int32) (t_from : Int32) (t_end : Int32) (t_sizeAt : Int32) (t_bitsAt : Int32) (t_colourAt : Int32) (t_colourEnd : Int32) (t_paletteAt : Int32) (t_mapAt : Int32) (t_mapEnd : Int32) (t_channelsAt : Int32) (t_captureAt : Int32) (t_displayAt : Int32) (t_resolved : Int32) (f_t_file : Nat → Int32) (hO : om_Mo_channelsThere t_sizeAt t_mapAt f_t_file) (sz : Nat) : Ct l D cB cI cJ y_Mo_channelsThere b_Mo_channelsThere 1 (some .int) 1 21 0 0 [.ref h_t] [(h_t, .inr (7, (.int t_thrown :: .int t_high :: .int t_wide :: .int t_components :: .ref h_t_bits :: .int t_unknown :: .int t_rights :: .int t_colours :: .int t_profiled :: .ref h_t_profile :: .int t_entries :: .int t_columns :: .ref h_t_columnBits :: .ref h_t_numbers :: .int t_maps :: .ref h_t_map :: .int t_lines :: .ref h_t_line :: .ref h_t_resolutions :: .ref h_t_file :: .int t_size :: .int t_scanned :: .int t_refusedAt :: .int t_cursor :: .int t_streamAt :: .int t_streamMany :: .int t_name :: .int t_from :: .int t_end :: .int t_sizeAt :: .int t_bitsAt :: .int t_colourAt :: .int t_colourEnd :: .int t_paletteAt :: .int t_mapAt :: .int t_mapEnd :: .int t_channelsAt :: .int t_captureAt :: .int t_displayAt :: .int t_resolved :: []))), (h_t_file, .inl (cI, 65536, .inl f_t_file))] (fun v w1 => ∃ (x : Int32), x = m_Mo_channelsThere t_sizeAt t_mapAt t_mapEnd f_t_file ∧ v = some (.int x) ∧ w1 = [(h_t, .inr (7, (.int t_thrown :: .int t_high :: .int t_wide :: .int t_components :: .ref h_t_bits :: .int t_unknown :: .int t_rights :: .int t_colours :: .int t_profiled :: .ref h_t_profile :: .int t_entries :: .int t_columns :: .ref h_t_columnBits :: .ref h_t_numbers :: .int t_maps :: .ref h_t_map :: .int t_lines :: .ref h_t_line :: .ref h_t_resolutions :: .ref h_t_file :: .int t_size :: .int t_scanned :: .int t_refusedAt :: .int t_cursor :: .int t_streamAt :: .int t_streamMany :: .int t_name :: .int t_from :: .int t_end :: .int t_sizeAt :: .int t_bitsAt :: .int t_colourAt :: .int t_colourEnd :: .int t_paletteAt :: .int t_mapAt :: .int t_mapEnd :: .int t_channelsAt :: .int t_captureAt :: .int t_displayAt :: .int t_resolved :: []))), (h_t_file, .inl (cI, 65536, .inl f_t_file))]) sz := by
  refine Ct.of (by decide) (Nat.le_of_ble_eq_true rfl) ?_
  intro p e R s m args below meth c A ls Q hx hb hr hlk hml hta hown hin hK hN hA hRf hRl hRc hRs hP hD hS hl hQ
  have hl : lv_has ls 1 [(0, .ref h_t)] := hl
  obtain ⟨RES, E0⟩ : ∃ R, m_Mo_channelsThere t_sizeAt t_mapAt t_mapEnd f_t_file = R := ⟨_, rfl⟩
  have E := E0
  have O := hO
  refine lv_aload_n hx hb d_Mo_channelsThere_0 rfl (lv_at hl 0 rfl) ?_
  refine va_get (D := D) (v := .int t_mapAt) hx hb hta i_Mo hown hK hP 0 rfl rfl 34 (by decide) (hta _ lk_Mo_241) (fun _ h9 => h9) rfl d_Mo_channelsThere_1 ?_
  refine lv_if_le (tgt := 21) hx hb d_Mo_channelsThere_4 (by decide) (fun c_4 => ?_) (fun c_4 => ?_)
  · have E := (if_pos c_4).symm.trans E
    have O := Eq.mp (if_pos c_4) O
    refine lv_aload_n hx hb d_Mo_channelsThere_21 rfl (lv_at hl 0 rfl) ?_
    refine lv_aload_n hx hb d_Mo_channelsThere_22 rfl (lv_at hl 0 rfl) ?_
    refine va_get (D := D) (v := .int t_sizeAt) hx hb hta i_Mo hown hK hP 0 rfl rfl 29 (by decide) (hta _ lk_Mo_226) (fun _ h9 => h9) rfl d_Mo_channelsThere_23 ?_
    refine lv_bipush (v := 8) hx hb d_Mo_channelsThere_26 (by decide) ?_
    refine lv_iadd hx hb d_Mo_channelsThere_28 ?_
    refine kc_V (As := [.int (t_sizeAt + 8)]) (rest := []) (wr := []) [0, 1] [] ⟨hx, hb, hml, hown, hta⟩ hK hN hP hD hS hA (c_Mo_u2 l D cB cI cJ h_t h_t_bits h_t_profile h_t_columnBits h_t_numbers h_t_map h_t_line h_t_resolutions h_t_file t_thrown t_high t_wide t_components t_unknown t_rights t_colours t_profiled t_entries t_columns t_maps t_lines t_size t_scanned t_refusedAt t_cursor t_streamAt t_streamMany t_name t_from t_end t_sizeAt t_bitsAt t_colourAt t_colourEnd t_paletteAt t_mapAt t_mapEnd t_channelsAt t_captureAt t_displayAt t_resolved f_t_file (t_sizeAt + 8) O.1 _) (hta _ lk_Mo_209) (hta _ ini_Mo) (hta _ code_Mo_u2) code_Mo_u2 (hta _ inst_Mo_u2) (hta _ sel_Mo_u2) hd_Mo_u2 rfl ⟨by omega, by omega⟩ (ci := 7) 0 rfl rfl rfl rfl (by decide) (by decide) (by decide) rfl hl.1 (lv_room (Nat.le_of_ble_eq_true rfl)) d_Mo_channelsThere_29 ⟨by omega, by omega⟩ (fun v w1 H locs hw hP hD hS => ?_)
    obtain ⟨x29, hx29, rfl, rfl⟩ := hw
    have hP : va_P D classes [(h_t, .inr (7, (.int t_thrown :: .int t_high :: .int t_wide :: .int t_components :: .ref h_t_bits :: .int t_unknown :: .int t_rights :: .int t_colours :: .int t_profiled :: .ref h_t_profile :: .int t_entries :: .int t_columns :: .ref h_t_columnBits :: .ref h_t_numbers :: .int t_maps :: .ref h_t_map :: .int t_lines :: .ref h_t_line :: .ref h_t_resolutions :: .ref h_t_file :: .int t_size :: .int t_scanned :: .int t_refusedAt :: .int t_cursor :: .int t_streamAt :: .int t_streamMany :: .int t_name :: .int t_from :: .int t_end :: .int t_sizeAt :: .int t_bitsAt :: .int t_colourAt :: .int t_colourEnd :: .int t_paletteAt :: .int t_mapAt :: .int t_mapEnd :: .int t_channelsAt :: .int t_captureAt :: .int t_displayAt :: .int t_resolved :: []))), (h_t_file, .inl (cI, 65536, .inl f_t_file))] H := hP.sub [0, 1] rfl
    have hD : va_D A [(h_t, .inr (7, (.int t_thrown :: .int t_high :: .int t_wide :: .int t_components :: .ref h_t_bits :: .int t_unknown :: .int t_rights :: .int t_colours :: .int t_profiled :: .ref h_t_profile :: .int t_entries :: .int t_columns :: .ref h_t_columnBits :: .ref h_t_numbers :: .int t_maps :: .ref h_t_map :: .int t_lines :: .ref h_t_line :: .ref h_t_resolutions :: .ref h_t_file :: .int t_size :: .int t_scanned :: .int t_refusedAt :: .int t_cursor :: .int t_streamAt :: .int t_streamMany :: .int t_name :: .int t_from :: .int t_end :: .int t_sizeAt :: .int t_bitsAt :: .int t_colourAt :: .int t_colourEnd :: .int t_paletteAt :: .int t_mapAt :: .int t_mapEnd :: .int t_channelsAt :: .int t_captureAt :: .int t_displayAt :: .int t_resolved :: []))), (h_t_file, .inl (cI, 65536, .inl f_t_file))] := hD.sub [0, 1] (by decide) rfl
    refine W.eq (g2 := F0 m 32 ls [.int x29]) rfl ?_
    have O := O.2
    have E : k_Mo_channelsThere_29 x29 = RES := (congrArg (k_Mo_channelsThere_29) hx29).trans E
    have O : ok_Mo_channelsThere_29 x29 := by rw [hx29]; exact O
    exact kr_i hx hb hr hlk hQ hK hP hD hS ⟨(x29 : Int32), E.trans E0.symm, rfl, rfl⟩ (by omega) (by omega) d_Mo_channelsThere_32
  · have E := (if_neg c_4).symm.trans E
    have O := Eq.mp (if_neg c_4) O
    refine lv_aload_n hx hb d_Mo_channelsThere_7 rfl (lv_at hl 0 rfl) ?_
    refine va_get (D := D) (v := .int t_mapEnd) hx hb hta i_Mo hown hK hP 0 rfl rfl 35 (by decide) (hta _ lk_Mo_264) (fun _ h9 => h9) rfl d_Mo_channelsThere_8 ?_
    refine lv_aload_n hx hb d_Mo_channelsThere_11 rfl (lv_at hl 0 rfl) ?_
    refine va_get (D := D) (v := .int t_mapAt) hx hb hta i_Mo hown hK hP 0 rfl rfl 34 (by decide) (hta _ lk_Mo_241) (fun _ h9 => h9) rfl d_Mo_channelsThere_12 ?_
    refine lv_isub hx hb d_Mo_channelsThere_15 ?_
    refine lv_iconst (v := 4) hx hb d_Mo_channelsThere_16 (by decide) ?_
    refine lv_idiv hx hb d_Mo_channelsThere_17 (by decide) ?_
    refine lv_goto (tgt := 32) hx hb d_Mo_channelsThere_18 (by decide) ?_
    exact kr_i hx hb hr hlk hQ hK hP hD hS ⟨((t_mapEnd - t_mapAt) / 4 : Int32), E.trans E0.symm, rfl, rfl⟩ (by omega) (by omega) d_Mo_channelsThere_32
theorem d_Mo_behindHead_0 : decode b_Mo_behindHead 0 = .ok (.aload_n 0, 1) := by decide +kernel
theorem d_Mo_behindHead_1 : decode b_Mo_behindHead 1 = .ok (.getfield 226, 3) := by decide +kernel
theorem d_Mo_behindHead_4 : decode b_Mo_behindHead 4 = .ok (.ifCond .eq 49, 3) := by decide +kernel
theorem d_Mo_behindHead_7 : decode b_Mo_behindHead 7 = .ok (.aload_n 0, 1) := by decide +kernel
theorem d_Mo_behindHead_8 : decode b_Mo_behindHead 8 = .ok (.getfield 252, 3) := by decide +kernel
theorem d_Mo_behindHead_11 : decode b_Mo_behindHead 11 = .ok (.ifCond .eq 42, 3) := by decide +kernel
theorem d_Mo_behindHead_14 : decode b_Mo_behindHead 14 = .ok (.aload_n 0, 1) := by decide +kernel
theorem d_Mo_behindHead_15 : decode b_Mo_behindHead 15 = .ok (.getfield 37, 3) := by decide +kernel
theorem d_Mo_behindHead_18 : decode b_Mo_behindHead 18 = .ok (.aload_n 0, 1) := by decide +kernel
theorem d_Mo_behindHead_19 : decode b_Mo_behindHead 19 = .ok (.getfield 226, 3) := by decide +kernel
theorem d_Mo_behindHead_22 : decode b_Mo_behindHead 22 = .ok (.bipush 10, 2) := by decide +kernel
theorem d_Mo_behindHead_24 : decode b_Mo_behindHead 24 = .ok (.iadd, 1) := by decide +kernel
theorem d_Mo_behindHead_25 : decode b_Mo_behindHead 25 = .ok (.iaload, 1) := by decide +kernel
theorem d_Mo_behindHead_26 : decode b_Mo_behindHead 26 = .ok (.sipush 255, 3) := by decide +kernel
theorem d_Mo_behindHead_29 : decode b_Mo_behindHead 29 = .ok (.if_icmp .ne 10, 3) := by decide +kernel
theorem d_Mo_behindHead_32 : decode b_Mo_behindHead 32 = .ok (.aload_n 0, 1) := by decide +kernel
theorem d_Mo_behindHead_33 : decode b_Mo_behindHead 33 = .ok (.getfield 238, 3) := by decide +kernel
theorem d_Mo_behindHead_36 : decode b_Mo_behindHead 36 = .ok (.ifCond .eq 17, 3) := by decide +kernel
theorem d_Mo_behindHead_39 : decode b_Mo_behindHead 39 = .ok (.aload_n 0, 1) := by decide +kernel
theorem d_Mo_behindHead_40 : decode b_Mo_behindHead 40 = .ok (.getfield 235, 3) := by decide +kernel
theorem d_Mo_behindHead_43 : decode b_Mo_behindHead 43 = .ok (.ifCond .le 13, 3) := by decide +kernel
theorem d_Mo_behindHead_46 : decode b_Mo_behindHead 46 = .ok (.aload_n 0, 1) := by decide +kernel
theorem d_Mo_behindHead_47 : decode b_Mo_behindHead 47 = .ok (.getfield 241, 3) := by decide +kernel
theorem d_Mo_behindHead_50 : decode b_Mo_behindHead 50 = .ok (.ifCond .ne 6, 3) := by decide +kernel
theorem d_Mo_behindHead_53 : decode b_Mo_behindHead 53 = .ok (.bipush 6, 2) := by decide +kernel
theorem d_Mo_behindHead_55 : decode b_Mo_behindHead 55 = .ok (.ireturn, 1) := by decide +kernel
theorem d_Mo_behindHead_56 : decode b_Mo_behindHead 56 = .ok (.aload_n 0, 1) := by decide +kernel
theorem d_Mo_behindHead_57 : decode b_Mo_behindHead 57 = .ok (.getfield 244, 3) := by decide +kernel
theorem d_Mo_behindHead_60 : decode b_Mo_behindHead 60 = .ok (.ifCond .le 14, 3) := by decide +kernel
theorem d_Mo_behindHead_63 : decode b_Mo_behindHead 63 = .ok (.aload_n 0, 1) := by decide +kernel
theorem d_Mo_behindHead_64 : decode b_Mo_behindHead 64 = .ok (.aload_n 0, 1) := by decide +kernel
theorem d_Mo_behindHead_65 : decode b_Mo_behindHead 65 = .ok (.getfield 244, 3) := by decide +kernel
theorem d_Mo_behindHead_68 : decode b_Mo_behindHead 68 = .ok (.invokevirtual 209, 3) := by decide +kernel
theorem d_Mo_behindHead_71 : decode b_Mo_behindHead 71 = .ok (.goto 4, 3) := by decide +kernel
theorem d_Mo_behindHead_74 : decode b_Mo_behindHead 74 = .ok (.iconst 0, 1) := by decide +kernel
theorem d_Mo_behindHead_75 : decode b_Mo_behindHead 75 = .ok (.istore_n 1, 1) := by decide +kernel
theorem d_Mo_behindHead_76 : decode b_Mo_behindHead 76 = .ok (.iconst 1, 1) := by decide +kernel
theorem d_Mo_behindHead_77 : decode b_Mo_behindHead 77 = .ok (.istore_n 2, 1) := by decide +kernel
theorem d_Mo_behindHead_78 : decode b_Mo_behindHead 78 = .ok (.iconst 0, 1) := by decide +kernel
theorem d_Mo_behindHead_79 : decode b_Mo_behindHead 79 = .ok (.istore_n 3, 1) := by decide +kernel
theorem d_Mo_behindHead_80 : decode b_Mo_behindHead 80 = .ok (.iload_n 3, 1) := by decide +kernel
theorem d_Mo_behindHead_81 : decode b_Mo_behindHead 81 = .ok (.iload_n 1, 1) := by decide +kernel
theorem d_Mo_behindHead_82 : decode b_Mo_behindHead 82 = .ok (.if_icmp .ge 91, 3) := by decide +kernel
theorem d_Mo_behindHead_85 : decode b_Mo_behindHead 85 = .ok (.aload_n 0, 1) := by decide +kernel
theorem d_Mo_behindHead_86 : decode b_Mo_behindHead 86 = .ok (.aload_n 0, 1) := by decide +kernel
theorem d_Mo_behindHead_87 : decode b_Mo_behindHead 87 = .ok (.getfield 244, 3) := by decide +kernel
theorem d_Mo_behindHead_90 : decode b_Mo_behindHead 90 = .ok (.iconst 2, 1) := by decide +kernel
theorem d_Mo_behindHead_91 : decode b_Mo_behindHead 91 = .ok (.iadd, 1) := by decide +kernel
theorem d_Mo_behindHead_92 : decode b_Mo_behindHead 92 = .ok (.bipush 6, 2) := by decide +kernel
theorem d_Mo_behindHead_94 : decode b_Mo_behindHead 94 = .ok (.iload_n 3, 1) := by decide +kernel
theorem d_Mo_behindHead_95 : decode b_Mo_behindHead 95 = .ok (.imul, 1) := by decide +kernel
theorem d_Mo_behindHead_96 : decode b_Mo_behindHead 96 = .ok (.iadd, 1) := by decide +kernel
theorem d_Mo_behindHead_97 : decode b_Mo_behindHead 97 = .ok (.invokevirtual 209, 3) := by decide +kernel
theorem d_Mo_behindHead_100 : decode b_Mo_behindHead 100 = .ok (.istore 4, 2) := by decide +kernel
theorem d_Mo_behindHead_102 : decode b_Mo_behindHead 102 = .ok (.iload_n 2, 1) := by decide +kernel
theorem d_Mo_behindHead_103 : decode b_Mo_behindHead 103 = .ok (.ifCond .eq 16, 3) := by decide +kernel
theorem d_Mo_behindHead_106 : decode b_Mo_behindHead 106 = .ok (.iload 4, 2) := by decide +kernel
theorem d_Mo_behindHead_108 : decode b_Mo_behindHead 108 = .ok (.aload_n 0, 1) := by decide +kernel
theorem d_Mo_behindHead_109 : decode b_Mo_behindHead 109 = .ok (.invokevirtual 280, 3) := by decide +kernel
theorem d_Mo_behindHead_112 : decode b_Mo_behindHead 112 = .ok (.if_icmp .ge 7, 3) := by decide +kernel
theorem d_Mo_behindHead_115 : decode b_Mo_behindHead 115 = .ok (.iconst 1, 1) := by decide +kernel
theorem d_Mo_behindHead_116 : decode b_Mo_behindHead 116 = .ok (.goto 4, 3) := by decide +kernel
theorem d_Mo_behindHead_119 : decode b_Mo_behindHead 119 = .ok (.iconst 0, 1) := by decide +kernel
theorem d_Mo_behindHead_120 : decode b_Mo_behindHead 120 = .ok (.istore_n 2, 1) := by decide +kernel
theorem d_Mo_behindHead_121 : decode b_Mo_behindHead 121 = .ok (.iconst 0, 1) := by decide +kernel
theorem d_Mo_behindHead_122 : decode b_Mo_behindHead 122 = .ok (.istore 5, 2) := by decide +kernel
theorem d_Mo_behindHead_124 : decode b_Mo_behindHead 124 = .ok (.iload 5, 2) := by decide +kernel
theorem d_Mo_behindHead_126 : decode b_Mo_behindHead 126 = .ok (.iload_n 3, 1) := by decide +kernel
theorem d_Mo_behindHead_127 : decode b_Mo_behindHead 127 = .ok (.if_icmp .ge 40, 3) := by decide +kernel
theorem d_Mo_behindHead_130 : decode b_Mo_behindHead 130 = .ok (.iload_n 2, 1) := by decide +kernel
theorem d_Mo_behindHead_131 : decode b_Mo_behindHead 131 = .ok (.ifCond .eq 28, 3) := by decide +kernel
theorem d_Mo_behindHead_134 : decode b_Mo_behindHead 134 = .ok (.aload_n 0, 1) := by decide +kernel
theorem d_Mo_behindHead_135 : decode b_Mo_behindHead 135 = .ok (.aload_n 0, 1) := by decide +kernel
theorem d_Mo_behindHead_136 : decode b_Mo_behindHead 136 = .ok (.getfield 244, 3) := by decide +kernel
theorem d_Mo_behindHead_139 : decode b_Mo_behindHead 139 = .ok (.iconst 2, 1) := by decide +kernel
theorem d_Mo_behindHead_140 : decode b_Mo_behindHead 140 = .ok (.iadd, 1) := by decide +kernel
theorem d_Mo_behindHead_141 : decode b_Mo_behindHead 141 = .ok (.bipush 6, 2) := by decide +kernel
theorem d_Mo_behindHead_143 : decode b_Mo_behindHead 143 = .ok (.iload 5, 2) := by decide +kernel
theorem d_Mo_behindHead_145 : decode b_Mo_behindHead 145 = .ok (.imul, 1) := by decide +kernel
theorem d_Mo_behindHead_146 : decode b_Mo_behindHead 146 = .ok (.iadd, 1) := by decide +kernel
theorem d_Mo_behindHead_147 : decode b_Mo_behindHead 147 = .ok (.invokevirtual 209, 3) := by decide +kernel
theorem d_Mo_behindHead_150 : decode b_Mo_behindHead 150 = .ok (.iload 4, 2) := by decide +kernel
theorem d_Mo_behindHead_152 : decode b_Mo_behindHead 152 = .ok (.if_icmp .eq 7, 3) := by decide +kernel
theorem d_Mo_behindHead_155 : decode b_Mo_behindHead 155 = .ok (.iconst 1, 1) := by decide +kernel
theorem d_Mo_behindHead_156 : decode b_Mo_behindHead 156 = .ok (.goto 4, 3) := by decide +kernel
theorem d_Mo_behindHead_159 : decode b_Mo_behindHead 159 = .ok (.iconst 0, 1) := by decide +kernel
theorem d_Mo_behindHead_160 : decode b_Mo_behindHead 160 = .ok (.istore_n 2, 1) := by decide +kernel
theorem d_Mo_behindHead_161 : decode b_Mo_behindHead 161 = .ok (.iinc 5 1, 3) := by decide +kernel
theorem d_Mo_behindHead_164 : decode b_Mo_behindHead 164 = .ok (.goto (-40), 3) := by decide +kernel
theorem d_Mo_behindHead_167 : decode b_Mo_behindHead 167 = .ok (.iinc 3 1, 3) := by decide +kernel
theorem d_Mo_behindHead_170 : decode b_Mo_behindHead 170 = .ok (.goto (-90), 3) := by decide +kernel
theorem d_Mo_behindHead_173 : decode b_Mo_behindHead 173 = .ok (.iload_n 2, 1) := by decide +kernel
theorem d_Mo_behindHead_174 : decode b_Mo_behindHead 174 = .ok (.ifCond .eq 7, 3) := by decide +kernel
theorem d_Mo_behindHead_177 : decode b_Mo_behindHead 177 = .ok (.iconst 0, 1) := by decide +kernel
theorem d_Mo_behindHead_178 : decode b_Mo_behindHead 178 = .ok (.goto 4, 3) := by decide +kernel
theorem d_Mo_behindHead_181 : decode b_Mo_behindHead 181 = .ok (.iconst 5, 1) := by decide +kernel
theorem d_Mo_behindHead_182 : decode b_Mo_behindHead 182 = .ok (.ireturn, 1) := by decide +kernel
def j_Mo_behindHead_159 (kk_124 : Int32 → Int32 → Int32) (v124_5 : Int32) : Int32 :=
  kk_124 (v124_5 + 1) 0
def oj_Mo_behindHead_159 (okk_124 : Int32 → Int32 → Prop) (v124_5 : Int32) : Prop :=
  okk_124 (v124_5 + 1) 0
def k_Mo_behindHead_147 (x97 : Int32) (kk_124 : Int32 → Int32 → Int32) (v124_5 : Int32) (x147 : Int32) : Int32 :=
  if x147 = x97 then (j_Mo_behindHead_159 kk_124 v124_5) else (kk_124 (v124_5 + 1) 1)
def ok_Mo_behindHead_147 (x97 : Int32) (okk_124 : Int32 → Int32 → Prop) (v124_5 : Int32) (x147 : Int32) : Prop :=
  if x147 = x97 then (oj_Mo_behindHead_159 okk_124 v124_5) else (okk_124 (v124_5 + 1) 1)
def lb_Mo_behindHead_124 (t_channelsAt : Int32) (f_t_file : Nat → Int32) (kk_80 : Int32 → Int32 → Int32) (v80_3 : Int32) (x97 : Int32) (kk_124 : Int32 → Int32 → Int32) (v124_5 : Int32) (v124_2 : Int32) : Int32 :=
  if v80_3 ≤ v124_5 then (kk_80 (v80_3 + 1) v124_2) else (if v124_2 = 0 then (j_Mo_behindHead_159 kk_124 v124_5) else (k_Mo_behindHead_147 x97 kk_124 v124_5 (m_Mo_u2 f_t_file ((t_channelsAt + 2) + (6 * v124_5)))))
def lp_Mo_behindHead_124 (t_channelsAt : Int32) (f_t_file : Nat → Int32) (kk_80 : Int32 → Int32 → Int32) (v80_3 : Int32) (x97 : Int32) : Nat → Int32 → Int32 → Int32
  | 0, v124_5, v124_2 => 0
  | n + 1, v124_5, v124_2 => lb_Mo_behindHead_124 t_channelsAt f_t_file kk_80 v80_3 x97 (lp_Mo_behindHead_124 t_channelsAt f_t_file kk_80 v80_3 x97 n) v124_5 v124_2
def olb_Mo_behindHead_124 (t_channelsAt : Int32) (f_t_file : Nat → Int32) (okk_80 : Int32 → Int32 → Prop) (v80_3 : Int32) (x97 : Int32) (okk_124 : Int32 → Int32 → Prop) (v124_5 : Int32) (v124_2 : Int32) : Prop :=
  if v80_3 ≤ v124_5 then (okk_80 (v80_3 + 1) v124_2) else (if v124_2 = 0 then (oj_Mo_behindHead_159 okk_124 v124_5) else (om_Mo_u2 ((t_channelsAt + 2) + (6 * v124_5)) ∧ (ok_Mo_behindHead_147 x97 okk_124 v124_5 (m_Mo_u2 f_t_file ((t_channelsAt + 2) + (6 * v124_5))))))
def olp_Mo_behindHead_124 (t_channelsAt : Int32) (f_t_file : Nat → Int32) (okk_80 : Int32 → Int32 → Prop) (v80_3 : Int32) (x97 : Int32) : Nat → Int32 → Int32 → Prop
  | 0, _, _ => True
  | n + 1, v124_5, v124_2 => olb_Mo_behindHead_124 t_channelsAt f_t_file okk_80 v80_3 x97 (olp_Mo_behindHead_124 t_channelsAt f_t_file okk_80 v80_3 x97 n) v124_5 v124_2
def j_Mo_behindHead_120 (t_channelsAt : Int32) (f_t_file : Nat → Int32) (kk_80 : Int32 → Int32 → Int32) (v80_3 : Int32) (x97 : Int32) (j120_s0 : Int32) : Int32 :=
  lp_Mo_behindHead_124 t_channelsAt f_t_file kk_80 v80_3 x97 ((v80_3.toInt - (0 : Int32).toInt).toNat + 1) 0 j120_s0
def oj_Mo_behindHead_120 (t_channelsAt : Int32) (f_t_file : Nat → Int32) (okk_80 : Int32 → Int32 → Prop) (v80_3 : Int32) (x97 : Int32) (j120_s0 : Int32) : Prop :=
  olp_Mo_behindHead_124 t_channelsAt f_t_file okk_80 v80_3 x97 ((v80_3.toInt - (0 : Int32).toInt).toNat + 1) 0 j120_s0
def j_Mo_behindHead_119 (t_channelsAt : Int32) (f_t_file : Nat → Int32) (kk_80 : Int32 → Int32 → Int32) (v80_3 : Int32) (x97 : Int32) : Int32 :=
  j_Mo_behindHead_120 t_channelsAt f_t_file kk_80 v80_3 x97 0
def oj_Mo_behindHead_119 (t_channelsAt : Int32) (f_t_file : Nat → Int32) (okk_80 : Int32 → Int32 → Prop) (v80_3 : Int32) (x97 : Int32) : Prop :=
  oj_Mo_behindHead_120 t_channelsAt f_t_file okk_80 v80_3 x97 0
def k_Mo_behindHead_109 (t_channelsAt : Int32) (f_t_file : Nat → Int32) (kk_80 : Int32 → Int32 → Int32) (v80_3 : Int32) (x97 : Int32) (x109 : Int32) : Int32 :=
  if x109 ≤ x97 then (j_Mo_behindHead_119 t_channelsAt f_t_file kk_80 v80_3 x97) else (j_Mo_behindHead_120 t_channelsAt f_t_file kk_80 v80_3 x97 1)
def ok_Mo_behindHead_109 (t_channelsAt : Int32) (f_t_file : Nat → Int32) (okk_80 : Int32 → Int32 → Prop) (v80_3 : Int32) (x97 : Int32) (x109 : Int32) : Prop :=
  if x109 ≤ x97 then (oj_Mo_behindHead_119 t_channelsAt f_t_file okk_80 v80_3 x97) else (oj_Mo_behindHead_120 t_channelsAt f_t_file okk_80 v80_3 x97 1)
def k_Mo_behindHead_97 (t_sizeAt : Int32) (t_mapAt : Int32) (t_mapEnd : Int32) (t_channelsAt : Int32) (f_t_file : Nat → Int32) (kk_80 : Int32 → Int32 → Int32) (v80_3 : Int32) (v80_2 : Int32) (x97 : Int32) : Int32 :=
  if v80_2 = 0 then (j_Mo_behindHead_119 t_channelsAt f_t_file kk_80 v80_3 x97) else (k_Mo_behindHead_109 t_channelsAt f_t_file kk_80 v80_3 x97 (m_Mo_channelsThere t_sizeAt t_mapAt t_mapEnd f_t_file))
def ok_Mo_behindHead_97 (t_sizeAt : Int32) (t_mapAt : Int32) (t_mapEnd : Int32) (t_channelsAt : Int32) (f_t_file : Nat → Int32) (okk_80 : Int32 → Int32 → Prop) (v80_3 : Int32) (v80_2 : Int32) (x97 : Int32) : Prop :=
  if v80_2 = 0 then (oj_Mo_behindHead_119 t_channelsAt f_t_file okk_80 v80_3 x97) else (om_Mo_channelsThere t_sizeAt t_mapAt f_t_file ∧ (ok_Mo_behindHead_109 t_channelsAt f_t_file okk_80 v80_3 x97 (m_Mo_channelsThere t_sizeAt t_mapAt t_mapEnd f_t_file)))
def lb_Mo_behindHead_80 (t_sizeAt : Int32) (t_mapAt : Int32) (t_mapEnd : Int32) (t_channelsAt : Int32) (f_t_file : Nat → Int32) (j75_s0 : Int32) (kk_80 : Int32 → Int32 → Int32) (v80_3 : Int32) (v80_2 : Int32) : Int32 :=
  if j75_s0 ≤ v80_3 then (if v80_2 = 0 then 5 else 0) else (k_Mo_behindHead_97 t_sizeAt t_mapAt t_mapEnd t_channelsAt f_t_file kk_80 v80_3 v80_2 (m_Mo_u2 f_t_file ((t_channelsAt + 2) + (6 * v80_3))))
def lp_Mo_behindHead_80 (t_sizeAt : Int32) (t_mapAt : Int32) (t_mapEnd : Int32) (t_channelsAt : Int32) (f_t_file : Nat → Int32) (j75_s0 : Int32) : Nat → Int32 → Int32 → Int32
  | 0, v80_3, v80_2 => 0
  | n + 1, v80_3, v80_2 => lb_Mo_behindHead_80 t_sizeAt t_mapAt t_mapEnd t_channelsAt f_t_file j75_s0 (lp_Mo_behindHead_80 t_sizeAt t_mapAt t_mapEnd t_channelsAt f_t_file j75_s0 n) v80_3 v80_2
def olb_Mo_behindHead_80 (t_sizeAt : Int32) (t_mapAt : Int32) (t_mapEnd : Int32) (t_channelsAt : Int32) (f_t_file : Nat → Int32) (j75_s0 : Int32) (okk_80 : Int32 → Int32 → Prop) (v80_3 : Int32) (v80_2 : Int32) : Prop :=
  if j75_s0 ≤ v80_3 then (if v80_2 = 0 then True else True) else (om_Mo_u2 ((t_channelsAt + 2) + (6 * v80_3)) ∧ (ok_Mo_behindHead_97 t_sizeAt t_mapAt t_mapEnd t_channelsAt f_t_file okk_80 v80_3 v80_2 (m_Mo_u2 f_t_file ((t_channelsAt + 2) + (6 * v80_3)))))
def olp_Mo_behindHead_80 (t_sizeAt : Int32) (t_mapAt : Int32) (t_mapEnd : Int32) (t_channelsAt : Int32) (f_t_file : Nat → Int32) (j75_s0 : Int32) : Nat → Int32 → Int32 → Prop
  | 0, _, _ => True
  | n + 1, v80_3, v80_2 => olb_Mo_behindHead_80 t_sizeAt t_mapAt t_mapEnd t_channelsAt f_t_file j75_s0 (olp_Mo_behindHead_80 t_sizeAt t_mapAt t_mapEnd t_channelsAt f_t_file j75_s0 n) v80_3 v80_2
def j_Mo_behindHead_75 (t_sizeAt : Int32) (t_mapAt : Int32) (t_mapEnd : Int32) (t_channelsAt : Int32) (f_t_file : Nat → Int32) (j75_s0 : Int32) : Int32 :=
  lp_Mo_behindHead_80 t_sizeAt t_mapAt t_mapEnd t_channelsAt f_t_file j75_s0 ((j75_s0.toInt - (0 : Int32).toInt).toNat + 1) 0 1
def oj_Mo_behindHead_75 (t_sizeAt : Int32) (t_mapAt : Int32) (t_mapEnd : Int32) (t_channelsAt : Int32) (f_t_file : Nat → Int32) (j75_s0 : Int32) : Prop :=
  olp_Mo_behindHead_80 t_sizeAt t_mapAt t_mapEnd t_channelsAt f_t_file j75_s0 ((j75_s0.toInt - (0 : Int32).toInt).toNat + 1) 0 1
def k_Mo_behindHead_68 (t_sizeAt : Int32) (t_mapAt : Int32) (t_mapEnd : Int32) (t_channelsAt : Int32) (f_t_file : Nat → Int32) (x68 : Int32) : Int32 :=
  j_Mo_behindHead_75 t_sizeAt t_mapAt t_mapEnd t_channelsAt f_t_file x68
def ok_Mo_behindHead_68 (t_sizeAt : Int32) (t_mapAt : Int32) (t_mapEnd : Int32) (t_channelsAt : Int32) (f_t_file : Nat → Int32) (x68 : Int32) : Prop :=
  oj_Mo_behindHead_75 t_sizeAt t_mapAt t_mapEnd t_channelsAt f_t_file x68
def j_Mo_behindHead_56 (t_sizeAt : Int32) (t_mapAt : Int32) (t_mapEnd : Int32) (t_channelsAt : Int32) (f_t_file : Nat → Int32) : Int32 :=
  if t_channelsAt ≤ 0 then (j_Mo_behindHead_75 t_sizeAt t_mapAt t_mapEnd t_channelsAt f_t_file 0) else (k_Mo_behindHead_68 t_sizeAt t_mapAt t_mapEnd t_channelsAt f_t_file (m_Mo_u2 f_t_file t_channelsAt))
def oj_Mo_behindHead_56 (t_sizeAt : Int32) (t_mapAt : Int32) (t_mapEnd : Int32) (t_channelsAt : Int32) (f_t_file : Nat → Int32) : Prop :=
  if t_channelsAt ≤ 0 then (oj_Mo_behindHead_75 t_sizeAt t_mapAt t_mapEnd t_channelsAt f_t_file 0) else (om_Mo_u2 t_channelsAt ∧ (ok_Mo_behindHead_68 t_sizeAt t_mapAt t_mapEnd t_channelsAt f_t_file (m_Mo_u2 f_t_file t_channelsAt)))
def j_Mo_behindHead_39 (t_sizeAt : Int32) (t_paletteAt : Int32) (t_mapAt : Int32) (t_mapEnd : Int32) (t_channelsAt : Int32) (f_t_file : Nat → Int32) : Int32 :=
  if t_paletteAt ≤ 0 then (j_Mo_behindHead_56 t_sizeAt t_mapAt t_mapEnd t_channelsAt f_t_file) else (if t_mapAt = 0 then 6 else (j_Mo_behindHead_56 t_sizeAt t_mapAt t_mapEnd t_channelsAt f_t_file))
def oj_Mo_behindHead_39 (t_sizeAt : Int32) (t_paletteAt : Int32) (t_mapAt : Int32) (t_mapEnd : Int32) (t_channelsAt : Int32) (f_t_file : Nat → Int32) : Prop :=
  if t_paletteAt ≤ 0 then (oj_Mo_behindHead_56 t_sizeAt t_mapAt t_mapEnd t_channelsAt f_t_file) else (if t_mapAt = 0 then True else (oj_Mo_behindHead_56 t_sizeAt t_mapAt t_mapEnd t_channelsAt f_t_file))
def om_Mo_behindHead (t_sizeAt : Int32) (t_bitsAt : Int32) (t_colourAt : Int32) (t_paletteAt : Int32) (t_mapAt : Int32) (t_mapEnd : Int32) (t_channelsAt : Int32) (f_t_file : Nat → Int32) : Prop :=
  if t_sizeAt = 0 then True else (if t_colourAt = 0 then True else (vp_in (t_sizeAt + 10) 65536 ∧ (if (f_t_file (t_sizeAt + 10).toNatClampNeg) = 255 then (if t_bitsAt = 0 then True else (oj_Mo_behindHead_39 t_sizeAt t_paletteAt t_mapAt t_mapEnd t_channelsAt f_t_file)) else (oj_Mo_behindHead_39 t_sizeAt t_paletteAt t_mapAt t_mapEnd t_channelsAt f_t_file))))
def m_Mo_behindHead (t_sizeAt : Int32) (t_bitsAt : Int32) (t_colourAt : Int32) (t_paletteAt : Int32) (t_mapAt : Int32) (t_mapEnd : Int32) (t_channelsAt : Int32) (f_t_file : Nat → Int32) : Int32 :=
  if t_sizeAt = 0 then 6 else (if t_colourAt = 0 then 6 else (if (f_t_file (t_sizeAt + 10).toNatClampNeg) = 255 then (if t_bitsAt = 0 then 6 else (j_Mo_behindHead_39 t_sizeAt t_paletteAt t_mapAt t_mapEnd t_channelsAt f_t_file)) else (j_Mo_behindHead_39 t_sizeAt t_paletteAt t_mapAt t_mapEnd t_channelsAt f_t_file)))
set_option maxHeartbeats 4000000 in
set_option maxRecDepth 100000 in
theorem c_Mo_behindHead (l : Launch) (D : va_G) (cB cI cJ : ClassId) (h_t h_t_bits h_t_profile h_t_columnBits h_t_numbers h_t_map h_t_line h_t_resolutions h_t_file : Nat) (t_thrown : Int32) (t_high : Int32) (t_wide : Int32) (t_components : Int32) (t_unknown : Int32) (t_rights : Int32) (t_colours : Int32) (t_profiled : Int32) (t_entries : Int32) (t_columns : Int32) (t_maps : Int32) (t_lines : Int32) (t_size : Int32) (t_scanned : Int32) (t_refusedAt : Int32) (t_cursor : Int32) (t_streamAt : Int32) (t_streamMany : Int32) (t_name : Int32) (t_from : Int32) (t_end : Int32) (t_sizeAt : Int32) (t_bitsAt : Int32) (t_colourAt : Int32) (t_colourEnd : Int32) (t_paletteAt : Int32) (t_mapAt : Int32) (t_mapEnd : Int32) (t_channelsAt : Int32) (t_captureAt : Int32) (t_displayAt : Int32) (t_resolved : Int32) (f_t_file : Nat → Int32) (hO : om_Mo_behindHead t_sizeAt t_bitsAt t_colourAt t_paletteAt t_mapAt t_mapEnd t_channelsAt f_t_file) (sz : Nat) : Ct l D cB cI cJ y_Mo_behindHead b_Mo_behindHead 6 (some .int) 2 41 0 0 [.ref h_t] [(h_t, .inr (7, (.int t_thrown :: .int t_high :: .int t_wide :: .int t_components :: .ref h_t_bits :: .int t_unknown :: .int t_rights :: .int t_colours :: .int t_profiled :: .ref h_t_profile :: .int t_entries :: .int t_columns :: .ref h_t_columnBits :: .ref h_t_numbers :: .int t_maps :: .ref h_t_map :: .int t_lines :: .ref h_t_line :: .ref h_t_resolutions :: .ref h_t_file :: .int t_size :: .int t_scanned :: .int t_refusedAt :: .int t_cursor :: .int t_streamAt :: .int t_streamMany :: .int t_name :: .int t_from :: .int t_end :: .int t_sizeAt :: .int t_bitsAt :: .int t_colourAt :: .int t_colourEnd :: .int t_paletteAt :: .int t_mapAt :: .int t_mapEnd :: .int t_channelsAt :: .int t_captureAt :: .int t_displayAt :: .int t_resolved :: []))), (h_t_file, .inl (cI, 65536, .inl f_t_file))] (fun v w1 => ∃ (x : Int32), x = m_Mo_behindHead t_sizeAt t_bitsAt t_colourAt t_paletteAt t_mapAt t_mapEnd t_channelsAt f_t_file ∧ v = some (.int x) ∧ w1 = [(h_t, .inr (7, (.int t_thrown :: .int t_high :: .int t_wide :: .int t_components :: .ref h_t_bits :: .int t_unknown :: .int t_rights :: .int t_colours :: .int t_profiled :: .ref h_t_profile :: .int t_entries :: .int t_columns :: .ref h_t_columnBits :: .ref h_t_numbers :: .int t_maps :: .ref h_t_map :: .int t_lines :: .ref h_t_line :: .ref h_t_resolutions :: .ref h_t_file :: .int t_size :: .int t_scanned :: .int t_refusedAt :: .int t_cursor :: .int t_streamAt :: .int t_streamMany :: .int t_name :: .int t_from :: .int t_end :: .int t_sizeAt :: .int t_bitsAt :: .int t_colourAt :: .int t_colourEnd :: .int t_paletteAt :: .int t_mapAt :: .int t_mapEnd :: .int t_channelsAt :: .int t_captureAt :: .int t_displayAt :: .int t_resolved :: []))), (h_t_file, .inl (cI, 65536, .inl f_t_file))]) sz := by
  refine Ct.of (by decide) (Nat.le_of_ble_eq_true rfl) ?_
  intro p e R s m args below meth c A ls Q hx hb hr hlk hml hta hown hin hK hN hA hRf hRl hRc hRs hP hD hS hl hQ
  have hl : lv_has ls 6 [(0, .ref h_t)] := hl
  obtain ⟨RES, E0⟩ : ∃ R, m_Mo_behindHead t_sizeAt t_bitsAt t_colourAt t_paletteAt t_mapAt t_mapEnd t_channelsAt f_t_file = R := ⟨_, rfl⟩
  have E := E0
  have O := hO
  refine lv_aload_n hx hb d_Mo_behindHead_0 rfl (lv_at hl 0 rfl) ?_
  refine va_get (D := D) (v := .int t_sizeAt) hx hb hta i_Mo hown hK hP 0 rfl rfl 29 (by decide) (hta _ lk_Mo_226) (fun _ h9 => h9) rfl d_Mo_behindHead_1 ?_
  refine lv_if_eq (tgt := 53) hx hb d_Mo_behindHead_4 (by decide) (fun c_4 => ?_) (fun c_4 => ?_)
  · have E := (if_pos c_4).symm.trans E
    have O := Eq.mp (if_pos c_4) O
    refine lv_bipush (v := 6) hx hb d_Mo_behindHead_53 (by decide) ?_
    exact kr_i hx hb hr hlk hQ hK hP hD hS ⟨(6 : Int32), E.trans E0.symm, rfl, rfl⟩ (by omega) (by omega) d_Mo_behindHead_55
  · have E := (if_neg c_4).symm.trans E
    have O := Eq.mp (if_neg c_4) O
    refine lv_aload_n hx hb d_Mo_behindHead_7 rfl (lv_at hl 0 rfl) ?_
    refine va_get (D := D) (v := .int t_colourAt) hx hb hta i_Mo hown hK hP 0 rfl rfl 31 (by decide) (hta _ lk_Mo_252) (fun _ h9 => h9) rfl d_Mo_behindHead_8 ?_
    refine lv_if_eq (tgt := 53) hx hb d_Mo_behindHead_11 (by decide) (fun c_11 => ?_) (fun c_11 => ?_)
    · have E := (if_pos c_11).symm.trans E
      have O := Eq.mp (if_pos c_11) O
      refine lv_bipush (v := 6) hx hb d_Mo_behindHead_53 (by decide) ?_
      exact kr_i hx hb hr hlk hQ hK hP hD hS ⟨(6 : Int32), E.trans E0.symm, rfl, rfl⟩ (by omega) (by omega) d_Mo_behindHead_55
    · have E := (if_neg c_11).symm.trans E
      have O := Eq.mp (if_neg c_11) O
      refine lv_aload_n hx hb d_Mo_behindHead_14 rfl (lv_at hl 0 rfl) ?_
      refine va_get (D := D) (v := .ref h_t_file) hx hb hta i_Mo hown hK hP 0 rfl rfl 19 (by decide) (hta _ lk_Mo_37) (fun _ h9 => h9) rfl d_Mo_behindHead_15 ?_
      refine lv_aload_n hx hb d_Mo_behindHead_18 rfl (lv_at hl 0 rfl) ?_
      refine va_get (D := D) (v := .int t_sizeAt) hx hb hta i_Mo hown hK hP 0 rfl rfl 29 (by decide) (hta _ lk_Mo_226) (fun _ h9 => h9) rfl d_Mo_behindHead_19 ?_
      refine lv_bipush (v := 10) hx hb d_Mo_behindHead_22 (by decide) ?_
      refine lv_iadd hx hb d_Mo_behindHead_24 ?_
      refine va_iald hx hb hK hP 1 1 rfl rfl O.1 d_Mo_behindHead_25 ?_
      have O := O.2
      refine lv_sipush (v := 255) hx hb d_Mo_behindHead_26 (by decide) ?_
      have J_39 : j_Mo_behindHead_39 t_sizeAt t_paletteAt t_mapAt t_mapEnd t_channelsAt f_t_file = RES → oj_Mo_behindHead_39 t_sizeAt t_paletteAt t_mapAt t_mapEnd t_channelsAt f_t_file → ∀ (H : Heap) (locs : List Loc), va_P D classes [(h_t, .inr (7, (.int t_thrown :: .int t_high :: .int t_wide :: .int t_components :: .ref h_t_bits :: .int t_unknown :: .int t_rights :: .int t_colours :: .int t_profiled :: .ref h_t_profile :: .int t_entries :: .int t_columns :: .ref h_t_columnBits :: .ref h_t_numbers :: .int t_maps :: .ref h_t_map :: .int t_lines :: .ref h_t_line :: .ref h_t_resolutions :: .ref h_t_file :: .int t_size :: .int t_scanned :: .int t_refusedAt :: .int t_cursor :: .int t_streamAt :: .int t_streamMany :: .int t_name :: .int t_from :: .int t_end :: .int t_sizeAt :: .int t_bitsAt :: .int t_colourAt :: .int t_colourEnd :: .int t_paletteAt :: .int t_mapAt :: .int t_mapEnd :: .int t_channelsAt :: .int t_captureAt :: .int t_displayAt :: .int t_resolved :: []))), (h_t_file, .inl (cI, 65536, .inl f_t_file))] H → va_D A [(h_t, .inr (7, (.int t_thrown :: .int t_high :: .int t_wide :: .int t_components :: .ref h_t_bits :: .int t_unknown :: .int t_rights :: .int t_colours :: .int t_profiled :: .ref h_t_profile :: .int t_entries :: .int t_columns :: .ref h_t_columnBits :: .ref h_t_numbers :: .int t_maps :: .ref h_t_map :: .int t_lines :: .ref h_t_line :: .ref h_t_resolutions :: .ref h_t_file :: .int t_size :: .int t_scanned :: .int t_refusedAt :: .int t_cursor :: .int t_streamAt :: .int t_streamMany :: .int t_name :: .int t_from :: .int t_end :: .int t_sizeAt :: .int t_bitsAt :: .int t_colourAt :: .int t_colourEnd :: .int t_paletteAt :: .int t_mapAt :: .int t_mapEnd :: .int t_channelsAt :: .int t_captureAt :: .int t_displayAt :: .int t_resolved :: []))), (h_t_file, .inl (cI, 65536, .inl f_t_file))] → va_S A s.heap H locs → ∀ ls : Array Slot, lv_has ls 6 [(0, .ref h_t)] → W p l e R s m args below meth c H locs 0 0 Q (F0 m 39 ls []) := by
        intro E O H locs hP hD hS ls hl
        refine lv_aload_n hx hb d_Mo_behindHead_39 rfl (lv_at hl 0 rfl) ?_
        refine va_get (D := D) (v := .int t_paletteAt) hx hb hta i_Mo hown hK hP 0 rfl rfl 33 (by decide) (hta _ lk_Mo_235) (fun _ h9 => h9) rfl d_Mo_behindHead_40 ?_
        have J_56 : j_Mo_behindHead_56 t_sizeAt t_mapAt t_mapEnd t_channelsAt f_t_file = RES → oj_Mo_behindHead_56 t_sizeAt t_mapAt t_mapEnd t_channelsAt f_t_file → ∀ (H : Heap) (locs : List Loc), va_P D classes [(h_t, .inr (7, (.int t_thrown :: .int t_high :: .int t_wide :: .int t_components :: .ref h_t_bits :: .int t_unknown :: .int t_rights :: .int t_colours :: .int t_profiled :: .ref h_t_profile :: .int t_entries :: .int t_columns :: .ref h_t_columnBits :: .ref h_t_numbers :: .int t_maps :: .ref h_t_map :: .int t_lines :: .ref h_t_line :: .ref h_t_resolutions :: .ref h_t_file :: .int t_size :: .int t_scanned :: .int t_refusedAt :: .int t_cursor :: .int t_streamAt :: .int t_streamMany :: .int t_name :: .int t_from :: .int t_end :: .int t_sizeAt :: .int t_bitsAt :: .int t_colourAt :: .int t_colourEnd :: .int t_paletteAt :: .int t_mapAt :: .int t_mapEnd :: .int t_channelsAt :: .int t_captureAt :: .int t_displayAt :: .int t_resolved :: []))), (h_t_file, .inl (cI, 65536, .inl f_t_file))] H → va_D A [(h_t, .inr (7, (.int t_thrown :: .int t_high :: .int t_wide :: .int t_components :: .ref h_t_bits :: .int t_unknown :: .int t_rights :: .int t_colours :: .int t_profiled :: .ref h_t_profile :: .int t_entries :: .int t_columns :: .ref h_t_columnBits :: .ref h_t_numbers :: .int t_maps :: .ref h_t_map :: .int t_lines :: .ref h_t_line :: .ref h_t_resolutions :: .ref h_t_file :: .int t_size :: .int t_scanned :: .int t_refusedAt :: .int t_cursor :: .int t_streamAt :: .int t_streamMany :: .int t_name :: .int t_from :: .int t_end :: .int t_sizeAt :: .int t_bitsAt :: .int t_colourAt :: .int t_colourEnd :: .int t_paletteAt :: .int t_mapAt :: .int t_mapEnd :: .int t_channelsAt :: .int t_captureAt :: .int t_displayAt :: .int t_resolved :: []))), (h_t_file, .inl (cI, 65536, .inl f_t_file))] → va_S A s.heap H locs → ∀ ls : Array Slot, lv_has ls 6 [(0, .ref h_t)] → W p l e R s m args below meth c H locs 0 0 Q (F0 m 56 ls []) := by
          intro E O H locs hP hD hS ls hl
          refine lv_aload_n hx hb d_Mo_behindHead_56 rfl (lv_at hl 0 rfl) ?_
          refine va_get (D := D) (v := .int t_channelsAt) hx hb hta i_Mo hown hK hP 0 rfl rfl 36 (by decide) (hta _ lk_Mo_244) (fun _ h9 => h9) rfl d_Mo_behindHead_57 ?_
          have J_75 : ∀ (j75_s0 : Int32), j_Mo_behindHead_75 t_sizeAt t_mapAt t_mapEnd t_channelsAt f_t_file j75_s0 = RES → oj_Mo_behindHead_75 t_sizeAt t_mapAt t_mapEnd t_channelsAt f_t_file j75_s0 → ∀ (H : Heap) (locs : List Loc), va_P D classes [(h_t, .inr (7, (.int t_thrown :: .int t_high :: .int t_wide :: .int t_components :: .ref h_t_bits :: .int t_unknown :: .int t_rights :: .int t_colours :: .int t_profiled :: .ref h_t_profile :: .int t_entries :: .int t_columns :: .ref h_t_columnBits :: .ref h_t_numbers :: .int t_maps :: .ref h_t_map :: .int t_lines :: .ref h_t_line :: .ref h_t_resolutions :: .ref h_t_file :: .int t_size :: .int t_scanned :: .int t_refusedAt :: .int t_cursor :: .int t_streamAt :: .int t_streamMany :: .int t_name :: .int t_from :: .int t_end :: .int t_sizeAt :: .int t_bitsAt :: .int t_colourAt :: .int t_colourEnd :: .int t_paletteAt :: .int t_mapAt :: .int t_mapEnd :: .int t_channelsAt :: .int t_captureAt :: .int t_displayAt :: .int t_resolved :: []))), (h_t_file, .inl (cI, 65536, .inl f_t_file))] H → va_D A [(h_t, .inr (7, (.int t_thrown :: .int t_high :: .int t_wide :: .int t_components :: .ref h_t_bits :: .int t_unknown :: .int t_rights :: .int t_colours :: .int t_profiled :: .ref h_t_profile :: .int t_entries :: .int t_columns :: .ref h_t_columnBits :: .ref h_t_numbers :: .int t_maps :: .ref h_t_map :: .int t_lines :: .ref h_t_line :: .ref h_t_resolutions :: .ref h_t_file :: .int t_size :: .int t_scanned :: .int t_refusedAt :: .int t_cursor :: .int t_streamAt :: .int t_streamMany :: .int t_name :: .int t_from :: .int t_end :: .int t_sizeAt :: .int t_bitsAt :: .int t_colourAt :: .int t_colourEnd :: .int t_paletteAt :: .int t_mapAt :: .int t_mapEnd :: .int t_channelsAt :: .int t_captureAt :: .int t_displayAt :: .int t_resolved :: []))), (h_t_file, .inl (cI, 65536, .inl f_t_file))] → va_S A s.heap H locs → ∀ ls : Array Slot, lv_has ls 6 [(0, .ref h_t)] → W p l e R s m args below meth c H locs 0 0 Q (F0 m 75 ls [.int j75_s0]) := by
            intro j75_s0 E O H locs hP hD hS ls hl
            refine lv_istore_n (lv' := [(1, .int j75_s0), (0, .ref h_t)]) hx hb d_Mo_behindHead_75 rfl hl (by decide) rfl (fun ls hl => ?_)
            refine lv_iconst (v := 1) hx hb d_Mo_behindHead_76 (by decide) ?_
            refine lv_istore_n (lv' := [(2, .int 1), (1, .int j75_s0), (0, .ref h_t)]) hx hb d_Mo_behindHead_77 rfl hl (by decide) rfl (fun ls hl => ?_)
            refine lv_iconst (v := 0) hx hb d_Mo_behindHead_78 (by decide) ?_
            refine lv_istore_n (lv' := [(3, .int 0), (2, .int 1), (1, .int j75_s0), (0, .ref h_t)]) hx hb d_Mo_behindHead_79 rfl hl (by decide) rfl (fun ls hl => ?_)
            have L_80 : ∀ (n : Nat) (v80_3 : Int32) (v80_2 : Int32), (j75_s0.toInt - v80_3.toInt).toNat < n → lp_Mo_behindHead_80 t_sizeAt t_mapAt t_mapEnd t_channelsAt f_t_file j75_s0 n v80_3 v80_2 = RES → olp_Mo_behindHead_80 t_sizeAt t_mapAt t_mapEnd t_channelsAt f_t_file j75_s0 n v80_3 v80_2 → ∀ (H : Heap) (locs : List Loc), va_P D classes [(h_t, .inr (7, (.int t_thrown :: .int t_high :: .int t_wide :: .int t_components :: .ref h_t_bits :: .int t_unknown :: .int t_rights :: .int t_colours :: .int t_profiled :: .ref h_t_profile :: .int t_entries :: .int t_columns :: .ref h_t_columnBits :: .ref h_t_numbers :: .int t_maps :: .ref h_t_map :: .int t_lines :: .ref h_t_line :: .ref h_t_resolutions :: .ref h_t_file :: .int t_size :: .int t_scanned :: .int t_refusedAt :: .int t_cursor :: .int t_streamAt :: .int t_streamMany :: .int t_name :: .int t_from :: .int t_end :: .int t_sizeAt :: .int t_bitsAt :: .int t_colourAt :: .int t_colourEnd :: .int t_paletteAt :: .int t_mapAt :: .int t_mapEnd :: .int t_channelsAt :: .int t_captureAt :: .int t_displayAt :: .int t_resolved :: []))), (h_t_file, .inl (cI, 65536, .inl f_t_file))] H → va_D A [(h_t, .inr (7, (.int t_thrown :: .int t_high :: .int t_wide :: .int t_components :: .ref h_t_bits :: .int t_unknown :: .int t_rights :: .int t_colours :: .int t_profiled :: .ref h_t_profile :: .int t_entries :: .int t_columns :: .ref h_t_columnBits :: .ref h_t_numbers :: .int t_maps :: .ref h_t_map :: .int t_lines :: .ref h_t_line :: .ref h_t_resolutions :: .ref h_t_file :: .int t_size :: .int t_scanned :: .int t_refusedAt :: .int t_cursor :: .int t_streamAt :: .int t_streamMany :: .int t_name :: .int t_from :: .int t_end :: .int t_sizeAt :: .int t_bitsAt :: .int t_colourAt :: .int t_colourEnd :: .int t_paletteAt :: .int t_mapAt :: .int t_mapEnd :: .int t_channelsAt :: .int t_captureAt :: .int t_displayAt :: .int t_resolved :: []))), (h_t_file, .inl (cI, 65536, .inl f_t_file))] → va_S A s.heap H locs → ∀ ls : Array Slot, lv_has ls 6 [(3, .int v80_3), (2, .int v80_2), (1, .int j75_s0), (0, .ref h_t)] → W p l e R s m args below meth c H locs 0 0 Q (F0 m 80 ls []) := by
              intro n
              induction n with
              | zero => intro v80_3 v80_2 hlt; exact absurd hlt (Nat.not_lt_zero _)
              | succ n ih =>
                intro v80_3 v80_2 hlt_80 E O H locs hP hD hS ls hl
                have E : lb_Mo_behindHead_80 t_sizeAt t_mapAt t_mapEnd t_channelsAt f_t_file j75_s0 (lp_Mo_behindHead_80 t_sizeAt t_mapAt t_mapEnd t_channelsAt f_t_file j75_s0 n) v80_3 v80_2 = RES := E
                have O : olb_Mo_behindHead_80 t_sizeAt t_mapAt t_mapEnd t_channelsAt f_t_file j75_s0 (olp_Mo_behindHead_80 t_sizeAt t_mapAt t_mapEnd t_channelsAt f_t_file j75_s0 n) v80_3 v80_2 := O
                generalize lp_Mo_behindHead_80 t_sizeAt t_mapAt t_mapEnd t_channelsAt f_t_file j75_s0 n = kk_80 at ih E
                generalize olp_Mo_behindHead_80 t_sizeAt t_mapAt t_mapEnd t_channelsAt f_t_file j75_s0 n = okk_80 at ih O
                have ih_80 := ih
                clear ih
                refine lv_iload_n hx hb d_Mo_behindHead_80 rfl (lv_at hl 0 rfl) ?_
                refine lv_iload_n hx hb d_Mo_behindHead_81 rfl (lv_at hl 2 rfl) ?_
                refine lv_icmp_ge (tgt := 173) hx hb d_Mo_behindHead_82 (by decide) (fun c_82 => ?_) (fun c_82 => ?_)
                · have E := (if_pos c_82).symm.trans E
                  have O := Eq.mp (if_pos c_82) O
                  refine lv_iload_n hx hb d_Mo_behindHead_173 rfl (lv_at hl 1 rfl) ?_
                  refine lv_if_eq (tgt := 181) hx hb d_Mo_behindHead_174 (by decide) (fun c_174 => ?_) (fun c_174 => ?_)
                  · have E := (if_pos c_174).symm.trans E
                    have O := Eq.mp (if_pos c_174) O
                    refine lv_iconst (v := 5) hx hb d_Mo_behindHead_181 (by decide) ?_
                    exact kr_i hx hb hr hlk hQ hK hP hD hS ⟨(5 : Int32), E.trans E0.symm, rfl, rfl⟩ (by omega) (by omega) d_Mo_behindHead_182
                  · have E := (if_neg c_174).symm.trans E
                    have O := Eq.mp (if_neg c_174) O
                    refine lv_iconst (v := 0) hx hb d_Mo_behindHead_177 (by decide) ?_
                    refine lv_goto (tgt := 182) hx hb d_Mo_behindHead_178 (by decide) ?_
                    exact kr_i hx hb hr hlk hQ hK hP hD hS ⟨(0 : Int32), E.trans E0.symm, rfl, rfl⟩ (by omega) (by omega) d_Mo_behindHead_182
                · have E := (if_neg c_82).symm.trans E
                  have O := Eq.mp (if_neg c_82) O
                  refine lv_aload_n hx hb d_Mo_behindHead_85 rfl (lv_at hl 3 rfl) ?_
                  refine lv_aload_n hx hb d_Mo_behindHead_86 rfl (lv_at hl 3 rfl) ?_
                  refine va_get (D := D) (v := .int t_channelsAt) hx hb hta i_Mo hown hK hP 0 rfl rfl 36 (by decide) (hta _ lk_Mo_244) (fun _ h9 => h9) rfl d_Mo_behindHead_87 ?_
                  refine lv_iconst (v := 2) hx hb d_Mo_behindHead_90 (by decide) ?_
                  refine lv_iadd hx hb d_Mo_behindHead_91 ?_
                  refine lv_bipush (v := 6) hx hb d_Mo_behindHead_92 (by decide) ?_
                  refine lv_iload_n hx hb d_Mo_behindHead_94 rfl (lv_at hl 0 rfl) ?_
                  refine lv_imul hx hb d_Mo_behindHead_95 ?_
                  refine lv_iadd hx hb d_Mo_behindHead_96 ?_
                  refine kc_V (As := [.int ((t_channelsAt + 2) + (6 * v80_3))]) (rest := []) (wr := []) [0, 1] [] ⟨hx, hb, hml, hown, hta⟩ hK hN hP hD hS hA (c_Mo_u2 l D cB cI cJ h_t h_t_bits h_t_profile h_t_columnBits h_t_numbers h_t_map h_t_line h_t_resolutions h_t_file t_thrown t_high t_wide t_components t_unknown t_rights t_colours t_profiled t_entries t_columns t_maps t_lines t_size t_scanned t_refusedAt t_cursor t_streamAt t_streamMany t_name t_from t_end t_sizeAt t_bitsAt t_colourAt t_colourEnd t_paletteAt t_mapAt t_mapEnd t_channelsAt t_captureAt t_displayAt t_resolved f_t_file ((t_channelsAt + 2) + (6 * v80_3)) O.1 _) (hta _ lk_Mo_209) (hta _ ini_Mo) (hta _ code_Mo_u2) code_Mo_u2 (hta _ inst_Mo_u2) (hta _ sel_Mo_u2) hd_Mo_u2 rfl ⟨by omega, by omega⟩ (ci := 7) 0 rfl rfl rfl rfl (by decide) (by decide) (by decide) rfl hl.1 (lv_room (Nat.le_of_ble_eq_true rfl)) d_Mo_behindHead_97 ⟨by omega, by omega⟩ (fun v w1 H locs hw hP hD hS => ?_)
                  obtain ⟨x97, hx97, rfl, rfl⟩ := hw
                  have hP : va_P D classes [(h_t, .inr (7, (.int t_thrown :: .int t_high :: .int t_wide :: .int t_components :: .ref h_t_bits :: .int t_unknown :: .int t_rights :: .int t_colours :: .int t_profiled :: .ref h_t_profile :: .int t_entries :: .int t_columns :: .ref h_t_columnBits :: .ref h_t_numbers :: .int t_maps :: .ref h_t_map :: .int t_lines :: .ref h_t_line :: .ref h_t_resolutions :: .ref h_t_file :: .int t_size :: .int t_scanned :: .int t_refusedAt :: .int t_cursor :: .int t_streamAt :: .int t_streamMany :: .int t_name :: .int t_from :: .int t_end :: .int t_sizeAt :: .int t_bitsAt :: .int t_colourAt :: .int t_colourEnd :: .int t_paletteAt :: .int t_mapAt :: .int t_mapEnd :: .int t_channelsAt :: .int t_captureAt :: .int t_displayAt :: .int t_resolved :: []))), (h_t_file, .inl (cI, 65536, .inl f_t_file))] H := hP.sub [0, 1] rfl
                  have hD : va_D A [(h_t, .inr (7, (.int t_thrown :: .int t_high :: .int t_wide :: .int t_components :: .ref h_t_bits :: .int t_unknown :: .int t_rights :: .int t_colours :: .int t_profiled :: .ref h_t_profile :: .int t_entries :: .int t_columns :: .ref h_t_columnBits :: .ref h_t_numbers :: .int t_maps :: .ref h_t_map :: .int t_lines :: .ref h_t_line :: .ref h_t_resolutions :: .ref h_t_file :: .int t_size :: .int t_scanned :: .int t_refusedAt :: .int t_cursor :: .int t_streamAt :: .int t_streamMany :: .int t_name :: .int t_from :: .int t_end :: .int t_sizeAt :: .int t_bitsAt :: .int t_colourAt :: .int t_colourEnd :: .int t_paletteAt :: .int t_mapAt :: .int t_mapEnd :: .int t_channelsAt :: .int t_captureAt :: .int t_displayAt :: .int t_resolved :: []))), (h_t_file, .inl (cI, 65536, .inl f_t_file))] := hD.sub [0, 1] (by decide) rfl
                  refine W.eq (g2 := F0 m 100 ls [.int x97]) rfl ?_
                  have O := O.2
                  have E : k_Mo_behindHead_97 t_sizeAt t_mapAt t_mapEnd t_channelsAt f_t_file kk_80 v80_3 v80_2 x97 = RES := (congrArg (k_Mo_behindHead_97 t_sizeAt t_mapAt t_mapEnd t_channelsAt f_t_file kk_80 v80_3 v80_2) hx97).trans E
                  have O : ok_Mo_behindHead_97 t_sizeAt t_mapAt t_mapEnd t_channelsAt f_t_file okk_80 v80_3 v80_2 x97 := by rw [hx97]; exact O
                  refine lv_istore (lv' := [(4, .int x97), (3, .int v80_3), (2, .int v80_2), (1, .int j75_s0), (0, .ref h_t)]) hx hb d_Mo_behindHead_100 hl (by decide) rfl (fun ls hl => ?_)
                  refine lv_iload_n hx hb d_Mo_behindHead_102 rfl (lv_at hl 2 rfl) ?_
                  have J_120 : ∀ (j120_s0 : Int32), j_Mo_behindHead_120 t_channelsAt f_t_file kk_80 v80_3 x97 j120_s0 = RES → oj_Mo_behindHead_120 t_channelsAt f_t_file okk_80 v80_3 x97 j120_s0 → ∀ (H : Heap) (locs : List Loc), va_P D classes [(h_t, .inr (7, (.int t_thrown :: .int t_high :: .int t_wide :: .int t_components :: .ref h_t_bits :: .int t_unknown :: .int t_rights :: .int t_colours :: .int t_profiled :: .ref h_t_profile :: .int t_entries :: .int t_columns :: .ref h_t_columnBits :: .ref h_t_numbers :: .int t_maps :: .ref h_t_map :: .int t_lines :: .ref h_t_line :: .ref h_t_resolutions :: .ref h_t_file :: .int t_size :: .int t_scanned :: .int t_refusedAt :: .int t_cursor :: .int t_streamAt :: .int t_streamMany :: .int t_name :: .int t_from :: .int t_end :: .int t_sizeAt :: .int t_bitsAt :: .int t_colourAt :: .int t_colourEnd :: .int t_paletteAt :: .int t_mapAt :: .int t_mapEnd :: .int t_channelsAt :: .int t_captureAt :: .int t_displayAt :: .int t_resolved :: []))), (h_t_file, .inl (cI, 65536, .inl f_t_file))] H → va_D A [(h_t, .inr (7, (.int t_thrown :: .int t_high :: .int t_wide :: .int t_components :: .ref h_t_bits :: .int t_unknown :: .int t_rights :: .int t_colours :: .int t_profiled :: .ref h_t_profile :: .int t_entries :: .int t_columns :: .ref h_t_columnBits :: .ref h_t_numbers :: .int t_maps :: .ref h_t_map :: .int t_lines :: .ref h_t_line :: .ref h_t_resolutions :: .ref h_t_file :: .int t_size :: .int t_scanned :: .int t_refusedAt :: .int t_cursor :: .int t_streamAt :: .int t_streamMany :: .int t_name :: .int t_from :: .int t_end :: .int t_sizeAt :: .int t_bitsAt :: .int t_colourAt :: .int t_colourEnd :: .int t_paletteAt :: .int t_mapAt :: .int t_mapEnd :: .int t_channelsAt :: .int t_captureAt :: .int t_displayAt :: .int t_resolved :: []))), (h_t_file, .inl (cI, 65536, .inl f_t_file))] → va_S A s.heap H locs → ∀ ls : Array Slot, lv_has ls 6 [(4, .int x97), (3, .int v80_3), (1, .int j75_s0), (0, .ref h_t)] → W p l e R s m args below meth c H locs 0 0 Q (F0 m 120 ls [.int j120_s0]) := by
                    intro j120_s0 E O H locs hP hD hS ls hl
                    refine lv_istore_n (lv' := [(2, .int j120_s0), (4, .int x97), (3, .int v80_3), (1, .int j75_s0), (0, .ref h_t)]) hx hb d_Mo_behindHead_120 rfl hl (by decide) rfl (fun ls hl => ?_)
                    refine lv_iconst (v := 0) hx hb d_Mo_behindHead_121 (by decide) ?_
                    refine lv_istore (lv' := [(5, .int 0), (2, .int j120_s0), (4, .int x97), (3, .int v80_3), (1, .int j75_s0), (0, .ref h_t)]) hx hb d_Mo_behindHead_122 hl (by decide) rfl (fun ls hl => ?_)
                    have L_124 : ∀ (n : Nat) (v124_5 : Int32) (v124_2 : Int32), (v80_3.toInt - v124_5.toInt).toNat < n → lp_Mo_behindHead_124 t_channelsAt f_t_file kk_80 v80_3 x97 n v124_5 v124_2 = RES → olp_Mo_behindHead_124 t_channelsAt f_t_file okk_80 v80_3 x97 n v124_5 v124_2 → ∀ (H : Heap) (locs : List Loc), va_P D classes [(h_t, .inr (7, (.int t_thrown :: .int t_high :: .int t_wide :: .int t_components :: .ref h_t_bits :: .int t_unknown :: .int t_rights :: .int t_colours :: .int t_profiled :: .ref h_t_profile :: .int t_entries :: .int t_columns :: .ref h_t_columnBits :: .ref h_t_numbers :: .int t_maps :: .ref h_t_map :: .int t_lines :: .ref h_t_line :: .ref h_t_resolutions :: .ref h_t_file :: .int t_size :: .int t_scanned :: .int t_refusedAt :: .int t_cursor :: .int t_streamAt :: .int t_streamMany :: .int t_name :: .int t_from :: .int t_end :: .int t_sizeAt :: .int t_bitsAt :: .int t_colourAt :: .int t_colourEnd :: .int t_paletteAt :: .int t_mapAt :: .int t_mapEnd :: .int t_channelsAt :: .int t_captureAt :: .int t_displayAt :: .int t_resolved :: []))), (h_t_file, .inl (cI, 65536, .inl f_t_file))] H → va_D A [(h_t, .inr (7, (.int t_thrown :: .int t_high :: .int t_wide :: .int t_components :: .ref h_t_bits :: .int t_unknown :: .int t_rights :: .int t_colours :: .int t_profiled :: .ref h_t_profile :: .int t_entries :: .int t_columns :: .ref h_t_columnBits :: .ref h_t_numbers :: .int t_maps :: .ref h_t_map :: .int t_lines :: .ref h_t_line :: .ref h_t_resolutions :: .ref h_t_file :: .int t_size :: .int t_scanned :: .int t_refusedAt :: .int t_cursor :: .int t_streamAt :: .int t_streamMany :: .int t_name :: .int t_from :: .int t_end :: .int t_sizeAt :: .int t_bitsAt :: .int t_colourAt :: .int t_colourEnd :: .int t_paletteAt :: .int t_mapAt :: .int t_mapEnd :: .int t_channelsAt :: .int t_captureAt :: .int t_displayAt :: .int t_resolved :: []))), (h_t_file, .inl (cI, 65536, .inl f_t_file))] → va_S A s.heap H locs → ∀ ls : Array Slot, lv_has ls 6 [(5, .int v124_5), (2, .int v124_2), (4, .int x97), (3, .int v80_3), (1, .int j75_s0), (0, .ref h_t)] → W p l e R s m args below meth c H locs 0 0 Q (F0 m 124 ls []) := by
                      intro n
                      induction n with
                      | zero => intro v124_5 v124_2 hlt; exact absurd hlt (Nat.not_lt_zero _)
                      | succ n ih =>
                        intro v124_5 v124_2 hlt_124 E O H locs hP hD hS ls hl
                        have E : lb_Mo_behindHead_124 t_channelsAt f_t_file kk_80 v80_3 x97 (lp_Mo_behindHead_124 t_channelsAt f_t_file kk_80 v80_3 x97 n) v124_5 v124_2 = RES := E
                        have O : olb_Mo_behindHead_124 t_channelsAt f_t_file okk_80 v80_3 x97 (olp_Mo_behindHead_124 t_channelsAt f_t_file okk_80 v80_3 x97 n) v124_5 v124_2 := O
                        generalize lp_Mo_behindHead_124 t_channelsAt f_t_file kk_80 v80_3 x97 n = kk_124 at ih E
                        generalize olp_Mo_behindHead_124 t_channelsAt f_t_file okk_80 v80_3 x97 n = okk_124 at ih O
                        have ih_124 := ih
                        clear ih
                        refine lv_iload hx hb d_Mo_behindHead_124 (lv_at hl 0 rfl) ?_
                        refine lv_iload_n hx hb d_Mo_behindHead_126 rfl (lv_at hl 3 rfl) ?_
                        refine lv_icmp_ge (tgt := 167) hx hb d_Mo_behindHead_127 (by decide) (fun c_127 => ?_) (fun c_127 => ?_)
                        · have E := (if_pos c_127).symm.trans E
                          have O := Eq.mp (if_pos c_127) O
                          refine lv_iinc (v := v80_3 + 1) (lv' := [(3, .int (v80_3 + 1)), (5, .int v124_5), (2, .int v124_2), (4, .int x97), (1, .int j75_s0), (0, .ref h_t)]) hx hb d_Mo_behindHead_167 hl (k := 3) rfl rfl (by decide) rfl (fun ls hl => ?_)
                          refine lv_goto (tgt := 80) hx hb d_Mo_behindHead_170 (by decide) ?_
                          exact ih_80 (v80_3 + 1) v124_2 (Nat.lt_of_lt_of_le (tm_up c_82) (Nat.le_of_lt_succ hlt_80)) E O _ _ hP hD hS ls (lv_sub hl [0, 2, 4, 5] rfl)
                        · have E := (if_neg c_127).symm.trans E
                          have O := Eq.mp (if_neg c_127) O
                          refine lv_iload_n hx hb d_Mo_behindHead_130 rfl (lv_at hl 1 rfl) ?_
                          have J_159 : j_Mo_behindHead_159 kk_124 v124_5 = RES → oj_Mo_behindHead_159 okk_124 v124_5 → ∀ (H : Heap) (locs : List Loc), va_P D classes [(h_t, .inr (7, (.int t_thrown :: .int t_high :: .int t_wide :: .int t_components :: .ref h_t_bits :: .int t_unknown :: .int t_rights :: .int t_colours :: .int t_profiled :: .ref h_t_profile :: .int t_entries :: .int t_columns :: .ref h_t_columnBits :: .ref h_t_numbers :: .int t_maps :: .ref h_t_map :: .int t_lines :: .ref h_t_line :: .ref h_t_resolutions :: .ref h_t_file :: .int t_size :: .int t_scanned :: .int t_refusedAt :: .int t_cursor :: .int t_streamAt :: .int t_streamMany :: .int t_name :: .int t_from :: .int t_end :: .int t_sizeAt :: .int t_bitsAt :: .int t_colourAt :: .int t_colourEnd :: .int t_paletteAt :: .int t_mapAt :: .int t_mapEnd :: .int t_channelsAt :: .int t_captureAt :: .int t_displayAt :: .int t_resolved :: []))), (h_t_file, .inl (cI, 65536, .inl f_t_file))] H → va_D A [(h_t, .inr (7, (.int t_thrown :: .int t_high :: .int t_wide :: .int t_components :: .ref h_t_bits :: .int t_unknown :: .int t_rights :: .int t_colours :: .int t_profiled :: .ref h_t_profile :: .int t_entries :: .int t_columns :: .ref h_t_columnBits :: .ref h_t_numbers :: .int t_maps :: .ref h_t_map :: .int t_lines :: .ref h_t_line :: .ref h_t_resolutions :: .ref h_t_file :: .int t_size :: .int t_scanned :: .int t_refusedAt :: .int t_cursor :: .int t_streamAt :: .int t_streamMany :: .int t_name :: .int t_from :: .int t_end :: .int t_sizeAt :: .int t_bitsAt :: .int t_colourAt :: .int t_colourEnd :: .int t_paletteAt :: .int t_mapAt :: .int t_mapEnd :: .int t_channelsAt :: .int t_captureAt :: .int t_displayAt :: .int t_resolved :: []))), (h_t_file, .inl (cI, 65536, .inl f_t_file))] → va_S A s.heap H locs → ∀ ls : Array Slot, lv_has ls 6 [(5, .int v124_5), (4, .int x97), (3, .int v80_3), (1, .int j75_s0), (0, .ref h_t)] → W p l e R s m args below meth c H locs 0 0 Q (F0 m 159 ls []) := by
                            intro E O H locs hP hD hS ls hl
                            refine lv_iconst (v := 0) hx hb d_Mo_behindHead_159 (by decide) ?_
                            refine lv_istore_n (lv' := [(2, .int 0), (5, .int v124_5), (4, .int x97), (3, .int v80_3), (1, .int j75_s0), (0, .ref h_t)]) hx hb d_Mo_behindHead_160 rfl hl (by decide) rfl (fun ls hl => ?_)
                            refine lv_iinc (v := v124_5 + 1) (lv' := [(5, .int (v124_5 + 1)), (2, .int 0), (4, .int x97), (3, .int v80_3), (1, .int j75_s0), (0, .ref h_t)]) hx hb d_Mo_behindHead_161 hl (k := 1) rfl rfl (by decide) rfl (fun ls hl => ?_)
                            refine lv_goto (tgt := 124) hx hb d_Mo_behindHead_164 (by decide) ?_
                            exact ih_124 (v124_5 + 1) 0 (Nat.lt_of_lt_of_le (tm_up c_127) (Nat.le_of_lt_succ hlt_124)) E O _ _ hP hD hS ls (lv_sub hl [0, 1, 2, 3, 4, 5] rfl)
                          refine lv_if_eq (tgt := 159) hx hb d_Mo_behindHead_131 (by decide) (fun c_131 => ?_) (fun c_131 => ?_)
                          · have E := (if_pos c_131).symm.trans E
                            have O := Eq.mp (if_pos c_131) O
                            exact J_159  E O _ _ hP hD hS ls (lv_sub hl [0, 2, 3, 4, 5] rfl)
                          · have E := (if_neg c_131).symm.trans E
                            have O := Eq.mp (if_neg c_131) O
                            refine lv_aload_n hx hb d_Mo_behindHead_134 rfl (lv_at hl 5 rfl) ?_
                            refine lv_aload_n hx hb d_Mo_behindHead_135 rfl (lv_at hl 5 rfl) ?_
                            refine va_get (D := D) (v := .int t_channelsAt) hx hb hta i_Mo hown hK hP 0 rfl rfl 36 (by decide) (hta _ lk_Mo_244) (fun _ h9 => h9) rfl d_Mo_behindHead_136 ?_
                            refine lv_iconst (v := 2) hx hb d_Mo_behindHead_139 (by decide) ?_
                            refine lv_iadd hx hb d_Mo_behindHead_140 ?_
                            refine lv_bipush (v := 6) hx hb d_Mo_behindHead_141 (by decide) ?_
                            refine lv_iload hx hb d_Mo_behindHead_143 (lv_at hl 0 rfl) ?_
                            refine lv_imul hx hb d_Mo_behindHead_145 ?_
                            refine lv_iadd hx hb d_Mo_behindHead_146 ?_
                            refine kc_V (As := [.int ((t_channelsAt + 2) + (6 * v124_5))]) (rest := []) (wr := []) [0, 1] [] ⟨hx, hb, hml, hown, hta⟩ hK hN hP hD hS hA (c_Mo_u2 l D cB cI cJ h_t h_t_bits h_t_profile h_t_columnBits h_t_numbers h_t_map h_t_line h_t_resolutions h_t_file t_thrown t_high t_wide t_components t_unknown t_rights t_colours t_profiled t_entries t_columns t_maps t_lines t_size t_scanned t_refusedAt t_cursor t_streamAt t_streamMany t_name t_from t_end t_sizeAt t_bitsAt t_colourAt t_colourEnd t_paletteAt t_mapAt t_mapEnd t_channelsAt t_captureAt t_displayAt t_resolved f_t_file ((t_channelsAt + 2) + (6 * v124_5)) O.1 _) (hta _ lk_Mo_209) (hta _ ini_Mo) (hta _ code_Mo_u2) code_Mo_u2 (hta _ inst_Mo_u2) (hta _ sel_Mo_u2) hd_Mo_u2 rfl ⟨by omega, by omega⟩ (ci := 7) 0 rfl rfl rfl rfl (by decide) (by decide) (by decide) rfl hl.1 (lv_room (Nat.le_of_ble_eq_true rfl)) d_Mo_behindHead_147 ⟨by omega, by omega⟩ (fun v w1 H locs hw hP hD hS => ?_)
                            obtain ⟨x147, hx147, rfl, rfl⟩ := hw
                            have hP : va_P D classes [(h_t, .inr (7, (.int t_thrown :: .int t_high :: .int t_wide :: .int t_components :: .ref h_t_bits :: .int t_unknown :: .int t_rights :: .int t_colours :: .int t_profiled :: .ref h_t_profile :: .int t_entries :: .int t_columns :: .ref h_t_columnBits :: .ref h_t_numbers :: .int t_maps :: .ref h_t_map :: .int t_lines :: .ref h_t_line :: .ref h_t_resolutions :: .ref h_t_file :: .int t_size :: .int t_scanned :: .int t_refusedAt :: .int t_cursor :: .int t_streamAt :: .int t_streamMany :: .int t_name :: .int t_from :: .int t_end :: .int t_sizeAt :: .int t_bitsAt :: .int t_colourAt :: .int t_colourEnd :: .int t_paletteAt :: .int t_mapAt :: .int t_mapEnd :: .int t_channelsAt :: .int t_captureAt :: .int t_displayAt :: .int t_resolved :: []))), (h_t_file, .inl (cI, 65536, .inl f_t_file))] H := hP.sub [0, 1] rfl
                            have hD : va_D A [(h_t, .inr (7, (.int t_thrown :: .int t_high :: .int t_wide :: .int t_components :: .ref h_t_bits :: .int t_unknown :: .int t_rights :: .int t_colours :: .int t_profiled :: .ref h_t_profile :: .int t_entries :: .int t_columns :: .ref h_t_columnBits :: .ref h_t_numbers :: .int t_maps :: .ref h_t_map :: .int t_lines :: .ref h_t_line :: .ref h_t_resolutions :: .ref h_t_file :: .int t_size :: .int t_scanned :: .int t_refusedAt :: .int t_cursor :: .int t_streamAt :: .int t_streamMany :: .int t_name :: .int t_from :: .int t_end :: .int t_sizeAt :: .int t_bitsAt :: .int t_colourAt :: .int t_colourEnd :: .int t_paletteAt :: .int t_mapAt :: .int t_mapEnd :: .int t_channelsAt :: .int t_captureAt :: .int t_displayAt :: .int t_resolved :: []))), (h_t_file, .inl (cI, 65536, .inl f_t_file))] := hD.sub [0, 1] (by decide) rfl
                            refine W.eq (g2 := F0 m 150 ls [.int x147]) rfl ?_
                            have O := O.2
                            have E : k_Mo_behindHead_147 x97 kk_124 v124_5 x147 = RES := (congrArg (k_Mo_behindHead_147 x97 kk_124 v124_5) hx147).trans E
                            have O : ok_Mo_behindHead_147 x97 okk_124 v124_5 x147 := by rw [hx147]; exact O
                            refine lv_iload hx hb d_Mo_behindHead_150 (lv_at hl 2 rfl) ?_
                            refine lv_icmp_eq (tgt := 159) hx hb d_Mo_behindHead_152 (by decide) (fun c_152 => ?_) (fun c_152 => ?_)
                            · have E := (if_pos c_152).symm.trans E
                              have O := Eq.mp (if_pos c_152) O
                              exact J_159  E O _ _ hP hD hS ls (lv_sub hl [0, 2, 3, 4, 5] rfl)
                            · have E := (if_neg c_152).symm.trans E
                              have O := Eq.mp (if_neg c_152) O
                              refine lv_iconst (v := 1) hx hb d_Mo_behindHead_155 (by decide) ?_
                              refine lv_goto (tgt := 160) hx hb d_Mo_behindHead_156 (by decide) ?_
                              refine lv_istore_n (lv' := [(2, .int 1), (5, .int v124_5), (4, .int x97), (3, .int v80_3), (1, .int j75_s0), (0, .ref h_t)]) hx hb d_Mo_behindHead_160 rfl hl (by decide) rfl (fun ls hl => ?_)
                              refine lv_iinc (v := v124_5 + 1) (lv' := [(5, .int (v124_5 + 1)), (2, .int 1), (4, .int x97), (3, .int v80_3), (1, .int j75_s0), (0, .ref h_t)]) hx hb d_Mo_behindHead_161 hl (k := 1) rfl rfl (by decide) rfl (fun ls hl => ?_)
                              refine lv_goto (tgt := 124) hx hb d_Mo_behindHead_164 (by decide) ?_
                              exact ih_124 (v124_5 + 1) 1 (Nat.lt_of_lt_of_le (tm_up c_127) (Nat.le_of_lt_succ hlt_124)) E O _ _ hP hD hS ls (lv_sub hl [0, 1, 2, 3, 4, 5] rfl)
                    exact L_124 _ 0 j120_s0 (Nat.lt_succ_self _) E O _ _ hP hD hS ls (lv_sub hl [0, 1, 2, 3, 4, 5] rfl)
                  have J_119 : j_Mo_behindHead_119 t_channelsAt f_t_file kk_80 v80_3 x97 = RES → oj_Mo_behindHead_119 t_channelsAt f_t_file okk_80 v80_3 x97 → ∀ (H : Heap) (locs : List Loc), va_P D classes [(h_t, .inr (7, (.int t_thrown :: .int t_high :: .int t_wide :: .int t_components :: .ref h_t_bits :: .int t_unknown :: .int t_rights :: .int t_colours :: .int t_profiled :: .ref h_t_profile :: .int t_entries :: .int t_columns :: .ref h_t_columnBits :: .ref h_t_numbers :: .int t_maps :: .ref h_t_map :: .int t_lines :: .ref h_t_line :: .ref h_t_resolutions :: .ref h_t_file :: .int t_size :: .int t_scanned :: .int t_refusedAt :: .int t_cursor :: .int t_streamAt :: .int t_streamMany :: .int t_name :: .int t_from :: .int t_end :: .int t_sizeAt :: .int t_bitsAt :: .int t_colourAt :: .int t_colourEnd :: .int t_paletteAt :: .int t_mapAt :: .int t_mapEnd :: .int t_channelsAt :: .int t_captureAt :: .int t_displayAt :: .int t_resolved :: []))), (h_t_file, .inl (cI, 65536, .inl f_t_file))] H → va_D A [(h_t, .inr (7, (.int t_thrown :: .int t_high :: .int t_wide :: .int t_components :: .ref h_t_bits :: .int t_unknown :: .int t_rights :: .int t_colours :: .int t_profiled :: .ref h_t_profile :: .int t_entries :: .int t_columns :: .ref h_t_columnBits :: .ref h_t_numbers :: .int t_maps :: .ref h_t_map :: .int t_lines :: .ref h_t_line :: .ref h_t_resolutions :: .ref h_t_file :: .int t_size :: .int t_scanned :: .int t_refusedAt :: .int t_cursor :: .int t_streamAt :: .int t_streamMany :: .int t_name :: .int t_from :: .int t_end :: .int t_sizeAt :: .int t_bitsAt :: .int t_colourAt :: .int t_colourEnd :: .int t_paletteAt :: .int t_mapAt :: .int t_mapEnd :: .int t_channelsAt :: .int t_captureAt :: .int t_displayAt :: .int t_resolved :: []))), (h_t_file, .inl (cI, 65536, .inl f_t_file))] → va_S A s.heap H locs → ∀ ls : Array Slot, lv_has ls 6 [(4, .int x97), (3, .int v80_3), (1, .int j75_s0), (0, .ref h_t)] → W p l e R s m args below meth c H locs 0 0 Q (F0 m 119 ls []) := by
                    intro E O H locs hP hD hS ls hl
                    refine lv_iconst (v := 0) hx hb d_Mo_behindHead_119 (by decide) ?_
                    exact J_120 0 E O _ _ hP hD hS ls (lv_sub hl [0, 1, 2, 3] rfl)
                  refine lv_if_eq (tgt := 119) hx hb d_Mo_behindHead_103 (by decide) (fun c_103 => ?_) (fun c_103 => ?_)
                  · have E := (if_pos c_103).symm.trans E
                    have O := Eq.mp (if_pos c_103) O
                    exact J_119  E O _ _ hP hD hS ls (lv_sub hl [0, 1, 3, 4] rfl)
                  · have E := (if_neg c_103).symm.trans E
                    have O := Eq.mp (if_neg c_103) O
                    refine lv_iload hx hb d_Mo_behindHead_106 (lv_at hl 0 rfl) ?_
                    refine lv_aload_n hx hb d_Mo_behindHead_108 rfl (lv_at hl 4 rfl) ?_
                    refine kc_V (As := []) (rest := [.int x97]) (wr := []) [0, 1] [] ⟨hx, hb, hml, hown, hta⟩ hK hN hP hD hS hA (c_Mo_channelsThere l D cB cI cJ h_t h_t_bits h_t_profile h_t_columnBits h_t_numbers h_t_map h_t_line h_t_resolutions h_t_file t_thrown t_high t_wide t_components t_unknown t_rights t_colours t_profiled t_entries t_columns t_maps t_lines t_size t_scanned t_refusedAt t_cursor t_streamAt t_streamMany t_name t_from t_end t_sizeAt t_bitsAt t_colourAt t_colourEnd t_paletteAt t_mapAt t_mapEnd t_channelsAt t_captureAt t_displayAt t_resolved f_t_file O.1 _) (hta _ lk_Mo_280) (hta _ ini_Mo) (hta _ code_Mo_channelsThere) code_Mo_channelsThere (hta _ inst_Mo_channelsThere) (hta _ sel_Mo_channelsThere) hd_Mo_channelsThere rfl ⟨by omega, by omega⟩ (ci := 7) 0 rfl rfl rfl rfl (by decide) (by decide) (by decide) rfl hl.1 (lv_room (Nat.le_of_ble_eq_true rfl)) d_Mo_behindHead_109 ⟨by omega, by omega⟩ (fun v w1 H locs hw hP hD hS => ?_)
                    obtain ⟨x109, hx109, rfl, rfl⟩ := hw
                    have hP : va_P D classes [(h_t, .inr (7, (.int t_thrown :: .int t_high :: .int t_wide :: .int t_components :: .ref h_t_bits :: .int t_unknown :: .int t_rights :: .int t_colours :: .int t_profiled :: .ref h_t_profile :: .int t_entries :: .int t_columns :: .ref h_t_columnBits :: .ref h_t_numbers :: .int t_maps :: .ref h_t_map :: .int t_lines :: .ref h_t_line :: .ref h_t_resolutions :: .ref h_t_file :: .int t_size :: .int t_scanned :: .int t_refusedAt :: .int t_cursor :: .int t_streamAt :: .int t_streamMany :: .int t_name :: .int t_from :: .int t_end :: .int t_sizeAt :: .int t_bitsAt :: .int t_colourAt :: .int t_colourEnd :: .int t_paletteAt :: .int t_mapAt :: .int t_mapEnd :: .int t_channelsAt :: .int t_captureAt :: .int t_displayAt :: .int t_resolved :: []))), (h_t_file, .inl (cI, 65536, .inl f_t_file))] H := hP.sub [0, 1] rfl
                    have hD : va_D A [(h_t, .inr (7, (.int t_thrown :: .int t_high :: .int t_wide :: .int t_components :: .ref h_t_bits :: .int t_unknown :: .int t_rights :: .int t_colours :: .int t_profiled :: .ref h_t_profile :: .int t_entries :: .int t_columns :: .ref h_t_columnBits :: .ref h_t_numbers :: .int t_maps :: .ref h_t_map :: .int t_lines :: .ref h_t_line :: .ref h_t_resolutions :: .ref h_t_file :: .int t_size :: .int t_scanned :: .int t_refusedAt :: .int t_cursor :: .int t_streamAt :: .int t_streamMany :: .int t_name :: .int t_from :: .int t_end :: .int t_sizeAt :: .int t_bitsAt :: .int t_colourAt :: .int t_colourEnd :: .int t_paletteAt :: .int t_mapAt :: .int t_mapEnd :: .int t_channelsAt :: .int t_captureAt :: .int t_displayAt :: .int t_resolved :: []))), (h_t_file, .inl (cI, 65536, .inl f_t_file))] := hD.sub [0, 1] (by decide) rfl
                    refine W.eq (g2 := F0 m 112 ls [.int x109, .int x97]) rfl ?_
                    have O := O.2
                    have E : k_Mo_behindHead_109 t_channelsAt f_t_file kk_80 v80_3 x97 x109 = RES := (congrArg (k_Mo_behindHead_109 t_channelsAt f_t_file kk_80 v80_3 x97) hx109).trans E
                    have O : ok_Mo_behindHead_109 t_channelsAt f_t_file okk_80 v80_3 x97 x109 := by rw [hx109]; exact O
                    refine lv_icmp_ge (tgt := 119) hx hb d_Mo_behindHead_112 (by decide) (fun c_112 => ?_) (fun c_112 => ?_)
                    · have E := (if_pos c_112).symm.trans E
                      have O := Eq.mp (if_pos c_112) O
                      exact J_119  E O _ _ hP hD hS ls (lv_sub hl [0, 1, 3, 4] rfl)
                    · have E := (if_neg c_112).symm.trans E
                      have O := Eq.mp (if_neg c_112) O
                      refine lv_iconst (v := 1) hx hb d_Mo_behindHead_115 (by decide) ?_
                      refine lv_goto (tgt := 120) hx hb d_Mo_behindHead_116 (by decide) ?_
                      exact J_120 1 E O _ _ hP hD hS ls (lv_sub hl [0, 1, 3, 4] rfl)
            exact L_80 _ 0 1 (Nat.lt_succ_self _) E O _ _ hP hD hS ls (lv_sub hl [0, 1, 2, 3] rfl)
          refine lv_if_le (tgt := 74) hx hb d_Mo_behindHead_60 (by decide) (fun c_60 => ?_) (fun c_60 => ?_)
          · have E := (if_pos c_60).symm.trans E
            have O := Eq.mp (if_pos c_60) O
            refine lv_iconst (v := 0) hx hb d_Mo_behindHead_74 (by decide) ?_
            exact J_75 0 E O _ _ hP hD hS ls (lv_sub hl [0] rfl)
          · have E := (if_neg c_60).symm.trans E
            have O := Eq.mp (if_neg c_60) O
            refine lv_aload_n hx hb d_Mo_behindHead_63 rfl (lv_at hl 0 rfl) ?_
            refine lv_aload_n hx hb d_Mo_behindHead_64 rfl (lv_at hl 0 rfl) ?_
            refine va_get (D := D) (v := .int t_channelsAt) hx hb hta i_Mo hown hK hP 0 rfl rfl 36 (by decide) (hta _ lk_Mo_244) (fun _ h9 => h9) rfl d_Mo_behindHead_65 ?_
            refine kc_V (As := [.int t_channelsAt]) (rest := []) (wr := []) [0, 1] [] ⟨hx, hb, hml, hown, hta⟩ hK hN hP hD hS hA (c_Mo_u2 l D cB cI cJ h_t h_t_bits h_t_profile h_t_columnBits h_t_numbers h_t_map h_t_line h_t_resolutions h_t_file t_thrown t_high t_wide t_components t_unknown t_rights t_colours t_profiled t_entries t_columns t_maps t_lines t_size t_scanned t_refusedAt t_cursor t_streamAt t_streamMany t_name t_from t_end t_sizeAt t_bitsAt t_colourAt t_colourEnd t_paletteAt t_mapAt t_mapEnd t_channelsAt t_captureAt t_displayAt t_resolved f_t_file t_channelsAt O.1 _) (hta _ lk_Mo_209) (hta _ ini_Mo) (hta _ code_Mo_u2) code_Mo_u2 (hta _ inst_Mo_u2) (hta _ sel_Mo_u2) hd_Mo_u2 rfl ⟨by omega, by omega⟩ (ci := 7) 0 rfl rfl rfl rfl (by decide) (by decide) (by decide) rfl hl.1 (lv_room (Nat.le_of_ble_eq_true rfl)) d_Mo_behindHead_68 ⟨by omega, by omega⟩ (fun v w1 H locs hw hP hD hS => ?_)
            obtain ⟨x68, hx68, rfl, rfl⟩ := hw
            have hP : va_P D classes [(h_t, .inr (7, (.int t_thrown :: .int t_high :: .int t_wide :: .int t_components :: .ref h_t_bits :: .int t_unknown :: .int t_rights :: .int t_colours :: .int t_profiled :: .ref h_t_profile :: .int t_entries :: .int t_columns :: .ref h_t_columnBits :: .ref h_t_numbers :: .int t_maps :: .ref h_t_map :: .int t_lines :: .ref h_t_line :: .ref h_t_resolutions :: .ref h_t_file :: .int t_size :: .int t_scanned :: .int t_refusedAt :: .int t_cursor :: .int t_streamAt :: .int t_streamMany :: .int t_name :: .int t_from :: .int t_end :: .int t_sizeAt :: .int t_bitsAt :: .int t_colourAt :: .int t_colourEnd :: .int t_paletteAt :: .int t_mapAt :: .int t_mapEnd :: .int t_channelsAt :: .int t_captureAt :: .int t_displayAt :: .int t_resolved :: []))), (h_t_file, .inl (cI, 65536, .inl f_t_file))] H := hP.sub [0, 1] rfl
            have hD : va_D A [(h_t, .inr (7, (.int t_thrown :: .int t_high :: .int t_wide :: .int t_components :: .ref h_t_bits :: .int t_unknown :: .int t_rights :: .int t_colours :: .int t_profiled :: .ref h_t_profile :: .int t_entries :: .int t_columns :: .ref h_t_columnBits :: .ref h_t_numbers :: .int t_maps :: .ref h_t_map :: .int t_lines :: .ref h_t_line :: .ref h_t_resolutions :: .ref h_t_file :: .int t_size :: .int t_scanned :: .int t_refusedAt :: .int t_cursor :: .int t_streamAt :: .int t_streamMany :: .int t_name :: .int t_from :: .int t_end :: .int t_sizeAt :: .int t_bitsAt :: .int t_colourAt :: .int t_colourEnd :: .int t_paletteAt :: .int t_mapAt :: .int t_mapEnd :: .int t_channelsAt :: .int t_captureAt :: .int t_displayAt :: .int t_resolved :: []))), (h_t_file, .inl (cI, 65536, .inl f_t_file))] := hD.sub [0, 1] (by decide) rfl
            refine W.eq (g2 := F0 m 71 ls [.int x68]) rfl ?_
            have O := O.2
            have E : k_Mo_behindHead_68 t_sizeAt t_mapAt t_mapEnd t_channelsAt f_t_file x68 = RES := (congrArg (k_Mo_behindHead_68 t_sizeAt t_mapAt t_mapEnd t_channelsAt f_t_file) hx68).trans E
            have O : ok_Mo_behindHead_68 t_sizeAt t_mapAt t_mapEnd t_channelsAt f_t_file x68 := by rw [hx68]; exact O
            refine lv_goto (tgt := 75) hx hb d_Mo_behindHead_71 (by decide) ?_
            exact J_75 x68 E O _ _ hP hD hS ls (lv_sub hl [0] rfl)
        refine lv_if_le (tgt := 56) hx hb d_Mo_behindHead_43 (by decide) (fun c_43 => ?_) (fun c_43 => ?_)
        · have E := (if_pos c_43).symm.trans E
          have O := Eq.mp (if_pos c_43) O
          exact J_56  E O _ _ hP hD hS ls (lv_sub hl [0] rfl)
        · have E := (if_neg c_43).symm.trans E
          have O := Eq.mp (if_neg c_43) O
          refine lv_aload_n hx hb d_Mo_behindHead_46 rfl (lv_at hl 0 rfl) ?_
          refine va_get (D := D) (v := .int t_mapAt) hx hb hta i_Mo hown hK hP 0 rfl rfl 34 (by decide) (hta _ lk_Mo_241) (fun _ h9 => h9) rfl d_Mo_behindHead_47 ?_
          refine lv_if_ne (tgt := 56) hx hb d_Mo_behindHead_50 (by decide) (fun c_50 => ?_) (fun c_50 => ?_)
          · have E := (if_neg c_50).symm.trans E
            have O := Eq.mp (if_neg c_50) O
            exact J_56  E O _ _ hP hD hS ls (lv_sub hl [0] rfl)
          · have E := (if_pos c_50).symm.trans E
            have O := Eq.mp (if_pos c_50) O
            refine lv_bipush (v := 6) hx hb d_Mo_behindHead_53 (by decide) ?_
            exact kr_i hx hb hr hlk hQ hK hP hD hS ⟨(6 : Int32), E.trans E0.symm, rfl, rfl⟩ (by omega) (by omega) d_Mo_behindHead_55
      refine lv_icmp_ne (tgt := 39) hx hb d_Mo_behindHead_29 (by decide) (fun c_29 => ?_) (fun c_29 => ?_)
      · have E := (if_neg c_29).symm.trans E
        have O := Eq.mp (if_neg c_29) O
        exact J_39  E O _ _ hP hD hS ls (lv_sub hl [0] rfl)
      · have E := (if_pos c_29).symm.trans E
        have O := Eq.mp (if_pos c_29) O
        refine lv_aload_n hx hb d_Mo_behindHead_32 rfl (lv_at hl 0 rfl) ?_
        refine va_get (D := D) (v := .int t_bitsAt) hx hb hta i_Mo hown hK hP 0 rfl rfl 30 (by decide) (hta _ lk_Mo_238) (fun _ h9 => h9) rfl d_Mo_behindHead_33 ?_
        refine lv_if_eq (tgt := 53) hx hb d_Mo_behindHead_36 (by decide) (fun c_36 => ?_) (fun c_36 => ?_)
        · have E := (if_pos c_36).symm.trans E
          have O := Eq.mp (if_pos c_36) O
          refine lv_bipush (v := 6) hx hb d_Mo_behindHead_53 (by decide) ?_
          exact kr_i hx hb hr hlk hQ hK hP hD hS ⟨(6 : Int32), E.trans E0.symm, rfl, rfl⟩ (by omega) (by omega) d_Mo_behindHead_55
        · have E := (if_neg c_36).symm.trans E
          have O := Eq.mp (if_neg c_36) O
          exact J_39  E O _ _ hP hD hS ls (lv_sub hl [0] rfl)
