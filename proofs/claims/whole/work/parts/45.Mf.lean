theorem d_Mo_u2_0 : decode b_Mo_u2 0 = .ok (.aload_n 0, 1) := by decide +kernel
theorem d_Mo_u2_1 : decode b_Mo_u2 1 = .ok (.getfield 37, 3) := by decide +kernel
theorem d_Mo_u2_4 : decode b_Mo_u2 4 = .ok (.iload_n 1, 1) := by decide +kernel
theorem d_Mo_u2_5 : decode b_Mo_u2 5 = .ok (.iaload, 1) := by decide +kernel
theorem d_Mo_u2_6 : decode b_Mo_u2 6 = .ok (.bipush 8, 2) := by decide +kernel
theorem d_Mo_u2_8 : decode b_Mo_u2 8 = .ok (.ishl, 1) := by decide +kernel
theorem d_Mo_u2_9 : decode b_Mo_u2 9 = .ok (.aload_n 0, 1) := by decide +kernel
theorem d_Mo_u2_10 : decode b_Mo_u2 10 = .ok (.getfield 37, 3) := by decide +kernel
theorem d_Mo_u2_13 : decode b_Mo_u2 13 = .ok (.iload_n 1, 1) := by decide +kernel
theorem d_Mo_u2_14 : decode b_Mo_u2 14 = .ok (.iconst 1, 1) := by decide +kernel
theorem d_Mo_u2_15 : decode b_Mo_u2 15 = .ok (.iadd, 1) := by decide +kernel
theorem d_Mo_u2_16 : decode b_Mo_u2 16 = .ok (.iaload, 1) := by decide +kernel
theorem d_Mo_u2_17 : decode b_Mo_u2 17 = .ok (.ior, 1) := by decide +kernel
theorem d_Mo_u2_18 : decode b_Mo_u2 18 = .ok (.ireturn, 1) := by decide +kernel
def om_Mo_u2 (p1 : Int32) : Prop :=
  vp_in p1 65536 ∧ vp_in (p1 + 1) 65536 ∧ True
def m_Mo_u2 (f_t_file : Nat → Int32) (p1 : Int32) : Int32 :=
  ((f_t_file p1.toNatClampNeg) <<< (8 &&& 31)) ||| (f_t_file (p1 + 1).toNatClampNeg)
set_option maxHeartbeats 4000000 in
set_option maxRecDepth 100000 in
theorem c_Mo_u2 (l : Launch) (D : va_G) (cB cI cJ : ClassId) (h_t h_t_bits h_t_profile h_t_columnBits h_t_numbers h_t_map h_t_line h_t_resolutions h_t_file : Nat) (t_thrown : Int32) (t_high : Int32) (t_wide : Int32) (t_components : Int32) (t_unknown : Int32) (t_rights : Int32) (t_colours : Int32) (t_profiled : Int32) (t_entries : Int32) (t_columns : Int32) (t_maps : Int32) (t_lines : Int32) (t_size : Int32) (t_scanned : Int32) (t_refusedAt : Int32) (t_cursor : Int32) (t_streamAt : Int32) (t_streamMany : Int32) (t_name : Int32) (t_from : Int32) (t_end : Int32) (t_sizeAt : Int32) (t_bitsAt : Int32) (t_colourAt : Int32) (t_colourEnd : Int32) (t_paletteAt : Int32) (t_mapAt : Int32) (t_mapEnd : Int32) (t_channelsAt : Int32) (t_captureAt : Int32) (t_displayAt : Int32) (t_resolved : Int32) (f_t_file : Nat → Int32) (p1 : Int32) (hO : om_Mo_u2 p1) (sz : Nat) : Ct l D cB cI cJ y_Mo_u2 b_Mo_u2 2 (some .int) 0 0 0 0 [.ref h_t, .int p1] [(h_t, .inr (7, (.int t_thrown :: .int t_high :: .int t_wide :: .int t_components :: .ref h_t_bits :: .int t_unknown :: .int t_rights :: .int t_colours :: .int t_profiled :: .ref h_t_profile :: .int t_entries :: .int t_columns :: .ref h_t_columnBits :: .ref h_t_numbers :: .int t_maps :: .ref h_t_map :: .int t_lines :: .ref h_t_line :: .ref h_t_resolutions :: .ref h_t_file :: .int t_size :: .int t_scanned :: .int t_refusedAt :: .int t_cursor :: .int t_streamAt :: .int t_streamMany :: .int t_name :: .int t_from :: .int t_end :: .int t_sizeAt :: .int t_bitsAt :: .int t_colourAt :: .int t_colourEnd :: .int t_paletteAt :: .int t_mapAt :: .int t_mapEnd :: .int t_channelsAt :: .int t_captureAt :: .int t_displayAt :: .int t_resolved :: []))), (h_t_file, .inl (cI, 65536, .inl f_t_file))] (fun v w1 => ∃ (x : Int32), x = m_Mo_u2 f_t_file p1 ∧ v = some (.int x) ∧ w1 = [(h_t, .inr (7, (.int t_thrown :: .int t_high :: .int t_wide :: .int t_components :: .ref h_t_bits :: .int t_unknown :: .int t_rights :: .int t_colours :: .int t_profiled :: .ref h_t_profile :: .int t_entries :: .int t_columns :: .ref h_t_columnBits :: .ref h_t_numbers :: .int t_maps :: .ref h_t_map :: .int t_lines :: .ref h_t_line :: .ref h_t_resolutions :: .ref h_t_file :: .int t_size :: .int t_scanned :: .int t_refusedAt :: .int t_cursor :: .int t_streamAt :: .int t_streamMany :: .int t_name :: .int t_from :: .int t_end :: .int t_sizeAt :: .int t_bitsAt :: .int t_colourAt :: .int t_colourEnd :: .int t_paletteAt :: .int t_mapAt :: .int t_mapEnd :: .int t_channelsAt :: .int t_captureAt :: .int t_displayAt :: .int t_resolved :: []))), (h_t_file, .inl (cI, 65536, .inl f_t_file))]) sz := by
  refine Ct.of (by decide) (Nat.le_of_ble_eq_true rfl) ?_
  intro p e R s m args below meth c A ls Q hx hb hr hlk hml hta hown hin hK hN hA hRf hRl hRc hRs hP hD hS hl hQ
  have hl : lv_has ls 2 [(0, .ref h_t), (1, .int p1)] := hl
  obtain ⟨RES, E0⟩ : ∃ R, m_Mo_u2 f_t_file p1 = R := ⟨_, rfl⟩
  have E := E0
  have O := hO
  refine lv_aload_n hx hb d_Mo_u2_0 rfl (lv_at hl 0 rfl) ?_
  refine va_get (D := D) (v := .ref h_t_file) hx hb hta i_Mo hown hK hP 0 rfl rfl 19 (by decide) (hta _ lk_Mo_37) (fun _ h9 => h9) rfl d_Mo_u2_1 ?_
  refine lv_iload_n hx hb d_Mo_u2_4 rfl (lv_at hl 1 rfl) ?_
  refine va_iald hx hb hK hP 1 1 rfl rfl O.1 d_Mo_u2_5 ?_
  have O := O.2
  refine lv_bipush (v := 8) hx hb d_Mo_u2_6 (by decide) ?_
  refine lv_ishl hx hb d_Mo_u2_8 ?_
  refine lv_aload_n hx hb d_Mo_u2_9 rfl (lv_at hl 0 rfl) ?_
  refine va_get (D := D) (v := .ref h_t_file) hx hb hta i_Mo hown hK hP 0 rfl rfl 19 (by decide) (hta _ lk_Mo_37) (fun _ h9 => h9) rfl d_Mo_u2_10 ?_
  refine lv_iload_n hx hb d_Mo_u2_13 rfl (lv_at hl 1 rfl) ?_
  refine lv_iconst (v := 1) hx hb d_Mo_u2_14 (by decide) ?_
  refine lv_iadd hx hb d_Mo_u2_15 ?_
  refine va_iald hx hb hK hP 1 1 rfl rfl O.1 d_Mo_u2_16 ?_
  have O := O.2
  refine lv_ior hx hb d_Mo_u2_17 ?_
  exact kr_i hx hb hr hlk hQ hK hP hD hS ⟨(((f_t_file p1.toNatClampNeg) <<< (8 &&& 31)) ||| (f_t_file (p1 + 1).toNatClampNeg) : Int32), E.trans E0.symm, rfl, rfl⟩ (by omega) (by omega) d_Mo_u2_18
theorem d_Mo_u4_0 : decode b_Mo_u4 0 = .ok (.aload_n 0, 1) := by decide +kernel
theorem d_Mo_u4_1 : decode b_Mo_u4 1 = .ok (.iload_n 1, 1) := by decide +kernel
theorem d_Mo_u4_2 : decode b_Mo_u4 2 = .ok (.invokevirtual 209, 3) := by decide +kernel
theorem d_Mo_u4_5 : decode b_Mo_u4 5 = .ok (.i2l, 1) := by decide +kernel
theorem d_Mo_u4_6 : decode b_Mo_u4 6 = .ok (.bipush 16, 2) := by decide +kernel
theorem d_Mo_u4_8 : decode b_Mo_u4 8 = .ok (.lshl, 1) := by decide +kernel
theorem d_Mo_u4_9 : decode b_Mo_u4 9 = .ok (.aload_n 0, 1) := by decide +kernel
theorem d_Mo_u4_10 : decode b_Mo_u4 10 = .ok (.iload_n 1, 1) := by decide +kernel
theorem d_Mo_u4_11 : decode b_Mo_u4 11 = .ok (.iconst 2, 1) := by decide +kernel
theorem d_Mo_u4_12 : decode b_Mo_u4 12 = .ok (.iadd, 1) := by decide +kernel
theorem d_Mo_u4_13 : decode b_Mo_u4 13 = .ok (.invokevirtual 209, 3) := by decide +kernel
theorem d_Mo_u4_16 : decode b_Mo_u4 16 = .ok (.i2l, 1) := by decide +kernel
theorem d_Mo_u4_17 : decode b_Mo_u4 17 = .ok (.lor, 1) := by decide +kernel
theorem d_Mo_u4_18 : decode b_Mo_u4 18 = .ok (.lreturn, 1) := by decide +kernel
def k_Mo_u4_13 (x2 : Int32) (x13 : Int32) : Int64 :=
  (((x2 : Int32).toInt64) <<< ((16 : Int32).toInt64 &&& 63)) ||| ((x13 : Int32).toInt64)
def ok_Mo_u4_13 (x13 : Int32) : Prop :=
  True
def k_Mo_u4_2 (f_t_file : Nat → Int32) (p1 : Int32) (x2 : Int32) : Int64 :=
  k_Mo_u4_13 x2 (m_Mo_u2 f_t_file (p1 + 2))
def ok_Mo_u4_2 (f_t_file : Nat → Int32) (p1 : Int32) (x2 : Int32) : Prop :=
  om_Mo_u2 (p1 + 2) ∧ (ok_Mo_u4_13 (m_Mo_u2 f_t_file (p1 + 2)))
def om_Mo_u4 (f_t_file : Nat → Int32) (p1 : Int32) : Prop :=
  om_Mo_u2 p1 ∧ (ok_Mo_u4_2 f_t_file p1 (m_Mo_u2 f_t_file p1))
def m_Mo_u4 (f_t_file : Nat → Int32) (p1 : Int32) : Int64 :=
  k_Mo_u4_2 f_t_file p1 (m_Mo_u2 f_t_file p1)
set_option maxHeartbeats 4000000 in
set_option maxRecDepth 100000 in
theorem c_Mo_u4 (l : Launch) (D : va_G) (cB cI cJ : ClassId) (h_t h_t_bits h_t_profile h_t_columnBits h_t_numbers h_t_map h_t_line h_t_resolutions h_t_file : Nat) (t_thrown : Int32) (t_high : Int32) (t_wide : Int32) (t_components : Int32) (t_unknown : Int32) (t_rights : Int32) (t_colours : Int32) (t_profiled : Int32) (t_entries : Int32) (t_columns : Int32) (t_maps : Int32) (t_lines : Int32) (t_size : Int32) (t_scanned : Int32) (t_refusedAt : Int32) (t_cursor : Int32) (t_streamAt : Int32) (t_streamMany : Int32) (t_name : Int32) (t_from : Int32) (t_end : Int32) (t_sizeAt : Int32) (t_bitsAt : Int32) (t_colourAt : Int32) (t_colourEnd : Int32) (t_paletteAt : Int32) (t_mapAt : Int32) (t_mapEnd : Int32) (t_channelsAt : Int32) (t_captureAt : Int32) (t_displayAt : Int32) (t_resolved : Int32) (f_t_file : Nat → Int32) (p1 : Int32) (hO : om_Mo_u4 f_t_file p1) (sz : Nat) : Ct l D cB cI cJ y_Mo_u4 b_Mo_u4 2 (some .long) 1 21 0 0 [.ref h_t, .int p1] [(h_t, .inr (7, (.int t_thrown :: .int t_high :: .int t_wide :: .int t_components :: .ref h_t_bits :: .int t_unknown :: .int t_rights :: .int t_colours :: .int t_profiled :: .ref h_t_profile :: .int t_entries :: .int t_columns :: .ref h_t_columnBits :: .ref h_t_numbers :: .int t_maps :: .ref h_t_map :: .int t_lines :: .ref h_t_line :: .ref h_t_resolutions :: .ref h_t_file :: .int t_size :: .int t_scanned :: .int t_refusedAt :: .int t_cursor :: .int t_streamAt :: .int t_streamMany :: .int t_name :: .int t_from :: .int t_end :: .int t_sizeAt :: .int t_bitsAt :: .int t_colourAt :: .int t_colourEnd :: .int t_paletteAt :: .int t_mapAt :: .int t_mapEnd :: .int t_channelsAt :: .int t_captureAt :: .int t_displayAt :: .int t_resolved :: []))), (h_t_file, .inl (cI, 65536, .inl f_t_file))] (fun v w1 => ∃ (x : Int64), x = m_Mo_u4 f_t_file p1 ∧ v = some (.long x) ∧ w1 = [(h_t, .inr (7, (.int t_thrown :: .int t_high :: .int t_wide :: .int t_components :: .ref h_t_bits :: .int t_unknown :: .int t_rights :: .int t_colours :: .int t_profiled :: .ref h_t_profile :: .int t_entries :: .int t_columns :: .ref h_t_columnBits :: .ref h_t_numbers :: .int t_maps :: .ref h_t_map :: .int t_lines :: .ref h_t_line :: .ref h_t_resolutions :: .ref h_t_file :: .int t_size :: .int t_scanned :: .int t_refusedAt :: .int t_cursor :: .int t_streamAt :: .int t_streamMany :: .int t_name :: .int t_from :: .int t_end :: .int t_sizeAt :: .int t_bitsAt :: .int t_colourAt :: .int t_colourEnd :: .int t_paletteAt :: .int t_mapAt :: .int t_mapEnd :: .int t_channelsAt :: .int t_captureAt :: .int t_displayAt :: .int t_resolved :: []))), (h_t_file, .inl (cI, 65536, .inl f_t_file))]) sz := by
  refine Ct.of (by decide) (Nat.le_of_ble_eq_true rfl) ?_
  intro p e R s m args below meth c A ls Q hx hb hr hlk hml hta hown hin hK hN hA hRf hRl hRc hRs hP hD hS hl hQ
  have hl : lv_has ls 2 [(0, .ref h_t), (1, .int p1)] := hl
  obtain ⟨RES, E0⟩ : ∃ R, m_Mo_u4 f_t_file p1 = R := ⟨_, rfl⟩
  have E := E0
  have O := hO
  refine lv_aload_n hx hb d_Mo_u4_0 rfl (lv_at hl 0 rfl) ?_
  refine lv_iload_n hx hb d_Mo_u4_1 rfl (lv_at hl 1 rfl) ?_
  refine kc_V (As := [.int p1]) (rest := []) (wr := []) [0, 1] [] ⟨hx, hb, hml, hown, hta⟩ hK hN hP hD hS hA (c_Mo_u2 l D cB cI cJ h_t h_t_bits h_t_profile h_t_columnBits h_t_numbers h_t_map h_t_line h_t_resolutions h_t_file t_thrown t_high t_wide t_components t_unknown t_rights t_colours t_profiled t_entries t_columns t_maps t_lines t_size t_scanned t_refusedAt t_cursor t_streamAt t_streamMany t_name t_from t_end t_sizeAt t_bitsAt t_colourAt t_colourEnd t_paletteAt t_mapAt t_mapEnd t_channelsAt t_captureAt t_displayAt t_resolved f_t_file p1 O.1 _) (hta _ lk_Mo_209) (hta _ ini_Mo) (hta _ code_Mo_u2) code_Mo_u2 (hta _ inst_Mo_u2) (hta _ sel_Mo_u2) hd_Mo_u2 rfl ⟨by omega, by omega⟩ (ci := 7) 0 rfl rfl rfl rfl (by decide) (by decide) (by decide) rfl hl.1 (lv_room (Nat.le_of_ble_eq_true rfl)) d_Mo_u4_2 ⟨by omega, by omega⟩ (fun v w1 H locs hw hP hD hS => ?_)
  obtain ⟨x2, hx2, rfl, rfl⟩ := hw
  have hP : va_P D classes [(h_t, .inr (7, (.int t_thrown :: .int t_high :: .int t_wide :: .int t_components :: .ref h_t_bits :: .int t_unknown :: .int t_rights :: .int t_colours :: .int t_profiled :: .ref h_t_profile :: .int t_entries :: .int t_columns :: .ref h_t_columnBits :: .ref h_t_numbers :: .int t_maps :: .ref h_t_map :: .int t_lines :: .ref h_t_line :: .ref h_t_resolutions :: .ref h_t_file :: .int t_size :: .int t_scanned :: .int t_refusedAt :: .int t_cursor :: .int t_streamAt :: .int t_streamMany :: .int t_name :: .int t_from :: .int t_end :: .int t_sizeAt :: .int t_bitsAt :: .int t_colourAt :: .int t_colourEnd :: .int t_paletteAt :: .int t_mapAt :: .int t_mapEnd :: .int t_channelsAt :: .int t_captureAt :: .int t_displayAt :: .int t_resolved :: []))), (h_t_file, .inl (cI, 65536, .inl f_t_file))] H := hP.sub [0, 1] rfl
  have hD : va_D A [(h_t, .inr (7, (.int t_thrown :: .int t_high :: .int t_wide :: .int t_components :: .ref h_t_bits :: .int t_unknown :: .int t_rights :: .int t_colours :: .int t_profiled :: .ref h_t_profile :: .int t_entries :: .int t_columns :: .ref h_t_columnBits :: .ref h_t_numbers :: .int t_maps :: .ref h_t_map :: .int t_lines :: .ref h_t_line :: .ref h_t_resolutions :: .ref h_t_file :: .int t_size :: .int t_scanned :: .int t_refusedAt :: .int t_cursor :: .int t_streamAt :: .int t_streamMany :: .int t_name :: .int t_from :: .int t_end :: .int t_sizeAt :: .int t_bitsAt :: .int t_colourAt :: .int t_colourEnd :: .int t_paletteAt :: .int t_mapAt :: .int t_mapEnd :: .int t_channelsAt :: .int t_captureAt :: .int t_displayAt :: .int t_resolved :: []))), (h_t_file, .inl (cI, 65536, .inl f_t_file))] := hD.sub [0, 1] (by decide) rfl
  refine W.eq (g2 := F0 m 5 ls [.int x2]) rfl ?_
  have O := O.2
  have E : k_Mo_u4_2 f_t_file p1 x2 = RES := (congrArg (k_Mo_u4_2 f_t_file p1) hx2).trans E
  have O : ok_Mo_u4_2 f_t_file p1 x2 := by rw [hx2]; exact O
  refine lv_i2l (v := (x2 : Int32).toInt64) hx hb d_Mo_u4_5 rfl ?_
  refine lv_bipush (v := 16) hx hb d_Mo_u4_6 (by decide) ?_
  refine lv_lshl (v := ((x2 : Int32).toInt64) <<< ((16 : Int32).toInt64 &&& 63)) hx hb d_Mo_u4_8 rfl ?_
  refine lv_aload_n hx hb d_Mo_u4_9 rfl (lv_at hl 0 rfl) ?_
  refine lv_iload_n hx hb d_Mo_u4_10 rfl (lv_at hl 1 rfl) ?_
  refine lv_iconst (v := 2) hx hb d_Mo_u4_11 (by decide) ?_
  refine lv_iadd hx hb d_Mo_u4_12 ?_
  refine kc_V (As := [.int (p1 + 2)]) (rest := [.long (((x2 : Int32).toInt64) <<< ((16 : Int32).toInt64 &&& 63))]) (wr := []) [0, 1] [] ⟨hx, hb, hml, hown, hta⟩ hK hN hP hD hS hA (c_Mo_u2 l D cB cI cJ h_t h_t_bits h_t_profile h_t_columnBits h_t_numbers h_t_map h_t_line h_t_resolutions h_t_file t_thrown t_high t_wide t_components t_unknown t_rights t_colours t_profiled t_entries t_columns t_maps t_lines t_size t_scanned t_refusedAt t_cursor t_streamAt t_streamMany t_name t_from t_end t_sizeAt t_bitsAt t_colourAt t_colourEnd t_paletteAt t_mapAt t_mapEnd t_channelsAt t_captureAt t_displayAt t_resolved f_t_file (p1 + 2) O.1 _) (hta _ lk_Mo_209) (hta _ ini_Mo) (hta _ code_Mo_u2) code_Mo_u2 (hta _ inst_Mo_u2) (hta _ sel_Mo_u2) hd_Mo_u2 rfl ⟨by omega, by omega⟩ (ci := 7) 0 rfl rfl rfl rfl (by decide) (by decide) (by decide) rfl hl.1 (lv_room (Nat.le_of_ble_eq_true rfl)) d_Mo_u4_13 ⟨by omega, by omega⟩ (fun v w1 H locs hw hP hD hS => ?_)
  obtain ⟨x13, hx13, rfl, rfl⟩ := hw
  have hP : va_P D classes [(h_t, .inr (7, (.int t_thrown :: .int t_high :: .int t_wide :: .int t_components :: .ref h_t_bits :: .int t_unknown :: .int t_rights :: .int t_colours :: .int t_profiled :: .ref h_t_profile :: .int t_entries :: .int t_columns :: .ref h_t_columnBits :: .ref h_t_numbers :: .int t_maps :: .ref h_t_map :: .int t_lines :: .ref h_t_line :: .ref h_t_resolutions :: .ref h_t_file :: .int t_size :: .int t_scanned :: .int t_refusedAt :: .int t_cursor :: .int t_streamAt :: .int t_streamMany :: .int t_name :: .int t_from :: .int t_end :: .int t_sizeAt :: .int t_bitsAt :: .int t_colourAt :: .int t_colourEnd :: .int t_paletteAt :: .int t_mapAt :: .int t_mapEnd :: .int t_channelsAt :: .int t_captureAt :: .int t_displayAt :: .int t_resolved :: []))), (h_t_file, .inl (cI, 65536, .inl f_t_file))] H := hP.sub [0, 1] rfl
  have hD : va_D A [(h_t, .inr (7, (.int t_thrown :: .int t_high :: .int t_wide :: .int t_components :: .ref h_t_bits :: .int t_unknown :: .int t_rights :: .int t_colours :: .int t_profiled :: .ref h_t_profile :: .int t_entries :: .int t_columns :: .ref h_t_columnBits :: .ref h_t_numbers :: .int t_maps :: .ref h_t_map :: .int t_lines :: .ref h_t_line :: .ref h_t_resolutions :: .ref h_t_file :: .int t_size :: .int t_scanned :: .int t_refusedAt :: .int t_cursor :: .int t_streamAt :: .int t_streamMany :: .int t_name :: .int t_from :: .int t_end :: .int t_sizeAt :: .int t_bitsAt :: .int t_colourAt :: .int t_colourEnd :: .int t_paletteAt :: .int t_mapAt :: .int t_mapEnd :: .int t_channelsAt :: .int t_captureAt :: .int t_displayAt :: .int t_resolved :: []))), (h_t_file, .inl (cI, 65536, .inl f_t_file))] := hD.sub [0, 1] (by decide) rfl
  refine W.eq (g2 := F0 m 16 ls [.int x13, .long (((x2 : Int32).toInt64) <<< ((16 : Int32).toInt64 &&& 63))]) rfl ?_
  have O := O.2
  have E : k_Mo_u4_13 x2 x13 = RES := (congrArg (k_Mo_u4_13 x2) hx13).trans E
  have O : ok_Mo_u4_13 x13 := by rw [hx13]; exact O
  refine lv_i2l (v := (x13 : Int32).toInt64) hx hb d_Mo_u4_16 rfl ?_
  refine lv_lor hx hb d_Mo_u4_17 ?_
  exact kr_l hx hb hr hlk hQ hK hP hD hS ⟨((((x2 : Int32).toInt64) <<< ((16 : Int32).toInt64 &&& 63)) ||| ((x13 : Int32).toInt64) : Int64), E.trans E0.symm, rfl, rfl⟩ (by omega) (by omega) d_Mo_u4_18
theorem d_Mo_no_0 : decode b_Mo_no 0 = .ok (.aload_n 0, 1) := by decide +kernel
theorem d_Mo_no_1 : decode b_Mo_no 1 = .ok (.iload_n 2, 1) := by decide +kernel
theorem d_Mo_no_2 : decode b_Mo_no 2 = .ok (.putfield 40, 3) := by decide +kernel
theorem d_Mo_no_5 : decode b_Mo_no 5 = .ok (.iload_n 1, 1) := by decide +kernel
theorem d_Mo_no_6 : decode b_Mo_no 6 = .ok (.ireturn, 1) := by decide +kernel
def om_Mo_no : Prop :=
  True
def m_Mo_no (p1 : Int32) : Int32 :=
  p1
set_option maxHeartbeats 4000000 in
set_option maxRecDepth 100000 in
theorem c_Mo_no (l : Launch) (D : va_G) (cB cI cJ : ClassId) (h_t h_t_bits h_t_profile h_t_columnBits h_t_numbers h_t_map h_t_line h_t_resolutions h_t_file : Nat) (t_thrown : Int32) (t_high : Int32) (t_wide : Int32) (t_components : Int32) (t_unknown : Int32) (t_rights : Int32) (t_colours : Int32) (t_profiled : Int32) (t_entries : Int32) (t_columns : Int32) (t_maps : Int32) (t_lines : Int32) (t_size : Int32) (t_scanned : Int32) (t_refusedAt : Int32) (t_cursor : Int32) (t_streamAt : Int32) (t_streamMany : Int32) (t_name : Int32) (t_from : Int32) (t_end : Int32) (t_sizeAt : Int32) (t_bitsAt : Int32) (t_colourAt : Int32) (t_colourEnd : Int32) (t_paletteAt : Int32) (t_mapAt : Int32) (t_mapEnd : Int32) (t_channelsAt : Int32) (t_captureAt : Int32) (t_displayAt : Int32) (t_resolved : Int32) (p1 : Int32) (p2 : Int32) (hO : om_Mo_no) (sz : Nat) : Ct l D cB cI cJ y_Mo_no b_Mo_no 3 (some .int) 0 0 0 0 [.ref h_t, .int p1, .int p2] [(h_t, .inr (7, (.int t_thrown :: .int t_high :: .int t_wide :: .int t_components :: .ref h_t_bits :: .int t_unknown :: .int t_rights :: .int t_colours :: .int t_profiled :: .ref h_t_profile :: .int t_entries :: .int t_columns :: .ref h_t_columnBits :: .ref h_t_numbers :: .int t_maps :: .ref h_t_map :: .int t_lines :: .ref h_t_line :: .ref h_t_resolutions :: .ref h_t_file :: .int t_size :: .int t_scanned :: .int t_refusedAt :: .int t_cursor :: .int t_streamAt :: .int t_streamMany :: .int t_name :: .int t_from :: .int t_end :: .int t_sizeAt :: .int t_bitsAt :: .int t_colourAt :: .int t_colourEnd :: .int t_paletteAt :: .int t_mapAt :: .int t_mapEnd :: .int t_channelsAt :: .int t_captureAt :: .int t_displayAt :: .int t_resolved :: [])))] (fun v w1 => ∃ (x : Int32), x = m_Mo_no p1 ∧ v = some (.int x) ∧ w1 = [(h_t, .inr (7, (.int t_thrown :: .int t_high :: .int t_wide :: .int t_components :: .ref h_t_bits :: .int t_unknown :: .int t_rights :: .int t_colours :: .int t_profiled :: .ref h_t_profile :: .int t_entries :: .int t_columns :: .ref h_t_columnBits :: .ref h_t_numbers :: .int t_maps :: .ref h_t_map :: .int t_lines :: .ref h_t_line :: .ref h_t_resolutions :: .ref h_t_file :: .int t_size :: .int t_scanned :: .int p2 :: .int t_cursor :: .int t_streamAt :: .int t_streamMany :: .int t_name :: .int t_from :: .int t_end :: .int t_sizeAt :: .int t_bitsAt :: .int t_colourAt :: .int t_colourEnd :: .int t_paletteAt :: .int t_mapAt :: .int t_mapEnd :: .int t_channelsAt :: .int t_captureAt :: .int t_displayAt :: .int t_resolved :: [])))]) sz := by
  refine Ct.of (by decide) (Nat.le_of_ble_eq_true rfl) ?_
  intro p e R s m args below meth c A ls Q hx hb hr hlk hml hta hown hin hK hN hA hRf hRl hRc hRs hP hD hS hl hQ
  have hl : lv_has ls 3 [(0, .ref h_t), (1, .int p1), (2, .int p2)] := hl
  obtain ⟨RES, E0⟩ : ∃ R, m_Mo_no p1 = R := ⟨_, rfl⟩
  have E := E0
  have O := hO
  refine lv_aload_n hx hb d_Mo_no_0 rfl (lv_at hl 0 rfl) ?_
  refine lv_iload_n hx hb d_Mo_no_1 rfl (lv_at hl 2 rfl) ?_
  refine va_put (D := D) (ty := .int) hx hb hta i_Mo t_Mo t_Mo_ok n_Mo hown hK hP hD hS 0 rfl rfl 22 (by decide) (hta _ lk_Mo_40) (fun _ h9 => h9) rfl (by decide +kernel) rfl rfl (Nat.le_of_ble_eq_true rfl) d_Mo_no_2 (fun H locs (hP : va_P D classes [(h_t, .inr (7, (.int t_thrown :: .int t_high :: .int t_wide :: .int t_components :: .ref h_t_bits :: .int t_unknown :: .int t_rights :: .int t_colours :: .int t_profiled :: .ref h_t_profile :: .int t_entries :: .int t_columns :: .ref h_t_columnBits :: .ref h_t_numbers :: .int t_maps :: .ref h_t_map :: .int t_lines :: .ref h_t_line :: .ref h_t_resolutions :: .ref h_t_file :: .int t_size :: .int t_scanned :: .int p2 :: .int t_cursor :: .int t_streamAt :: .int t_streamMany :: .int t_name :: .int t_from :: .int t_end :: .int t_sizeAt :: .int t_bitsAt :: .int t_colourAt :: .int t_colourEnd :: .int t_paletteAt :: .int t_mapAt :: .int t_mapEnd :: .int t_channelsAt :: .int t_captureAt :: .int t_displayAt :: .int t_resolved :: [])))] H) (hD : va_D A [(h_t, .inr (7, (.int t_thrown :: .int t_high :: .int t_wide :: .int t_components :: .ref h_t_bits :: .int t_unknown :: .int t_rights :: .int t_colours :: .int t_profiled :: .ref h_t_profile :: .int t_entries :: .int t_columns :: .ref h_t_columnBits :: .ref h_t_numbers :: .int t_maps :: .ref h_t_map :: .int t_lines :: .ref h_t_line :: .ref h_t_resolutions :: .ref h_t_file :: .int t_size :: .int t_scanned :: .int p2 :: .int t_cursor :: .int t_streamAt :: .int t_streamMany :: .int t_name :: .int t_from :: .int t_end :: .int t_sizeAt :: .int t_bitsAt :: .int t_colourAt :: .int t_colourEnd :: .int t_paletteAt :: .int t_mapAt :: .int t_mapEnd :: .int t_channelsAt :: .int t_captureAt :: .int t_displayAt :: .int t_resolved :: [])))]) hS => ?_)
  refine lv_iload_n hx hb d_Mo_no_5 rfl (lv_at hl 1 rfl) ?_
  exact kr_i hx hb hr hlk hQ hK hP hD hS ⟨(p1 : Int32), E.trans E0.symm, rfl, rfl⟩ (by omega) (by omega) d_Mo_no_6
theorem d_Mo_frame_0 : decode b_Mo_frame 0 = .ok (.iload_n 1, 1) := by decide +kernel
theorem d_Mo_frame_1 : decode b_Mo_frame 1 = .ok (.bipush 8, 2) := by decide +kernel
theorem d_Mo_frame_3 : decode b_Mo_frame 3 = .ok (.iadd, 1) := by decide +kernel
theorem d_Mo_frame_4 : decode b_Mo_frame 4 = .ok (.iload_n 2, 1) := by decide +kernel
theorem d_Mo_frame_5 : decode b_Mo_frame 5 = .ok (.if_icmp .le 5, 3) := by decide +kernel
theorem d_Mo_frame_8 : decode b_Mo_frame 8 = .ok (.iconst 1, 1) := by decide +kernel
theorem d_Mo_frame_9 : decode b_Mo_frame 9 = .ok (.ireturn, 1) := by decide +kernel
theorem d_Mo_frame_10 : decode b_Mo_frame 10 = .ok (.aload_n 0, 1) := by decide +kernel
theorem d_Mo_frame_11 : decode b_Mo_frame 11 = .ok (.iload_n 1, 1) := by decide +kernel
theorem d_Mo_frame_12 : decode b_Mo_frame 12 = .ok (.invokevirtual 212, 3) := by decide +kernel
theorem d_Mo_frame_15 : decode b_Mo_frame 15 = .ok (.lstore 4, 2) := by decide +kernel
theorem d_Mo_frame_17 : decode b_Mo_frame 17 = .ok (.aload_n 0, 1) := by decide +kernel
theorem d_Mo_frame_18 : decode b_Mo_frame 18 = .ok (.aload_n 0, 1) := by decide +kernel
theorem d_Mo_frame_19 : decode b_Mo_frame 19 = .ok (.iload_n 1, 1) := by decide +kernel
theorem d_Mo_frame_20 : decode b_Mo_frame 20 = .ok (.iconst 4, 1) := by decide +kernel
theorem d_Mo_frame_21 : decode b_Mo_frame 21 = .ok (.iadd, 1) := by decide +kernel
theorem d_Mo_frame_22 : decode b_Mo_frame 22 = .ok (.invokevirtual 212, 3) := by decide +kernel
theorem d_Mo_frame_25 : decode b_Mo_frame 25 = .ok (.l2i, 1) := by decide +kernel
theorem d_Mo_frame_26 : decode b_Mo_frame 26 = .ok (.putfield 216, 3) := by decide +kernel
theorem d_Mo_frame_29 : decode b_Mo_frame 29 = .ok (.aload_n 0, 1) := by decide +kernel
theorem d_Mo_frame_30 : decode b_Mo_frame 30 = .ok (.iload_n 1, 1) := by decide +kernel
theorem d_Mo_frame_31 : decode b_Mo_frame 31 = .ok (.bipush 8, 2) := by decide +kernel
theorem d_Mo_frame_33 : decode b_Mo_frame 33 = .ok (.iadd, 1) := by decide +kernel
theorem d_Mo_frame_34 : decode b_Mo_frame 34 = .ok (.putfield 219, 3) := by decide +kernel
theorem d_Mo_frame_37 : decode b_Mo_frame 37 = .ok (.lload 4, 2) := by decide +kernel
theorem d_Mo_frame_39 : decode b_Mo_frame 39 = .ok (.lconst 1, 1) := by decide +kernel
theorem d_Mo_frame_40 : decode b_Mo_frame 40 = .ok (.lcmp, 1) := by decide +kernel
theorem d_Mo_frame_41 : decode b_Mo_frame 41 = .ok (.ifCond .ne 85, 3) := by decide +kernel
theorem d_Mo_frame_44 : decode b_Mo_frame 44 = .ok (.iload_n 1, 1) := by decide +kernel
theorem d_Mo_frame_45 : decode b_Mo_frame 45 = .ok (.bipush 16, 2) := by decide +kernel
theorem d_Mo_frame_47 : decode b_Mo_frame 47 = .ok (.iadd, 1) := by decide +kernel
theorem d_Mo_frame_48 : decode b_Mo_frame 48 = .ok (.iload_n 2, 1) := by decide +kernel
theorem d_Mo_frame_49 : decode b_Mo_frame 49 = .ok (.if_icmp .gt 33, 3) := by decide +kernel
theorem d_Mo_frame_52 : decode b_Mo_frame 52 = .ok (.aload_n 0, 1) := by decide +kernel
theorem d_Mo_frame_53 : decode b_Mo_frame 53 = .ok (.iload_n 1, 1) := by decide +kernel
theorem d_Mo_frame_54 : decode b_Mo_frame 54 = .ok (.bipush 8, 2) := by decide +kernel
theorem d_Mo_frame_56 : decode b_Mo_frame 56 = .ok (.iadd, 1) := by decide +kernel
theorem d_Mo_frame_57 : decode b_Mo_frame 57 = .ok (.invokevirtual 212, 3) := by decide +kernel
theorem d_Mo_frame_60 : decode b_Mo_frame 60 = .ok (.lconst 0, 1) := by decide +kernel
theorem d_Mo_frame_61 : decode b_Mo_frame 61 = .ok (.lcmp, 1) := by decide +kernel
theorem d_Mo_frame_62 : decode b_Mo_frame 62 = .ok (.ifCond .gt 20, 3) := by decide +kernel
theorem d_Mo_frame_65 : decode b_Mo_frame 65 = .ok (.iload_n 1, 1) := by decide +kernel
theorem d_Mo_frame_66 : decode b_Mo_frame 66 = .ok (.i2l, 1) := by decide +kernel
theorem d_Mo_frame_67 : decode b_Mo_frame 67 = .ok (.aload_n 0, 1) := by decide +kernel
theorem d_Mo_frame_68 : decode b_Mo_frame 68 = .ok (.iload_n 1, 1) := by decide +kernel
theorem d_Mo_frame_69 : decode b_Mo_frame 69 = .ok (.bipush 12, 2) := by decide +kernel
theorem d_Mo_frame_71 : decode b_Mo_frame 71 = .ok (.iadd, 1) := by decide +kernel
theorem d_Mo_frame_72 : decode b_Mo_frame 72 = .ok (.invokevirtual 212, 3) := by decide +kernel
theorem d_Mo_frame_75 : decode b_Mo_frame 75 = .ok (.ladd, 1) := by decide +kernel
theorem d_Mo_frame_76 : decode b_Mo_frame 76 = .ok (.iload_n 2, 1) := by decide +kernel
theorem d_Mo_frame_77 : decode b_Mo_frame 77 = .ok (.i2l, 1) := by decide +kernel
theorem d_Mo_frame_78 : decode b_Mo_frame 78 = .ok (.lcmp, 1) := by decide +kernel
theorem d_Mo_frame_79 : decode b_Mo_frame 79 = .ok (.ifCond .le 5, 3) := by decide +kernel
theorem d_Mo_frame_82 : decode b_Mo_frame 82 = .ok (.iconst 1, 1) := by decide +kernel
theorem d_Mo_frame_83 : decode b_Mo_frame 83 = .ok (.ireturn, 1) := by decide +kernel
theorem d_Mo_frame_84 : decode b_Mo_frame 84 = .ok (.aload_n 0, 1) := by decide +kernel
theorem d_Mo_frame_85 : decode b_Mo_frame 85 = .ok (.iload_n 1, 1) := by decide +kernel
theorem d_Mo_frame_86 : decode b_Mo_frame 86 = .ok (.bipush 12, 2) := by decide +kernel
theorem d_Mo_frame_88 : decode b_Mo_frame 88 = .ok (.iadd, 1) := by decide +kernel
theorem d_Mo_frame_89 : decode b_Mo_frame 89 = .ok (.invokevirtual 212, 3) := by decide +kernel
theorem d_Mo_frame_92 : decode b_Mo_frame 92 = .ok (.lstore 4, 2) := by decide +kernel
theorem d_Mo_frame_94 : decode b_Mo_frame 94 = .ok (.aload_n 0, 1) := by decide +kernel
theorem d_Mo_frame_95 : decode b_Mo_frame 95 = .ok (.iload_n 1, 1) := by decide +kernel
theorem d_Mo_frame_96 : decode b_Mo_frame 96 = .ok (.bipush 16, 2) := by decide +kernel
theorem d_Mo_frame_98 : decode b_Mo_frame 98 = .ok (.iadd, 1) := by decide +kernel
theorem d_Mo_frame_99 : decode b_Mo_frame 99 = .ok (.putfield 219, 3) := by decide +kernel
theorem d_Mo_frame_102 : decode b_Mo_frame 102 = .ok (.aload_n 0, 1) := by decide +kernel
theorem d_Mo_frame_103 : decode b_Mo_frame 103 = .ok (.iload_n 1, 1) := by decide +kernel
theorem d_Mo_frame_104 : decode b_Mo_frame 104 = .ok (.lload 4, 2) := by decide +kernel
theorem d_Mo_frame_106 : decode b_Mo_frame 106 = .ok (.l2i, 1) := by decide +kernel
theorem d_Mo_frame_107 : decode b_Mo_frame 107 = .ok (.iadd, 1) := by decide +kernel
theorem d_Mo_frame_108 : decode b_Mo_frame 108 = .ok (.putfield 222, 3) := by decide +kernel
theorem d_Mo_frame_111 : decode b_Mo_frame 111 = .ok (.lload 4, 2) := by decide +kernel
theorem d_Mo_frame_113 : decode b_Mo_frame 113 = .ok (.ldc2_w 79, 3) := by decide +kernel
theorem d_Mo_frame_116 : decode b_Mo_frame 116 = .ok (.lcmp, 1) := by decide +kernel
theorem d_Mo_frame_117 : decode b_Mo_frame 117 = .ok (.ifCond .ge 7, 3) := by decide +kernel
theorem d_Mo_frame_120 : decode b_Mo_frame 120 = .ok (.iconst 3, 1) := by decide +kernel
theorem d_Mo_frame_121 : decode b_Mo_frame 121 = .ok (.goto 4, 3) := by decide +kernel
theorem d_Mo_frame_124 : decode b_Mo_frame 124 = .ok (.iconst 0, 1) := by decide +kernel
theorem d_Mo_frame_125 : decode b_Mo_frame 125 = .ok (.ireturn, 1) := by decide +kernel
theorem d_Mo_frame_126 : decode b_Mo_frame 126 = .ok (.lload 4, 2) := by decide +kernel
theorem d_Mo_frame_128 : decode b_Mo_frame 128 = .ok (.lconst 0, 1) := by decide +kernel
theorem d_Mo_frame_129 : decode b_Mo_frame 129 = .ok (.lcmp, 1) := by decide +kernel
theorem d_Mo_frame_130 : decode b_Mo_frame 130 = .ok (.ifCond .ne 14, 3) := by decide +kernel
theorem d_Mo_frame_133 : decode b_Mo_frame 133 = .ok (.iload_n 3, 1) := by decide +kernel
theorem d_Mo_frame_134 : decode b_Mo_frame 134 = .ok (.ifCond .eq 10, 3) := by decide +kernel
theorem d_Mo_frame_137 : decode b_Mo_frame 137 = .ok (.aload_n 0, 1) := by decide +kernel
theorem d_Mo_frame_138 : decode b_Mo_frame 138 = .ok (.iload_n 2, 1) := by decide +kernel
theorem d_Mo_frame_139 : decode b_Mo_frame 139 = .ok (.putfield 222, 3) := by decide +kernel
theorem d_Mo_frame_142 : decode b_Mo_frame 142 = .ok (.iconst 0, 1) := by decide +kernel
theorem d_Mo_frame_143 : decode b_Mo_frame 143 = .ok (.ireturn, 1) := by decide +kernel
theorem d_Mo_frame_144 : decode b_Mo_frame 144 = .ok (.iload_n 1, 1) := by decide +kernel
theorem d_Mo_frame_145 : decode b_Mo_frame 145 = .ok (.i2l, 1) := by decide +kernel
theorem d_Mo_frame_146 : decode b_Mo_frame 146 = .ok (.lload 4, 2) := by decide +kernel
theorem d_Mo_frame_148 : decode b_Mo_frame 148 = .ok (.ladd, 1) := by decide +kernel
theorem d_Mo_frame_149 : decode b_Mo_frame 149 = .ok (.iload_n 2, 1) := by decide +kernel
theorem d_Mo_frame_150 : decode b_Mo_frame 150 = .ok (.i2l, 1) := by decide +kernel
theorem d_Mo_frame_151 : decode b_Mo_frame 151 = .ok (.lcmp, 1) := by decide +kernel
theorem d_Mo_frame_152 : decode b_Mo_frame 152 = .ok (.ifCond .le 5, 3) := by decide +kernel
theorem d_Mo_frame_155 : decode b_Mo_frame 155 = .ok (.iconst 1, 1) := by decide +kernel
theorem d_Mo_frame_156 : decode b_Mo_frame 156 = .ok (.ireturn, 1) := by decide +kernel
theorem d_Mo_frame_157 : decode b_Mo_frame 157 = .ok (.aload_n 0, 1) := by decide +kernel
theorem d_Mo_frame_158 : decode b_Mo_frame 158 = .ok (.iload_n 1, 1) := by decide +kernel
theorem d_Mo_frame_159 : decode b_Mo_frame 159 = .ok (.lload 4, 2) := by decide +kernel
theorem d_Mo_frame_161 : decode b_Mo_frame 161 = .ok (.l2i, 1) := by decide +kernel
theorem d_Mo_frame_162 : decode b_Mo_frame 162 = .ok (.iadd, 1) := by decide +kernel
theorem d_Mo_frame_163 : decode b_Mo_frame 163 = .ok (.putfield 222, 3) := by decide +kernel
theorem d_Mo_frame_166 : decode b_Mo_frame 166 = .ok (.lload 4, 2) := by decide +kernel
theorem d_Mo_frame_168 : decode b_Mo_frame 168 = .ok (.ldc2_w 98, 3) := by decide +kernel
theorem d_Mo_frame_171 : decode b_Mo_frame 171 = .ok (.lcmp, 1) := by decide +kernel
theorem d_Mo_frame_172 : decode b_Mo_frame 172 = .ok (.ifCond .ge 7, 3) := by decide +kernel
theorem d_Mo_frame_175 : decode b_Mo_frame 175 = .ok (.iconst 3, 1) := by decide +kernel
theorem d_Mo_frame_176 : decode b_Mo_frame 176 = .ok (.goto 4, 3) := by decide +kernel
theorem d_Mo_frame_179 : decode b_Mo_frame 179 = .ok (.iconst 0, 1) := by decide +kernel
theorem d_Mo_frame_180 : decode b_Mo_frame 180 = .ok (.ireturn, 1) := by decide +kernel
def j_Mo_frame_144 (t_end : Int32) (p1 : Int32) (p2 : Int32) (x12 : Int64) (x22 : Int64) : Int32 × Int32 × Int32 × Int32 :=
  if (lg_cmp (((p1 : Int32).toInt64) + x12) ((p2 : Int32).toInt64)) ≤ 0 then (if 0 ≤ (lg_cmp x12 8) then ((0, (x22 : Int64).toInt32, p1 + 8, p1 + ((x12 : Int64).toInt32))) else ((3, (x22 : Int64).toInt32, p1 + 8, p1 + ((x12 : Int64).toInt32)))) else ((1, (x22 : Int64).toInt32, p1 + 8, t_end))
def oj_Mo_frame_144 (p1 : Int32) (p2 : Int32) (x12 : Int64) : Prop :=
  if (lg_cmp (((p1 : Int32).toInt64) + x12) ((p2 : Int32).toInt64)) ≤ 0 then (if 0 ≤ (lg_cmp x12 8) then True else True) else True
def k_Mo_frame_89 (p1 : Int32) (x22 : Int64) (x89 : Int64) : Int32 × Int32 × Int32 × Int32 :=
  if 0 ≤ (lg_cmp x89 16) then ((0, ((((x22 : Int64).toInt32))), p1 + 16, p1 + ((x89 : Int64).toInt32))) else ((3, ((((x22 : Int64).toInt32))), p1 + 16, p1 + ((x89 : Int64).toInt32)))
def ok_Mo_frame_89 (x89 : Int64) : Prop :=
  if 0 ≤ (lg_cmp x89 16) then True else True
def k_Mo_frame_72 (t_end : Int32) (f_t_file : Nat → Int32) (p1 : Int32) (p2 : Int32) (x22 : Int64) (x72 : Int64) : Int32 × Int32 × Int32 × Int32 :=
  if (lg_cmp (((p1 : Int32).toInt64) + x72) ((p2 : Int32).toInt64)) ≤ 0 then (k_Mo_frame_89 p1 x22 (m_Mo_u4 f_t_file (p1 + 12))) else ((1, (((x22 : Int64).toInt32)), (p1 + 8), t_end))
def ok_Mo_frame_72 (f_t_file : Nat → Int32) (p1 : Int32) (p2 : Int32) (x72 : Int64) : Prop :=
  if (lg_cmp (((p1 : Int32).toInt64) + x72) ((p2 : Int32).toInt64)) ≤ 0 then (om_Mo_u4 f_t_file (p1 + 12) ∧ (ok_Mo_frame_89 (m_Mo_u4 f_t_file (p1 + 12)))) else True
def k_Mo_frame_57 (t_end : Int32) (f_t_file : Nat → Int32) (p1 : Int32) (p2 : Int32) (x22 : Int64) (x57 : Int64) : Int32 × Int32 × Int32 × Int32 :=
  if 0 < (lg_cmp x57 0) then ((1, ((x22 : Int64).toInt32), (p1 + 8), t_end)) else (k_Mo_frame_72 t_end f_t_file p1 p2 x22 (m_Mo_u4 f_t_file (p1 + 12)))
def ok_Mo_frame_57 (f_t_file : Nat → Int32) (p1 : Int32) (p2 : Int32) (x57 : Int64) : Prop :=
  if 0 < (lg_cmp x57 0) then True else (om_Mo_u4 f_t_file (p1 + 12) ∧ (ok_Mo_frame_72 f_t_file p1 p2 (m_Mo_u4 f_t_file (p1 + 12))))
def k_Mo_frame_22 (t_end : Int32) (f_t_file : Nat → Int32) (p1 : Int32) (p2 : Int32) (p3 : Int32) (x12 : Int64) (x22 : Int64) : Int32 × Int32 × Int32 × Int32 :=
  if (lg_cmp x12 1) = 0 then (if p2 < (p1 + 16) then ((1, (x22 : Int64).toInt32, p1 + 8, t_end)) else (k_Mo_frame_57 t_end f_t_file p1 p2 x22 (m_Mo_u4 f_t_file (p1 + 8)))) else (if (lg_cmp x12 0) = 0 then (if p3 = 0 then (j_Mo_frame_144 t_end p1 p2 x12 x22) else ((0, (x22 : Int64).toInt32, p1 + 8, p2))) else (j_Mo_frame_144 t_end p1 p2 x12 x22))
def ok_Mo_frame_22 (f_t_file : Nat → Int32) (p1 : Int32) (p2 : Int32) (p3 : Int32) (x12 : Int64) (x22 : Int64) : Prop :=
  if (lg_cmp x12 1) = 0 then (if p2 < (p1 + 16) then True else (om_Mo_u4 f_t_file (p1 + 8) ∧ (ok_Mo_frame_57 f_t_file p1 p2 (m_Mo_u4 f_t_file (p1 + 8))))) else (if (lg_cmp x12 0) = 0 then (if p3 = 0 then (oj_Mo_frame_144 p1 p2 x12) else True) else (oj_Mo_frame_144 p1 p2 x12))
def k_Mo_frame_12 (t_end : Int32) (f_t_file : Nat → Int32) (p1 : Int32) (p2 : Int32) (p3 : Int32) (x12 : Int64) : Int32 × Int32 × Int32 × Int32 :=
  k_Mo_frame_22 t_end f_t_file p1 p2 p3 x12 (m_Mo_u4 f_t_file (p1 + 4))
def ok_Mo_frame_12 (f_t_file : Nat → Int32) (p1 : Int32) (p2 : Int32) (p3 : Int32) (x12 : Int64) : Prop :=
  om_Mo_u4 f_t_file (p1 + 4) ∧ (ok_Mo_frame_22 f_t_file p1 p2 p3 x12 (m_Mo_u4 f_t_file (p1 + 4)))
def om_Mo_frame (f_t_file : Nat → Int32) (p1 : Int32) (p2 : Int32) (p3 : Int32) : Prop :=
  if (p1 + 8) ≤ p2 then (om_Mo_u4 f_t_file p1 ∧ (ok_Mo_frame_12 f_t_file p1 p2 p3 (m_Mo_u4 f_t_file p1))) else True
def m_Mo_frame (t_name : Int32) (t_from : Int32) (t_end : Int32) (f_t_file : Nat → Int32) (p1 : Int32) (p2 : Int32) (p3 : Int32) : Int32 × Int32 × Int32 × Int32 :=
  if (p1 + 8) ≤ p2 then (k_Mo_frame_12 t_end f_t_file p1 p2 p3 (m_Mo_u4 f_t_file p1)) else (1, t_name, t_from, t_end)
set_option maxHeartbeats 4000000 in
set_option maxRecDepth 100000 in
theorem c_Mo_frame (l : Launch) (D : va_G) (cB cI cJ : ClassId) (h_t h_t_bits h_t_profile h_t_columnBits h_t_numbers h_t_map h_t_line h_t_resolutions h_t_file : Nat) (t_thrown : Int32) (t_high : Int32) (t_wide : Int32) (t_components : Int32) (t_unknown : Int32) (t_rights : Int32) (t_colours : Int32) (t_profiled : Int32) (t_entries : Int32) (t_columns : Int32) (t_maps : Int32) (t_lines : Int32) (t_size : Int32) (t_scanned : Int32) (t_refusedAt : Int32) (t_cursor : Int32) (t_streamAt : Int32) (t_streamMany : Int32) (t_name : Int32) (t_from : Int32) (t_end : Int32) (t_sizeAt : Int32) (t_bitsAt : Int32) (t_colourAt : Int32) (t_colourEnd : Int32) (t_paletteAt : Int32) (t_mapAt : Int32) (t_mapEnd : Int32) (t_channelsAt : Int32) (t_captureAt : Int32) (t_displayAt : Int32) (t_resolved : Int32) (f_t_file : Nat → Int32) (p1 : Int32) (p2 : Int32) (p3 : Int32) (hO : om_Mo_frame f_t_file p1 p2 p3) (sz : Nat) : Ct l D cB cI cJ y_Mo_frame b_Mo_frame 6 (some .int) 2 42 0 0 [.ref h_t, .int p1, .int p2, .int p3] [(h_t, .inr (7, (.int t_thrown :: .int t_high :: .int t_wide :: .int t_components :: .ref h_t_bits :: .int t_unknown :: .int t_rights :: .int t_colours :: .int t_profiled :: .ref h_t_profile :: .int t_entries :: .int t_columns :: .ref h_t_columnBits :: .ref h_t_numbers :: .int t_maps :: .ref h_t_map :: .int t_lines :: .ref h_t_line :: .ref h_t_resolutions :: .ref h_t_file :: .int t_size :: .int t_scanned :: .int t_refusedAt :: .int t_cursor :: .int t_streamAt :: .int t_streamMany :: .int t_name :: .int t_from :: .int t_end :: .int t_sizeAt :: .int t_bitsAt :: .int t_colourAt :: .int t_colourEnd :: .int t_paletteAt :: .int t_mapAt :: .int t_mapEnd :: .int t_channelsAt :: .int t_captureAt :: .int t_displayAt :: .int t_resolved :: []))), (h_t_file, .inl (cI, 65536, .inl f_t_file))] (fun v w1 => ∃ (x : Int32 × Int32 × Int32 × Int32), x = m_Mo_frame t_name t_from t_end f_t_file p1 p2 p3 ∧ v = some (.int x.1) ∧ w1 = [(h_t, .inr (7, (.int t_thrown :: .int t_high :: .int t_wide :: .int t_components :: .ref h_t_bits :: .int t_unknown :: .int t_rights :: .int t_colours :: .int t_profiled :: .ref h_t_profile :: .int t_entries :: .int t_columns :: .ref h_t_columnBits :: .ref h_t_numbers :: .int t_maps :: .ref h_t_map :: .int t_lines :: .ref h_t_line :: .ref h_t_resolutions :: .ref h_t_file :: .int t_size :: .int t_scanned :: .int t_refusedAt :: .int t_cursor :: .int t_streamAt :: .int t_streamMany :: .int x.2.1 :: .int x.2.2.1 :: .int x.2.2.2 :: .int t_sizeAt :: .int t_bitsAt :: .int t_colourAt :: .int t_colourEnd :: .int t_paletteAt :: .int t_mapAt :: .int t_mapEnd :: .int t_channelsAt :: .int t_captureAt :: .int t_displayAt :: .int t_resolved :: []))), (h_t_file, .inl (cI, 65536, .inl f_t_file))]) sz := by
  refine Ct.of (by decide) (Nat.le_of_ble_eq_true rfl) ?_
  intro p e R s m args below meth c A ls Q hx hb hr hlk hml hta hown hin hK hN hA hRf hRl hRc hRs hP hD hS hl hQ
  have hl : lv_has ls 6 [(0, .ref h_t), (1, .int p1), (2, .int p2), (3, .int p3)] := hl
  obtain ⟨RES, E0⟩ : ∃ R, m_Mo_frame t_name t_from t_end f_t_file p1 p2 p3 = R := ⟨_, rfl⟩
  have E := E0
  have O := hO
  refine lv_iload_n hx hb d_Mo_frame_0 rfl (lv_at hl 1 rfl) ?_
  refine lv_bipush (v := 8) hx hb d_Mo_frame_1 (by decide) ?_
  refine lv_iadd hx hb d_Mo_frame_3 ?_
  refine lv_iload_n hx hb d_Mo_frame_4 rfl (lv_at hl 2 rfl) ?_
  refine lv_icmp_le (tgt := 10) hx hb d_Mo_frame_5 (by decide) (fun c_5 => ?_) (fun c_5 => ?_)
  · have E := (if_pos c_5).symm.trans E
    have O := Eq.mp (if_pos c_5) O
    refine lv_aload_n hx hb d_Mo_frame_10 rfl (lv_at hl 0 rfl) ?_
    refine lv_iload_n hx hb d_Mo_frame_11 rfl (lv_at hl 1 rfl) ?_
    refine kc_V (As := [.int p1]) (rest := []) (wr := []) [0, 1] [] ⟨hx, hb, hml, hown, hta⟩ hK hN hP hD hS hA (c_Mo_u4 l D cB cI cJ h_t h_t_bits h_t_profile h_t_columnBits h_t_numbers h_t_map h_t_line h_t_resolutions h_t_file t_thrown t_high t_wide t_components t_unknown t_rights t_colours t_profiled t_entries t_columns t_maps t_lines t_size t_scanned t_refusedAt t_cursor t_streamAt t_streamMany t_name t_from t_end t_sizeAt t_bitsAt t_colourAt t_colourEnd t_paletteAt t_mapAt t_mapEnd t_channelsAt t_captureAt t_displayAt t_resolved f_t_file p1 O.1 _) (hta _ lk_Mo_212) (hta _ ini_Mo) (hta _ code_Mo_u4) code_Mo_u4 (hta _ inst_Mo_u4) (hta _ sel_Mo_u4) hd_Mo_u4 rfl ⟨by omega, by omega⟩ (ci := 7) 0 rfl rfl rfl rfl (by decide) (by decide) (by decide) rfl hl.1 (lv_room (Nat.le_of_ble_eq_true rfl)) d_Mo_frame_12 ⟨by omega, by omega⟩ (fun v w1 H locs hw hP hD hS => ?_)
    obtain ⟨x12, hx12, rfl, rfl⟩ := hw
    have hP : va_P D classes [(h_t, .inr (7, (.int t_thrown :: .int t_high :: .int t_wide :: .int t_components :: .ref h_t_bits :: .int t_unknown :: .int t_rights :: .int t_colours :: .int t_profiled :: .ref h_t_profile :: .int t_entries :: .int t_columns :: .ref h_t_columnBits :: .ref h_t_numbers :: .int t_maps :: .ref h_t_map :: .int t_lines :: .ref h_t_line :: .ref h_t_resolutions :: .ref h_t_file :: .int t_size :: .int t_scanned :: .int t_refusedAt :: .int t_cursor :: .int t_streamAt :: .int t_streamMany :: .int t_name :: .int t_from :: .int t_end :: .int t_sizeAt :: .int t_bitsAt :: .int t_colourAt :: .int t_colourEnd :: .int t_paletteAt :: .int t_mapAt :: .int t_mapEnd :: .int t_channelsAt :: .int t_captureAt :: .int t_displayAt :: .int t_resolved :: []))), (h_t_file, .inl (cI, 65536, .inl f_t_file))] H := hP.sub [0, 1] rfl
    have hD : va_D A [(h_t, .inr (7, (.int t_thrown :: .int t_high :: .int t_wide :: .int t_components :: .ref h_t_bits :: .int t_unknown :: .int t_rights :: .int t_colours :: .int t_profiled :: .ref h_t_profile :: .int t_entries :: .int t_columns :: .ref h_t_columnBits :: .ref h_t_numbers :: .int t_maps :: .ref h_t_map :: .int t_lines :: .ref h_t_line :: .ref h_t_resolutions :: .ref h_t_file :: .int t_size :: .int t_scanned :: .int t_refusedAt :: .int t_cursor :: .int t_streamAt :: .int t_streamMany :: .int t_name :: .int t_from :: .int t_end :: .int t_sizeAt :: .int t_bitsAt :: .int t_colourAt :: .int t_colourEnd :: .int t_paletteAt :: .int t_mapAt :: .int t_mapEnd :: .int t_channelsAt :: .int t_captureAt :: .int t_displayAt :: .int t_resolved :: []))), (h_t_file, .inl (cI, 65536, .inl f_t_file))] := hD.sub [0, 1] (by decide) rfl
    refine W.eq (g2 := F0 m 15 ls [.long x12]) rfl ?_
    have O := O.2
    have E : k_Mo_frame_12 t_end f_t_file p1 p2 p3 x12 = RES := (congrArg (k_Mo_frame_12 t_end f_t_file p1 p2 p3) hx12).trans E
    have O : ok_Mo_frame_12 f_t_file p1 p2 p3 x12 := by rw [hx12]; exact O
    refine lv_lstore (lv' := [(4, .long x12), (0, .ref h_t), (1, .int p1), (2, .int p2), (3, .int p3)]) hx hb d_Mo_frame_15 hl (by decide) rfl (fun ls hl => ?_)
    refine lv_aload_n hx hb d_Mo_frame_17 rfl (lv_at hl 1 rfl) ?_
    refine lv_aload_n hx hb d_Mo_frame_18 rfl (lv_at hl 1 rfl) ?_
    refine lv_iload_n hx hb d_Mo_frame_19 rfl (lv_at hl 2 rfl) ?_
    refine lv_iconst (v := 4) hx hb d_Mo_frame_20 (by decide) ?_
    refine lv_iadd hx hb d_Mo_frame_21 ?_
    refine kc_V (As := [.int (p1 + 4)]) (rest := [.ref h_t]) (wr := []) [0, 1] [] ⟨hx, hb, hml, hown, hta⟩ hK hN hP hD hS hA (c_Mo_u4 l D cB cI cJ h_t h_t_bits h_t_profile h_t_columnBits h_t_numbers h_t_map h_t_line h_t_resolutions h_t_file t_thrown t_high t_wide t_components t_unknown t_rights t_colours t_profiled t_entries t_columns t_maps t_lines t_size t_scanned t_refusedAt t_cursor t_streamAt t_streamMany t_name t_from t_end t_sizeAt t_bitsAt t_colourAt t_colourEnd t_paletteAt t_mapAt t_mapEnd t_channelsAt t_captureAt t_displayAt t_resolved f_t_file (p1 + 4) O.1 _) (hta _ lk_Mo_212) (hta _ ini_Mo) (hta _ code_Mo_u4) code_Mo_u4 (hta _ inst_Mo_u4) (hta _ sel_Mo_u4) hd_Mo_u4 rfl ⟨by omega, by omega⟩ (ci := 7) 0 rfl rfl rfl rfl (by decide) (by decide) (by decide) rfl hl.1 (lv_room (Nat.le_of_ble_eq_true rfl)) d_Mo_frame_22 ⟨by omega, by omega⟩ (fun v w1 H locs hw hP hD hS => ?_)
    obtain ⟨x22, hx22, rfl, rfl⟩ := hw
    have hP : va_P D classes [(h_t, .inr (7, (.int t_thrown :: .int t_high :: .int t_wide :: .int t_components :: .ref h_t_bits :: .int t_unknown :: .int t_rights :: .int t_colours :: .int t_profiled :: .ref h_t_profile :: .int t_entries :: .int t_columns :: .ref h_t_columnBits :: .ref h_t_numbers :: .int t_maps :: .ref h_t_map :: .int t_lines :: .ref h_t_line :: .ref h_t_resolutions :: .ref h_t_file :: .int t_size :: .int t_scanned :: .int t_refusedAt :: .int t_cursor :: .int t_streamAt :: .int t_streamMany :: .int t_name :: .int t_from :: .int t_end :: .int t_sizeAt :: .int t_bitsAt :: .int t_colourAt :: .int t_colourEnd :: .int t_paletteAt :: .int t_mapAt :: .int t_mapEnd :: .int t_channelsAt :: .int t_captureAt :: .int t_displayAt :: .int t_resolved :: []))), (h_t_file, .inl (cI, 65536, .inl f_t_file))] H := hP.sub [0, 1] rfl
    have hD : va_D A [(h_t, .inr (7, (.int t_thrown :: .int t_high :: .int t_wide :: .int t_components :: .ref h_t_bits :: .int t_unknown :: .int t_rights :: .int t_colours :: .int t_profiled :: .ref h_t_profile :: .int t_entries :: .int t_columns :: .ref h_t_columnBits :: .ref h_t_numbers :: .int t_maps :: .ref h_t_map :: .int t_lines :: .ref h_t_line :: .ref h_t_resolutions :: .ref h_t_file :: .int t_size :: .int t_scanned :: .int t_refusedAt :: .int t_cursor :: .int t_streamAt :: .int t_streamMany :: .int t_name :: .int t_from :: .int t_end :: .int t_sizeAt :: .int t_bitsAt :: .int t_colourAt :: .int t_colourEnd :: .int t_paletteAt :: .int t_mapAt :: .int t_mapEnd :: .int t_channelsAt :: .int t_captureAt :: .int t_displayAt :: .int t_resolved :: []))), (h_t_file, .inl (cI, 65536, .inl f_t_file))] := hD.sub [0, 1] (by decide) rfl
    refine W.eq (g2 := F0 m 25 ls [.long x22, .ref h_t]) rfl ?_
    have O := O.2
    have E : k_Mo_frame_22 t_end f_t_file p1 p2 p3 x12 x22 = RES := (congrArg (k_Mo_frame_22 t_end f_t_file p1 p2 p3 x12) hx22).trans E
    have O : ok_Mo_frame_22 f_t_file p1 p2 p3 x12 x22 := by rw [hx22]; exact O
    refine lv_l2i (v := (x22 : Int64).toInt32) hx hb d_Mo_frame_25 rfl ?_
    refine va_put (D := D) (ty := .int) hx hb hta i_Mo t_Mo t_Mo_ok n_Mo hown hK hP hD hS 0 rfl rfl 26 (by decide) (hta _ lk_Mo_216) (fun _ h9 => h9) rfl (by decide +kernel) rfl rfl (Nat.le_of_ble_eq_true rfl) d_Mo_frame_26 (fun H locs (hP : va_P D classes [(h_t, .inr (7, (.int t_thrown :: .int t_high :: .int t_wide :: .int t_components :: .ref h_t_bits :: .int t_unknown :: .int t_rights :: .int t_colours :: .int t_profiled :: .ref h_t_profile :: .int t_entries :: .int t_columns :: .ref h_t_columnBits :: .ref h_t_numbers :: .int t_maps :: .ref h_t_map :: .int t_lines :: .ref h_t_line :: .ref h_t_resolutions :: .ref h_t_file :: .int t_size :: .int t_scanned :: .int t_refusedAt :: .int t_cursor :: .int t_streamAt :: .int t_streamMany :: .int ((x22 : Int64).toInt32) :: .int t_from :: .int t_end :: .int t_sizeAt :: .int t_bitsAt :: .int t_colourAt :: .int t_colourEnd :: .int t_paletteAt :: .int t_mapAt :: .int t_mapEnd :: .int t_channelsAt :: .int t_captureAt :: .int t_displayAt :: .int t_resolved :: []))), (h_t_file, .inl (cI, 65536, .inl f_t_file))] H) (hD : va_D A [(h_t, .inr (7, (.int t_thrown :: .int t_high :: .int t_wide :: .int t_components :: .ref h_t_bits :: .int t_unknown :: .int t_rights :: .int t_colours :: .int t_profiled :: .ref h_t_profile :: .int t_entries :: .int t_columns :: .ref h_t_columnBits :: .ref h_t_numbers :: .int t_maps :: .ref h_t_map :: .int t_lines :: .ref h_t_line :: .ref h_t_resolutions :: .ref h_t_file :: .int t_size :: .int t_scanned :: .int t_refusedAt :: .int t_cursor :: .int t_streamAt :: .int t_streamMany :: .int ((x22 : Int64).toInt32) :: .int t_from :: .int t_end :: .int t_sizeAt :: .int t_bitsAt :: .int t_colourAt :: .int t_colourEnd :: .int t_paletteAt :: .int t_mapAt :: .int t_mapEnd :: .int t_channelsAt :: .int t_captureAt :: .int t_displayAt :: .int t_resolved :: []))), (h_t_file, .inl (cI, 65536, .inl f_t_file))]) hS => ?_)
    refine lv_aload_n hx hb d_Mo_frame_29 rfl (lv_at hl 1 rfl) ?_
    refine lv_iload_n hx hb d_Mo_frame_30 rfl (lv_at hl 2 rfl) ?_
    refine lv_bipush (v := 8) hx hb d_Mo_frame_31 (by decide) ?_
    refine lv_iadd hx hb d_Mo_frame_33 ?_
    refine va_put (D := D) (ty := .int) hx hb hta i_Mo t_Mo t_Mo_ok n_Mo hown hK hP hD hS 0 rfl rfl 27 (by decide) (hta _ lk_Mo_219) (fun _ h9 => h9) rfl (by decide +kernel) rfl rfl (Nat.le_of_ble_eq_true rfl) d_Mo_frame_34 (fun H locs (hP : va_P D classes [(h_t, .inr (7, (.int t_thrown :: .int t_high :: .int t_wide :: .int t_components :: .ref h_t_bits :: .int t_unknown :: .int t_rights :: .int t_colours :: .int t_profiled :: .ref h_t_profile :: .int t_entries :: .int t_columns :: .ref h_t_columnBits :: .ref h_t_numbers :: .int t_maps :: .ref h_t_map :: .int t_lines :: .ref h_t_line :: .ref h_t_resolutions :: .ref h_t_file :: .int t_size :: .int t_scanned :: .int t_refusedAt :: .int t_cursor :: .int t_streamAt :: .int t_streamMany :: .int ((x22 : Int64).toInt32) :: .int (p1 + 8) :: .int t_end :: .int t_sizeAt :: .int t_bitsAt :: .int t_colourAt :: .int t_colourEnd :: .int t_paletteAt :: .int t_mapAt :: .int t_mapEnd :: .int t_channelsAt :: .int t_captureAt :: .int t_displayAt :: .int t_resolved :: []))), (h_t_file, .inl (cI, 65536, .inl f_t_file))] H) (hD : va_D A [(h_t, .inr (7, (.int t_thrown :: .int t_high :: .int t_wide :: .int t_components :: .ref h_t_bits :: .int t_unknown :: .int t_rights :: .int t_colours :: .int t_profiled :: .ref h_t_profile :: .int t_entries :: .int t_columns :: .ref h_t_columnBits :: .ref h_t_numbers :: .int t_maps :: .ref h_t_map :: .int t_lines :: .ref h_t_line :: .ref h_t_resolutions :: .ref h_t_file :: .int t_size :: .int t_scanned :: .int t_refusedAt :: .int t_cursor :: .int t_streamAt :: .int t_streamMany :: .int ((x22 : Int64).toInt32) :: .int (p1 + 8) :: .int t_end :: .int t_sizeAt :: .int t_bitsAt :: .int t_colourAt :: .int t_colourEnd :: .int t_paletteAt :: .int t_mapAt :: .int t_mapEnd :: .int t_channelsAt :: .int t_captureAt :: .int t_displayAt :: .int t_resolved :: []))), (h_t_file, .inl (cI, 65536, .inl f_t_file))]) hS => ?_)
    refine lv_lload hx hb d_Mo_frame_37 (lv_at hl 0 rfl) ?_
    refine lv_lconst (v := 1) hx hb d_Mo_frame_39 (by decide) ?_
    refine W.lcmp hx hb d_Mo_frame_40 ?_
    refine lv_if_ne (tgt := 126) hx hb d_Mo_frame_41 (by decide) (fun c_41 => ?_) (fun c_41 => ?_)
    · have E := (if_neg c_41).symm.trans E
      have O := Eq.mp (if_neg c_41) O
      refine lv_lload hx hb d_Mo_frame_126 (lv_at hl 0 rfl) ?_
      refine lv_lconst (v := 0) hx hb d_Mo_frame_128 (by decide) ?_
      refine W.lcmp hx hb d_Mo_frame_129 ?_
      have J_144 : j_Mo_frame_144 t_end p1 p2 x12 x22 = RES → oj_Mo_frame_144 p1 p2 x12 → ∀ (H : Heap) (locs : List Loc), va_P D classes [(h_t, .inr (7, (.int t_thrown :: .int t_high :: .int t_wide :: .int t_components :: .ref h_t_bits :: .int t_unknown :: .int t_rights :: .int t_colours :: .int t_profiled :: .ref h_t_profile :: .int t_entries :: .int t_columns :: .ref h_t_columnBits :: .ref h_t_numbers :: .int t_maps :: .ref h_t_map :: .int t_lines :: .ref h_t_line :: .ref h_t_resolutions :: .ref h_t_file :: .int t_size :: .int t_scanned :: .int t_refusedAt :: .int t_cursor :: .int t_streamAt :: .int t_streamMany :: .int ((x22 : Int64).toInt32) :: .int (p1 + 8) :: .int t_end :: .int t_sizeAt :: .int t_bitsAt :: .int t_colourAt :: .int t_colourEnd :: .int t_paletteAt :: .int t_mapAt :: .int t_mapEnd :: .int t_channelsAt :: .int t_captureAt :: .int t_displayAt :: .int t_resolved :: []))), (h_t_file, .inl (cI, 65536, .inl f_t_file))] H → va_D A [(h_t, .inr (7, (.int t_thrown :: .int t_high :: .int t_wide :: .int t_components :: .ref h_t_bits :: .int t_unknown :: .int t_rights :: .int t_colours :: .int t_profiled :: .ref h_t_profile :: .int t_entries :: .int t_columns :: .ref h_t_columnBits :: .ref h_t_numbers :: .int t_maps :: .ref h_t_map :: .int t_lines :: .ref h_t_line :: .ref h_t_resolutions :: .ref h_t_file :: .int t_size :: .int t_scanned :: .int t_refusedAt :: .int t_cursor :: .int t_streamAt :: .int t_streamMany :: .int ((x22 : Int64).toInt32) :: .int (p1 + 8) :: .int t_end :: .int t_sizeAt :: .int t_bitsAt :: .int t_colourAt :: .int t_colourEnd :: .int t_paletteAt :: .int t_mapAt :: .int t_mapEnd :: .int t_channelsAt :: .int t_captureAt :: .int t_displayAt :: .int t_resolved :: []))), (h_t_file, .inl (cI, 65536, .inl f_t_file))] → va_S A s.heap H locs → ∀ ls : Array Slot, lv_has ls 6 [(4, .long x12), (0, .ref h_t), (1, .int p1), (2, .int p2)] → W p l e R s m args below meth c H locs 0 0 Q (F0 m 144 ls []) := by
        intro E O H locs hP hD hS ls hl
        refine lv_iload_n hx hb d_Mo_frame_144 rfl (lv_at hl 2 rfl) ?_
        refine lv_i2l (v := (p1 : Int32).toInt64) hx hb d_Mo_frame_145 rfl ?_
        refine lv_lload hx hb d_Mo_frame_146 (lv_at hl 0 rfl) ?_
        refine lv_ladd hx hb d_Mo_frame_148 ?_
        refine lv_iload_n hx hb d_Mo_frame_149 rfl (lv_at hl 3 rfl) ?_
        refine lv_i2l (v := (p2 : Int32).toInt64) hx hb d_Mo_frame_150 rfl ?_
        refine W.lcmp hx hb d_Mo_frame_151 ?_
        refine lv_if_le (tgt := 157) hx hb d_Mo_frame_152 (by decide) (fun c_152 => ?_) (fun c_152 => ?_)
        · have E := (if_pos c_152).symm.trans E
          have O := Eq.mp (if_pos c_152) O
          refine lv_aload_n hx hb d_Mo_frame_157 rfl (lv_at hl 1 rfl) ?_
          refine lv_iload_n hx hb d_Mo_frame_158 rfl (lv_at hl 2 rfl) ?_
          refine lv_lload hx hb d_Mo_frame_159 (lv_at hl 0 rfl) ?_
          refine lv_l2i (v := (x12 : Int64).toInt32) hx hb d_Mo_frame_161 rfl ?_
          refine lv_iadd hx hb d_Mo_frame_162 ?_
          refine va_put (D := D) (ty := .int) hx hb hta i_Mo t_Mo t_Mo_ok n_Mo hown hK hP hD hS 0 rfl rfl 28 (by decide) (hta _ lk_Mo_222) (fun _ h9 => h9) rfl (by decide +kernel) rfl rfl (Nat.le_of_ble_eq_true rfl) d_Mo_frame_163 (fun H locs (hP : va_P D classes [(h_t, .inr (7, (.int t_thrown :: .int t_high :: .int t_wide :: .int t_components :: .ref h_t_bits :: .int t_unknown :: .int t_rights :: .int t_colours :: .int t_profiled :: .ref h_t_profile :: .int t_entries :: .int t_columns :: .ref h_t_columnBits :: .ref h_t_numbers :: .int t_maps :: .ref h_t_map :: .int t_lines :: .ref h_t_line :: .ref h_t_resolutions :: .ref h_t_file :: .int t_size :: .int t_scanned :: .int t_refusedAt :: .int t_cursor :: .int t_streamAt :: .int t_streamMany :: .int ((x22 : Int64).toInt32) :: .int (p1 + 8) :: .int (p1 + ((x12 : Int64).toInt32)) :: .int t_sizeAt :: .int t_bitsAt :: .int t_colourAt :: .int t_colourEnd :: .int t_paletteAt :: .int t_mapAt :: .int t_mapEnd :: .int t_channelsAt :: .int t_captureAt :: .int t_displayAt :: .int t_resolved :: []))), (h_t_file, .inl (cI, 65536, .inl f_t_file))] H) (hD : va_D A [(h_t, .inr (7, (.int t_thrown :: .int t_high :: .int t_wide :: .int t_components :: .ref h_t_bits :: .int t_unknown :: .int t_rights :: .int t_colours :: .int t_profiled :: .ref h_t_profile :: .int t_entries :: .int t_columns :: .ref h_t_columnBits :: .ref h_t_numbers :: .int t_maps :: .ref h_t_map :: .int t_lines :: .ref h_t_line :: .ref h_t_resolutions :: .ref h_t_file :: .int t_size :: .int t_scanned :: .int t_refusedAt :: .int t_cursor :: .int t_streamAt :: .int t_streamMany :: .int ((x22 : Int64).toInt32) :: .int (p1 + 8) :: .int (p1 + ((x12 : Int64).toInt32)) :: .int t_sizeAt :: .int t_bitsAt :: .int t_colourAt :: .int t_colourEnd :: .int t_paletteAt :: .int t_mapAt :: .int t_mapEnd :: .int t_channelsAt :: .int t_captureAt :: .int t_displayAt :: .int t_resolved :: []))), (h_t_file, .inl (cI, 65536, .inl f_t_file))]) hS => ?_)
          refine lv_lload hx hb d_Mo_frame_166 (lv_at hl 0 rfl) ?_
          refine lv_ldc2 (v := 8) hx hb hown (hta _ lk_Mo_98) d_Mo_frame_168 ?_
          refine W.lcmp hx hb d_Mo_frame_171 ?_
          refine lv_if_ge (tgt := 179) hx hb d_Mo_frame_172 (by decide) (fun c_172 => ?_) (fun c_172 => ?_)
          · have E := (if_pos c_172).symm.trans E
            have O := Eq.mp (if_pos c_172) O
            refine lv_iconst (v := 0) hx hb d_Mo_frame_179 (by decide) ?_
            exact kr_i hx hb hr hlk hQ hK hP hD hS ⟨((0, (x22 : Int64).toInt32, p1 + 8, p1 + ((x12 : Int64).toInt32)) : Int32 × Int32 × Int32 × Int32), E.trans E0.symm, rfl, rfl⟩ (by omega) (by omega) d_Mo_frame_180
          · have E := (if_neg c_172).symm.trans E
            have O := Eq.mp (if_neg c_172) O
            refine lv_iconst (v := 3) hx hb d_Mo_frame_175 (by decide) ?_
            refine lv_goto (tgt := 180) hx hb d_Mo_frame_176 (by decide) ?_
            exact kr_i hx hb hr hlk hQ hK hP hD hS ⟨((3, (x22 : Int64).toInt32, p1 + 8, p1 + ((x12 : Int64).toInt32)) : Int32 × Int32 × Int32 × Int32), E.trans E0.symm, rfl, rfl⟩ (by omega) (by omega) d_Mo_frame_180
        · have E := (if_neg c_152).symm.trans E
          have O := Eq.mp (if_neg c_152) O
          refine lv_iconst (v := 1) hx hb d_Mo_frame_155 (by decide) ?_
          exact kr_i hx hb hr hlk hQ hK hP hD hS ⟨((1, (x22 : Int64).toInt32, p1 + 8, t_end) : Int32 × Int32 × Int32 × Int32), E.trans E0.symm, rfl, rfl⟩ (by omega) (by omega) d_Mo_frame_156
      refine lv_if_ne (tgt := 144) hx hb d_Mo_frame_130 (by decide) (fun c_130 => ?_) (fun c_130 => ?_)
      · have E := (if_neg c_130).symm.trans E
        have O := Eq.mp (if_neg c_130) O
        exact J_144  E O _ _ hP hD hS ls (lv_sub hl [0, 1, 2, 3] rfl)
      · have E := (if_pos c_130).symm.trans E
        have O := Eq.mp (if_pos c_130) O
        refine lv_iload_n hx hb d_Mo_frame_133 rfl (lv_at hl 4 rfl) ?_
        refine lv_if_eq (tgt := 144) hx hb d_Mo_frame_134 (by decide) (fun c_134 => ?_) (fun c_134 => ?_)
        · have E := (if_pos c_134).symm.trans E
          have O := Eq.mp (if_pos c_134) O
          exact J_144  E O _ _ hP hD hS ls (lv_sub hl [0, 1, 2, 3] rfl)
        · have E := (if_neg c_134).symm.trans E
          have O := Eq.mp (if_neg c_134) O
          refine lv_aload_n hx hb d_Mo_frame_137 rfl (lv_at hl 1 rfl) ?_
          refine lv_iload_n hx hb d_Mo_frame_138 rfl (lv_at hl 3 rfl) ?_
          refine va_put (D := D) (ty := .int) hx hb hta i_Mo t_Mo t_Mo_ok n_Mo hown hK hP hD hS 0 rfl rfl 28 (by decide) (hta _ lk_Mo_222) (fun _ h9 => h9) rfl (by decide +kernel) rfl rfl (Nat.le_of_ble_eq_true rfl) d_Mo_frame_139 (fun H locs (hP : va_P D classes [(h_t, .inr (7, (.int t_thrown :: .int t_high :: .int t_wide :: .int t_components :: .ref h_t_bits :: .int t_unknown :: .int t_rights :: .int t_colours :: .int t_profiled :: .ref h_t_profile :: .int t_entries :: .int t_columns :: .ref h_t_columnBits :: .ref h_t_numbers :: .int t_maps :: .ref h_t_map :: .int t_lines :: .ref h_t_line :: .ref h_t_resolutions :: .ref h_t_file :: .int t_size :: .int t_scanned :: .int t_refusedAt :: .int t_cursor :: .int t_streamAt :: .int t_streamMany :: .int ((x22 : Int64).toInt32) :: .int (p1 + 8) :: .int p2 :: .int t_sizeAt :: .int t_bitsAt :: .int t_colourAt :: .int t_colourEnd :: .int t_paletteAt :: .int t_mapAt :: .int t_mapEnd :: .int t_channelsAt :: .int t_captureAt :: .int t_displayAt :: .int t_resolved :: []))), (h_t_file, .inl (cI, 65536, .inl f_t_file))] H) (hD : va_D A [(h_t, .inr (7, (.int t_thrown :: .int t_high :: .int t_wide :: .int t_components :: .ref h_t_bits :: .int t_unknown :: .int t_rights :: .int t_colours :: .int t_profiled :: .ref h_t_profile :: .int t_entries :: .int t_columns :: .ref h_t_columnBits :: .ref h_t_numbers :: .int t_maps :: .ref h_t_map :: .int t_lines :: .ref h_t_line :: .ref h_t_resolutions :: .ref h_t_file :: .int t_size :: .int t_scanned :: .int t_refusedAt :: .int t_cursor :: .int t_streamAt :: .int t_streamMany :: .int ((x22 : Int64).toInt32) :: .int (p1 + 8) :: .int p2 :: .int t_sizeAt :: .int t_bitsAt :: .int t_colourAt :: .int t_colourEnd :: .int t_paletteAt :: .int t_mapAt :: .int t_mapEnd :: .int t_channelsAt :: .int t_captureAt :: .int t_displayAt :: .int t_resolved :: []))), (h_t_file, .inl (cI, 65536, .inl f_t_file))]) hS => ?_)
          refine lv_iconst (v := 0) hx hb d_Mo_frame_142 (by decide) ?_
          exact kr_i hx hb hr hlk hQ hK hP hD hS ⟨((0, (x22 : Int64).toInt32, p1 + 8, p2) : Int32 × Int32 × Int32 × Int32), E.trans E0.symm, rfl, rfl⟩ (by omega) (by omega) d_Mo_frame_143
    · have E := (if_pos c_41).symm.trans E
      have O := Eq.mp (if_pos c_41) O
      refine lv_iload_n hx hb d_Mo_frame_44 rfl (lv_at hl 2 rfl) ?_
      refine lv_bipush (v := 16) hx hb d_Mo_frame_45 (by decide) ?_
      refine lv_iadd hx hb d_Mo_frame_47 ?_
      refine lv_iload_n hx hb d_Mo_frame_48 rfl (lv_at hl 3 rfl) ?_
      refine lv_icmp_gt (tgt := 82) hx hb d_Mo_frame_49 (by decide) (fun c_49 => ?_) (fun c_49 => ?_)
      · have E := (if_pos c_49).symm.trans E
        have O := Eq.mp (if_pos c_49) O
        refine lv_iconst (v := 1) hx hb d_Mo_frame_82 (by decide) ?_
        exact kr_i hx hb hr hlk hQ hK hP hD hS ⟨((1, (x22 : Int64).toInt32, p1 + 8, t_end) : Int32 × Int32 × Int32 × Int32), E.trans E0.symm, rfl, rfl⟩ (by omega) (by omega) d_Mo_frame_83
      · have E := (if_neg c_49).symm.trans E
        have O := Eq.mp (if_neg c_49) O
        refine lv_aload_n hx hb d_Mo_frame_52 rfl (lv_at hl 1 rfl) ?_
        refine lv_iload_n hx hb d_Mo_frame_53 rfl (lv_at hl 2 rfl) ?_
        refine lv_bipush (v := 8) hx hb d_Mo_frame_54 (by decide) ?_
        refine lv_iadd hx hb d_Mo_frame_56 ?_
        refine kc_V (As := [.int (p1 + 8)]) (rest := []) (wr := []) [0, 1] [] ⟨hx, hb, hml, hown, hta⟩ hK hN hP hD hS hA (c_Mo_u4 l D cB cI cJ h_t h_t_bits h_t_profile h_t_columnBits h_t_numbers h_t_map h_t_line h_t_resolutions h_t_file t_thrown t_high t_wide t_components t_unknown t_rights t_colours t_profiled t_entries t_columns t_maps t_lines t_size t_scanned t_refusedAt t_cursor t_streamAt t_streamMany ((x22 : Int64).toInt32) (p1 + 8) t_end t_sizeAt t_bitsAt t_colourAt t_colourEnd t_paletteAt t_mapAt t_mapEnd t_channelsAt t_captureAt t_displayAt t_resolved f_t_file (p1 + 8) O.1 _) (hta _ lk_Mo_212) (hta _ ini_Mo) (hta _ code_Mo_u4) code_Mo_u4 (hta _ inst_Mo_u4) (hta _ sel_Mo_u4) hd_Mo_u4 rfl ⟨by omega, by omega⟩ (ci := 7) 0 rfl rfl rfl rfl (by decide) (by decide) (by decide) rfl hl.1 (lv_room (Nat.le_of_ble_eq_true rfl)) d_Mo_frame_57 ⟨by omega, by omega⟩ (fun v w1 H locs hw hP hD hS => ?_)
        obtain ⟨x57, hx57, rfl, rfl⟩ := hw
        have hP : va_P D classes [(h_t, .inr (7, (.int t_thrown :: .int t_high :: .int t_wide :: .int t_components :: .ref h_t_bits :: .int t_unknown :: .int t_rights :: .int t_colours :: .int t_profiled :: .ref h_t_profile :: .int t_entries :: .int t_columns :: .ref h_t_columnBits :: .ref h_t_numbers :: .int t_maps :: .ref h_t_map :: .int t_lines :: .ref h_t_line :: .ref h_t_resolutions :: .ref h_t_file :: .int t_size :: .int t_scanned :: .int t_refusedAt :: .int t_cursor :: .int t_streamAt :: .int t_streamMany :: .int (((x22 : Int64).toInt32)) :: .int (p1 + 8) :: .int t_end :: .int t_sizeAt :: .int t_bitsAt :: .int t_colourAt :: .int t_colourEnd :: .int t_paletteAt :: .int t_mapAt :: .int t_mapEnd :: .int t_channelsAt :: .int t_captureAt :: .int t_displayAt :: .int t_resolved :: []))), (h_t_file, .inl (cI, 65536, .inl f_t_file))] H := hP.sub [0, 1] rfl
        have hD : va_D A [(h_t, .inr (7, (.int t_thrown :: .int t_high :: .int t_wide :: .int t_components :: .ref h_t_bits :: .int t_unknown :: .int t_rights :: .int t_colours :: .int t_profiled :: .ref h_t_profile :: .int t_entries :: .int t_columns :: .ref h_t_columnBits :: .ref h_t_numbers :: .int t_maps :: .ref h_t_map :: .int t_lines :: .ref h_t_line :: .ref h_t_resolutions :: .ref h_t_file :: .int t_size :: .int t_scanned :: .int t_refusedAt :: .int t_cursor :: .int t_streamAt :: .int t_streamMany :: .int (((x22 : Int64).toInt32)) :: .int (p1 + 8) :: .int t_end :: .int t_sizeAt :: .int t_bitsAt :: .int t_colourAt :: .int t_colourEnd :: .int t_paletteAt :: .int t_mapAt :: .int t_mapEnd :: .int t_channelsAt :: .int t_captureAt :: .int t_displayAt :: .int t_resolved :: []))), (h_t_file, .inl (cI, 65536, .inl f_t_file))] := hD.sub [0, 1] (by decide) rfl
        refine W.eq (g2 := F0 m 60 ls [.long x57]) rfl ?_
        have O := O.2
        have E : k_Mo_frame_57 t_end f_t_file p1 p2 x22 x57 = RES := (congrArg (k_Mo_frame_57 t_end f_t_file p1 p2 x22) hx57).trans E
        have O : ok_Mo_frame_57 f_t_file p1 p2 x57 := by rw [hx57]; exact O
        refine lv_lconst (v := 0) hx hb d_Mo_frame_60 (by decide) ?_
        refine W.lcmp hx hb d_Mo_frame_61 ?_
        refine lv_if_gt (tgt := 82) hx hb d_Mo_frame_62 (by decide) (fun c_62 => ?_) (fun c_62 => ?_)
        · have E := (if_pos c_62).symm.trans E
          have O := Eq.mp (if_pos c_62) O
          refine lv_iconst (v := 1) hx hb d_Mo_frame_82 (by decide) ?_
          exact kr_i hx hb hr hlk hQ hK hP hD hS ⟨((1, ((x22 : Int64).toInt32), (p1 + 8), t_end) : Int32 × Int32 × Int32 × Int32), E.trans E0.symm, rfl, rfl⟩ (by omega) (by omega) d_Mo_frame_83
        · have E := (if_neg c_62).symm.trans E
          have O := Eq.mp (if_neg c_62) O
          refine lv_iload_n hx hb d_Mo_frame_65 rfl (lv_at hl 2 rfl) ?_
          refine lv_i2l (v := (p1 : Int32).toInt64) hx hb d_Mo_frame_66 rfl ?_
          refine lv_aload_n hx hb d_Mo_frame_67 rfl (lv_at hl 1 rfl) ?_
          refine lv_iload_n hx hb d_Mo_frame_68 rfl (lv_at hl 2 rfl) ?_
          refine lv_bipush (v := 12) hx hb d_Mo_frame_69 (by decide) ?_
          refine lv_iadd hx hb d_Mo_frame_71 ?_
          refine kc_V (As := [.int (p1 + 12)]) (rest := [.long ((p1 : Int32).toInt64)]) (wr := []) [0, 1] [] ⟨hx, hb, hml, hown, hta⟩ hK hN hP hD hS hA (c_Mo_u4 l D cB cI cJ h_t h_t_bits h_t_profile h_t_columnBits h_t_numbers h_t_map h_t_line h_t_resolutions h_t_file t_thrown t_high t_wide t_components t_unknown t_rights t_colours t_profiled t_entries t_columns t_maps t_lines t_size t_scanned t_refusedAt t_cursor t_streamAt t_streamMany (((x22 : Int64).toInt32)) (p1 + 8) t_end t_sizeAt t_bitsAt t_colourAt t_colourEnd t_paletteAt t_mapAt t_mapEnd t_channelsAt t_captureAt t_displayAt t_resolved f_t_file (p1 + 12) O.1 _) (hta _ lk_Mo_212) (hta _ ini_Mo) (hta _ code_Mo_u4) code_Mo_u4 (hta _ inst_Mo_u4) (hta _ sel_Mo_u4) hd_Mo_u4 rfl ⟨by omega, by omega⟩ (ci := 7) 0 rfl rfl rfl rfl (by decide) (by decide) (by decide) rfl hl.1 (lv_room (Nat.le_of_ble_eq_true rfl)) d_Mo_frame_72 ⟨by omega, by omega⟩ (fun v w1 H locs hw hP hD hS => ?_)
          obtain ⟨x72, hx72, rfl, rfl⟩ := hw
          have hP : va_P D classes [(h_t, .inr (7, (.int t_thrown :: .int t_high :: .int t_wide :: .int t_components :: .ref h_t_bits :: .int t_unknown :: .int t_rights :: .int t_colours :: .int t_profiled :: .ref h_t_profile :: .int t_entries :: .int t_columns :: .ref h_t_columnBits :: .ref h_t_numbers :: .int t_maps :: .ref h_t_map :: .int t_lines :: .ref h_t_line :: .ref h_t_resolutions :: .ref h_t_file :: .int t_size :: .int t_scanned :: .int t_refusedAt :: .int t_cursor :: .int t_streamAt :: .int t_streamMany :: .int ((((x22 : Int64).toInt32))) :: .int (p1 + 8) :: .int t_end :: .int t_sizeAt :: .int t_bitsAt :: .int t_colourAt :: .int t_colourEnd :: .int t_paletteAt :: .int t_mapAt :: .int t_mapEnd :: .int t_channelsAt :: .int t_captureAt :: .int t_displayAt :: .int t_resolved :: []))), (h_t_file, .inl (cI, 65536, .inl f_t_file))] H := hP.sub [0, 1] rfl
          have hD : va_D A [(h_t, .inr (7, (.int t_thrown :: .int t_high :: .int t_wide :: .int t_components :: .ref h_t_bits :: .int t_unknown :: .int t_rights :: .int t_colours :: .int t_profiled :: .ref h_t_profile :: .int t_entries :: .int t_columns :: .ref h_t_columnBits :: .ref h_t_numbers :: .int t_maps :: .ref h_t_map :: .int t_lines :: .ref h_t_line :: .ref h_t_resolutions :: .ref h_t_file :: .int t_size :: .int t_scanned :: .int t_refusedAt :: .int t_cursor :: .int t_streamAt :: .int t_streamMany :: .int ((((x22 : Int64).toInt32))) :: .int (p1 + 8) :: .int t_end :: .int t_sizeAt :: .int t_bitsAt :: .int t_colourAt :: .int t_colourEnd :: .int t_paletteAt :: .int t_mapAt :: .int t_mapEnd :: .int t_channelsAt :: .int t_captureAt :: .int t_displayAt :: .int t_resolved :: []))), (h_t_file, .inl (cI, 65536, .inl f_t_file))] := hD.sub [0, 1] (by decide) rfl
          refine W.eq (g2 := F0 m 75 ls [.long x72, .long ((p1 : Int32).toInt64)]) rfl ?_
          have O := O.2
          have E : k_Mo_frame_72 t_end f_t_file p1 p2 x22 x72 = RES := (congrArg (k_Mo_frame_72 t_end f_t_file p1 p2 x22) hx72).trans E
          have O : ok_Mo_frame_72 f_t_file p1 p2 x72 := by rw [hx72]; exact O
          refine lv_ladd hx hb d_Mo_frame_75 ?_
          refine lv_iload_n hx hb d_Mo_frame_76 rfl (lv_at hl 3 rfl) ?_
          refine lv_i2l (v := (p2 : Int32).toInt64) hx hb d_Mo_frame_77 rfl ?_
          refine W.lcmp hx hb d_Mo_frame_78 ?_
          refine lv_if_le (tgt := 84) hx hb d_Mo_frame_79 (by decide) (fun c_79 => ?_) (fun c_79 => ?_)
          · have E := (if_pos c_79).symm.trans E
            have O := Eq.mp (if_pos c_79) O
            refine lv_aload_n hx hb d_Mo_frame_84 rfl (lv_at hl 1 rfl) ?_
            refine lv_iload_n hx hb d_Mo_frame_85 rfl (lv_at hl 2 rfl) ?_
            refine lv_bipush (v := 12) hx hb d_Mo_frame_86 (by decide) ?_
            refine lv_iadd hx hb d_Mo_frame_88 ?_
            refine kc_V (As := [.int (p1 + 12)]) (rest := []) (wr := []) [0, 1] [] ⟨hx, hb, hml, hown, hta⟩ hK hN hP hD hS hA (c_Mo_u4 l D cB cI cJ h_t h_t_bits h_t_profile h_t_columnBits h_t_numbers h_t_map h_t_line h_t_resolutions h_t_file t_thrown t_high t_wide t_components t_unknown t_rights t_colours t_profiled t_entries t_columns t_maps t_lines t_size t_scanned t_refusedAt t_cursor t_streamAt t_streamMany ((((x22 : Int64).toInt32))) (p1 + 8) t_end t_sizeAt t_bitsAt t_colourAt t_colourEnd t_paletteAt t_mapAt t_mapEnd t_channelsAt t_captureAt t_displayAt t_resolved f_t_file (p1 + 12) O.1 _) (hta _ lk_Mo_212) (hta _ ini_Mo) (hta _ code_Mo_u4) code_Mo_u4 (hta _ inst_Mo_u4) (hta _ sel_Mo_u4) hd_Mo_u4 rfl ⟨by omega, by omega⟩ (ci := 7) 0 rfl rfl rfl rfl (by decide) (by decide) (by decide) rfl hl.1 (lv_room (Nat.le_of_ble_eq_true rfl)) d_Mo_frame_89 ⟨by omega, by omega⟩ (fun v w1 H locs hw hP hD hS => ?_)
            obtain ⟨x89, hx89, rfl, rfl⟩ := hw
            have hP : va_P D classes [(h_t, .inr (7, (.int t_thrown :: .int t_high :: .int t_wide :: .int t_components :: .ref h_t_bits :: .int t_unknown :: .int t_rights :: .int t_colours :: .int t_profiled :: .ref h_t_profile :: .int t_entries :: .int t_columns :: .ref h_t_columnBits :: .ref h_t_numbers :: .int t_maps :: .ref h_t_map :: .int t_lines :: .ref h_t_line :: .ref h_t_resolutions :: .ref h_t_file :: .int t_size :: .int t_scanned :: .int t_refusedAt :: .int t_cursor :: .int t_streamAt :: .int t_streamMany :: .int (((((x22 : Int64).toInt32)))) :: .int (p1 + 8) :: .int t_end :: .int t_sizeAt :: .int t_bitsAt :: .int t_colourAt :: .int t_colourEnd :: .int t_paletteAt :: .int t_mapAt :: .int t_mapEnd :: .int t_channelsAt :: .int t_captureAt :: .int t_displayAt :: .int t_resolved :: []))), (h_t_file, .inl (cI, 65536, .inl f_t_file))] H := hP.sub [0, 1] rfl
            have hD : va_D A [(h_t, .inr (7, (.int t_thrown :: .int t_high :: .int t_wide :: .int t_components :: .ref h_t_bits :: .int t_unknown :: .int t_rights :: .int t_colours :: .int t_profiled :: .ref h_t_profile :: .int t_entries :: .int t_columns :: .ref h_t_columnBits :: .ref h_t_numbers :: .int t_maps :: .ref h_t_map :: .int t_lines :: .ref h_t_line :: .ref h_t_resolutions :: .ref h_t_file :: .int t_size :: .int t_scanned :: .int t_refusedAt :: .int t_cursor :: .int t_streamAt :: .int t_streamMany :: .int (((((x22 : Int64).toInt32)))) :: .int (p1 + 8) :: .int t_end :: .int t_sizeAt :: .int t_bitsAt :: .int t_colourAt :: .int t_colourEnd :: .int t_paletteAt :: .int t_mapAt :: .int t_mapEnd :: .int t_channelsAt :: .int t_captureAt :: .int t_displayAt :: .int t_resolved :: []))), (h_t_file, .inl (cI, 65536, .inl f_t_file))] := hD.sub [0, 1] (by decide) rfl
            refine W.eq (g2 := F0 m 92 ls [.long x89]) rfl ?_
            have O := O.2
            have E : k_Mo_frame_89 p1 x22 x89 = RES := (congrArg (k_Mo_frame_89 p1 x22) hx89).trans E
            have O : ok_Mo_frame_89 x89 := by rw [hx89]; exact O
            refine lv_lstore (lv' := [(4, .long x89), (0, .ref h_t), (1, .int p1), (2, .int p2), (3, .int p3)]) hx hb d_Mo_frame_92 hl (by decide) rfl (fun ls hl => ?_)
            refine lv_aload_n hx hb d_Mo_frame_94 rfl (lv_at hl 1 rfl) ?_
            refine lv_iload_n hx hb d_Mo_frame_95 rfl (lv_at hl 2 rfl) ?_
            refine lv_bipush (v := 16) hx hb d_Mo_frame_96 (by decide) ?_
            refine lv_iadd hx hb d_Mo_frame_98 ?_
            refine va_put (D := D) (ty := .int) hx hb hta i_Mo t_Mo t_Mo_ok n_Mo hown hK hP hD hS 0 rfl rfl 27 (by decide) (hta _ lk_Mo_219) (fun _ h9 => h9) rfl (by decide +kernel) rfl rfl (Nat.le_of_ble_eq_true rfl) d_Mo_frame_99 (fun H locs (hP : va_P D classes [(h_t, .inr (7, (.int t_thrown :: .int t_high :: .int t_wide :: .int t_components :: .ref h_t_bits :: .int t_unknown :: .int t_rights :: .int t_colours :: .int t_profiled :: .ref h_t_profile :: .int t_entries :: .int t_columns :: .ref h_t_columnBits :: .ref h_t_numbers :: .int t_maps :: .ref h_t_map :: .int t_lines :: .ref h_t_line :: .ref h_t_resolutions :: .ref h_t_file :: .int t_size :: .int t_scanned :: .int t_refusedAt :: .int t_cursor :: .int t_streamAt :: .int t_streamMany :: .int (((((x22 : Int64).toInt32)))) :: .int (p1 + 16) :: .int t_end :: .int t_sizeAt :: .int t_bitsAt :: .int t_colourAt :: .int t_colourEnd :: .int t_paletteAt :: .int t_mapAt :: .int t_mapEnd :: .int t_channelsAt :: .int t_captureAt :: .int t_displayAt :: .int t_resolved :: []))), (h_t_file, .inl (cI, 65536, .inl f_t_file))] H) (hD : va_D A [(h_t, .inr (7, (.int t_thrown :: .int t_high :: .int t_wide :: .int t_components :: .ref h_t_bits :: .int t_unknown :: .int t_rights :: .int t_colours :: .int t_profiled :: .ref h_t_profile :: .int t_entries :: .int t_columns :: .ref h_t_columnBits :: .ref h_t_numbers :: .int t_maps :: .ref h_t_map :: .int t_lines :: .ref h_t_line :: .ref h_t_resolutions :: .ref h_t_file :: .int t_size :: .int t_scanned :: .int t_refusedAt :: .int t_cursor :: .int t_streamAt :: .int t_streamMany :: .int (((((x22 : Int64).toInt32)))) :: .int (p1 + 16) :: .int t_end :: .int t_sizeAt :: .int t_bitsAt :: .int t_colourAt :: .int t_colourEnd :: .int t_paletteAt :: .int t_mapAt :: .int t_mapEnd :: .int t_channelsAt :: .int t_captureAt :: .int t_displayAt :: .int t_resolved :: []))), (h_t_file, .inl (cI, 65536, .inl f_t_file))]) hS => ?_)
            refine lv_aload_n hx hb d_Mo_frame_102 rfl (lv_at hl 1 rfl) ?_
            refine lv_iload_n hx hb d_Mo_frame_103 rfl (lv_at hl 2 rfl) ?_
            refine lv_lload hx hb d_Mo_frame_104 (lv_at hl 0 rfl) ?_
            refine lv_l2i (v := (x89 : Int64).toInt32) hx hb d_Mo_frame_106 rfl ?_
            refine lv_iadd hx hb d_Mo_frame_107 ?_
            refine va_put (D := D) (ty := .int) hx hb hta i_Mo t_Mo t_Mo_ok n_Mo hown hK hP hD hS 0 rfl rfl 28 (by decide) (hta _ lk_Mo_222) (fun _ h9 => h9) rfl (by decide +kernel) rfl rfl (Nat.le_of_ble_eq_true rfl) d_Mo_frame_108 (fun H locs (hP : va_P D classes [(h_t, .inr (7, (.int t_thrown :: .int t_high :: .int t_wide :: .int t_components :: .ref h_t_bits :: .int t_unknown :: .int t_rights :: .int t_colours :: .int t_profiled :: .ref h_t_profile :: .int t_entries :: .int t_columns :: .ref h_t_columnBits :: .ref h_t_numbers :: .int t_maps :: .ref h_t_map :: .int t_lines :: .ref h_t_line :: .ref h_t_resolutions :: .ref h_t_file :: .int t_size :: .int t_scanned :: .int t_refusedAt :: .int t_cursor :: .int t_streamAt :: .int t_streamMany :: .int (((((x22 : Int64).toInt32)))) :: .int (p1 + 16) :: .int (p1 + ((x89 : Int64).toInt32)) :: .int t_sizeAt :: .int t_bitsAt :: .int t_colourAt :: .int t_colourEnd :: .int t_paletteAt :: .int t_mapAt :: .int t_mapEnd :: .int t_channelsAt :: .int t_captureAt :: .int t_displayAt :: .int t_resolved :: []))), (h_t_file, .inl (cI, 65536, .inl f_t_file))] H) (hD : va_D A [(h_t, .inr (7, (.int t_thrown :: .int t_high :: .int t_wide :: .int t_components :: .ref h_t_bits :: .int t_unknown :: .int t_rights :: .int t_colours :: .int t_profiled :: .ref h_t_profile :: .int t_entries :: .int t_columns :: .ref h_t_columnBits :: .ref h_t_numbers :: .int t_maps :: .ref h_t_map :: .int t_lines :: .ref h_t_line :: .ref h_t_resolutions :: .ref h_t_file :: .int t_size :: .int t_scanned :: .int t_refusedAt :: .int t_cursor :: .int t_streamAt :: .int t_streamMany :: .int (((((x22 : Int64).toInt32)))) :: .int (p1 + 16) :: .int (p1 + ((x89 : Int64).toInt32)) :: .int t_sizeAt :: .int t_bitsAt :: .int t_colourAt :: .int t_colourEnd :: .int t_paletteAt :: .int t_mapAt :: .int t_mapEnd :: .int t_channelsAt :: .int t_captureAt :: .int t_displayAt :: .int t_resolved :: []))), (h_t_file, .inl (cI, 65536, .inl f_t_file))]) hS => ?_)
            refine lv_lload hx hb d_Mo_frame_111 (lv_at hl 0 rfl) ?_
            refine lv_ldc2 (v := 16) hx hb hown (hta _ lk_Mo_79) d_Mo_frame_113 ?_
            refine W.lcmp hx hb d_Mo_frame_116 ?_
            refine lv_if_ge (tgt := 124) hx hb d_Mo_frame_117 (by decide) (fun c_117 => ?_) (fun c_117 => ?_)
            · have E := (if_pos c_117).symm.trans E
              have O := Eq.mp (if_pos c_117) O
              refine lv_iconst (v := 0) hx hb d_Mo_frame_124 (by decide) ?_
              exact kr_i hx hb hr hlk hQ hK hP hD hS ⟨((0, ((((x22 : Int64).toInt32))), p1 + 16, p1 + ((x89 : Int64).toInt32)) : Int32 × Int32 × Int32 × Int32), E.trans E0.symm, rfl, rfl⟩ (by omega) (by omega) d_Mo_frame_125
            · have E := (if_neg c_117).symm.trans E
              have O := Eq.mp (if_neg c_117) O
              refine lv_iconst (v := 3) hx hb d_Mo_frame_120 (by decide) ?_
              refine lv_goto (tgt := 125) hx hb d_Mo_frame_121 (by decide) ?_
              exact kr_i hx hb hr hlk hQ hK hP hD hS ⟨((3, ((((x22 : Int64).toInt32))), p1 + 16, p1 + ((x89 : Int64).toInt32)) : Int32 × Int32 × Int32 × Int32), E.trans E0.symm, rfl, rfl⟩ (by omega) (by omega) d_Mo_frame_125
          · have E := (if_neg c_79).symm.trans E
            have O := Eq.mp (if_neg c_79) O
            refine lv_iconst (v := 1) hx hb d_Mo_frame_82 (by decide) ?_
            exact kr_i hx hb hr hlk hQ hK hP hD hS ⟨((1, (((x22 : Int64).toInt32)), (p1 + 8), t_end) : Int32 × Int32 × Int32 × Int32), E.trans E0.symm, rfl, rfl⟩ (by omega) (by omega) d_Mo_frame_83
  · have E := (if_neg c_5).symm.trans E
    have O := Eq.mp (if_neg c_5) O
    refine lv_iconst (v := 1) hx hb d_Mo_frame_8 (by decide) ?_
    exact kr_i hx hb hr hlk hQ hK hP hD hS ⟨((1, t_name, t_from, t_end) : Int32 × Int32 × Int32 × Int32), E.trans E0.symm, rfl, rfl⟩ (by omega) (by omega) d_Mo_frame_9
theorem d_Mo_isTop_0 : decode b_Mo_isTop 0 = .ok (.aload_n 0, 1) := by decide +kernel
theorem d_Mo_isTop_1 : decode b_Mo_isTop 1 = .ok (.getfield 216, 3) := by decide +kernel
theorem d_Mo_isTop_4 : decode b_Mo_isTop 4 = .ok (.ldc 198, 2) := by decide +kernel
theorem d_Mo_isTop_6 : decode b_Mo_isTop 6 = .ok (.if_icmp .eq 30, 3) := by decide +kernel
theorem d_Mo_isTop_9 : decode b_Mo_isTop 9 = .ok (.aload_n 0, 1) := by decide +kernel
theorem d_Mo_isTop_10 : decode b_Mo_isTop 10 = .ok (.getfield 216, 3) := by decide +kernel
theorem d_Mo_isTop_13 : decode b_Mo_isTop 13 = .ok (.ldc 201, 2) := by decide +kernel
theorem d_Mo_isTop_15 : decode b_Mo_isTop 15 = .ok (.if_icmp .eq 21, 3) := by decide +kernel
theorem d_Mo_isTop_18 : decode b_Mo_isTop 18 = .ok (.aload_n 0, 1) := by decide +kernel
theorem d_Mo_isTop_19 : decode b_Mo_isTop 19 = .ok (.getfield 216, 3) := by decide +kernel
theorem d_Mo_isTop_22 : decode b_Mo_isTop 22 = .ok (.ldc 177, 2) := by decide +kernel
theorem d_Mo_isTop_24 : decode b_Mo_isTop 24 = .ok (.if_icmp .eq 12, 3) := by decide +kernel
theorem d_Mo_isTop_27 : decode b_Mo_isTop 27 = .ok (.aload_n 0, 1) := by decide +kernel
theorem d_Mo_isTop_28 : decode b_Mo_isTop 28 = .ok (.getfield 216, 3) := by decide +kernel
theorem d_Mo_isTop_31 : decode b_Mo_isTop 31 = .ok (.ldc 225, 2) := by decide +kernel
theorem d_Mo_isTop_33 : decode b_Mo_isTop 33 = .ok (.if_icmp .ne 7, 3) := by decide +kernel
theorem d_Mo_isTop_36 : decode b_Mo_isTop 36 = .ok (.iconst 1, 1) := by decide +kernel
theorem d_Mo_isTop_37 : decode b_Mo_isTop 37 = .ok (.goto 4, 3) := by decide +kernel
theorem d_Mo_isTop_40 : decode b_Mo_isTop 40 = .ok (.iconst 0, 1) := by decide +kernel
theorem d_Mo_isTop_41 : decode b_Mo_isTop 41 = .ok (.ireturn, 1) := by decide +kernel
def om_Mo_isTop (t_name : Int32) : Prop :=
  if t_name = 1783636000 then True else (if t_name = 1718909296 then True else (if t_name = 1785737832 then True else (if t_name = 1785737827 then True else True)))
def m_Mo_isTop (t_name : Int32) : Int32 :=
  if t_name = 1783636000 then 1 else (if t_name = 1718909296 then 1 else (if t_name = 1785737832 then 1 else (if t_name = 1785737827 then 1 else 0)))
set_option maxHeartbeats 4000000 in
set_option maxRecDepth 100000 in
theorem c_Mo_isTop (l : Launch) (D : va_G) (cB cI cJ : ClassId) (h_t h_t_bits h_t_profile h_t_columnBits h_t_numbers h_t_map h_t_line h_t_resolutions h_t_file : Nat) (t_thrown : Int32) (t_high : Int32) (t_wide : Int32) (t_components : Int32) (t_unknown : Int32) (t_rights : Int32) (t_colours : Int32) (t_profiled : Int32) (t_entries : Int32) (t_columns : Int32) (t_maps : Int32) (t_lines : Int32) (t_size : Int32) (t_scanned : Int32) (t_refusedAt : Int32) (t_cursor : Int32) (t_streamAt : Int32) (t_streamMany : Int32) (t_name : Int32) (t_from : Int32) (t_end : Int32) (t_sizeAt : Int32) (t_bitsAt : Int32) (t_colourAt : Int32) (t_colourEnd : Int32) (t_paletteAt : Int32) (t_mapAt : Int32) (t_mapEnd : Int32) (t_channelsAt : Int32) (t_captureAt : Int32) (t_displayAt : Int32) (t_resolved : Int32) (hO : om_Mo_isTop t_name) (sz : Nat) : Ct l D cB cI cJ y_Mo_isTop b_Mo_isTop 1 (some .boolean) 0 0 0 0 [.ref h_t] [(h_t, .inr (7, (.int t_thrown :: .int t_high :: .int t_wide :: .int t_components :: .ref h_t_bits :: .int t_unknown :: .int t_rights :: .int t_colours :: .int t_profiled :: .ref h_t_profile :: .int t_entries :: .int t_columns :: .ref h_t_columnBits :: .ref h_t_numbers :: .int t_maps :: .ref h_t_map :: .int t_lines :: .ref h_t_line :: .ref h_t_resolutions :: .ref h_t_file :: .int t_size :: .int t_scanned :: .int t_refusedAt :: .int t_cursor :: .int t_streamAt :: .int t_streamMany :: .int t_name :: .int t_from :: .int t_end :: .int t_sizeAt :: .int t_bitsAt :: .int t_colourAt :: .int t_colourEnd :: .int t_paletteAt :: .int t_mapAt :: .int t_mapEnd :: .int t_channelsAt :: .int t_captureAt :: .int t_displayAt :: .int t_resolved :: [])))] (fun v w1 => ∃ (x : Int32), x = m_Mo_isTop t_name ∧ v = some (.int x) ∧ w1 = [(h_t, .inr (7, (.int t_thrown :: .int t_high :: .int t_wide :: .int t_components :: .ref h_t_bits :: .int t_unknown :: .int t_rights :: .int t_colours :: .int t_profiled :: .ref h_t_profile :: .int t_entries :: .int t_columns :: .ref h_t_columnBits :: .ref h_t_numbers :: .int t_maps :: .ref h_t_map :: .int t_lines :: .ref h_t_line :: .ref h_t_resolutions :: .ref h_t_file :: .int t_size :: .int t_scanned :: .int t_refusedAt :: .int t_cursor :: .int t_streamAt :: .int t_streamMany :: .int t_name :: .int t_from :: .int t_end :: .int t_sizeAt :: .int t_bitsAt :: .int t_colourAt :: .int t_colourEnd :: .int t_paletteAt :: .int t_mapAt :: .int t_mapEnd :: .int t_channelsAt :: .int t_captureAt :: .int t_displayAt :: .int t_resolved :: [])))]) sz := by
  refine Ct.of (by decide) (Nat.le_of_ble_eq_true rfl) ?_
  intro p e R s m args below meth c A ls Q hx hb hr hlk hml hta hown hin hK hN hA hRf hRl hRc hRs hP hD hS hl hQ
  have hl : lv_has ls 1 [(0, .ref h_t)] := hl
  obtain ⟨RES, E0⟩ : ∃ R, m_Mo_isTop t_name = R := ⟨_, rfl⟩
  have E := E0
  have O := hO
  refine lv_aload_n hx hb d_Mo_isTop_0 rfl (lv_at hl 0 rfl) ?_
  refine va_get (D := D) (v := .int t_name) hx hb hta i_Mo hown hK hP 0 rfl rfl 26 (by decide) (hta _ lk_Mo_216) (fun _ h9 => h9) rfl d_Mo_isTop_1 ?_
  refine lv_ldc (v := 1783636000) hx hb hown (hta _ lk_Mo_198) d_Mo_isTop_4 ?_
  refine lv_icmp_eq (tgt := 36) hx hb d_Mo_isTop_6 (by decide) (fun c_6 => ?_) (fun c_6 => ?_)
  · have E := (if_pos c_6).symm.trans E
    have O := Eq.mp (if_pos c_6) O
    refine lv_iconst (v := 1) hx hb d_Mo_isTop_36 (by decide) ?_
    refine lv_goto (tgt := 41) hx hb d_Mo_isTop_37 (by decide) ?_
    exact kr_z hx hb hr hlk hQ hK hP hD hS ⟨(1 : Int32), E.trans E0.symm, rfl, rfl⟩ (by omega) (by omega) rfl d_Mo_isTop_41
  · have E := (if_neg c_6).symm.trans E
    have O := Eq.mp (if_neg c_6) O
    refine lv_aload_n hx hb d_Mo_isTop_9 rfl (lv_at hl 0 rfl) ?_
    refine va_get (D := D) (v := .int t_name) hx hb hta i_Mo hown hK hP 0 rfl rfl 26 (by decide) (hta _ lk_Mo_216) (fun _ h9 => h9) rfl d_Mo_isTop_10 ?_
    refine lv_ldc (v := 1718909296) hx hb hown (hta _ lk_Mo_201) d_Mo_isTop_13 ?_
    refine lv_icmp_eq (tgt := 36) hx hb d_Mo_isTop_15 (by decide) (fun c_15 => ?_) (fun c_15 => ?_)
    · have E := (if_pos c_15).symm.trans E
      have O := Eq.mp (if_pos c_15) O
      refine lv_iconst (v := 1) hx hb d_Mo_isTop_36 (by decide) ?_
      refine lv_goto (tgt := 41) hx hb d_Mo_isTop_37 (by decide) ?_
      exact kr_z hx hb hr hlk hQ hK hP hD hS ⟨(1 : Int32), E.trans E0.symm, rfl, rfl⟩ (by omega) (by omega) rfl d_Mo_isTop_41
    · have E := (if_neg c_15).symm.trans E
      have O := Eq.mp (if_neg c_15) O
      refine lv_aload_n hx hb d_Mo_isTop_18 rfl (lv_at hl 0 rfl) ?_
      refine va_get (D := D) (v := .int t_name) hx hb hta i_Mo hown hK hP 0 rfl rfl 26 (by decide) (hta _ lk_Mo_216) (fun _ h9 => h9) rfl d_Mo_isTop_19 ?_
      refine lv_ldc (v := 1785737832) hx hb hown (hta _ lk_Mo_177) d_Mo_isTop_22 ?_
      refine lv_icmp_eq (tgt := 36) hx hb d_Mo_isTop_24 (by decide) (fun c_24 => ?_) (fun c_24 => ?_)
      · have E := (if_pos c_24).symm.trans E
        have O := Eq.mp (if_pos c_24) O
        refine lv_iconst (v := 1) hx hb d_Mo_isTop_36 (by decide) ?_
        refine lv_goto (tgt := 41) hx hb d_Mo_isTop_37 (by decide) ?_
        exact kr_z hx hb hr hlk hQ hK hP hD hS ⟨(1 : Int32), E.trans E0.symm, rfl, rfl⟩ (by omega) (by omega) rfl d_Mo_isTop_41
      · have E := (if_neg c_24).symm.trans E
        have O := Eq.mp (if_neg c_24) O
        refine lv_aload_n hx hb d_Mo_isTop_27 rfl (lv_at hl 0 rfl) ?_
        refine va_get (D := D) (v := .int t_name) hx hb hta i_Mo hown hK hP 0 rfl rfl 26 (by decide) (hta _ lk_Mo_216) (fun _ h9 => h9) rfl d_Mo_isTop_28 ?_
        refine lv_ldc (v := 1785737827) hx hb hown (hta _ lk_Mo_225) d_Mo_isTop_31 ?_
        refine lv_icmp_ne (tgt := 40) hx hb d_Mo_isTop_33 (by decide) (fun c_33 => ?_) (fun c_33 => ?_)
        · have E := (if_neg c_33).symm.trans E
          have O := Eq.mp (if_neg c_33) O
          refine lv_iconst (v := 0) hx hb d_Mo_isTop_40 (by decide) ?_
          exact kr_z hx hb hr hlk hQ hK hP hD hS ⟨(0 : Int32), E.trans E0.symm, rfl, rfl⟩ (by omega) (by omega) rfl d_Mo_isTop_41
        · have E := (if_pos c_33).symm.trans E
          have O := Eq.mp (if_pos c_33) O
          refine lv_iconst (v := 1) hx hb d_Mo_isTop_36 (by decide) ?_
          refine lv_goto (tgt := 41) hx hb d_Mo_isTop_37 (by decide) ?_
          exact kr_z hx hb hr hlk hQ hK hP hD hS ⟨(1 : Int32), E.trans E0.symm, rfl, rfl⟩ (by omega) (by omega) rfl d_Mo_isTop_41
theorem d_Mo_fitsPalette_0 : decode b_Mo_fitsPalette 0 = .ok (.aload_n 0, 1) := by decide +kernel
theorem d_Mo_fitsPalette_1 : decode b_Mo_fitsPalette 1 = .ok (.getfield 222, 3) := by decide +kernel
theorem d_Mo_fitsPalette_4 : decode b_Mo_fitsPalette 4 = .ok (.aload_n 0, 1) := by decide +kernel
theorem d_Mo_fitsPalette_5 : decode b_Mo_fitsPalette 5 = .ok (.getfield 219, 3) := by decide +kernel
theorem d_Mo_fitsPalette_8 : decode b_Mo_fitsPalette 8 = .ok (.isub, 1) := by decide +kernel
theorem d_Mo_fitsPalette_9 : decode b_Mo_fitsPalette 9 = .ok (.istore_n 1, 1) := by decide +kernel
theorem d_Mo_fitsPalette_10 : decode b_Mo_fitsPalette 10 = .ok (.iload_n 1, 1) := by decide +kernel
theorem d_Mo_fitsPalette_11 : decode b_Mo_fitsPalette 11 = .ok (.iconst 3, 1) := by decide +kernel
theorem d_Mo_fitsPalette_12 : decode b_Mo_fitsPalette 12 = .ok (.if_icmp .lt 20, 3) := by decide +kernel
theorem d_Mo_fitsPalette_15 : decode b_Mo_fitsPalette 15 = .ok (.iload_n 1, 1) := by decide +kernel
theorem d_Mo_fitsPalette_16 : decode b_Mo_fitsPalette 16 = .ok (.iconst 3, 1) := by decide +kernel
theorem d_Mo_fitsPalette_17 : decode b_Mo_fitsPalette 17 = .ok (.aload_n 0, 1) := by decide +kernel
theorem d_Mo_fitsPalette_18 : decode b_Mo_fitsPalette 18 = .ok (.getfield 37, 3) := by decide +kernel
theorem d_Mo_fitsPalette_21 : decode b_Mo_fitsPalette 21 = .ok (.aload_n 0, 1) := by decide +kernel
theorem d_Mo_fitsPalette_22 : decode b_Mo_fitsPalette 22 = .ok (.getfield 219, 3) := by decide +kernel
theorem d_Mo_fitsPalette_25 : decode b_Mo_fitsPalette 25 = .ok (.iconst 2, 1) := by decide +kernel
theorem d_Mo_fitsPalette_26 : decode b_Mo_fitsPalette 26 = .ok (.iadd, 1) := by decide +kernel
theorem d_Mo_fitsPalette_27 : decode b_Mo_fitsPalette 27 = .ok (.iaload, 1) := by decide +kernel
theorem d_Mo_fitsPalette_28 : decode b_Mo_fitsPalette 28 = .ok (.iadd, 1) := by decide +kernel
theorem d_Mo_fitsPalette_29 : decode b_Mo_fitsPalette 29 = .ok (.if_icmp .ge 5, 3) := by decide +kernel
theorem d_Mo_fitsPalette_32 : decode b_Mo_fitsPalette 32 = .ok (.iconst 0, 1) := by decide +kernel
theorem d_Mo_fitsPalette_33 : decode b_Mo_fitsPalette 33 = .ok (.ireturn, 1) := by decide +kernel
theorem d_Mo_fitsPalette_34 : decode b_Mo_fitsPalette 34 = .ok (.lconst 0, 1) := by decide +kernel
theorem d_Mo_fitsPalette_35 : decode b_Mo_fitsPalette 35 = .ok (.lstore_n 2, 1) := by decide +kernel
theorem d_Mo_fitsPalette_36 : decode b_Mo_fitsPalette 36 = .ok (.iconst 0, 1) := by decide +kernel
theorem d_Mo_fitsPalette_37 : decode b_Mo_fitsPalette 37 = .ok (.istore 4, 2) := by decide +kernel
theorem d_Mo_fitsPalette_39 : decode b_Mo_fitsPalette 39 = .ok (.iload 4, 2) := by decide +kernel
theorem d_Mo_fitsPalette_41 : decode b_Mo_fitsPalette 41 = .ok (.aload_n 0, 1) := by decide +kernel
theorem d_Mo_fitsPalette_42 : decode b_Mo_fitsPalette 42 = .ok (.getfield 37, 3) := by decide +kernel
theorem d_Mo_fitsPalette_45 : decode b_Mo_fitsPalette 45 = .ok (.aload_n 0, 1) := by decide +kernel
theorem d_Mo_fitsPalette_46 : decode b_Mo_fitsPalette 46 = .ok (.getfield 219, 3) := by decide +kernel
theorem d_Mo_fitsPalette_49 : decode b_Mo_fitsPalette 49 = .ok (.iconst 2, 1) := by decide +kernel
theorem d_Mo_fitsPalette_50 : decode b_Mo_fitsPalette 50 = .ok (.iadd, 1) := by decide +kernel
theorem d_Mo_fitsPalette_51 : decode b_Mo_fitsPalette 51 = .ok (.iaload, 1) := by decide +kernel
theorem d_Mo_fitsPalette_52 : decode b_Mo_fitsPalette 52 = .ok (.if_icmp .ge 30, 3) := by decide +kernel
theorem d_Mo_fitsPalette_55 : decode b_Mo_fitsPalette 55 = .ok (.lload_n 2, 1) := by decide +kernel
theorem d_Mo_fitsPalette_56 : decode b_Mo_fitsPalette 56 = .ok (.aload_n 0, 1) := by decide +kernel
theorem d_Mo_fitsPalette_57 : decode b_Mo_fitsPalette 57 = .ok (.getfield 37, 3) := by decide +kernel
theorem d_Mo_fitsPalette_60 : decode b_Mo_fitsPalette 60 = .ok (.aload_n 0, 1) := by decide +kernel
theorem d_Mo_fitsPalette_61 : decode b_Mo_fitsPalette 61 = .ok (.getfield 219, 3) := by decide +kernel
theorem d_Mo_fitsPalette_64 : decode b_Mo_fitsPalette 64 = .ok (.iconst 3, 1) := by decide +kernel
theorem d_Mo_fitsPalette_65 : decode b_Mo_fitsPalette 65 = .ok (.iadd, 1) := by decide +kernel
theorem d_Mo_fitsPalette_66 : decode b_Mo_fitsPalette 66 = .ok (.iload 4, 2) := by decide +kernel
theorem d_Mo_fitsPalette_68 : decode b_Mo_fitsPalette 68 = .ok (.iadd, 1) := by decide +kernel
theorem d_Mo_fitsPalette_69 : decode b_Mo_fitsPalette 69 = .ok (.iaload, 1) := by decide +kernel
theorem d_Mo_fitsPalette_70 : decode b_Mo_fitsPalette 70 = .ok (.invokestatic 157, 3) := by decide +kernel
theorem d_Mo_fitsPalette_73 : decode b_Mo_fitsPalette 73 = .ok (.i2l, 1) := by decide +kernel
theorem d_Mo_fitsPalette_74 : decode b_Mo_fitsPalette 74 = .ok (.ladd, 1) := by decide +kernel
theorem d_Mo_fitsPalette_75 : decode b_Mo_fitsPalette 75 = .ok (.lstore_n 2, 1) := by decide +kernel
theorem d_Mo_fitsPalette_76 : decode b_Mo_fitsPalette 76 = .ok (.iinc 4 1, 3) := by decide +kernel
theorem d_Mo_fitsPalette_79 : decode b_Mo_fitsPalette 79 = .ok (.goto (-40), 3) := by decide +kernel
theorem d_Mo_fitsPalette_82 : decode b_Mo_fitsPalette 82 = .ok (.iload_n 1, 1) := by decide +kernel
theorem d_Mo_fitsPalette_83 : decode b_Mo_fitsPalette 83 = .ok (.i2l, 1) := by decide +kernel
theorem d_Mo_fitsPalette_84 : decode b_Mo_fitsPalette 84 = .ok (.iconst 3, 1) := by decide +kernel
theorem d_Mo_fitsPalette_85 : decode b_Mo_fitsPalette 85 = .ok (.aload_n 0, 1) := by decide +kernel
theorem d_Mo_fitsPalette_86 : decode b_Mo_fitsPalette 86 = .ok (.getfield 37, 3) := by decide +kernel
theorem d_Mo_fitsPalette_89 : decode b_Mo_fitsPalette 89 = .ok (.aload_n 0, 1) := by decide +kernel
theorem d_Mo_fitsPalette_90 : decode b_Mo_fitsPalette 90 = .ok (.getfield 219, 3) := by decide +kernel
theorem d_Mo_fitsPalette_93 : decode b_Mo_fitsPalette 93 = .ok (.iconst 2, 1) := by decide +kernel
theorem d_Mo_fitsPalette_94 : decode b_Mo_fitsPalette 94 = .ok (.iadd, 1) := by decide +kernel
theorem d_Mo_fitsPalette_95 : decode b_Mo_fitsPalette 95 = .ok (.iaload, 1) := by decide +kernel
theorem d_Mo_fitsPalette_96 : decode b_Mo_fitsPalette 96 = .ok (.iadd, 1) := by decide +kernel
theorem d_Mo_fitsPalette_97 : decode b_Mo_fitsPalette 97 = .ok (.i2l, 1) := by decide +kernel
theorem d_Mo_fitsPalette_98 : decode b_Mo_fitsPalette 98 = .ok (.lload_n 2, 1) := by decide +kernel
theorem d_Mo_fitsPalette_99 : decode b_Mo_fitsPalette 99 = .ok (.aload_n 0, 1) := by decide +kernel
theorem d_Mo_fitsPalette_100 : decode b_Mo_fitsPalette 100 = .ok (.aload_n 0, 1) := by decide +kernel
theorem d_Mo_fitsPalette_101 : decode b_Mo_fitsPalette 101 = .ok (.getfield 219, 3) := by decide +kernel
theorem d_Mo_fitsPalette_104 : decode b_Mo_fitsPalette 104 = .ok (.invokevirtual 209, 3) := by decide +kernel
theorem d_Mo_fitsPalette_107 : decode b_Mo_fitsPalette 107 = .ok (.i2l, 1) := by decide +kernel
theorem d_Mo_fitsPalette_108 : decode b_Mo_fitsPalette 108 = .ok (.lmul, 1) := by decide +kernel
theorem d_Mo_fitsPalette_109 : decode b_Mo_fitsPalette 109 = .ok (.ladd, 1) := by decide +kernel
theorem d_Mo_fitsPalette_110 : decode b_Mo_fitsPalette 110 = .ok (.lcmp, 1) := by decide +kernel
theorem d_Mo_fitsPalette_111 : decode b_Mo_fitsPalette 111 = .ok (.ifCond .ne 7, 3) := by decide +kernel
theorem d_Mo_fitsPalette_114 : decode b_Mo_fitsPalette 114 = .ok (.iconst 1, 1) := by decide +kernel
theorem d_Mo_fitsPalette_115 : decode b_Mo_fitsPalette 115 = .ok (.goto 4, 3) := by decide +kernel
theorem d_Mo_fitsPalette_118 : decode b_Mo_fitsPalette 118 = .ok (.iconst 0, 1) := by decide +kernel
theorem d_Mo_fitsPalette_119 : decode b_Mo_fitsPalette 119 = .ok (.ireturn, 1) := by decide +kernel
def k_Mo_fitsPalette_104 (t_from : Int32) (t_end : Int32) (f_t_file : Nat → Int32) (v39_2 : Int64) (x104 : Int32) : Int32 :=
  if (lg_cmp ((t_end - t_from : Int32).toInt64) (((3 + (f_t_file (t_from + 2).toNatClampNeg) : Int32).toInt64) + (v39_2 * ((x104 : Int32).toInt64)))) = 0 then 1 else 0
def ok_Mo_fitsPalette_104 (t_from : Int32) (t_end : Int32) (f_t_file : Nat → Int32) (v39_2 : Int64) (x104 : Int32) : Prop :=
  if (lg_cmp ((t_end - t_from : Int32).toInt64) (((3 + (f_t_file (t_from + 2).toNatClampNeg) : Int32).toInt64) + (v39_2 * ((x104 : Int32).toInt64)))) = 0 then True else True
def k_Mo_fitsPalette_70 (kk_39 : Int32 → Int64 → Int32) (v39_4 : Int32) (v39_2 : Int64) (x70 : Int32) : Int32 :=
  kk_39 (v39_4 + 1) (v39_2 + ((x70 : Int32).toInt64))
def ok_Mo_fitsPalette_70 (okk_39 : Int32 → Int64 → Prop) (v39_4 : Int32) (v39_2 : Int64) (x70 : Int32) : Prop :=
  okk_39 (v39_4 + 1) (v39_2 + ((x70 : Int32).toInt64))
def lb_Mo_fitsPalette_39 (t_from : Int32) (t_end : Int32) (f_t_file : Nat → Int32) (kk_39 : Int32 → Int64 → Int32) (v39_4 : Int32) (v39_2 : Int64) : Int32 :=
  if (f_t_file (t_from + 2).toNatClampNeg) ≤ v39_4 then (k_Mo_fitsPalette_104 t_from t_end f_t_file v39_2 (m_Mo_u2 f_t_file t_from)) else (k_Mo_fitsPalette_70 kk_39 v39_4 v39_2 (m_Mo_bytesOf (f_t_file ((t_from + 3) + v39_4).toNatClampNeg)))
def lp_Mo_fitsPalette_39 (t_from : Int32) (t_end : Int32) (f_t_file : Nat → Int32) : Nat → Int32 → Int64 → Int32
  | 0, v39_4, v39_2 => 0
  | n + 1, v39_4, v39_2 => lb_Mo_fitsPalette_39 t_from t_end f_t_file (lp_Mo_fitsPalette_39 t_from t_end f_t_file n) v39_4 v39_2
def olb_Mo_fitsPalette_39 (t_from : Int32) (t_end : Int32) (f_t_file : Nat → Int32) (okk_39 : Int32 → Int64 → Prop) (v39_4 : Int32) (v39_2 : Int64) : Prop :=
  vp_in (t_from + 2) 65536 ∧ (if (f_t_file (t_from + 2).toNatClampNeg) ≤ v39_4 then (vp_in (t_from + 2) 65536 ∧ om_Mo_u2 t_from ∧ (ok_Mo_fitsPalette_104 t_from t_end f_t_file v39_2 (m_Mo_u2 f_t_file t_from))) else (vp_in ((t_from + 3) + v39_4) 65536 ∧ om_Mo_bytesOf ∧ (ok_Mo_fitsPalette_70 okk_39 v39_4 v39_2 (m_Mo_bytesOf (f_t_file ((t_from + 3) + v39_4).toNatClampNeg)))))
def olp_Mo_fitsPalette_39 (t_from : Int32) (t_end : Int32) (f_t_file : Nat → Int32) : Nat → Int32 → Int64 → Prop
  | 0, _, _ => True
  | n + 1, v39_4, v39_2 => olb_Mo_fitsPalette_39 t_from t_end f_t_file (olp_Mo_fitsPalette_39 t_from t_end f_t_file n) v39_4 v39_2
def om_Mo_fitsPalette (t_from : Int32) (t_end : Int32) (f_t_file : Nat → Int32) : Prop :=
  if (t_end - t_from) < 3 then True else (vp_in (t_from + 2) 65536 ∧ (if (3 + (f_t_file (t_from + 2).toNatClampNeg)) ≤ (t_end - t_from) then (olp_Mo_fitsPalette_39 t_from t_end f_t_file (((f_t_file (t_from + 2).toNatClampNeg).toInt - (0 : Int32).toInt).toNat + 1) 0 0) else True))
def m_Mo_fitsPalette (t_from : Int32) (t_end : Int32) (f_t_file : Nat → Int32) : Int32 :=
  if (t_end - t_from) < 3 then 0 else (if (3 + (f_t_file (t_from + 2).toNatClampNeg)) ≤ (t_end - t_from) then (lp_Mo_fitsPalette_39 t_from t_end f_t_file (((f_t_file (t_from + 2).toNatClampNeg).toInt - (0 : Int32).toInt).toNat + 1) 0 0) else 0)
set_option maxHeartbeats 4000000 in
set_option maxRecDepth 100000 in
theorem c_Mo_fitsPalette (l : Launch) (D : va_G) (cB cI cJ : ClassId) (h_t h_t_bits h_t_profile h_t_columnBits h_t_numbers h_t_map h_t_line h_t_resolutions h_t_file : Nat) (t_thrown : Int32) (t_high : Int32) (t_wide : Int32) (t_components : Int32) (t_unknown : Int32) (t_rights : Int32) (t_colours : Int32) (t_profiled : Int32) (t_entries : Int32) (t_columns : Int32) (t_maps : Int32) (t_lines : Int32) (t_size : Int32) (t_scanned : Int32) (t_refusedAt : Int32) (t_cursor : Int32) (t_streamAt : Int32) (t_streamMany : Int32) (t_name : Int32) (t_from : Int32) (t_end : Int32) (t_sizeAt : Int32) (t_bitsAt : Int32) (t_colourAt : Int32) (t_colourEnd : Int32) (t_paletteAt : Int32) (t_mapAt : Int32) (t_mapEnd : Int32) (t_channelsAt : Int32) (t_captureAt : Int32) (t_displayAt : Int32) (t_resolved : Int32) (f_t_file : Nat → Int32) (hO : om_Mo_fitsPalette t_from t_end f_t_file) (sz : Nat) : Ct l D cB cI cJ y_Mo_fitsPalette b_Mo_fitsPalette 5 (some .boolean) 1 21 0 0 [.ref h_t] [(h_t, .inr (7, (.int t_thrown :: .int t_high :: .int t_wide :: .int t_components :: .ref h_t_bits :: .int t_unknown :: .int t_rights :: .int t_colours :: .int t_profiled :: .ref h_t_profile :: .int t_entries :: .int t_columns :: .ref h_t_columnBits :: .ref h_t_numbers :: .int t_maps :: .ref h_t_map :: .int t_lines :: .ref h_t_line :: .ref h_t_resolutions :: .ref h_t_file :: .int t_size :: .int t_scanned :: .int t_refusedAt :: .int t_cursor :: .int t_streamAt :: .int t_streamMany :: .int t_name :: .int t_from :: .int t_end :: .int t_sizeAt :: .int t_bitsAt :: .int t_colourAt :: .int t_colourEnd :: .int t_paletteAt :: .int t_mapAt :: .int t_mapEnd :: .int t_channelsAt :: .int t_captureAt :: .int t_displayAt :: .int t_resolved :: []))), (h_t_file, .inl (cI, 65536, .inl f_t_file))] (fun v w1 => ∃ (x : Int32), x = m_Mo_fitsPalette t_from t_end f_t_file ∧ v = some (.int x) ∧ w1 = [(h_t, .inr (7, (.int t_thrown :: .int t_high :: .int t_wide :: .int t_components :: .ref h_t_bits :: .int t_unknown :: .int t_rights :: .int t_colours :: .int t_profiled :: .ref h_t_profile :: .int t_entries :: .int t_columns :: .ref h_t_columnBits :: .ref h_t_numbers :: .int t_maps :: .ref h_t_map :: .int t_lines :: .ref h_t_line :: .ref h_t_resolutions :: .ref h_t_file :: .int t_size :: .int t_scanned :: .int t_refusedAt :: .int t_cursor :: .int t_streamAt :: .int t_streamMany :: .int t_name :: .int t_from :: .int t_end :: .int t_sizeAt :: .int t_bitsAt :: .int t_colourAt :: .int t_colourEnd :: .int t_paletteAt :: .int t_mapAt :: .int t_mapEnd :: .int t_channelsAt :: .int t_captureAt :: .int t_displayAt :: .int t_resolved :: []))), (h_t_file, .inl (cI, 65536, .inl f_t_file))]) sz := by
  refine Ct.of (by decide) (Nat.le_of_ble_eq_true rfl) ?_
  intro p e R s m args below meth c A ls Q hx hb hr hlk hml hta hown hin hK hN hA hRf hRl hRc hRs hP hD hS hl hQ
  have hl : lv_has ls 5 [(0, .ref h_t)] := hl
  obtain ⟨RES, E0⟩ : ∃ R, m_Mo_fitsPalette t_from t_end f_t_file = R := ⟨_, rfl⟩
  have E := E0
  have O := hO
  refine lv_aload_n hx hb d_Mo_fitsPalette_0 rfl (lv_at hl 0 rfl) ?_
  refine va_get (D := D) (v := .int t_end) hx hb hta i_Mo hown hK hP 0 rfl rfl 28 (by decide) (hta _ lk_Mo_222) (fun _ h9 => h9) rfl d_Mo_fitsPalette_1 ?_
  refine lv_aload_n hx hb d_Mo_fitsPalette_4 rfl (lv_at hl 0 rfl) ?_
  refine va_get (D := D) (v := .int t_from) hx hb hta i_Mo hown hK hP 0 rfl rfl 27 (by decide) (hta _ lk_Mo_219) (fun _ h9 => h9) rfl d_Mo_fitsPalette_5 ?_
  refine lv_isub hx hb d_Mo_fitsPalette_8 ?_
  refine lv_istore_n (lv' := [(1, .int (t_end - t_from)), (0, .ref h_t)]) hx hb d_Mo_fitsPalette_9 rfl hl (by decide) rfl (fun ls hl => ?_)
  refine lv_iload_n hx hb d_Mo_fitsPalette_10 rfl (lv_at hl 0 rfl) ?_
  refine lv_iconst (v := 3) hx hb d_Mo_fitsPalette_11 (by decide) ?_
  refine lv_icmp_lt (tgt := 32) hx hb d_Mo_fitsPalette_12 (by decide) (fun c_12 => ?_) (fun c_12 => ?_)
  · have E := (if_pos c_12).symm.trans E
    have O := Eq.mp (if_pos c_12) O
    refine lv_iconst (v := 0) hx hb d_Mo_fitsPalette_32 (by decide) ?_
    exact kr_z hx hb hr hlk hQ hK hP hD hS ⟨(0 : Int32), E.trans E0.symm, rfl, rfl⟩ (by omega) (by omega) rfl d_Mo_fitsPalette_33
  · have E := (if_neg c_12).symm.trans E
    have O := Eq.mp (if_neg c_12) O
    refine lv_iload_n hx hb d_Mo_fitsPalette_15 rfl (lv_at hl 0 rfl) ?_
    refine lv_iconst (v := 3) hx hb d_Mo_fitsPalette_16 (by decide) ?_
    refine lv_aload_n hx hb d_Mo_fitsPalette_17 rfl (lv_at hl 1 rfl) ?_
    refine va_get (D := D) (v := .ref h_t_file) hx hb hta i_Mo hown hK hP 0 rfl rfl 19 (by decide) (hta _ lk_Mo_37) (fun _ h9 => h9) rfl d_Mo_fitsPalette_18 ?_
    refine lv_aload_n hx hb d_Mo_fitsPalette_21 rfl (lv_at hl 1 rfl) ?_
    refine va_get (D := D) (v := .int t_from) hx hb hta i_Mo hown hK hP 0 rfl rfl 27 (by decide) (hta _ lk_Mo_219) (fun _ h9 => h9) rfl d_Mo_fitsPalette_22 ?_
    refine lv_iconst (v := 2) hx hb d_Mo_fitsPalette_25 (by decide) ?_
    refine lv_iadd hx hb d_Mo_fitsPalette_26 ?_
    refine va_iald hx hb hK hP 1 1 rfl rfl O.1 d_Mo_fitsPalette_27 ?_
    have O := O.2
    refine lv_iadd hx hb d_Mo_fitsPalette_28 ?_
    refine lv_icmp_ge (tgt := 34) hx hb d_Mo_fitsPalette_29 (by decide) (fun c_29 => ?_) (fun c_29 => ?_)
    · have E := (if_pos c_29).symm.trans E
      have O := Eq.mp (if_pos c_29) O
      refine lv_lconst (v := 0) hx hb d_Mo_fitsPalette_34 (by decide) ?_
      refine lv_lstore_n (lv' := [(2, .long 0), (1, .int (t_end - t_from)), (0, .ref h_t)]) hx hb d_Mo_fitsPalette_35 rfl hl (by decide) rfl (fun ls hl => ?_)
      refine lv_iconst (v := 0) hx hb d_Mo_fitsPalette_36 (by decide) ?_
      refine lv_istore (lv' := [(4, .int 0), (2, .long 0), (1, .int (t_end - t_from)), (0, .ref h_t)]) hx hb d_Mo_fitsPalette_37 hl (by decide) rfl (fun ls hl => ?_)
      have L_39 : ∀ (n : Nat) (v39_4 : Int32) (v39_2 : Int64), ((f_t_file (t_from + 2).toNatClampNeg).toInt - v39_4.toInt).toNat < n → lp_Mo_fitsPalette_39 t_from t_end f_t_file n v39_4 v39_2 = RES → olp_Mo_fitsPalette_39 t_from t_end f_t_file n v39_4 v39_2 → ∀ (H : Heap) (locs : List Loc), va_P D classes [(h_t, .inr (7, (.int t_thrown :: .int t_high :: .int t_wide :: .int t_components :: .ref h_t_bits :: .int t_unknown :: .int t_rights :: .int t_colours :: .int t_profiled :: .ref h_t_profile :: .int t_entries :: .int t_columns :: .ref h_t_columnBits :: .ref h_t_numbers :: .int t_maps :: .ref h_t_map :: .int t_lines :: .ref h_t_line :: .ref h_t_resolutions :: .ref h_t_file :: .int t_size :: .int t_scanned :: .int t_refusedAt :: .int t_cursor :: .int t_streamAt :: .int t_streamMany :: .int t_name :: .int t_from :: .int t_end :: .int t_sizeAt :: .int t_bitsAt :: .int t_colourAt :: .int t_colourEnd :: .int t_paletteAt :: .int t_mapAt :: .int t_mapEnd :: .int t_channelsAt :: .int t_captureAt :: .int t_displayAt :: .int t_resolved :: []))), (h_t_file, .inl (cI, 65536, .inl f_t_file))] H → va_D A [(h_t, .inr (7, (.int t_thrown :: .int t_high :: .int t_wide :: .int t_components :: .ref h_t_bits :: .int t_unknown :: .int t_rights :: .int t_colours :: .int t_profiled :: .ref h_t_profile :: .int t_entries :: .int t_columns :: .ref h_t_columnBits :: .ref h_t_numbers :: .int t_maps :: .ref h_t_map :: .int t_lines :: .ref h_t_line :: .ref h_t_resolutions :: .ref h_t_file :: .int t_size :: .int t_scanned :: .int t_refusedAt :: .int t_cursor :: .int t_streamAt :: .int t_streamMany :: .int t_name :: .int t_from :: .int t_end :: .int t_sizeAt :: .int t_bitsAt :: .int t_colourAt :: .int t_colourEnd :: .int t_paletteAt :: .int t_mapAt :: .int t_mapEnd :: .int t_channelsAt :: .int t_captureAt :: .int t_displayAt :: .int t_resolved :: []))), (h_t_file, .inl (cI, 65536, .inl f_t_file))] → va_S A s.heap H locs → ∀ ls : Array Slot, lv_has ls 5 [(4, .int v39_4), (2, .long v39_2), (1, .int (t_end - t_from)), (0, .ref h_t)] → W p l e R s m args below meth c H locs 0 0 Q (F0 m 39 ls []) := by
        intro n
        induction n with
        | zero => intro v39_4 v39_2 hlt; exact absurd hlt (Nat.not_lt_zero _)
        | succ n ih =>
          intro v39_4 v39_2 hlt_39 E O H locs hP hD hS ls hl
          have E : lb_Mo_fitsPalette_39 t_from t_end f_t_file (lp_Mo_fitsPalette_39 t_from t_end f_t_file n) v39_4 v39_2 = RES := E
          have O : olb_Mo_fitsPalette_39 t_from t_end f_t_file (olp_Mo_fitsPalette_39 t_from t_end f_t_file n) v39_4 v39_2 := O
          generalize lp_Mo_fitsPalette_39 t_from t_end f_t_file n = kk_39 at ih E
          generalize olp_Mo_fitsPalette_39 t_from t_end f_t_file n = okk_39 at ih O
          have ih_39 := ih
          clear ih
          refine lv_iload hx hb d_Mo_fitsPalette_39 (lv_at hl 0 rfl) ?_
          refine lv_aload_n hx hb d_Mo_fitsPalette_41 rfl (lv_at hl 3 rfl) ?_
          refine va_get (D := D) (v := .ref h_t_file) hx hb hta i_Mo hown hK hP 0 rfl rfl 19 (by decide) (hta _ lk_Mo_37) (fun _ h9 => h9) rfl d_Mo_fitsPalette_42 ?_
          refine lv_aload_n hx hb d_Mo_fitsPalette_45 rfl (lv_at hl 3 rfl) ?_
          refine va_get (D := D) (v := .int t_from) hx hb hta i_Mo hown hK hP 0 rfl rfl 27 (by decide) (hta _ lk_Mo_219) (fun _ h9 => h9) rfl d_Mo_fitsPalette_46 ?_
          refine lv_iconst (v := 2) hx hb d_Mo_fitsPalette_49 (by decide) ?_
          refine lv_iadd hx hb d_Mo_fitsPalette_50 ?_
          refine va_iald hx hb hK hP 1 1 rfl rfl O.1 d_Mo_fitsPalette_51 ?_
          have O := O.2
          refine lv_icmp_ge (tgt := 82) hx hb d_Mo_fitsPalette_52 (by decide) (fun c_52 => ?_) (fun c_52 => ?_)
          · have E := (if_pos c_52).symm.trans E
            have O := Eq.mp (if_pos c_52) O
            refine lv_iload_n hx hb d_Mo_fitsPalette_82 rfl (lv_at hl 2 rfl) ?_
            refine lv_i2l (v := (t_end - t_from : Int32).toInt64) hx hb d_Mo_fitsPalette_83 rfl ?_
            refine lv_iconst (v := 3) hx hb d_Mo_fitsPalette_84 (by decide) ?_
            refine lv_aload_n hx hb d_Mo_fitsPalette_85 rfl (lv_at hl 3 rfl) ?_
            refine va_get (D := D) (v := .ref h_t_file) hx hb hta i_Mo hown hK hP 0 rfl rfl 19 (by decide) (hta _ lk_Mo_37) (fun _ h9 => h9) rfl d_Mo_fitsPalette_86 ?_
            refine lv_aload_n hx hb d_Mo_fitsPalette_89 rfl (lv_at hl 3 rfl) ?_
            refine va_get (D := D) (v := .int t_from) hx hb hta i_Mo hown hK hP 0 rfl rfl 27 (by decide) (hta _ lk_Mo_219) (fun _ h9 => h9) rfl d_Mo_fitsPalette_90 ?_
            refine lv_iconst (v := 2) hx hb d_Mo_fitsPalette_93 (by decide) ?_
            refine lv_iadd hx hb d_Mo_fitsPalette_94 ?_
            refine va_iald hx hb hK hP 1 1 rfl rfl O.1 d_Mo_fitsPalette_95 ?_
            have O := O.2
            refine lv_iadd hx hb d_Mo_fitsPalette_96 ?_
            refine lv_i2l (v := (3 + (f_t_file (t_from + 2).toNatClampNeg) : Int32).toInt64) hx hb d_Mo_fitsPalette_97 rfl ?_
            refine lv_lload_n hx hb d_Mo_fitsPalette_98 rfl (lv_at hl 1 rfl) ?_
            refine lv_aload_n hx hb d_Mo_fitsPalette_99 rfl (lv_at hl 3 rfl) ?_
            refine lv_aload_n hx hb d_Mo_fitsPalette_100 rfl (lv_at hl 3 rfl) ?_
            refine va_get (D := D) (v := .int t_from) hx hb hta i_Mo hown hK hP 0 rfl rfl 27 (by decide) (hta _ lk_Mo_219) (fun _ h9 => h9) rfl d_Mo_fitsPalette_101 ?_
            refine kc_V (As := [.int t_from]) (rest := [.long v39_2, .long ((3 + (f_t_file (t_from + 2).toNatClampNeg) : Int32).toInt64), .long ((t_end - t_from : Int32).toInt64)]) (wr := []) [0, 1] [] ⟨hx, hb, hml, hown, hta⟩ hK hN hP hD hS hA (c_Mo_u2 l D cB cI cJ h_t h_t_bits h_t_profile h_t_columnBits h_t_numbers h_t_map h_t_line h_t_resolutions h_t_file t_thrown t_high t_wide t_components t_unknown t_rights t_colours t_profiled t_entries t_columns t_maps t_lines t_size t_scanned t_refusedAt t_cursor t_streamAt t_streamMany t_name t_from t_end t_sizeAt t_bitsAt t_colourAt t_colourEnd t_paletteAt t_mapAt t_mapEnd t_channelsAt t_captureAt t_displayAt t_resolved f_t_file t_from O.1 _) (hta _ lk_Mo_209) (hta _ ini_Mo) (hta _ code_Mo_u2) code_Mo_u2 (hta _ inst_Mo_u2) (hta _ sel_Mo_u2) hd_Mo_u2 rfl ⟨by omega, by omega⟩ (ci := 7) 0 rfl rfl rfl rfl (by decide) (by decide) (by decide) rfl hl.1 (lv_room (Nat.le_of_ble_eq_true rfl)) d_Mo_fitsPalette_104 ⟨by omega, by omega⟩ (fun v w1 H locs hw hP hD hS => ?_)
            obtain ⟨x104, hx104, rfl, rfl⟩ := hw
            have hP : va_P D classes [(h_t, .inr (7, (.int t_thrown :: .int t_high :: .int t_wide :: .int t_components :: .ref h_t_bits :: .int t_unknown :: .int t_rights :: .int t_colours :: .int t_profiled :: .ref h_t_profile :: .int t_entries :: .int t_columns :: .ref h_t_columnBits :: .ref h_t_numbers :: .int t_maps :: .ref h_t_map :: .int t_lines :: .ref h_t_line :: .ref h_t_resolutions :: .ref h_t_file :: .int t_size :: .int t_scanned :: .int t_refusedAt :: .int t_cursor :: .int t_streamAt :: .int t_streamMany :: .int t_name :: .int t_from :: .int t_end :: .int t_sizeAt :: .int t_bitsAt :: .int t_colourAt :: .int t_colourEnd :: .int t_paletteAt :: .int t_mapAt :: .int t_mapEnd :: .int t_channelsAt :: .int t_captureAt :: .int t_displayAt :: .int t_resolved :: []))), (h_t_file, .inl (cI, 65536, .inl f_t_file))] H := hP.sub [0, 1] rfl
            have hD : va_D A [(h_t, .inr (7, (.int t_thrown :: .int t_high :: .int t_wide :: .int t_components :: .ref h_t_bits :: .int t_unknown :: .int t_rights :: .int t_colours :: .int t_profiled :: .ref h_t_profile :: .int t_entries :: .int t_columns :: .ref h_t_columnBits :: .ref h_t_numbers :: .int t_maps :: .ref h_t_map :: .int t_lines :: .ref h_t_line :: .ref h_t_resolutions :: .ref h_t_file :: .int t_size :: .int t_scanned :: .int t_refusedAt :: .int t_cursor :: .int t_streamAt :: .int t_streamMany :: .int t_name :: .int t_from :: .int t_end :: .int t_sizeAt :: .int t_bitsAt :: .int t_colourAt :: .int t_colourEnd :: .int t_paletteAt :: .int t_mapAt :: .int t_mapEnd :: .int t_channelsAt :: .int t_captureAt :: .int t_displayAt :: .int t_resolved :: []))), (h_t_file, .inl (cI, 65536, .inl f_t_file))] := hD.sub [0, 1] (by decide) rfl
            refine W.eq (g2 := F0 m 107 ls [.int x104, .long v39_2, .long ((3 + (f_t_file (t_from + 2).toNatClampNeg) : Int32).toInt64), .long ((t_end - t_from : Int32).toInt64)]) rfl ?_
            have O := O.2
            have E : k_Mo_fitsPalette_104 t_from t_end f_t_file v39_2 x104 = RES := (congrArg (k_Mo_fitsPalette_104 t_from t_end f_t_file v39_2) hx104).trans E
            have O : ok_Mo_fitsPalette_104 t_from t_end f_t_file v39_2 x104 := by rw [hx104]; exact O
            refine lv_i2l (v := (x104 : Int32).toInt64) hx hb d_Mo_fitsPalette_107 rfl ?_
            refine lv_lmul hx hb d_Mo_fitsPalette_108 ?_
            refine lv_ladd hx hb d_Mo_fitsPalette_109 ?_
            refine W.lcmp hx hb d_Mo_fitsPalette_110 ?_
            refine lv_if_ne (tgt := 118) hx hb d_Mo_fitsPalette_111 (by decide) (fun c_111 => ?_) (fun c_111 => ?_)
            · have E := (if_neg c_111).symm.trans E
              have O := Eq.mp (if_neg c_111) O
              refine lv_iconst (v := 0) hx hb d_Mo_fitsPalette_118 (by decide) ?_
              exact kr_z hx hb hr hlk hQ hK hP hD hS ⟨(0 : Int32), E.trans E0.symm, rfl, rfl⟩ (by omega) (by omega) rfl d_Mo_fitsPalette_119
            · have E := (if_pos c_111).symm.trans E
              have O := Eq.mp (if_pos c_111) O
              refine lv_iconst (v := 1) hx hb d_Mo_fitsPalette_114 (by decide) ?_
              refine lv_goto (tgt := 119) hx hb d_Mo_fitsPalette_115 (by decide) ?_
              exact kr_z hx hb hr hlk hQ hK hP hD hS ⟨(1 : Int32), E.trans E0.symm, rfl, rfl⟩ (by omega) (by omega) rfl d_Mo_fitsPalette_119
          · have E := (if_neg c_52).symm.trans E
            have O := Eq.mp (if_neg c_52) O
            refine lv_lload_n hx hb d_Mo_fitsPalette_55 rfl (lv_at hl 1 rfl) ?_
            refine lv_aload_n hx hb d_Mo_fitsPalette_56 rfl (lv_at hl 3 rfl) ?_
            refine va_get (D := D) (v := .ref h_t_file) hx hb hta i_Mo hown hK hP 0 rfl rfl 19 (by decide) (hta _ lk_Mo_37) (fun _ h9 => h9) rfl d_Mo_fitsPalette_57 ?_
            refine lv_aload_n hx hb d_Mo_fitsPalette_60 rfl (lv_at hl 3 rfl) ?_
            refine va_get (D := D) (v := .int t_from) hx hb hta i_Mo hown hK hP 0 rfl rfl 27 (by decide) (hta _ lk_Mo_219) (fun _ h9 => h9) rfl d_Mo_fitsPalette_61 ?_
            refine lv_iconst (v := 3) hx hb d_Mo_fitsPalette_64 (by decide) ?_
            refine lv_iadd hx hb d_Mo_fitsPalette_65 ?_
            refine lv_iload hx hb d_Mo_fitsPalette_66 (lv_at hl 0 rfl) ?_
            refine lv_iadd hx hb d_Mo_fitsPalette_68 ?_
            refine va_iald hx hb hK hP 1 1 rfl rfl O.1 d_Mo_fitsPalette_69 ?_
            have O := O.2
            refine kc_S (As := [.int (f_t_file ((t_from + 3) + v39_4).toNatClampNeg)]) (rest := [.long v39_2]) (wr := [(h_t, .inr (7, (.int t_thrown :: .int t_high :: .int t_wide :: .int t_components :: .ref h_t_bits :: .int t_unknown :: .int t_rights :: .int t_colours :: .int t_profiled :: .ref h_t_profile :: .int t_entries :: .int t_columns :: .ref h_t_columnBits :: .ref h_t_numbers :: .int t_maps :: .ref h_t_map :: .int t_lines :: .ref h_t_line :: .ref h_t_resolutions :: .ref h_t_file :: .int t_size :: .int t_scanned :: .int t_refusedAt :: .int t_cursor :: .int t_streamAt :: .int t_streamMany :: .int t_name :: .int t_from :: .int t_end :: .int t_sizeAt :: .int t_bitsAt :: .int t_colourAt :: .int t_colourEnd :: .int t_paletteAt :: .int t_mapAt :: .int t_mapEnd :: .int t_channelsAt :: .int t_captureAt :: .int t_displayAt :: .int t_resolved :: []))), (h_t_file, .inl (cI, 65536, .inl f_t_file))]) [] [0, 1] ⟨hx, hb, hml, hown, hta⟩ hK hN hP hD hS hA (c_Mo_bytesOf l D cB cI cJ (f_t_file ((t_from + 3) + v39_4).toNatClampNeg) O.1 _) (hta _ lk_Mo_157) (hta _ ini_Mo) (hta _ code_Mo_bytesOf) code_Mo_bytesOf (hta _ stat_Mo_bytesOf) hd_Mo_bytesOf rfl ⟨by omega, by omega⟩ rfl rfl (by decide) (by decide) (by decide) rfl hl.1 (lv_room (Nat.le_of_ble_eq_true rfl)) d_Mo_fitsPalette_70 ⟨by omega, by omega⟩ (fun v w1 H locs hw hP hD hS => ?_)
            obtain ⟨x70, hx70, rfl, rfl⟩ := hw
            have hP : va_P D classes [(h_t, .inr (7, (.int t_thrown :: .int t_high :: .int t_wide :: .int t_components :: .ref h_t_bits :: .int t_unknown :: .int t_rights :: .int t_colours :: .int t_profiled :: .ref h_t_profile :: .int t_entries :: .int t_columns :: .ref h_t_columnBits :: .ref h_t_numbers :: .int t_maps :: .ref h_t_map :: .int t_lines :: .ref h_t_line :: .ref h_t_resolutions :: .ref h_t_file :: .int t_size :: .int t_scanned :: .int t_refusedAt :: .int t_cursor :: .int t_streamAt :: .int t_streamMany :: .int t_name :: .int t_from :: .int t_end :: .int t_sizeAt :: .int t_bitsAt :: .int t_colourAt :: .int t_colourEnd :: .int t_paletteAt :: .int t_mapAt :: .int t_mapEnd :: .int t_channelsAt :: .int t_captureAt :: .int t_displayAt :: .int t_resolved :: []))), (h_t_file, .inl (cI, 65536, .inl f_t_file))] H := hP.sub [0, 1] rfl
            have hD : va_D A [(h_t, .inr (7, (.int t_thrown :: .int t_high :: .int t_wide :: .int t_components :: .ref h_t_bits :: .int t_unknown :: .int t_rights :: .int t_colours :: .int t_profiled :: .ref h_t_profile :: .int t_entries :: .int t_columns :: .ref h_t_columnBits :: .ref h_t_numbers :: .int t_maps :: .ref h_t_map :: .int t_lines :: .ref h_t_line :: .ref h_t_resolutions :: .ref h_t_file :: .int t_size :: .int t_scanned :: .int t_refusedAt :: .int t_cursor :: .int t_streamAt :: .int t_streamMany :: .int t_name :: .int t_from :: .int t_end :: .int t_sizeAt :: .int t_bitsAt :: .int t_colourAt :: .int t_colourEnd :: .int t_paletteAt :: .int t_mapAt :: .int t_mapEnd :: .int t_channelsAt :: .int t_captureAt :: .int t_displayAt :: .int t_resolved :: []))), (h_t_file, .inl (cI, 65536, .inl f_t_file))] := hD.sub [0, 1] (by decide) rfl
            refine W.eq (g2 := F0 m 73 ls [.int x70, .long v39_2]) rfl ?_
            have O := O.2
            have E : k_Mo_fitsPalette_70 kk_39 v39_4 v39_2 x70 = RES := (congrArg (k_Mo_fitsPalette_70 kk_39 v39_4 v39_2) hx70).trans E
            have O : ok_Mo_fitsPalette_70 okk_39 v39_4 v39_2 x70 := by rw [hx70]; exact O
            refine lv_i2l (v := (x70 : Int32).toInt64) hx hb d_Mo_fitsPalette_73 rfl ?_
            refine lv_ladd hx hb d_Mo_fitsPalette_74 ?_
            refine lv_lstore_n (lv' := [(2, .long (v39_2 + ((x70 : Int32).toInt64))), (4, .int v39_4), (1, .int (t_end - t_from)), (0, .ref h_t)]) hx hb d_Mo_fitsPalette_75 rfl hl (by decide) rfl (fun ls hl => ?_)
            refine lv_iinc (v := v39_4 + 1) (lv' := [(4, .int (v39_4 + 1)), (2, .long (v39_2 + ((x70 : Int32).toInt64))), (1, .int (t_end - t_from)), (0, .ref h_t)]) hx hb d_Mo_fitsPalette_76 hl (k := 1) rfl rfl (by decide) rfl (fun ls hl => ?_)
            refine lv_goto (tgt := 39) hx hb d_Mo_fitsPalette_79 (by decide) ?_
            exact ih_39 (v39_4 + 1) (v39_2 + ((x70 : Int32).toInt64)) (Nat.lt_of_lt_of_le (tm_up c_52) (Nat.le_of_lt_succ hlt_39)) E O _ _ hP hD hS ls (lv_sub hl [0, 1, 2, 3] rfl)
      exact L_39 _ 0 0 (Nat.lt_succ_self _) E O _ _ hP hD hS ls (lv_sub hl [0, 1, 2, 3] rfl)
    · have E := (if_neg c_29).symm.trans E
      have O := Eq.mp (if_neg c_29) O
      refine lv_iconst (v := 0) hx hb d_Mo_fitsPalette_32 (by decide) ?_
      exact kr_z hx hb hr hlk hQ hK hP hD hS ⟨(0 : Int32), E.trans E0.symm, rfl, rfl⟩ (by omega) (by omega) rfl d_Mo_fitsPalette_33
theorem d_Mo_fitsHead_0 : decode b_Mo_fitsHead 0 = .ok (.aload_n 0, 1) := by decide +kernel
theorem d_Mo_fitsHead_1 : decode b_Mo_fitsHead 1 = .ok (.getfield 222, 3) := by decide +kernel
theorem d_Mo_fitsHead_4 : decode b_Mo_fitsHead 4 = .ok (.aload_n 0, 1) := by decide +kernel
theorem d_Mo_fitsHead_5 : decode b_Mo_fitsHead 5 = .ok (.getfield 219, 3) := by decide +kernel
theorem d_Mo_fitsHead_8 : decode b_Mo_fitsHead 8 = .ok (.isub, 1) := by decide +kernel
theorem d_Mo_fitsHead_9 : decode b_Mo_fitsHead 9 = .ok (.istore_n 1, 1) := by decide +kernel
theorem d_Mo_fitsHead_10 : decode b_Mo_fitsHead 10 = .ok (.aload_n 0, 1) := by decide +kernel
theorem d_Mo_fitsHead_11 : decode b_Mo_fitsHead 11 = .ok (.getfield 216, 3) := by decide +kernel
theorem d_Mo_fitsHead_14 : decode b_Mo_fitsHead 14 = .ok (.lookupswitch 171 #[(1651532643, 70), (1667523942, 143), (1668112752, 126), (1668246642, 91), (1768449138, 58), (1885564018, 121)], 58) := by decide +kernel
theorem d_Mo_fitsHead_72 : decode b_Mo_fitsHead 72 = .ok (.iload_n 1, 1) := by decide +kernel
theorem d_Mo_fitsHead_73 : decode b_Mo_fitsHead 73 = .ok (.bipush 14, 2) := by decide +kernel
theorem d_Mo_fitsHead_75 : decode b_Mo_fitsHead 75 = .ok (.if_icmp .ne 7, 3) := by decide +kernel
theorem d_Mo_fitsHead_78 : decode b_Mo_fitsHead 78 = .ok (.iconst 1, 1) := by decide +kernel
theorem d_Mo_fitsHead_79 : decode b_Mo_fitsHead 79 = .ok (.goto 4, 3) := by decide +kernel
theorem d_Mo_fitsHead_82 : decode b_Mo_fitsHead 82 = .ok (.iconst 0, 1) := by decide +kernel
theorem d_Mo_fitsHead_83 : decode b_Mo_fitsHead 83 = .ok (.ireturn, 1) := by decide +kernel
theorem d_Mo_fitsHead_84 : decode b_Mo_fitsHead 84 = .ok (.iload_n 1, 1) := by decide +kernel
theorem d_Mo_fitsHead_85 : decode b_Mo_fitsHead 85 = .ok (.aload_n 0, 1) := by decide +kernel
theorem d_Mo_fitsHead_86 : decode b_Mo_fitsHead 86 = .ok (.aload_n 0, 1) := by decide +kernel
theorem d_Mo_fitsHead_87 : decode b_Mo_fitsHead 87 = .ok (.getfield 226, 3) := by decide +kernel
theorem d_Mo_fitsHead_90 : decode b_Mo_fitsHead 90 = .ok (.bipush 8, 2) := by decide +kernel
theorem d_Mo_fitsHead_92 : decode b_Mo_fitsHead 92 = .ok (.iadd, 1) := by decide +kernel
theorem d_Mo_fitsHead_93 : decode b_Mo_fitsHead 93 = .ok (.invokevirtual 209, 3) := by decide +kernel
theorem d_Mo_fitsHead_96 : decode b_Mo_fitsHead 96 = .ok (.if_icmp .ne 7, 3) := by decide +kernel
theorem d_Mo_fitsHead_99 : decode b_Mo_fitsHead 99 = .ok (.iconst 1, 1) := by decide +kernel
theorem d_Mo_fitsHead_100 : decode b_Mo_fitsHead 100 = .ok (.goto 4, 3) := by decide +kernel
theorem d_Mo_fitsHead_103 : decode b_Mo_fitsHead 103 = .ok (.iconst 0, 1) := by decide +kernel
theorem d_Mo_fitsHead_104 : decode b_Mo_fitsHead 104 = .ok (.ireturn, 1) := by decide +kernel
theorem d_Mo_fitsHead_105 : decode b_Mo_fitsHead 105 = .ok (.iload_n 1, 1) := by decide +kernel
theorem d_Mo_fitsHead_106 : decode b_Mo_fitsHead 106 = .ok (.iconst 4, 1) := by decide +kernel
theorem d_Mo_fitsHead_107 : decode b_Mo_fitsHead 107 = .ok (.if_icmp .lt 26, 3) := by decide +kernel
theorem d_Mo_fitsHead_110 : decode b_Mo_fitsHead 110 = .ok (.aload_n 0, 1) := by decide +kernel
theorem d_Mo_fitsHead_111 : decode b_Mo_fitsHead 111 = .ok (.getfield 37, 3) := by decide +kernel
theorem d_Mo_fitsHead_114 : decode b_Mo_fitsHead 114 = .ok (.aload_n 0, 1) := by decide +kernel
theorem d_Mo_fitsHead_115 : decode b_Mo_fitsHead 115 = .ok (.getfield 219, 3) := by decide +kernel
theorem d_Mo_fitsHead_118 : decode b_Mo_fitsHead 118 = .ok (.iaload, 1) := by decide +kernel
theorem d_Mo_fitsHead_119 : decode b_Mo_fitsHead 119 = .ok (.iconst 1, 1) := by decide +kernel
theorem d_Mo_fitsHead_120 : decode b_Mo_fitsHead 120 = .ok (.if_icmp .ne 9, 3) := by decide +kernel
theorem d_Mo_fitsHead_123 : decode b_Mo_fitsHead 123 = .ok (.iload_n 1, 1) := by decide +kernel
theorem d_Mo_fitsHead_124 : decode b_Mo_fitsHead 124 = .ok (.bipush 7, 2) := by decide +kernel
theorem d_Mo_fitsHead_126 : decode b_Mo_fitsHead 126 = .ok (.if_icmp .ne 7, 3) := by decide +kernel
theorem d_Mo_fitsHead_129 : decode b_Mo_fitsHead 129 = .ok (.iconst 1, 1) := by decide +kernel
theorem d_Mo_fitsHead_130 : decode b_Mo_fitsHead 130 = .ok (.goto 4, 3) := by decide +kernel
theorem d_Mo_fitsHead_133 : decode b_Mo_fitsHead 133 = .ok (.iconst 0, 1) := by decide +kernel
theorem d_Mo_fitsHead_134 : decode b_Mo_fitsHead 134 = .ok (.ireturn, 1) := by decide +kernel
theorem d_Mo_fitsHead_135 : decode b_Mo_fitsHead 135 = .ok (.aload_n 0, 1) := by decide +kernel
theorem d_Mo_fitsHead_136 : decode b_Mo_fitsHead 136 = .ok (.invokevirtual 229, 3) := by decide +kernel
theorem d_Mo_fitsHead_139 : decode b_Mo_fitsHead 139 = .ok (.ireturn, 1) := by decide +kernel
theorem d_Mo_fitsHead_140 : decode b_Mo_fitsHead 140 = .ok (.iload_n 1, 1) := by decide +kernel
theorem d_Mo_fitsHead_141 : decode b_Mo_fitsHead 141 = .ok (.iconst 4, 1) := by decide +kernel
theorem d_Mo_fitsHead_142 : decode b_Mo_fitsHead 142 = .ok (.if_icmp .lt 13, 3) := by decide +kernel
theorem d_Mo_fitsHead_145 : decode b_Mo_fitsHead 145 = .ok (.iload_n 1, 1) := by decide +kernel
theorem d_Mo_fitsHead_146 : decode b_Mo_fitsHead 146 = .ok (.iconst 4, 1) := by decide +kernel
theorem d_Mo_fitsHead_147 : decode b_Mo_fitsHead 147 = .ok (.irem, 1) := by decide +kernel
theorem d_Mo_fitsHead_148 : decode b_Mo_fitsHead 148 = .ok (.ifCond .ne 7, 3) := by decide +kernel
theorem d_Mo_fitsHead_151 : decode b_Mo_fitsHead 151 = .ok (.iconst 1, 1) := by decide +kernel
theorem d_Mo_fitsHead_152 : decode b_Mo_fitsHead 152 = .ok (.goto 4, 3) := by decide +kernel
theorem d_Mo_fitsHead_155 : decode b_Mo_fitsHead 155 = .ok (.iconst 0, 1) := by decide +kernel
theorem d_Mo_fitsHead_156 : decode b_Mo_fitsHead 156 = .ok (.ireturn, 1) := by decide +kernel
theorem d_Mo_fitsHead_157 : decode b_Mo_fitsHead 157 = .ok (.iload_n 1, 1) := by decide +kernel
theorem d_Mo_fitsHead_158 : decode b_Mo_fitsHead 158 = .ok (.iconst 2, 1) := by decide +kernel
theorem d_Mo_fitsHead_159 : decode b_Mo_fitsHead 159 = .ok (.if_icmp .lt 24, 3) := by decide +kernel
theorem d_Mo_fitsHead_162 : decode b_Mo_fitsHead 162 = .ok (.iload_n 1, 1) := by decide +kernel
theorem d_Mo_fitsHead_163 : decode b_Mo_fitsHead 163 = .ok (.iconst 2, 1) := by decide +kernel
theorem d_Mo_fitsHead_164 : decode b_Mo_fitsHead 164 = .ok (.bipush 6, 2) := by decide +kernel
theorem d_Mo_fitsHead_166 : decode b_Mo_fitsHead 166 = .ok (.aload_n 0, 1) := by decide +kernel
theorem d_Mo_fitsHead_167 : decode b_Mo_fitsHead 167 = .ok (.aload_n 0, 1) := by decide +kernel
theorem d_Mo_fitsHead_168 : decode b_Mo_fitsHead 168 = .ok (.getfield 219, 3) := by decide +kernel
theorem d_Mo_fitsHead_171 : decode b_Mo_fitsHead 171 = .ok (.invokevirtual 209, 3) := by decide +kernel
theorem d_Mo_fitsHead_174 : decode b_Mo_fitsHead 174 = .ok (.imul, 1) := by decide +kernel
theorem d_Mo_fitsHead_175 : decode b_Mo_fitsHead 175 = .ok (.iadd, 1) := by decide +kernel
theorem d_Mo_fitsHead_176 : decode b_Mo_fitsHead 176 = .ok (.if_icmp .ne 7, 3) := by decide +kernel
theorem d_Mo_fitsHead_179 : decode b_Mo_fitsHead 179 = .ok (.iconst 1, 1) := by decide +kernel
theorem d_Mo_fitsHead_180 : decode b_Mo_fitsHead 180 = .ok (.goto 4, 3) := by decide +kernel
theorem d_Mo_fitsHead_183 : decode b_Mo_fitsHead 183 = .ok (.iconst 0, 1) := by decide +kernel
theorem d_Mo_fitsHead_184 : decode b_Mo_fitsHead 184 = .ok (.ireturn, 1) := by decide +kernel
theorem d_Mo_fitsHead_185 : decode b_Mo_fitsHead 185 = .ok (.iconst 1, 1) := by decide +kernel
theorem d_Mo_fitsHead_186 : decode b_Mo_fitsHead 186 = .ok (.ireturn, 1) := by decide +kernel
def k_Mo_fitsHead_93 (t_from : Int32) (t_end : Int32) (x93 : Int32) : Int32 :=
  if (t_end - t_from) = x93 then 1 else 0
def ok_Mo_fitsHead_93 (t_from : Int32) (t_end : Int32) (x93 : Int32) : Prop :=
  if (t_end - t_from) = x93 then True else True
def k_Mo_fitsHead_171 (t_from : Int32) (t_end : Int32) (x171 : Int32) : Int32 :=
  if (t_end - t_from) = (2 + (6 * x171)) then 1 else 0
def ok_Mo_fitsHead_171 (t_from : Int32) (t_end : Int32) (x171 : Int32) : Prop :=
  if (t_end - t_from) = (2 + (6 * x171)) then True else True
def k_Mo_fitsHead_136 (x136 : Int32) : Int32 :=
  x136
def ok_Mo_fitsHead_136 (x136 : Int32) : Prop :=
  narrow .boolean (.int x136) = .int x136 ∧ True
def om_Mo_fitsHead (t_name : Int32) (t_from : Int32) (t_end : Int32) (t_sizeAt : Int32) (f_t_file : Nat → Int32) : Prop :=
  if t_name = 1651532643 then (om_Mo_u2 (t_sizeAt + 8) ∧ (ok_Mo_fitsHead_93 t_from t_end (m_Mo_u2 f_t_file (t_sizeAt + 8)))) else (if t_name = 1667523942 then (if (t_end - t_from) < 2 then True else (om_Mo_u2 t_from ∧ (ok_Mo_fitsHead_171 t_from t_end (m_Mo_u2 f_t_file t_from)))) else (if t_name = 1668112752 then (if (t_end - t_from) < 4 then True else (if ((t_end - t_from) - (t_end - t_from) / 4 * 4) = 0 then True else True)) else (if t_name = 1668246642 then (if (t_end - t_from) < 4 then True else (vp_in t_from 65536 ∧ (if (f_t_file t_from.toNatClampNeg) = 1 then (if (t_end - t_from) = 7 then True else True) else True))) else (if t_name = 1768449138 then (if (t_end - t_from) = 14 then True else True) else (if t_name = 1885564018 then (om_Mo_fitsPalette t_from t_end f_t_file ∧ (ok_Mo_fitsHead_136 (m_Mo_fitsPalette t_from t_end f_t_file))) else True)))))
def m_Mo_fitsHead (t_name : Int32) (t_from : Int32) (t_end : Int32) (t_sizeAt : Int32) (f_t_file : Nat → Int32) : Int32 :=
  if t_name = 1651532643 then (k_Mo_fitsHead_93 t_from t_end (m_Mo_u2 f_t_file (t_sizeAt + 8))) else (if t_name = 1667523942 then (if (t_end - t_from) < 2 then 0 else (k_Mo_fitsHead_171 t_from t_end (m_Mo_u2 f_t_file t_from))) else (if t_name = 1668112752 then (if (t_end - t_from) < 4 then 0 else (if ((t_end - t_from) - (t_end - t_from) / 4 * 4) = 0 then 1 else 0)) else (if t_name = 1668246642 then (if (t_end - t_from) < 4 then 0 else (if (f_t_file t_from.toNatClampNeg) = 1 then (if (t_end - t_from) = 7 then 1 else 0) else 1)) else (if t_name = 1768449138 then (if (t_end - t_from) = 14 then 1 else 0) else (if t_name = 1885564018 then (k_Mo_fitsHead_136 (m_Mo_fitsPalette t_from t_end f_t_file)) else 1)))))
set_option maxHeartbeats 4000000 in
set_option maxRecDepth 100000 in
theorem c_Mo_fitsHead (l : Launch) (D : va_G) (cB cI cJ : ClassId) (h_t h_t_bits h_t_profile h_t_columnBits h_t_numbers h_t_map h_t_line h_t_resolutions h_t_file : Nat) (t_thrown : Int32) (t_high : Int32) (t_wide : Int32) (t_components : Int32) (t_unknown : Int32) (t_rights : Int32) (t_colours : Int32) (t_profiled : Int32) (t_entries : Int32) (t_columns : Int32) (t_maps : Int32) (t_lines : Int32) (t_size : Int32) (t_scanned : Int32) (t_refusedAt : Int32) (t_cursor : Int32) (t_streamAt : Int32) (t_streamMany : Int32) (t_name : Int32) (t_from : Int32) (t_end : Int32) (t_sizeAt : Int32) (t_bitsAt : Int32) (t_colourAt : Int32) (t_colourEnd : Int32) (t_paletteAt : Int32) (t_mapAt : Int32) (t_mapEnd : Int32) (t_channelsAt : Int32) (t_captureAt : Int32) (t_displayAt : Int32) (t_resolved : Int32) (f_t_file : Nat → Int32) (hO : om_Mo_fitsHead t_name t_from t_end t_sizeAt f_t_file) (sz : Nat) : Ct l D cB cI cJ y_Mo_fitsHead b_Mo_fitsHead 2 (some .boolean) 2 45 0 0 [.ref h_t] [(h_t, .inr (7, (.int t_thrown :: .int t_high :: .int t_wide :: .int t_components :: .ref h_t_bits :: .int t_unknown :: .int t_rights :: .int t_colours :: .int t_profiled :: .ref h_t_profile :: .int t_entries :: .int t_columns :: .ref h_t_columnBits :: .ref h_t_numbers :: .int t_maps :: .ref h_t_map :: .int t_lines :: .ref h_t_line :: .ref h_t_resolutions :: .ref h_t_file :: .int t_size :: .int t_scanned :: .int t_refusedAt :: .int t_cursor :: .int t_streamAt :: .int t_streamMany :: .int t_name :: .int t_from :: .int t_end :: .int t_sizeAt :: .int t_bitsAt :: .int t_colourAt :: .int t_colourEnd :: .int t_paletteAt :: .int t_mapAt :: .int t_mapEnd :: .int t_channelsAt :: .int t_captureAt :: .int t_displayAt :: .int t_resolved :: []))), (h_t_file, .inl (cI, 65536, .inl f_t_file))] (fun v w1 => ∃ (x : Int32), x = m_Mo_fitsHead t_name t_from t_end t_sizeAt f_t_file ∧ v = some (.int x) ∧ w1 = [(h_t, .inr (7, (.int t_thrown :: .int t_high :: .int t_wide :: .int t_components :: .ref h_t_bits :: .int t_unknown :: .int t_rights :: .int t_colours :: .int t_profiled :: .ref h_t_profile :: .int t_entries :: .int t_columns :: .ref h_t_columnBits :: .ref h_t_numbers :: .int t_maps :: .ref h_t_map :: .int t_lines :: .ref h_t_line :: .ref h_t_resolutions :: .ref h_t_file :: .int t_size :: .int t_scanned :: .int t_refusedAt :: .int t_cursor :: .int t_streamAt :: .int t_streamMany :: .int t_name :: .int t_from :: .int t_end :: .int t_sizeAt :: .int t_bitsAt :: .int t_colourAt :: .int t_colourEnd :: .int t_paletteAt :: .int t_mapAt :: .int t_mapEnd :: .int t_channelsAt :: .int t_captureAt :: .int t_displayAt :: .int t_resolved :: []))), (h_t_file, .inl (cI, 65536, .inl f_t_file))]) sz := by
  refine Ct.of (by decide) (Nat.le_of_ble_eq_true rfl) ?_
  intro p e R s m args below meth c A ls Q hx hb hr hlk hml hta hown hin hK hN hA hRf hRl hRc hRs hP hD hS hl hQ
  have hl : lv_has ls 2 [(0, .ref h_t)] := hl
  obtain ⟨RES, E0⟩ : ∃ R, m_Mo_fitsHead t_name t_from t_end t_sizeAt f_t_file = R := ⟨_, rfl⟩
  have E := E0
  have O := hO
  refine lv_aload_n hx hb d_Mo_fitsHead_0 rfl (lv_at hl 0 rfl) ?_
  refine va_get (D := D) (v := .int t_end) hx hb hta i_Mo hown hK hP 0 rfl rfl 28 (by decide) (hta _ lk_Mo_222) (fun _ h9 => h9) rfl d_Mo_fitsHead_1 ?_
  refine lv_aload_n hx hb d_Mo_fitsHead_4 rfl (lv_at hl 0 rfl) ?_
  refine va_get (D := D) (v := .int t_from) hx hb hta i_Mo hown hK hP 0 rfl rfl 27 (by decide) (hta _ lk_Mo_219) (fun _ h9 => h9) rfl d_Mo_fitsHead_5 ?_
  refine lv_isub hx hb d_Mo_fitsHead_8 ?_
  refine lv_istore_n (lv' := [(1, .int (t_end - t_from)), (0, .ref h_t)]) hx hb d_Mo_fitsHead_9 rfl hl (by decide) rfl (fun ls hl => ?_)
  refine lv_aload_n hx hb d_Mo_fitsHead_10 rfl (lv_at hl 1 rfl) ?_
  refine va_get (D := D) (v := .int t_name) hx hb hta i_Mo hown hK hP 0 rfl rfl 26 (by decide) (hta _ lk_Mo_216) (fun _ h9 => h9) rfl d_Mo_fitsHead_11 ?_
  by_cases c_14_0 : t_name = 1651532643
  · have E := (if_pos c_14_0).symm.trans E
    have O := Eq.mp (if_pos c_14_0) O
    refine lv_lookup (off := 70) (tgt := 84) hx hb d_Mo_fitsHead_14 (by decide) (by rw [c_14_0]; rfl) (by decide) ?_
    refine lv_iload_n hx hb d_Mo_fitsHead_84 rfl (lv_at hl 0 rfl) ?_
    refine lv_aload_n hx hb d_Mo_fitsHead_85 rfl (lv_at hl 1 rfl) ?_
    refine lv_aload_n hx hb d_Mo_fitsHead_86 rfl (lv_at hl 1 rfl) ?_
    refine va_get (D := D) (v := .int t_sizeAt) hx hb hta i_Mo hown hK hP 0 rfl rfl 29 (by decide) (hta _ lk_Mo_226) (fun _ h9 => h9) rfl d_Mo_fitsHead_87 ?_
    refine lv_bipush (v := 8) hx hb d_Mo_fitsHead_90 (by decide) ?_
    refine lv_iadd hx hb d_Mo_fitsHead_92 ?_
    refine kc_V (As := [.int (t_sizeAt + 8)]) (rest := [.int (t_end - t_from)]) (wr := []) [0, 1] [] ⟨hx, hb, hml, hown, hta⟩ hK hN hP hD hS hA (c_Mo_u2 l D cB cI cJ h_t h_t_bits h_t_profile h_t_columnBits h_t_numbers h_t_map h_t_line h_t_resolutions h_t_file t_thrown t_high t_wide t_components t_unknown t_rights t_colours t_profiled t_entries t_columns t_maps t_lines t_size t_scanned t_refusedAt t_cursor t_streamAt t_streamMany t_name t_from t_end t_sizeAt t_bitsAt t_colourAt t_colourEnd t_paletteAt t_mapAt t_mapEnd t_channelsAt t_captureAt t_displayAt t_resolved f_t_file (t_sizeAt + 8) O.1 _) (hta _ lk_Mo_209) (hta _ ini_Mo) (hta _ code_Mo_u2) code_Mo_u2 (hta _ inst_Mo_u2) (hta _ sel_Mo_u2) hd_Mo_u2 rfl ⟨by omega, by omega⟩ (ci := 7) 0 rfl rfl rfl rfl (by decide) (by decide) (by decide) rfl hl.1 (lv_room (Nat.le_of_ble_eq_true rfl)) d_Mo_fitsHead_93 ⟨by omega, by omega⟩ (fun v w1 H locs hw hP hD hS => ?_)
    obtain ⟨x93, hx93, rfl, rfl⟩ := hw
    have hP : va_P D classes [(h_t, .inr (7, (.int t_thrown :: .int t_high :: .int t_wide :: .int t_components :: .ref h_t_bits :: .int t_unknown :: .int t_rights :: .int t_colours :: .int t_profiled :: .ref h_t_profile :: .int t_entries :: .int t_columns :: .ref h_t_columnBits :: .ref h_t_numbers :: .int t_maps :: .ref h_t_map :: .int t_lines :: .ref h_t_line :: .ref h_t_resolutions :: .ref h_t_file :: .int t_size :: .int t_scanned :: .int t_refusedAt :: .int t_cursor :: .int t_streamAt :: .int t_streamMany :: .int t_name :: .int t_from :: .int t_end :: .int t_sizeAt :: .int t_bitsAt :: .int t_colourAt :: .int t_colourEnd :: .int t_paletteAt :: .int t_mapAt :: .int t_mapEnd :: .int t_channelsAt :: .int t_captureAt :: .int t_displayAt :: .int t_resolved :: []))), (h_t_file, .inl (cI, 65536, .inl f_t_file))] H := hP.sub [0, 1] rfl
    have hD : va_D A [(h_t, .inr (7, (.int t_thrown :: .int t_high :: .int t_wide :: .int t_components :: .ref h_t_bits :: .int t_unknown :: .int t_rights :: .int t_colours :: .int t_profiled :: .ref h_t_profile :: .int t_entries :: .int t_columns :: .ref h_t_columnBits :: .ref h_t_numbers :: .int t_maps :: .ref h_t_map :: .int t_lines :: .ref h_t_line :: .ref h_t_resolutions :: .ref h_t_file :: .int t_size :: .int t_scanned :: .int t_refusedAt :: .int t_cursor :: .int t_streamAt :: .int t_streamMany :: .int t_name :: .int t_from :: .int t_end :: .int t_sizeAt :: .int t_bitsAt :: .int t_colourAt :: .int t_colourEnd :: .int t_paletteAt :: .int t_mapAt :: .int t_mapEnd :: .int t_channelsAt :: .int t_captureAt :: .int t_displayAt :: .int t_resolved :: []))), (h_t_file, .inl (cI, 65536, .inl f_t_file))] := hD.sub [0, 1] (by decide) rfl
    refine W.eq (g2 := F0 m 96 ls [.int x93, .int (t_end - t_from)]) rfl ?_
    have O := O.2
    have E : k_Mo_fitsHead_93 t_from t_end x93 = RES := (congrArg (k_Mo_fitsHead_93 t_from t_end) hx93).trans E
    have O : ok_Mo_fitsHead_93 t_from t_end x93 := by rw [hx93]; exact O
    refine lv_icmp_ne (tgt := 103) hx hb d_Mo_fitsHead_96 (by decide) (fun c_96 => ?_) (fun c_96 => ?_)
    · have E := (if_neg c_96).symm.trans E
      have O := Eq.mp (if_neg c_96) O
      refine lv_iconst (v := 0) hx hb d_Mo_fitsHead_103 (by decide) ?_
      exact kr_z hx hb hr hlk hQ hK hP hD hS ⟨(0 : Int32), E.trans E0.symm, rfl, rfl⟩ (by omega) (by omega) rfl d_Mo_fitsHead_104
    · have E := (if_pos c_96).symm.trans E
      have O := Eq.mp (if_pos c_96) O
      refine lv_iconst (v := 1) hx hb d_Mo_fitsHead_99 (by decide) ?_
      refine lv_goto (tgt := 104) hx hb d_Mo_fitsHead_100 (by decide) ?_
      exact kr_z hx hb hr hlk hQ hK hP hD hS ⟨(1 : Int32), E.trans E0.symm, rfl, rfl⟩ (by omega) (by omega) rfl d_Mo_fitsHead_104
  have E := (if_neg c_14_0).symm.trans E
  have O := Eq.mp (if_neg c_14_0) O
  by_cases c_14_1 : t_name = 1667523942
  · have E := (if_pos c_14_1).symm.trans E
    have O := Eq.mp (if_pos c_14_1) O
    refine lv_lookup (off := 143) (tgt := 157) hx hb d_Mo_fitsHead_14 (by decide) (by rw [c_14_1]; rfl) (by decide) ?_
    refine lv_iload_n hx hb d_Mo_fitsHead_157 rfl (lv_at hl 0 rfl) ?_
    refine lv_iconst (v := 2) hx hb d_Mo_fitsHead_158 (by decide) ?_
    refine lv_icmp_lt (tgt := 183) hx hb d_Mo_fitsHead_159 (by decide) (fun c_159 => ?_) (fun c_159 => ?_)
    · have E := (if_pos c_159).symm.trans E
      have O := Eq.mp (if_pos c_159) O
      refine lv_iconst (v := 0) hx hb d_Mo_fitsHead_183 (by decide) ?_
      exact kr_z hx hb hr hlk hQ hK hP hD hS ⟨(0 : Int32), E.trans E0.symm, rfl, rfl⟩ (by omega) (by omega) rfl d_Mo_fitsHead_184
    · have E := (if_neg c_159).symm.trans E
      have O := Eq.mp (if_neg c_159) O
      refine lv_iload_n hx hb d_Mo_fitsHead_162 rfl (lv_at hl 0 rfl) ?_
      refine lv_iconst (v := 2) hx hb d_Mo_fitsHead_163 (by decide) ?_
      refine lv_bipush (v := 6) hx hb d_Mo_fitsHead_164 (by decide) ?_
      refine lv_aload_n hx hb d_Mo_fitsHead_166 rfl (lv_at hl 1 rfl) ?_
      refine lv_aload_n hx hb d_Mo_fitsHead_167 rfl (lv_at hl 1 rfl) ?_
      refine va_get (D := D) (v := .int t_from) hx hb hta i_Mo hown hK hP 0 rfl rfl 27 (by decide) (hta _ lk_Mo_219) (fun _ h9 => h9) rfl d_Mo_fitsHead_168 ?_
      refine kc_V (As := [.int t_from]) (rest := [.int 6, .int 2, .int (t_end - t_from)]) (wr := []) [0, 1] [] ⟨hx, hb, hml, hown, hta⟩ hK hN hP hD hS hA (c_Mo_u2 l D cB cI cJ h_t h_t_bits h_t_profile h_t_columnBits h_t_numbers h_t_map h_t_line h_t_resolutions h_t_file t_thrown t_high t_wide t_components t_unknown t_rights t_colours t_profiled t_entries t_columns t_maps t_lines t_size t_scanned t_refusedAt t_cursor t_streamAt t_streamMany t_name t_from t_end t_sizeAt t_bitsAt t_colourAt t_colourEnd t_paletteAt t_mapAt t_mapEnd t_channelsAt t_captureAt t_displayAt t_resolved f_t_file t_from O.1 _) (hta _ lk_Mo_209) (hta _ ini_Mo) (hta _ code_Mo_u2) code_Mo_u2 (hta _ inst_Mo_u2) (hta _ sel_Mo_u2) hd_Mo_u2 rfl ⟨by omega, by omega⟩ (ci := 7) 0 rfl rfl rfl rfl (by decide) (by decide) (by decide) rfl hl.1 (lv_room (Nat.le_of_ble_eq_true rfl)) d_Mo_fitsHead_171 ⟨by omega, by omega⟩ (fun v w1 H locs hw hP hD hS => ?_)
      obtain ⟨x171, hx171, rfl, rfl⟩ := hw
      have hP : va_P D classes [(h_t, .inr (7, (.int t_thrown :: .int t_high :: .int t_wide :: .int t_components :: .ref h_t_bits :: .int t_unknown :: .int t_rights :: .int t_colours :: .int t_profiled :: .ref h_t_profile :: .int t_entries :: .int t_columns :: .ref h_t_columnBits :: .ref h_t_numbers :: .int t_maps :: .ref h_t_map :: .int t_lines :: .ref h_t_line :: .ref h_t_resolutions :: .ref h_t_file :: .int t_size :: .int t_scanned :: .int t_refusedAt :: .int t_cursor :: .int t_streamAt :: .int t_streamMany :: .int t_name :: .int t_from :: .int t_end :: .int t_sizeAt :: .int t_bitsAt :: .int t_colourAt :: .int t_colourEnd :: .int t_paletteAt :: .int t_mapAt :: .int t_mapEnd :: .int t_channelsAt :: .int t_captureAt :: .int t_displayAt :: .int t_resolved :: []))), (h_t_file, .inl (cI, 65536, .inl f_t_file))] H := hP.sub [0, 1] rfl
      have hD : va_D A [(h_t, .inr (7, (.int t_thrown :: .int t_high :: .int t_wide :: .int t_components :: .ref h_t_bits :: .int t_unknown :: .int t_rights :: .int t_colours :: .int t_profiled :: .ref h_t_profile :: .int t_entries :: .int t_columns :: .ref h_t_columnBits :: .ref h_t_numbers :: .int t_maps :: .ref h_t_map :: .int t_lines :: .ref h_t_line :: .ref h_t_resolutions :: .ref h_t_file :: .int t_size :: .int t_scanned :: .int t_refusedAt :: .int t_cursor :: .int t_streamAt :: .int t_streamMany :: .int t_name :: .int t_from :: .int t_end :: .int t_sizeAt :: .int t_bitsAt :: .int t_colourAt :: .int t_colourEnd :: .int t_paletteAt :: .int t_mapAt :: .int t_mapEnd :: .int t_channelsAt :: .int t_captureAt :: .int t_displayAt :: .int t_resolved :: []))), (h_t_file, .inl (cI, 65536, .inl f_t_file))] := hD.sub [0, 1] (by decide) rfl
      refine W.eq (g2 := F0 m 174 ls [.int x171, .int 6, .int 2, .int (t_end - t_from)]) rfl ?_
      have O := O.2
      have E : k_Mo_fitsHead_171 t_from t_end x171 = RES := (congrArg (k_Mo_fitsHead_171 t_from t_end) hx171).trans E
      have O : ok_Mo_fitsHead_171 t_from t_end x171 := by rw [hx171]; exact O
      refine lv_imul hx hb d_Mo_fitsHead_174 ?_
      refine lv_iadd hx hb d_Mo_fitsHead_175 ?_
      refine lv_icmp_ne (tgt := 183) hx hb d_Mo_fitsHead_176 (by decide) (fun c_176 => ?_) (fun c_176 => ?_)
      · have E := (if_neg c_176).symm.trans E
        have O := Eq.mp (if_neg c_176) O
        refine lv_iconst (v := 0) hx hb d_Mo_fitsHead_183 (by decide) ?_
        exact kr_z hx hb hr hlk hQ hK hP hD hS ⟨(0 : Int32), E.trans E0.symm, rfl, rfl⟩ (by omega) (by omega) rfl d_Mo_fitsHead_184
      · have E := (if_pos c_176).symm.trans E
        have O := Eq.mp (if_pos c_176) O
        refine lv_iconst (v := 1) hx hb d_Mo_fitsHead_179 (by decide) ?_
        refine lv_goto (tgt := 184) hx hb d_Mo_fitsHead_180 (by decide) ?_
        exact kr_z hx hb hr hlk hQ hK hP hD hS ⟨(1 : Int32), E.trans E0.symm, rfl, rfl⟩ (by omega) (by omega) rfl d_Mo_fitsHead_184
  have E := (if_neg c_14_1).symm.trans E
  have O := Eq.mp (if_neg c_14_1) O
  by_cases c_14_2 : t_name = 1668112752
  · have E := (if_pos c_14_2).symm.trans E
    have O := Eq.mp (if_pos c_14_2) O
    refine lv_lookup (off := 126) (tgt := 140) hx hb d_Mo_fitsHead_14 (by decide) (by rw [c_14_2]; rfl) (by decide) ?_
    refine lv_iload_n hx hb d_Mo_fitsHead_140 rfl (lv_at hl 0 rfl) ?_
    refine lv_iconst (v := 4) hx hb d_Mo_fitsHead_141 (by decide) ?_
    refine lv_icmp_lt (tgt := 155) hx hb d_Mo_fitsHead_142 (by decide) (fun c_142 => ?_) (fun c_142 => ?_)
    · have E := (if_pos c_142).symm.trans E
      have O := Eq.mp (if_pos c_142) O
      refine lv_iconst (v := 0) hx hb d_Mo_fitsHead_155 (by decide) ?_
      exact kr_z hx hb hr hlk hQ hK hP hD hS ⟨(0 : Int32), E.trans E0.symm, rfl, rfl⟩ (by omega) (by omega) rfl d_Mo_fitsHead_156
    · have E := (if_neg c_142).symm.trans E
      have O := Eq.mp (if_neg c_142) O
      refine lv_iload_n hx hb d_Mo_fitsHead_145 rfl (lv_at hl 0 rfl) ?_
      refine lv_iconst (v := 4) hx hb d_Mo_fitsHead_146 (by decide) ?_
      refine lv_irem hx hb d_Mo_fitsHead_147 (by decide) ?_
      refine lv_if_ne (tgt := 155) hx hb d_Mo_fitsHead_148 (by decide) (fun c_148 => ?_) (fun c_148 => ?_)
      · have E := (if_neg c_148).symm.trans E
        have O := Eq.mp (if_neg c_148) O
        refine lv_iconst (v := 0) hx hb d_Mo_fitsHead_155 (by decide) ?_
        exact kr_z hx hb hr hlk hQ hK hP hD hS ⟨(0 : Int32), E.trans E0.symm, rfl, rfl⟩ (by omega) (by omega) rfl d_Mo_fitsHead_156
      · have E := (if_pos c_148).symm.trans E
        have O := Eq.mp (if_pos c_148) O
        refine lv_iconst (v := 1) hx hb d_Mo_fitsHead_151 (by decide) ?_
        refine lv_goto (tgt := 156) hx hb d_Mo_fitsHead_152 (by decide) ?_
        exact kr_z hx hb hr hlk hQ hK hP hD hS ⟨(1 : Int32), E.trans E0.symm, rfl, rfl⟩ (by omega) (by omega) rfl d_Mo_fitsHead_156
  have E := (if_neg c_14_2).symm.trans E
  have O := Eq.mp (if_neg c_14_2) O
  by_cases c_14_3 : t_name = 1668246642
  · have E := (if_pos c_14_3).symm.trans E
    have O := Eq.mp (if_pos c_14_3) O
    refine lv_lookup (off := 91) (tgt := 105) hx hb d_Mo_fitsHead_14 (by decide) (by rw [c_14_3]; rfl) (by decide) ?_
    refine lv_iload_n hx hb d_Mo_fitsHead_105 rfl (lv_at hl 0 rfl) ?_
    refine lv_iconst (v := 4) hx hb d_Mo_fitsHead_106 (by decide) ?_
    refine lv_icmp_lt (tgt := 133) hx hb d_Mo_fitsHead_107 (by decide) (fun c_107 => ?_) (fun c_107 => ?_)
    · have E := (if_pos c_107).symm.trans E
      have O := Eq.mp (if_pos c_107) O
      refine lv_iconst (v := 0) hx hb d_Mo_fitsHead_133 (by decide) ?_
      exact kr_z hx hb hr hlk hQ hK hP hD hS ⟨(0 : Int32), E.trans E0.symm, rfl, rfl⟩ (by omega) (by omega) rfl d_Mo_fitsHead_134
    · have E := (if_neg c_107).symm.trans E
      have O := Eq.mp (if_neg c_107) O
      refine lv_aload_n hx hb d_Mo_fitsHead_110 rfl (lv_at hl 1 rfl) ?_
      refine va_get (D := D) (v := .ref h_t_file) hx hb hta i_Mo hown hK hP 0 rfl rfl 19 (by decide) (hta _ lk_Mo_37) (fun _ h9 => h9) rfl d_Mo_fitsHead_111 ?_
      refine lv_aload_n hx hb d_Mo_fitsHead_114 rfl (lv_at hl 1 rfl) ?_
      refine va_get (D := D) (v := .int t_from) hx hb hta i_Mo hown hK hP 0 rfl rfl 27 (by decide) (hta _ lk_Mo_219) (fun _ h9 => h9) rfl d_Mo_fitsHead_115 ?_
      refine va_iald hx hb hK hP 1 1 rfl rfl O.1 d_Mo_fitsHead_118 ?_
      have O := O.2
      refine lv_iconst (v := 1) hx hb d_Mo_fitsHead_119 (by decide) ?_
      refine lv_icmp_ne (tgt := 129) hx hb d_Mo_fitsHead_120 (by decide) (fun c_120 => ?_) (fun c_120 => ?_)
      · have E := (if_neg c_120).symm.trans E
        have O := Eq.mp (if_neg c_120) O
        refine lv_iconst (v := 1) hx hb d_Mo_fitsHead_129 (by decide) ?_
        refine lv_goto (tgt := 134) hx hb d_Mo_fitsHead_130 (by decide) ?_
        exact kr_z hx hb hr hlk hQ hK hP hD hS ⟨(1 : Int32), E.trans E0.symm, rfl, rfl⟩ (by omega) (by omega) rfl d_Mo_fitsHead_134
      · have E := (if_pos c_120).symm.trans E
        have O := Eq.mp (if_pos c_120) O
        refine lv_iload_n hx hb d_Mo_fitsHead_123 rfl (lv_at hl 0 rfl) ?_
        refine lv_bipush (v := 7) hx hb d_Mo_fitsHead_124 (by decide) ?_
        refine lv_icmp_ne (tgt := 133) hx hb d_Mo_fitsHead_126 (by decide) (fun c_126 => ?_) (fun c_126 => ?_)
        · have E := (if_neg c_126).symm.trans E
          have O := Eq.mp (if_neg c_126) O
          refine lv_iconst (v := 0) hx hb d_Mo_fitsHead_133 (by decide) ?_
          exact kr_z hx hb hr hlk hQ hK hP hD hS ⟨(0 : Int32), E.trans E0.symm, rfl, rfl⟩ (by omega) (by omega) rfl d_Mo_fitsHead_134
        · have E := (if_pos c_126).symm.trans E
          have O := Eq.mp (if_pos c_126) O
          refine lv_iconst (v := 1) hx hb d_Mo_fitsHead_129 (by decide) ?_
          refine lv_goto (tgt := 134) hx hb d_Mo_fitsHead_130 (by decide) ?_
          exact kr_z hx hb hr hlk hQ hK hP hD hS ⟨(1 : Int32), E.trans E0.symm, rfl, rfl⟩ (by omega) (by omega) rfl d_Mo_fitsHead_134
  have E := (if_neg c_14_3).symm.trans E
  have O := Eq.mp (if_neg c_14_3) O
  by_cases c_14_4 : t_name = 1768449138
  · have E := (if_pos c_14_4).symm.trans E
    have O := Eq.mp (if_pos c_14_4) O
    refine lv_lookup (off := 58) (tgt := 72) hx hb d_Mo_fitsHead_14 (by decide) (by rw [c_14_4]; rfl) (by decide) ?_
    refine lv_iload_n hx hb d_Mo_fitsHead_72 rfl (lv_at hl 0 rfl) ?_
    refine lv_bipush (v := 14) hx hb d_Mo_fitsHead_73 (by decide) ?_
    refine lv_icmp_ne (tgt := 82) hx hb d_Mo_fitsHead_75 (by decide) (fun c_75 => ?_) (fun c_75 => ?_)
    · have E := (if_neg c_75).symm.trans E
      have O := Eq.mp (if_neg c_75) O
      refine lv_iconst (v := 0) hx hb d_Mo_fitsHead_82 (by decide) ?_
      exact kr_z hx hb hr hlk hQ hK hP hD hS ⟨(0 : Int32), E.trans E0.symm, rfl, rfl⟩ (by omega) (by omega) rfl d_Mo_fitsHead_83
    · have E := (if_pos c_75).symm.trans E
      have O := Eq.mp (if_pos c_75) O
      refine lv_iconst (v := 1) hx hb d_Mo_fitsHead_78 (by decide) ?_
      refine lv_goto (tgt := 83) hx hb d_Mo_fitsHead_79 (by decide) ?_
      exact kr_z hx hb hr hlk hQ hK hP hD hS ⟨(1 : Int32), E.trans E0.symm, rfl, rfl⟩ (by omega) (by omega) rfl d_Mo_fitsHead_83
  have E := (if_neg c_14_4).symm.trans E
  have O := Eq.mp (if_neg c_14_4) O
  by_cases c_14_5 : t_name = 1885564018
  · have E := (if_pos c_14_5).symm.trans E
    have O := Eq.mp (if_pos c_14_5) O
    refine lv_lookup (off := 121) (tgt := 135) hx hb d_Mo_fitsHead_14 (by decide) (by rw [c_14_5]; rfl) (by decide) ?_
    refine lv_aload_n hx hb d_Mo_fitsHead_135 rfl (lv_at hl 1 rfl) ?_
    refine kc_V (As := []) (rest := []) (wr := []) [0, 1] [] ⟨hx, hb, hml, hown, hta⟩ hK hN hP hD hS hA (c_Mo_fitsPalette l D cB cI cJ h_t h_t_bits h_t_profile h_t_columnBits h_t_numbers h_t_map h_t_line h_t_resolutions h_t_file t_thrown t_high t_wide t_components t_unknown t_rights t_colours t_profiled t_entries t_columns t_maps t_lines t_size t_scanned t_refusedAt t_cursor t_streamAt t_streamMany t_name t_from t_end t_sizeAt t_bitsAt t_colourAt t_colourEnd t_paletteAt t_mapAt t_mapEnd t_channelsAt t_captureAt t_displayAt t_resolved f_t_file O.1 _) (hta _ lk_Mo_229) (hta _ ini_Mo) (hta _ code_Mo_fitsPalette) code_Mo_fitsPalette (hta _ inst_Mo_fitsPalette) (hta _ sel_Mo_fitsPalette) hd_Mo_fitsPalette rfl ⟨by omega, by omega⟩ (ci := 7) 0 rfl rfl rfl rfl (by decide) (by decide) (by decide) rfl hl.1 (lv_room (Nat.le_of_ble_eq_true rfl)) d_Mo_fitsHead_136 ⟨by omega, by omega⟩ (fun v w1 H locs hw hP hD hS => ?_)
    obtain ⟨x136, hx136, rfl, rfl⟩ := hw
    have hP : va_P D classes [(h_t, .inr (7, (.int t_thrown :: .int t_high :: .int t_wide :: .int t_components :: .ref h_t_bits :: .int t_unknown :: .int t_rights :: .int t_colours :: .int t_profiled :: .ref h_t_profile :: .int t_entries :: .int t_columns :: .ref h_t_columnBits :: .ref h_t_numbers :: .int t_maps :: .ref h_t_map :: .int t_lines :: .ref h_t_line :: .ref h_t_resolutions :: .ref h_t_file :: .int t_size :: .int t_scanned :: .int t_refusedAt :: .int t_cursor :: .int t_streamAt :: .int t_streamMany :: .int t_name :: .int t_from :: .int t_end :: .int t_sizeAt :: .int t_bitsAt :: .int t_colourAt :: .int t_colourEnd :: .int t_paletteAt :: .int t_mapAt :: .int t_mapEnd :: .int t_channelsAt :: .int t_captureAt :: .int t_displayAt :: .int t_resolved :: []))), (h_t_file, .inl (cI, 65536, .inl f_t_file))] H := hP.sub [0, 1] rfl
    have hD : va_D A [(h_t, .inr (7, (.int t_thrown :: .int t_high :: .int t_wide :: .int t_components :: .ref h_t_bits :: .int t_unknown :: .int t_rights :: .int t_colours :: .int t_profiled :: .ref h_t_profile :: .int t_entries :: .int t_columns :: .ref h_t_columnBits :: .ref h_t_numbers :: .int t_maps :: .ref h_t_map :: .int t_lines :: .ref h_t_line :: .ref h_t_resolutions :: .ref h_t_file :: .int t_size :: .int t_scanned :: .int t_refusedAt :: .int t_cursor :: .int t_streamAt :: .int t_streamMany :: .int t_name :: .int t_from :: .int t_end :: .int t_sizeAt :: .int t_bitsAt :: .int t_colourAt :: .int t_colourEnd :: .int t_paletteAt :: .int t_mapAt :: .int t_mapEnd :: .int t_channelsAt :: .int t_captureAt :: .int t_displayAt :: .int t_resolved :: []))), (h_t_file, .inl (cI, 65536, .inl f_t_file))] := hD.sub [0, 1] (by decide) rfl
    refine W.eq (g2 := F0 m 139 ls [.int x136]) rfl ?_
    have O := O.2
    have E : k_Mo_fitsHead_136 x136 = RES := (congrArg (k_Mo_fitsHead_136) hx136).trans E
    have O : ok_Mo_fitsHead_136 x136 := by rw [hx136]; exact O
    exact kr_z hx hb hr hlk hQ hK hP hD hS ⟨(x136 : Int32), E.trans E0.symm, rfl, rfl⟩ (by omega) (by omega) O.1 d_Mo_fitsHead_139
  have E := (if_neg c_14_5).symm.trans E
  have O := Eq.mp (if_neg c_14_5) O
  refine lv_lookup (off := 171) (tgt := 185) hx hb d_Mo_fitsHead_14 (by decide) (by rw [lv_osw c_14_0 (a := 1651532643) (by decide), lv_osw c_14_1 (a := 1667523942) (by decide), lv_osw c_14_2 (a := 1668112752) (by decide), lv_osw c_14_3 (a := 1668246642) (by decide), lv_osw c_14_4 (a := 1768449138) (by decide), lv_osw c_14_5 (a := 1885564018) (by decide)]; rfl) (by decide) ?_
  refine lv_iconst (v := 1) hx hb d_Mo_fitsHead_185 (by decide) ?_
  exact kr_z hx hb hr hlk hQ hK hP hD hS ⟨(1 : Int32), E.trans E0.symm, rfl, rfl⟩ (by omega) (by omega) rfl d_Mo_fitsHead_186
theorem d_Mo_isWrong_0 : decode b_Mo_isWrong 0 = .ok (.iload_n 1, 1) := by decide +kernel
theorem d_Mo_isWrong_1 : decode b_Mo_isWrong 1 = .ok (.ifCond .eq 20, 3) := by decide +kernel
theorem d_Mo_isWrong_4 : decode b_Mo_isWrong 4 = .ok (.aload_n 0, 1) := by decide +kernel
theorem d_Mo_isWrong_5 : decode b_Mo_isWrong 5 = .ok (.getfield 216, 3) := by decide +kernel
theorem d_Mo_isWrong_8 : decode b_Mo_isWrong 8 = .ok (.ldc 178, 2) := by decide +kernel
theorem d_Mo_isWrong_10 : decode b_Mo_isWrong 10 = .ok (.if_icmp .eq 7, 3) := by decide +kernel
theorem d_Mo_isWrong_13 : decode b_Mo_isWrong 13 = .ok (.iconst 1, 1) := by decide +kernel
theorem d_Mo_isWrong_14 : decode b_Mo_isWrong 14 = .ok (.goto 21, 3) := by decide +kernel
theorem d_Mo_isWrong_17 : decode b_Mo_isWrong 17 = .ok (.iconst 0, 1) := by decide +kernel
theorem d_Mo_isWrong_18 : decode b_Mo_isWrong 18 = .ok (.goto 17, 3) := by decide +kernel
theorem d_Mo_isWrong_21 : decode b_Mo_isWrong 21 = .ok (.aload_n 0, 1) := by decide +kernel
theorem d_Mo_isWrong_22 : decode b_Mo_isWrong 22 = .ok (.getfield 216, 3) := by decide +kernel
theorem d_Mo_isWrong_25 : decode b_Mo_isWrong 25 = .ok (.ldc 178, 2) := by decide +kernel
theorem d_Mo_isWrong_27 : decode b_Mo_isWrong 27 = .ok (.if_icmp .ne 7, 3) := by decide +kernel
theorem d_Mo_isWrong_30 : decode b_Mo_isWrong 30 = .ok (.iconst 1, 1) := by decide +kernel
theorem d_Mo_isWrong_31 : decode b_Mo_isWrong 31 = .ok (.goto 4, 3) := by decide +kernel
theorem d_Mo_isWrong_34 : decode b_Mo_isWrong 34 = .ok (.iconst 0, 1) := by decide +kernel
theorem d_Mo_isWrong_35 : decode b_Mo_isWrong 35 = .ok (.istore_n 2, 1) := by decide +kernel
theorem d_Mo_isWrong_36 : decode b_Mo_isWrong 36 = .ok (.iload_n 2, 1) := by decide +kernel
theorem d_Mo_isWrong_37 : decode b_Mo_isWrong 37 = .ok (.ifCond .ne 57, 3) := by decide +kernel
theorem d_Mo_isWrong_40 : decode b_Mo_isWrong 40 = .ok (.aload_n 0, 1) := by decide +kernel
theorem d_Mo_isWrong_41 : decode b_Mo_isWrong 41 = .ok (.invokevirtual 232, 3) := by decide +kernel
theorem d_Mo_isWrong_44 : decode b_Mo_isWrong 44 = .ok (.ifCond .ne 50, 3) := by decide +kernel
theorem d_Mo_isWrong_47 : decode b_Mo_isWrong 47 = .ok (.iload_n 1, 1) := by decide +kernel
theorem d_Mo_isWrong_48 : decode b_Mo_isWrong 48 = .ok (.ifCond .ne 30, 3) := by decide +kernel
theorem d_Mo_isWrong_51 : decode b_Mo_isWrong 51 = .ok (.aload_n 0, 1) := by decide +kernel
theorem d_Mo_isWrong_52 : decode b_Mo_isWrong 52 = .ok (.getfield 216, 3) := by decide +kernel
theorem d_Mo_isWrong_55 : decode b_Mo_isWrong 55 = .ok (.ldc 181, 2) := by decide +kernel
theorem d_Mo_isWrong_57 : decode b_Mo_isWrong 57 = .ok (.if_icmp .ne 21, 3) := by decide +kernel
theorem d_Mo_isWrong_60 : decode b_Mo_isWrong 60 = .ok (.aload_n 0, 1) := by decide +kernel
theorem d_Mo_isWrong_61 : decode b_Mo_isWrong 61 = .ok (.getfield 37, 3) := by decide +kernel
theorem d_Mo_isWrong_64 : decode b_Mo_isWrong 64 = .ok (.aload_n 0, 1) := by decide +kernel
theorem d_Mo_isWrong_65 : decode b_Mo_isWrong 65 = .ok (.getfield 226, 3) := by decide +kernel
theorem d_Mo_isWrong_68 : decode b_Mo_isWrong 68 = .ok (.bipush 10, 2) := by decide +kernel
theorem d_Mo_isWrong_70 : decode b_Mo_isWrong 70 = .ok (.iadd, 1) := by decide +kernel
theorem d_Mo_isWrong_71 : decode b_Mo_isWrong 71 = .ok (.iaload, 1) := by decide +kernel
theorem d_Mo_isWrong_72 : decode b_Mo_isWrong 72 = .ok (.sipush 255, 3) := by decide +kernel
theorem d_Mo_isWrong_75 : decode b_Mo_isWrong 75 = .ok (.if_icmp .ne 19, 3) := by decide +kernel
theorem d_Mo_isWrong_78 : decode b_Mo_isWrong 78 = .ok (.aload_n 0, 1) := by decide +kernel
theorem d_Mo_isWrong_79 : decode b_Mo_isWrong 79 = .ok (.getfield 216, 3) := by decide +kernel
theorem d_Mo_isWrong_82 : decode b_Mo_isWrong 82 = .ok (.ldc 172, 2) := by decide +kernel
theorem d_Mo_isWrong_84 : decode b_Mo_isWrong 84 = .ok (.if_icmp .ne 14, 3) := by decide +kernel
theorem d_Mo_isWrong_87 : decode b_Mo_isWrong 87 = .ok (.aload_n 0, 1) := by decide +kernel
theorem d_Mo_isWrong_88 : decode b_Mo_isWrong 88 = .ok (.getfield 235, 3) := by decide +kernel
theorem d_Mo_isWrong_91 : decode b_Mo_isWrong 91 = .ok (.ifCond .ne 7, 3) := by decide +kernel
theorem d_Mo_isWrong_94 : decode b_Mo_isWrong 94 = .ok (.iconst 1, 1) := by decide +kernel
theorem d_Mo_isWrong_95 : decode b_Mo_isWrong 95 = .ok (.goto 4, 3) := by decide +kernel
theorem d_Mo_isWrong_98 : decode b_Mo_isWrong 98 = .ok (.iconst 0, 1) := by decide +kernel
theorem d_Mo_isWrong_99 : decode b_Mo_isWrong 99 = .ok (.ireturn, 1) := by decide +kernel
def j_Mo_isWrong_78 (t_name : Int32) (t_paletteAt : Int32) : Int32 :=
  if t_name = 1668112752 then (if t_paletteAt = 0 then 1 else 0) else 0
def oj_Mo_isWrong_78 (t_name : Int32) (t_paletteAt : Int32) : Prop :=
  if t_name = 1668112752 then (if t_paletteAt = 0 then True else True) else True
def k_Mo_isWrong_41 (t_name : Int32) (t_sizeAt : Int32) (t_paletteAt : Int32) (f_t_file : Nat → Int32) (p1 : Int32) (x41 : Int32) : Int32 :=
  if x41 = 0 then (if p1 = 0 then (if t_name = 1651532643 then (if (f_t_file (t_sizeAt + 10).toNatClampNeg) = 255 then (j_Mo_isWrong_78 t_name t_paletteAt) else 1) else (j_Mo_isWrong_78 t_name t_paletteAt)) else (j_Mo_isWrong_78 t_name t_paletteAt)) else 1
def ok_Mo_isWrong_41 (t_name : Int32) (t_sizeAt : Int32) (t_paletteAt : Int32) (f_t_file : Nat → Int32) (p1 : Int32) (x41 : Int32) : Prop :=
  if x41 = 0 then (if p1 = 0 then (if t_name = 1651532643 then (vp_in (t_sizeAt + 10) 65536 ∧ (if (f_t_file (t_sizeAt + 10).toNatClampNeg) = 255 then (oj_Mo_isWrong_78 t_name t_paletteAt) else True)) else (oj_Mo_isWrong_78 t_name t_paletteAt)) else (oj_Mo_isWrong_78 t_name t_paletteAt)) else True
def j_Mo_isWrong_35 (t_name : Int32) (t_sizeAt : Int32) (t_paletteAt : Int32) (f_t_file : Nat → Int32) (p1 : Int32) (j35_s0 : Int32) : Int32 :=
  if j35_s0 = 0 then (k_Mo_isWrong_41 t_name t_sizeAt t_paletteAt f_t_file p1 (m_Mo_isTop t_name)) else 1
def oj_Mo_isWrong_35 (t_name : Int32) (t_sizeAt : Int32) (t_paletteAt : Int32) (f_t_file : Nat → Int32) (p1 : Int32) (j35_s0 : Int32) : Prop :=
  if j35_s0 = 0 then (om_Mo_isTop t_name ∧ (ok_Mo_isWrong_41 t_name t_sizeAt t_paletteAt f_t_file p1 (m_Mo_isTop t_name))) else True
def om_Mo_isWrong (t_name : Int32) (t_sizeAt : Int32) (t_paletteAt : Int32) (f_t_file : Nat → Int32) (p1 : Int32) : Prop :=
  if p1 = 0 then (if t_name = 1768449138 then (oj_Mo_isWrong_35 t_name t_sizeAt t_paletteAt f_t_file p1 1) else (oj_Mo_isWrong_35 t_name t_sizeAt t_paletteAt f_t_file p1 0)) else (if t_name = 1768449138 then (oj_Mo_isWrong_35 t_name t_sizeAt t_paletteAt f_t_file p1 0) else (oj_Mo_isWrong_35 t_name t_sizeAt t_paletteAt f_t_file p1 1))
def m_Mo_isWrong (t_name : Int32) (t_sizeAt : Int32) (t_paletteAt : Int32) (f_t_file : Nat → Int32) (p1 : Int32) : Int32 :=
  if p1 = 0 then (if t_name = 1768449138 then (j_Mo_isWrong_35 t_name t_sizeAt t_paletteAt f_t_file p1 1) else (j_Mo_isWrong_35 t_name t_sizeAt t_paletteAt f_t_file p1 0)) else (if t_name = 1768449138 then (j_Mo_isWrong_35 t_name t_sizeAt t_paletteAt f_t_file p1 0) else (j_Mo_isWrong_35 t_name t_sizeAt t_paletteAt f_t_file p1 1))
set_option maxHeartbeats 4000000 in
set_option maxRecDepth 100000 in
theorem c_Mo_isWrong (l : Launch) (D : va_G) (cB cI cJ : ClassId) (h_t h_t_bits h_t_profile h_t_columnBits h_t_numbers h_t_map h_t_line h_t_resolutions h_t_file : Nat) (t_thrown : Int32) (t_high : Int32) (t_wide : Int32) (t_components : Int32) (t_unknown : Int32) (t_rights : Int32) (t_colours : Int32) (t_profiled : Int32) (t_entries : Int32) (t_columns : Int32) (t_maps : Int32) (t_lines : Int32) (t_size : Int32) (t_scanned : Int32) (t_refusedAt : Int32) (t_cursor : Int32) (t_streamAt : Int32) (t_streamMany : Int32) (t_name : Int32) (t_from : Int32) (t_end : Int32) (t_sizeAt : Int32) (t_bitsAt : Int32) (t_colourAt : Int32) (t_colourEnd : Int32) (t_paletteAt : Int32) (t_mapAt : Int32) (t_mapEnd : Int32) (t_channelsAt : Int32) (t_captureAt : Int32) (t_displayAt : Int32) (t_resolved : Int32) (f_t_file : Nat → Int32) (p1 : Int32) (hO : om_Mo_isWrong t_name t_sizeAt t_paletteAt f_t_file p1) (sz : Nat) : Ct l D cB cI cJ y_Mo_isWrong b_Mo_isWrong 3 (some .boolean) 1 20 0 0 [.ref h_t, .int p1] [(h_t, .inr (7, (.int t_thrown :: .int t_high :: .int t_wide :: .int t_components :: .ref h_t_bits :: .int t_unknown :: .int t_rights :: .int t_colours :: .int t_profiled :: .ref h_t_profile :: .int t_entries :: .int t_columns :: .ref h_t_columnBits :: .ref h_t_numbers :: .int t_maps :: .ref h_t_map :: .int t_lines :: .ref h_t_line :: .ref h_t_resolutions :: .ref h_t_file :: .int t_size :: .int t_scanned :: .int t_refusedAt :: .int t_cursor :: .int t_streamAt :: .int t_streamMany :: .int t_name :: .int t_from :: .int t_end :: .int t_sizeAt :: .int t_bitsAt :: .int t_colourAt :: .int t_colourEnd :: .int t_paletteAt :: .int t_mapAt :: .int t_mapEnd :: .int t_channelsAt :: .int t_captureAt :: .int t_displayAt :: .int t_resolved :: []))), (h_t_file, .inl (cI, 65536, .inl f_t_file))] (fun v w1 => ∃ (x : Int32), x = m_Mo_isWrong t_name t_sizeAt t_paletteAt f_t_file p1 ∧ v = some (.int x) ∧ w1 = [(h_t, .inr (7, (.int t_thrown :: .int t_high :: .int t_wide :: .int t_components :: .ref h_t_bits :: .int t_unknown :: .int t_rights :: .int t_colours :: .int t_profiled :: .ref h_t_profile :: .int t_entries :: .int t_columns :: .ref h_t_columnBits :: .ref h_t_numbers :: .int t_maps :: .ref h_t_map :: .int t_lines :: .ref h_t_line :: .ref h_t_resolutions :: .ref h_t_file :: .int t_size :: .int t_scanned :: .int t_refusedAt :: .int t_cursor :: .int t_streamAt :: .int t_streamMany :: .int t_name :: .int t_from :: .int t_end :: .int t_sizeAt :: .int t_bitsAt :: .int t_colourAt :: .int t_colourEnd :: .int t_paletteAt :: .int t_mapAt :: .int t_mapEnd :: .int t_channelsAt :: .int t_captureAt :: .int t_displayAt :: .int t_resolved :: []))), (h_t_file, .inl (cI, 65536, .inl f_t_file))]) sz := by
  refine Ct.of (by decide) (Nat.le_of_ble_eq_true rfl) ?_
  intro p e R s m args below meth c A ls Q hx hb hr hlk hml hta hown hin hK hN hA hRf hRl hRc hRs hP hD hS hl hQ
  have hl : lv_has ls 3 [(0, .ref h_t), (1, .int p1)] := hl
  obtain ⟨RES, E0⟩ : ∃ R, m_Mo_isWrong t_name t_sizeAt t_paletteAt f_t_file p1 = R := ⟨_, rfl⟩
  have E := E0
  have O := hO
  refine lv_iload_n hx hb d_Mo_isWrong_0 rfl (lv_at hl 1 rfl) ?_
  have J_35 : ∀ (j35_s0 : Int32), j_Mo_isWrong_35 t_name t_sizeAt t_paletteAt f_t_file p1 j35_s0 = RES → oj_Mo_isWrong_35 t_name t_sizeAt t_paletteAt f_t_file p1 j35_s0 → ∀ (H : Heap) (locs : List Loc), va_P D classes [(h_t, .inr (7, (.int t_thrown :: .int t_high :: .int t_wide :: .int t_components :: .ref h_t_bits :: .int t_unknown :: .int t_rights :: .int t_colours :: .int t_profiled :: .ref h_t_profile :: .int t_entries :: .int t_columns :: .ref h_t_columnBits :: .ref h_t_numbers :: .int t_maps :: .ref h_t_map :: .int t_lines :: .ref h_t_line :: .ref h_t_resolutions :: .ref h_t_file :: .int t_size :: .int t_scanned :: .int t_refusedAt :: .int t_cursor :: .int t_streamAt :: .int t_streamMany :: .int t_name :: .int t_from :: .int t_end :: .int t_sizeAt :: .int t_bitsAt :: .int t_colourAt :: .int t_colourEnd :: .int t_paletteAt :: .int t_mapAt :: .int t_mapEnd :: .int t_channelsAt :: .int t_captureAt :: .int t_displayAt :: .int t_resolved :: []))), (h_t_file, .inl (cI, 65536, .inl f_t_file))] H → va_D A [(h_t, .inr (7, (.int t_thrown :: .int t_high :: .int t_wide :: .int t_components :: .ref h_t_bits :: .int t_unknown :: .int t_rights :: .int t_colours :: .int t_profiled :: .ref h_t_profile :: .int t_entries :: .int t_columns :: .ref h_t_columnBits :: .ref h_t_numbers :: .int t_maps :: .ref h_t_map :: .int t_lines :: .ref h_t_line :: .ref h_t_resolutions :: .ref h_t_file :: .int t_size :: .int t_scanned :: .int t_refusedAt :: .int t_cursor :: .int t_streamAt :: .int t_streamMany :: .int t_name :: .int t_from :: .int t_end :: .int t_sizeAt :: .int t_bitsAt :: .int t_colourAt :: .int t_colourEnd :: .int t_paletteAt :: .int t_mapAt :: .int t_mapEnd :: .int t_channelsAt :: .int t_captureAt :: .int t_displayAt :: .int t_resolved :: []))), (h_t_file, .inl (cI, 65536, .inl f_t_file))] → va_S A s.heap H locs → ∀ ls : Array Slot, lv_has ls 3 [(0, .ref h_t), (1, .int p1)] → W p l e R s m args below meth c H locs 0 0 Q (F0 m 35 ls [.int j35_s0]) := by
    intro j35_s0 E O H locs hP hD hS ls hl
    refine lv_istore_n (lv' := [(2, .int j35_s0), (0, .ref h_t), (1, .int p1)]) hx hb d_Mo_isWrong_35 rfl hl (by decide) rfl (fun ls hl => ?_)
    refine lv_iload_n hx hb d_Mo_isWrong_36 rfl (lv_at hl 0 rfl) ?_
    refine lv_if_ne (tgt := 94) hx hb d_Mo_isWrong_37 (by decide) (fun c_37 => ?_) (fun c_37 => ?_)
    · have E := (if_neg c_37).symm.trans E
      have O := Eq.mp (if_neg c_37) O
      refine lv_iconst (v := 1) hx hb d_Mo_isWrong_94 (by decide) ?_
      refine lv_goto (tgt := 99) hx hb d_Mo_isWrong_95 (by decide) ?_
      exact kr_z hx hb hr hlk hQ hK hP hD hS ⟨(1 : Int32), E.trans E0.symm, rfl, rfl⟩ (by omega) (by omega) rfl d_Mo_isWrong_99
    · have E := (if_pos c_37).symm.trans E
      have O := Eq.mp (if_pos c_37) O
      refine lv_aload_n hx hb d_Mo_isWrong_40 rfl (lv_at hl 1 rfl) ?_
      refine kc_V (As := []) (rest := []) (wr := [(h_t_file, .inl (cI, 65536, .inl f_t_file))]) [0] [1] ⟨hx, hb, hml, hown, hta⟩ hK hN hP hD hS hA (c_Mo_isTop l D cB cI cJ h_t h_t_bits h_t_profile h_t_columnBits h_t_numbers h_t_map h_t_line h_t_resolutions h_t_file t_thrown t_high t_wide t_components t_unknown t_rights t_colours t_profiled t_entries t_columns t_maps t_lines t_size t_scanned t_refusedAt t_cursor t_streamAt t_streamMany t_name t_from t_end t_sizeAt t_bitsAt t_colourAt t_colourEnd t_paletteAt t_mapAt t_mapEnd t_channelsAt t_captureAt t_displayAt t_resolved O.1 _) (hta _ lk_Mo_232) (hta _ ini_Mo) (hta _ code_Mo_isTop) code_Mo_isTop (hta _ inst_Mo_isTop) (hta _ sel_Mo_isTop) hd_Mo_isTop rfl ⟨by omega, by omega⟩ (ci := 7) 0 rfl rfl rfl rfl (by decide) (by decide) (by decide) rfl hl.1 (lv_room (Nat.le_of_ble_eq_true rfl)) d_Mo_isWrong_41 ⟨by omega, by omega⟩ (fun v w1 H locs hw hP hD hS => ?_)
      obtain ⟨x41, hx41, rfl, rfl⟩ := hw
      have hP : va_P D classes [(h_t, .inr (7, (.int t_thrown :: .int t_high :: .int t_wide :: .int t_components :: .ref h_t_bits :: .int t_unknown :: .int t_rights :: .int t_colours :: .int t_profiled :: .ref h_t_profile :: .int t_entries :: .int t_columns :: .ref h_t_columnBits :: .ref h_t_numbers :: .int t_maps :: .ref h_t_map :: .int t_lines :: .ref h_t_line :: .ref h_t_resolutions :: .ref h_t_file :: .int t_size :: .int t_scanned :: .int t_refusedAt :: .int t_cursor :: .int t_streamAt :: .int t_streamMany :: .int t_name :: .int t_from :: .int t_end :: .int t_sizeAt :: .int t_bitsAt :: .int t_colourAt :: .int t_colourEnd :: .int t_paletteAt :: .int t_mapAt :: .int t_mapEnd :: .int t_channelsAt :: .int t_captureAt :: .int t_displayAt :: .int t_resolved :: []))), (h_t_file, .inl (cI, 65536, .inl f_t_file))] H := hP.sub [1, 0] rfl
      have hD : va_D A [(h_t, .inr (7, (.int t_thrown :: .int t_high :: .int t_wide :: .int t_components :: .ref h_t_bits :: .int t_unknown :: .int t_rights :: .int t_colours :: .int t_profiled :: .ref h_t_profile :: .int t_entries :: .int t_columns :: .ref h_t_columnBits :: .ref h_t_numbers :: .int t_maps :: .ref h_t_map :: .int t_lines :: .ref h_t_line :: .ref h_t_resolutions :: .ref h_t_file :: .int t_size :: .int t_scanned :: .int t_refusedAt :: .int t_cursor :: .int t_streamAt :: .int t_streamMany :: .int t_name :: .int t_from :: .int t_end :: .int t_sizeAt :: .int t_bitsAt :: .int t_colourAt :: .int t_colourEnd :: .int t_paletteAt :: .int t_mapAt :: .int t_mapEnd :: .int t_channelsAt :: .int t_captureAt :: .int t_displayAt :: .int t_resolved :: []))), (h_t_file, .inl (cI, 65536, .inl f_t_file))] := hD.sub [1, 0] (by decide) rfl
      refine W.eq (g2 := F0 m 44 ls [.int x41]) rfl ?_
      have O := O.2
      have E : k_Mo_isWrong_41 t_name t_sizeAt t_paletteAt f_t_file p1 x41 = RES := (congrArg (k_Mo_isWrong_41 t_name t_sizeAt t_paletteAt f_t_file p1) hx41).trans E
      have O : ok_Mo_isWrong_41 t_name t_sizeAt t_paletteAt f_t_file p1 x41 := by rw [hx41]; exact O
      refine lv_if_ne (tgt := 94) hx hb d_Mo_isWrong_44 (by decide) (fun c_44 => ?_) (fun c_44 => ?_)
      · have E := (if_neg c_44).symm.trans E
        have O := Eq.mp (if_neg c_44) O
        refine lv_iconst (v := 1) hx hb d_Mo_isWrong_94 (by decide) ?_
        refine lv_goto (tgt := 99) hx hb d_Mo_isWrong_95 (by decide) ?_
        exact kr_z hx hb hr hlk hQ hK hP hD hS ⟨(1 : Int32), E.trans E0.symm, rfl, rfl⟩ (by omega) (by omega) rfl d_Mo_isWrong_99
      · have E := (if_pos c_44).symm.trans E
        have O := Eq.mp (if_pos c_44) O
        refine lv_iload_n hx hb d_Mo_isWrong_47 rfl (lv_at hl 2 rfl) ?_
        have J_78 : j_Mo_isWrong_78 t_name t_paletteAt = RES → oj_Mo_isWrong_78 t_name t_paletteAt → ∀ (H : Heap) (locs : List Loc), va_P D classes [(h_t, .inr (7, (.int t_thrown :: .int t_high :: .int t_wide :: .int t_components :: .ref h_t_bits :: .int t_unknown :: .int t_rights :: .int t_colours :: .int t_profiled :: .ref h_t_profile :: .int t_entries :: .int t_columns :: .ref h_t_columnBits :: .ref h_t_numbers :: .int t_maps :: .ref h_t_map :: .int t_lines :: .ref h_t_line :: .ref h_t_resolutions :: .ref h_t_file :: .int t_size :: .int t_scanned :: .int t_refusedAt :: .int t_cursor :: .int t_streamAt :: .int t_streamMany :: .int t_name :: .int t_from :: .int t_end :: .int t_sizeAt :: .int t_bitsAt :: .int t_colourAt :: .int t_colourEnd :: .int t_paletteAt :: .int t_mapAt :: .int t_mapEnd :: .int t_channelsAt :: .int t_captureAt :: .int t_displayAt :: .int t_resolved :: []))), (h_t_file, .inl (cI, 65536, .inl f_t_file))] H → va_D A [(h_t, .inr (7, (.int t_thrown :: .int t_high :: .int t_wide :: .int t_components :: .ref h_t_bits :: .int t_unknown :: .int t_rights :: .int t_colours :: .int t_profiled :: .ref h_t_profile :: .int t_entries :: .int t_columns :: .ref h_t_columnBits :: .ref h_t_numbers :: .int t_maps :: .ref h_t_map :: .int t_lines :: .ref h_t_line :: .ref h_t_resolutions :: .ref h_t_file :: .int t_size :: .int t_scanned :: .int t_refusedAt :: .int t_cursor :: .int t_streamAt :: .int t_streamMany :: .int t_name :: .int t_from :: .int t_end :: .int t_sizeAt :: .int t_bitsAt :: .int t_colourAt :: .int t_colourEnd :: .int t_paletteAt :: .int t_mapAt :: .int t_mapEnd :: .int t_channelsAt :: .int t_captureAt :: .int t_displayAt :: .int t_resolved :: []))), (h_t_file, .inl (cI, 65536, .inl f_t_file))] → va_S A s.heap H locs → ∀ ls : Array Slot, lv_has ls 3 [(0, .ref h_t)] → W p l e R s m args below meth c H locs 0 0 Q (F0 m 78 ls []) := by
          intro E O H locs hP hD hS ls hl
          refine lv_aload_n hx hb d_Mo_isWrong_78 rfl (lv_at hl 0 rfl) ?_
          refine va_get (D := D) (v := .int t_name) hx hb hta i_Mo hown hK hP 0 rfl rfl 26 (by decide) (hta _ lk_Mo_216) (fun _ h9 => h9) rfl d_Mo_isWrong_79 ?_
          refine lv_ldc (v := 1668112752) hx hb hown (hta _ lk_Mo_172) d_Mo_isWrong_82 ?_
          refine lv_icmp_ne (tgt := 98) hx hb d_Mo_isWrong_84 (by decide) (fun c_84 => ?_) (fun c_84 => ?_)
          · have E := (if_neg c_84).symm.trans E
            have O := Eq.mp (if_neg c_84) O
            refine lv_iconst (v := 0) hx hb d_Mo_isWrong_98 (by decide) ?_
            exact kr_z hx hb hr hlk hQ hK hP hD hS ⟨(0 : Int32), E.trans E0.symm, rfl, rfl⟩ (by omega) (by omega) rfl d_Mo_isWrong_99
          · have E := (if_pos c_84).symm.trans E
            have O := Eq.mp (if_pos c_84) O
            refine lv_aload_n hx hb d_Mo_isWrong_87 rfl (lv_at hl 0 rfl) ?_
            refine va_get (D := D) (v := .int t_paletteAt) hx hb hta i_Mo hown hK hP 0 rfl rfl 33 (by decide) (hta _ lk_Mo_235) (fun _ h9 => h9) rfl d_Mo_isWrong_88 ?_
            refine lv_if_ne (tgt := 98) hx hb d_Mo_isWrong_91 (by decide) (fun c_91 => ?_) (fun c_91 => ?_)
            · have E := (if_neg c_91).symm.trans E
              have O := Eq.mp (if_neg c_91) O
              refine lv_iconst (v := 0) hx hb d_Mo_isWrong_98 (by decide) ?_
              exact kr_z hx hb hr hlk hQ hK hP hD hS ⟨(0 : Int32), E.trans E0.symm, rfl, rfl⟩ (by omega) (by omega) rfl d_Mo_isWrong_99
            · have E := (if_pos c_91).symm.trans E
              have O := Eq.mp (if_pos c_91) O
              refine lv_iconst (v := 1) hx hb d_Mo_isWrong_94 (by decide) ?_
              refine lv_goto (tgt := 99) hx hb d_Mo_isWrong_95 (by decide) ?_
              exact kr_z hx hb hr hlk hQ hK hP hD hS ⟨(1 : Int32), E.trans E0.symm, rfl, rfl⟩ (by omega) (by omega) rfl d_Mo_isWrong_99
        refine lv_if_ne (tgt := 78) hx hb d_Mo_isWrong_48 (by decide) (fun c_48 => ?_) (fun c_48 => ?_)
        · have E := (if_neg c_48).symm.trans E
          have O := Eq.mp (if_neg c_48) O
          exact J_78  E O _ _ hP hD hS ls (lv_sub hl [1] rfl)
        · have E := (if_pos c_48).symm.trans E
          have O := Eq.mp (if_pos c_48) O
          refine lv_aload_n hx hb d_Mo_isWrong_51 rfl (lv_at hl 1 rfl) ?_
          refine va_get (D := D) (v := .int t_name) hx hb hta i_Mo hown hK hP 0 rfl rfl 26 (by decide) (hta _ lk_Mo_216) (fun _ h9 => h9) rfl d_Mo_isWrong_52 ?_
          refine lv_ldc (v := 1651532643) hx hb hown (hta _ lk_Mo_181) d_Mo_isWrong_55 ?_
          refine lv_icmp_ne (tgt := 78) hx hb d_Mo_isWrong_57 (by decide) (fun c_57 => ?_) (fun c_57 => ?_)
          · have E := (if_neg c_57).symm.trans E
            have O := Eq.mp (if_neg c_57) O
            exact J_78  E O _ _ hP hD hS ls (lv_sub hl [1] rfl)
          · have E := (if_pos c_57).symm.trans E
            have O := Eq.mp (if_pos c_57) O
            refine lv_aload_n hx hb d_Mo_isWrong_60 rfl (lv_at hl 1 rfl) ?_
            refine va_get (D := D) (v := .ref h_t_file) hx hb hta i_Mo hown hK hP 0 rfl rfl 19 (by decide) (hta _ lk_Mo_37) (fun _ h9 => h9) rfl d_Mo_isWrong_61 ?_
            refine lv_aload_n hx hb d_Mo_isWrong_64 rfl (lv_at hl 1 rfl) ?_
            refine va_get (D := D) (v := .int t_sizeAt) hx hb hta i_Mo hown hK hP 0 rfl rfl 29 (by decide) (hta _ lk_Mo_226) (fun _ h9 => h9) rfl d_Mo_isWrong_65 ?_
            refine lv_bipush (v := 10) hx hb d_Mo_isWrong_68 (by decide) ?_
            refine lv_iadd hx hb d_Mo_isWrong_70 ?_
            refine va_iald hx hb hK hP 1 1 rfl rfl O.1 d_Mo_isWrong_71 ?_
            have O := O.2
            refine lv_sipush (v := 255) hx hb d_Mo_isWrong_72 (by decide) ?_
            refine lv_icmp_ne (tgt := 94) hx hb d_Mo_isWrong_75 (by decide) (fun c_75 => ?_) (fun c_75 => ?_)
            · have E := (if_neg c_75).symm.trans E
              have O := Eq.mp (if_neg c_75) O
              refine lv_iconst (v := 1) hx hb d_Mo_isWrong_94 (by decide) ?_
              refine lv_goto (tgt := 99) hx hb d_Mo_isWrong_95 (by decide) ?_
              exact kr_z hx hb hr hlk hQ hK hP hD hS ⟨(1 : Int32), E.trans E0.symm, rfl, rfl⟩ (by omega) (by omega) rfl d_Mo_isWrong_99
            · have E := (if_pos c_75).symm.trans E
              have O := Eq.mp (if_pos c_75) O
              exact J_78  E O _ _ hP hD hS ls (lv_sub hl [1] rfl)
  refine lv_if_eq (tgt := 21) hx hb d_Mo_isWrong_1 (by decide) (fun c_1 => ?_) (fun c_1 => ?_)
  · have E := (if_pos c_1).symm.trans E
    have O := Eq.mp (if_pos c_1) O
    refine lv_aload_n hx hb d_Mo_isWrong_21 rfl (lv_at hl 0 rfl) ?_
    refine va_get (D := D) (v := .int t_name) hx hb hta i_Mo hown hK hP 0 rfl rfl 26 (by decide) (hta _ lk_Mo_216) (fun _ h9 => h9) rfl d_Mo_isWrong_22 ?_
    refine lv_ldc (v := 1768449138) hx hb hown (hta _ lk_Mo_178) d_Mo_isWrong_25 ?_
    refine lv_icmp_ne (tgt := 34) hx hb d_Mo_isWrong_27 (by decide) (fun c_27 => ?_) (fun c_27 => ?_)
    · have E := (if_neg c_27).symm.trans E
      have O := Eq.mp (if_neg c_27) O
      refine lv_iconst (v := 0) hx hb d_Mo_isWrong_34 (by decide) ?_
      exact J_35 0 E O _ _ hP hD hS ls (lv_sub hl [0, 1] rfl)
    · have E := (if_pos c_27).symm.trans E
      have O := Eq.mp (if_pos c_27) O
      refine lv_iconst (v := 1) hx hb d_Mo_isWrong_30 (by decide) ?_
      refine lv_goto (tgt := 35) hx hb d_Mo_isWrong_31 (by decide) ?_
      exact J_35 1 E O _ _ hP hD hS ls (lv_sub hl [0, 1] rfl)
  · have E := (if_neg c_1).symm.trans E
    have O := Eq.mp (if_neg c_1) O
    refine lv_aload_n hx hb d_Mo_isWrong_4 rfl (lv_at hl 0 rfl) ?_
    refine va_get (D := D) (v := .int t_name) hx hb hta i_Mo hown hK hP 0 rfl rfl 26 (by decide) (hta _ lk_Mo_216) (fun _ h9 => h9) rfl d_Mo_isWrong_5 ?_
    refine lv_ldc (v := 1768449138) hx hb hown (hta _ lk_Mo_178) d_Mo_isWrong_8 ?_
    refine lv_icmp_eq (tgt := 17) hx hb d_Mo_isWrong_10 (by decide) (fun c_10 => ?_) (fun c_10 => ?_)
    · have E := (if_pos c_10).symm.trans E
      have O := Eq.mp (if_pos c_10) O
      refine lv_iconst (v := 0) hx hb d_Mo_isWrong_17 (by decide) ?_
      refine lv_goto (tgt := 35) hx hb d_Mo_isWrong_18 (by decide) ?_
      exact J_35 0 E O _ _ hP hD hS ls (lv_sub hl [0, 1] rfl)
    · have E := (if_neg c_10).symm.trans E
      have O := Eq.mp (if_neg c_10) O
      refine lv_iconst (v := 1) hx hb d_Mo_isWrong_13 (by decide) ?_
      refine lv_goto (tgt := 35) hx hb d_Mo_isWrong_14 (by decide) ?_
      exact J_35 1 E O _ _ hP hD hS ls (lv_sub hl [0, 1] rfl)
theorem d_Mo_isTwice_0 : decode b_Mo_isTwice 0 = .ok (.aload_n 0, 1) := by decide +kernel
theorem d_Mo_isTwice_1 : decode b_Mo_isTwice 1 = .ok (.getfield 216, 3) := by decide +kernel
theorem d_Mo_isTwice_4 : decode b_Mo_isTwice 4 = .ok (.ldc 181, 2) := by decide +kernel
theorem d_Mo_isTwice_6 : decode b_Mo_isTwice 6 = .ok (.if_icmp .ne 10, 3) := by decide +kernel
theorem d_Mo_isTwice_9 : decode b_Mo_isTwice 9 = .ok (.aload_n 0, 1) := by decide +kernel
theorem d_Mo_isTwice_10 : decode b_Mo_isTwice 10 = .ok (.getfield 238, 3) := by decide +kernel
theorem d_Mo_isTwice_13 : decode b_Mo_isTwice 13 = .ok (.ifCond .gt 67, 3) := by decide +kernel
theorem d_Mo_isTwice_16 : decode b_Mo_isTwice 16 = .ok (.aload_n 0, 1) := by decide +kernel
theorem d_Mo_isTwice_17 : decode b_Mo_isTwice 17 = .ok (.getfield 216, 3) := by decide +kernel
theorem d_Mo_isTwice_20 : decode b_Mo_isTwice 20 = .ok (.ldc 167, 2) := by decide +kernel
theorem d_Mo_isTwice_22 : decode b_Mo_isTwice 22 = .ok (.if_icmp .ne 10, 3) := by decide +kernel
theorem d_Mo_isTwice_25 : decode b_Mo_isTwice 25 = .ok (.aload_n 0, 1) := by decide +kernel
theorem d_Mo_isTwice_26 : decode b_Mo_isTwice 26 = .ok (.getfield 235, 3) := by decide +kernel
theorem d_Mo_isTwice_29 : decode b_Mo_isTwice 29 = .ok (.ifCond .gt 51, 3) := by decide +kernel
theorem d_Mo_isTwice_32 : decode b_Mo_isTwice 32 = .ok (.aload_n 0, 1) := by decide +kernel
theorem d_Mo_isTwice_33 : decode b_Mo_isTwice 33 = .ok (.getfield 216, 3) := by decide +kernel
theorem d_Mo_isTwice_36 : decode b_Mo_isTwice 36 = .ok (.ldc 172, 2) := by decide +kernel
theorem d_Mo_isTwice_38 : decode b_Mo_isTwice 38 = .ok (.if_icmp .ne 10, 3) := by decide +kernel
theorem d_Mo_isTwice_41 : decode b_Mo_isTwice 41 = .ok (.aload_n 0, 1) := by decide +kernel
theorem d_Mo_isTwice_42 : decode b_Mo_isTwice 42 = .ok (.getfield 241, 3) := by decide +kernel
theorem d_Mo_isTwice_45 : decode b_Mo_isTwice 45 = .ok (.ifCond .gt 35, 3) := by decide +kernel
theorem d_Mo_isTwice_48 : decode b_Mo_isTwice 48 = .ok (.aload_n 0, 1) := by decide +kernel
theorem d_Mo_isTwice_49 : decode b_Mo_isTwice 49 = .ok (.getfield 216, 3) := by decide +kernel
theorem d_Mo_isTwice_52 : decode b_Mo_isTwice 52 = .ok (.ldc 186, 2) := by decide +kernel
theorem d_Mo_isTwice_54 : decode b_Mo_isTwice 54 = .ok (.if_icmp .ne 10, 3) := by decide +kernel
theorem d_Mo_isTwice_57 : decode b_Mo_isTwice 57 = .ok (.aload_n 0, 1) := by decide +kernel
theorem d_Mo_isTwice_58 : decode b_Mo_isTwice 58 = .ok (.getfield 244, 3) := by decide +kernel
theorem d_Mo_isTwice_61 : decode b_Mo_isTwice 61 = .ok (.ifCond .gt 19, 3) := by decide +kernel
theorem d_Mo_isTwice_64 : decode b_Mo_isTwice 64 = .ok (.aload_n 0, 1) := by decide +kernel
theorem d_Mo_isTwice_65 : decode b_Mo_isTwice 65 = .ok (.getfield 216, 3) := by decide +kernel
theorem d_Mo_isTwice_68 : decode b_Mo_isTwice 68 = .ok (.ldc 187, 2) := by decide +kernel
theorem d_Mo_isTwice_70 : decode b_Mo_isTwice 70 = .ok (.if_icmp .ne 14, 3) := by decide +kernel
theorem d_Mo_isTwice_73 : decode b_Mo_isTwice 73 = .ok (.aload_n 0, 1) := by decide +kernel
theorem d_Mo_isTwice_74 : decode b_Mo_isTwice 74 = .ok (.getfield 247, 3) := by decide +kernel
theorem d_Mo_isTwice_77 : decode b_Mo_isTwice 77 = .ok (.ifCond .eq 7, 3) := by decide +kernel
theorem d_Mo_isTwice_80 : decode b_Mo_isTwice 80 = .ok (.iconst 1, 1) := by decide +kernel
theorem d_Mo_isTwice_81 : decode b_Mo_isTwice 81 = .ok (.goto 4, 3) := by decide +kernel
theorem d_Mo_isTwice_84 : decode b_Mo_isTwice 84 = .ok (.iconst 0, 1) := by decide +kernel
theorem d_Mo_isTwice_85 : decode b_Mo_isTwice 85 = .ok (.ireturn, 1) := by decide +kernel
def j_Mo_isTwice_64 (t_name : Int32) (t_resolved : Int32) : Int32 :=
  if t_name = 1919251232 then (if t_resolved = 0 then 0 else 1) else 0
def oj_Mo_isTwice_64 (t_name : Int32) (t_resolved : Int32) : Prop :=
  if t_name = 1919251232 then (if t_resolved = 0 then True else True) else True
def j_Mo_isTwice_48 (t_name : Int32) (t_channelsAt : Int32) (t_resolved : Int32) : Int32 :=
  if t_name = 1667523942 then (if 0 < t_channelsAt then 1 else (j_Mo_isTwice_64 t_name t_resolved)) else (j_Mo_isTwice_64 t_name t_resolved)
def oj_Mo_isTwice_48 (t_name : Int32) (t_channelsAt : Int32) (t_resolved : Int32) : Prop :=
  if t_name = 1667523942 then (if 0 < t_channelsAt then True else (oj_Mo_isTwice_64 t_name t_resolved)) else (oj_Mo_isTwice_64 t_name t_resolved)
def j_Mo_isTwice_32 (t_name : Int32) (t_mapAt : Int32) (t_channelsAt : Int32) (t_resolved : Int32) : Int32 :=
  if t_name = 1668112752 then (if 0 < t_mapAt then 1 else (j_Mo_isTwice_48 t_name t_channelsAt t_resolved)) else (j_Mo_isTwice_48 t_name t_channelsAt t_resolved)
def oj_Mo_isTwice_32 (t_name : Int32) (t_mapAt : Int32) (t_channelsAt : Int32) (t_resolved : Int32) : Prop :=
  if t_name = 1668112752 then (if 0 < t_mapAt then True else (oj_Mo_isTwice_48 t_name t_channelsAt t_resolved)) else (oj_Mo_isTwice_48 t_name t_channelsAt t_resolved)
def j_Mo_isTwice_16 (t_name : Int32) (t_paletteAt : Int32) (t_mapAt : Int32) (t_channelsAt : Int32) (t_resolved : Int32) : Int32 :=
  if t_name = 1885564018 then (if 0 < t_paletteAt then 1 else (j_Mo_isTwice_32 t_name t_mapAt t_channelsAt t_resolved)) else (j_Mo_isTwice_32 t_name t_mapAt t_channelsAt t_resolved)
def oj_Mo_isTwice_16 (t_name : Int32) (t_paletteAt : Int32) (t_mapAt : Int32) (t_channelsAt : Int32) (t_resolved : Int32) : Prop :=
  if t_name = 1885564018 then (if 0 < t_paletteAt then True else (oj_Mo_isTwice_32 t_name t_mapAt t_channelsAt t_resolved)) else (oj_Mo_isTwice_32 t_name t_mapAt t_channelsAt t_resolved)
def om_Mo_isTwice (t_name : Int32) (t_bitsAt : Int32) (t_paletteAt : Int32) (t_mapAt : Int32) (t_channelsAt : Int32) (t_resolved : Int32) : Prop :=
  if t_name = 1651532643 then (if 0 < t_bitsAt then True else (oj_Mo_isTwice_16 t_name t_paletteAt t_mapAt t_channelsAt t_resolved)) else (oj_Mo_isTwice_16 t_name t_paletteAt t_mapAt t_channelsAt t_resolved)
def m_Mo_isTwice (t_name : Int32) (t_bitsAt : Int32) (t_paletteAt : Int32) (t_mapAt : Int32) (t_channelsAt : Int32) (t_resolved : Int32) : Int32 :=
  if t_name = 1651532643 then (if 0 < t_bitsAt then 1 else (j_Mo_isTwice_16 t_name t_paletteAt t_mapAt t_channelsAt t_resolved)) else (j_Mo_isTwice_16 t_name t_paletteAt t_mapAt t_channelsAt t_resolved)
set_option maxHeartbeats 4000000 in
set_option maxRecDepth 100000 in
theorem c_Mo_isTwice (l : Launch) (D : va_G) (cB cI cJ : ClassId) (h_t h_t_bits h_t_profile h_t_columnBits h_t_numbers h_t_map h_t_line h_t_resolutions h_t_file : Nat) (t_thrown : Int32) (t_high : Int32) (t_wide : Int32) (t_components : Int32) (t_unknown : Int32) (t_rights : Int32) (t_colours : Int32) (t_profiled : Int32) (t_entries : Int32) (t_columns : Int32) (t_maps : Int32) (t_lines : Int32) (t_size : Int32) (t_scanned : Int32) (t_refusedAt : Int32) (t_cursor : Int32) (t_streamAt : Int32) (t_streamMany : Int32) (t_name : Int32) (t_from : Int32) (t_end : Int32) (t_sizeAt : Int32) (t_bitsAt : Int32) (t_colourAt : Int32) (t_colourEnd : Int32) (t_paletteAt : Int32) (t_mapAt : Int32) (t_mapEnd : Int32) (t_channelsAt : Int32) (t_captureAt : Int32) (t_displayAt : Int32) (t_resolved : Int32) (hO : om_Mo_isTwice t_name t_bitsAt t_paletteAt t_mapAt t_channelsAt t_resolved) (sz : Nat) : Ct l D cB cI cJ y_Mo_isTwice b_Mo_isTwice 1 (some .boolean) 0 0 0 0 [.ref h_t] [(h_t, .inr (7, (.int t_thrown :: .int t_high :: .int t_wide :: .int t_components :: .ref h_t_bits :: .int t_unknown :: .int t_rights :: .int t_colours :: .int t_profiled :: .ref h_t_profile :: .int t_entries :: .int t_columns :: .ref h_t_columnBits :: .ref h_t_numbers :: .int t_maps :: .ref h_t_map :: .int t_lines :: .ref h_t_line :: .ref h_t_resolutions :: .ref h_t_file :: .int t_size :: .int t_scanned :: .int t_refusedAt :: .int t_cursor :: .int t_streamAt :: .int t_streamMany :: .int t_name :: .int t_from :: .int t_end :: .int t_sizeAt :: .int t_bitsAt :: .int t_colourAt :: .int t_colourEnd :: .int t_paletteAt :: .int t_mapAt :: .int t_mapEnd :: .int t_channelsAt :: .int t_captureAt :: .int t_displayAt :: .int t_resolved :: [])))] (fun v w1 => ∃ (x : Int32), x = m_Mo_isTwice t_name t_bitsAt t_paletteAt t_mapAt t_channelsAt t_resolved ∧ v = some (.int x) ∧ w1 = [(h_t, .inr (7, (.int t_thrown :: .int t_high :: .int t_wide :: .int t_components :: .ref h_t_bits :: .int t_unknown :: .int t_rights :: .int t_colours :: .int t_profiled :: .ref h_t_profile :: .int t_entries :: .int t_columns :: .ref h_t_columnBits :: .ref h_t_numbers :: .int t_maps :: .ref h_t_map :: .int t_lines :: .ref h_t_line :: .ref h_t_resolutions :: .ref h_t_file :: .int t_size :: .int t_scanned :: .int t_refusedAt :: .int t_cursor :: .int t_streamAt :: .int t_streamMany :: .int t_name :: .int t_from :: .int t_end :: .int t_sizeAt :: .int t_bitsAt :: .int t_colourAt :: .int t_colourEnd :: .int t_paletteAt :: .int t_mapAt :: .int t_mapEnd :: .int t_channelsAt :: .int t_captureAt :: .int t_displayAt :: .int t_resolved :: [])))]) sz := by
  refine Ct.of (by decide) (Nat.le_of_ble_eq_true rfl) ?_
  intro p e R s m args below meth c A ls Q hx hb hr hlk hml hta hown hin hK hN hA hRf hRl hRc hRs hP hD hS hl hQ
  have hl : lv_has ls 1 [(0, .ref h_t)] := hl
  obtain ⟨RES, E0⟩ : ∃ R, m_Mo_isTwice t_name t_bitsAt t_paletteAt t_mapAt t_channelsAt t_resolved = R := ⟨_, rfl⟩
  have E := E0
  have O := hO
  refine lv_aload_n hx hb d_Mo_isTwice_0 rfl (lv_at hl 0 rfl) ?_
  refine va_get (D := D) (v := .int t_name) hx hb hta i_Mo hown hK hP 0 rfl rfl 26 (by decide) (hta _ lk_Mo_216) (fun _ h9 => h9) rfl d_Mo_isTwice_1 ?_
  refine lv_ldc (v := 1651532643) hx hb hown (hta _ lk_Mo_181) d_Mo_isTwice_4 ?_
  have J_16 : j_Mo_isTwice_16 t_name t_paletteAt t_mapAt t_channelsAt t_resolved = RES → oj_Mo_isTwice_16 t_name t_paletteAt t_mapAt t_channelsAt t_resolved → ∀ (H : Heap) (locs : List Loc), va_P D classes [(h_t, .inr (7, (.int t_thrown :: .int t_high :: .int t_wide :: .int t_components :: .ref h_t_bits :: .int t_unknown :: .int t_rights :: .int t_colours :: .int t_profiled :: .ref h_t_profile :: .int t_entries :: .int t_columns :: .ref h_t_columnBits :: .ref h_t_numbers :: .int t_maps :: .ref h_t_map :: .int t_lines :: .ref h_t_line :: .ref h_t_resolutions :: .ref h_t_file :: .int t_size :: .int t_scanned :: .int t_refusedAt :: .int t_cursor :: .int t_streamAt :: .int t_streamMany :: .int t_name :: .int t_from :: .int t_end :: .int t_sizeAt :: .int t_bitsAt :: .int t_colourAt :: .int t_colourEnd :: .int t_paletteAt :: .int t_mapAt :: .int t_mapEnd :: .int t_channelsAt :: .int t_captureAt :: .int t_displayAt :: .int t_resolved :: [])))] H → va_D A [(h_t, .inr (7, (.int t_thrown :: .int t_high :: .int t_wide :: .int t_components :: .ref h_t_bits :: .int t_unknown :: .int t_rights :: .int t_colours :: .int t_profiled :: .ref h_t_profile :: .int t_entries :: .int t_columns :: .ref h_t_columnBits :: .ref h_t_numbers :: .int t_maps :: .ref h_t_map :: .int t_lines :: .ref h_t_line :: .ref h_t_resolutions :: .ref h_t_file :: .int t_size :: .int t_scanned :: .int t_refusedAt :: .int t_cursor :: .int t_streamAt :: .int t_streamMany :: .int t_name :: .int t_from :: .int t_end :: .int t_sizeAt :: .int t_bitsAt :: .int t_colourAt :: .int t_colourEnd :: .int t_paletteAt :: .int t_mapAt :: .int t_mapEnd :: .int t_channelsAt :: .int t_captureAt :: .int t_displayAt :: .int t_resolved :: [])))] → va_S A s.heap H locs → ∀ ls : Array Slot, lv_has ls 1 [(0, .ref h_t)] → W p l e R s m args below meth c H locs 0 0 Q (F0 m 16 ls []) := by
    intro E O H locs hP hD hS ls hl
    refine lv_aload_n hx hb d_Mo_isTwice_16 rfl (lv_at hl 0 rfl) ?_
    refine va_get (D := D) (v := .int t_name) hx hb hta i_Mo hown hK hP 0 rfl rfl 26 (by decide) (hta _ lk_Mo_216) (fun _ h9 => h9) rfl d_Mo_isTwice_17 ?_
    refine lv_ldc (v := 1885564018) hx hb hown (hta _ lk_Mo_167) d_Mo_isTwice_20 ?_
    have J_32 : j_Mo_isTwice_32 t_name t_mapAt t_channelsAt t_resolved = RES → oj_Mo_isTwice_32 t_name t_mapAt t_channelsAt t_resolved → ∀ (H : Heap) (locs : List Loc), va_P D classes [(h_t, .inr (7, (.int t_thrown :: .int t_high :: .int t_wide :: .int t_components :: .ref h_t_bits :: .int t_unknown :: .int t_rights :: .int t_colours :: .int t_profiled :: .ref h_t_profile :: .int t_entries :: .int t_columns :: .ref h_t_columnBits :: .ref h_t_numbers :: .int t_maps :: .ref h_t_map :: .int t_lines :: .ref h_t_line :: .ref h_t_resolutions :: .ref h_t_file :: .int t_size :: .int t_scanned :: .int t_refusedAt :: .int t_cursor :: .int t_streamAt :: .int t_streamMany :: .int t_name :: .int t_from :: .int t_end :: .int t_sizeAt :: .int t_bitsAt :: .int t_colourAt :: .int t_colourEnd :: .int t_paletteAt :: .int t_mapAt :: .int t_mapEnd :: .int t_channelsAt :: .int t_captureAt :: .int t_displayAt :: .int t_resolved :: [])))] H → va_D A [(h_t, .inr (7, (.int t_thrown :: .int t_high :: .int t_wide :: .int t_components :: .ref h_t_bits :: .int t_unknown :: .int t_rights :: .int t_colours :: .int t_profiled :: .ref h_t_profile :: .int t_entries :: .int t_columns :: .ref h_t_columnBits :: .ref h_t_numbers :: .int t_maps :: .ref h_t_map :: .int t_lines :: .ref h_t_line :: .ref h_t_resolutions :: .ref h_t_file :: .int t_size :: .int t_scanned :: .int t_refusedAt :: .int t_cursor :: .int t_streamAt :: .int t_streamMany :: .int t_name :: .int t_from :: .int t_end :: .int t_sizeAt :: .int t_bitsAt :: .int t_colourAt :: .int t_colourEnd :: .int t_paletteAt :: .int t_mapAt :: .int t_mapEnd :: .int t_channelsAt :: .int t_captureAt :: .int t_displayAt :: .int t_resolved :: [])))] → va_S A s.heap H locs → ∀ ls : Array Slot, lv_has ls 1 [(0, .ref h_t)] → W p l e R s m args below meth c H locs 0 0 Q (F0 m 32 ls []) := by
      intro E O H locs hP hD hS ls hl
      refine lv_aload_n hx hb d_Mo_isTwice_32 rfl (lv_at hl 0 rfl) ?_
      refine va_get (D := D) (v := .int t_name) hx hb hta i_Mo hown hK hP 0 rfl rfl 26 (by decide) (hta _ lk_Mo_216) (fun _ h9 => h9) rfl d_Mo_isTwice_33 ?_
      refine lv_ldc (v := 1668112752) hx hb hown (hta _ lk_Mo_172) d_Mo_isTwice_36 ?_
      have J_48 : j_Mo_isTwice_48 t_name t_channelsAt t_resolved = RES → oj_Mo_isTwice_48 t_name t_channelsAt t_resolved → ∀ (H : Heap) (locs : List Loc), va_P D classes [(h_t, .inr (7, (.int t_thrown :: .int t_high :: .int t_wide :: .int t_components :: .ref h_t_bits :: .int t_unknown :: .int t_rights :: .int t_colours :: .int t_profiled :: .ref h_t_profile :: .int t_entries :: .int t_columns :: .ref h_t_columnBits :: .ref h_t_numbers :: .int t_maps :: .ref h_t_map :: .int t_lines :: .ref h_t_line :: .ref h_t_resolutions :: .ref h_t_file :: .int t_size :: .int t_scanned :: .int t_refusedAt :: .int t_cursor :: .int t_streamAt :: .int t_streamMany :: .int t_name :: .int t_from :: .int t_end :: .int t_sizeAt :: .int t_bitsAt :: .int t_colourAt :: .int t_colourEnd :: .int t_paletteAt :: .int t_mapAt :: .int t_mapEnd :: .int t_channelsAt :: .int t_captureAt :: .int t_displayAt :: .int t_resolved :: [])))] H → va_D A [(h_t, .inr (7, (.int t_thrown :: .int t_high :: .int t_wide :: .int t_components :: .ref h_t_bits :: .int t_unknown :: .int t_rights :: .int t_colours :: .int t_profiled :: .ref h_t_profile :: .int t_entries :: .int t_columns :: .ref h_t_columnBits :: .ref h_t_numbers :: .int t_maps :: .ref h_t_map :: .int t_lines :: .ref h_t_line :: .ref h_t_resolutions :: .ref h_t_file :: .int t_size :: .int t_scanned :: .int t_refusedAt :: .int t_cursor :: .int t_streamAt :: .int t_streamMany :: .int t_name :: .int t_from :: .int t_end :: .int t_sizeAt :: .int t_bitsAt :: .int t_colourAt :: .int t_colourEnd :: .int t_paletteAt :: .int t_mapAt :: .int t_mapEnd :: .int t_channelsAt :: .int t_captureAt :: .int t_displayAt :: .int t_resolved :: [])))] → va_S A s.heap H locs → ∀ ls : Array Slot, lv_has ls 1 [(0, .ref h_t)] → W p l e R s m args below meth c H locs 0 0 Q (F0 m 48 ls []) := by
        intro E O H locs hP hD hS ls hl
        refine lv_aload_n hx hb d_Mo_isTwice_48 rfl (lv_at hl 0 rfl) ?_
        refine va_get (D := D) (v := .int t_name) hx hb hta i_Mo hown hK hP 0 rfl rfl 26 (by decide) (hta _ lk_Mo_216) (fun _ h9 => h9) rfl d_Mo_isTwice_49 ?_
        refine lv_ldc (v := 1667523942) hx hb hown (hta _ lk_Mo_186) d_Mo_isTwice_52 ?_
        have J_64 : j_Mo_isTwice_64 t_name t_resolved = RES → oj_Mo_isTwice_64 t_name t_resolved → ∀ (H : Heap) (locs : List Loc), va_P D classes [(h_t, .inr (7, (.int t_thrown :: .int t_high :: .int t_wide :: .int t_components :: .ref h_t_bits :: .int t_unknown :: .int t_rights :: .int t_colours :: .int t_profiled :: .ref h_t_profile :: .int t_entries :: .int t_columns :: .ref h_t_columnBits :: .ref h_t_numbers :: .int t_maps :: .ref h_t_map :: .int t_lines :: .ref h_t_line :: .ref h_t_resolutions :: .ref h_t_file :: .int t_size :: .int t_scanned :: .int t_refusedAt :: .int t_cursor :: .int t_streamAt :: .int t_streamMany :: .int t_name :: .int t_from :: .int t_end :: .int t_sizeAt :: .int t_bitsAt :: .int t_colourAt :: .int t_colourEnd :: .int t_paletteAt :: .int t_mapAt :: .int t_mapEnd :: .int t_channelsAt :: .int t_captureAt :: .int t_displayAt :: .int t_resolved :: [])))] H → va_D A [(h_t, .inr (7, (.int t_thrown :: .int t_high :: .int t_wide :: .int t_components :: .ref h_t_bits :: .int t_unknown :: .int t_rights :: .int t_colours :: .int t_profiled :: .ref h_t_profile :: .int t_entries :: .int t_columns :: .ref h_t_columnBits :: .ref h_t_numbers :: .int t_maps :: .ref h_t_map :: .int t_lines :: .ref h_t_line :: .ref h_t_resolutions :: .ref h_t_file :: .int t_size :: .int t_scanned :: .int t_refusedAt :: .int t_cursor :: .int t_streamAt :: .int t_streamMany :: .int t_name :: .int t_from :: .int t_end :: .int t_sizeAt :: .int t_bitsAt :: .int t_colourAt :: .int t_colourEnd :: .int t_paletteAt :: .int t_mapAt :: .int t_mapEnd :: .int t_channelsAt :: .int t_captureAt :: .int t_displayAt :: .int t_resolved :: [])))] → va_S A s.heap H locs → ∀ ls : Array Slot, lv_has ls 1 [(0, .ref h_t)] → W p l e R s m args below meth c H locs 0 0 Q (F0 m 64 ls []) := by
          intro E O H locs hP hD hS ls hl
          refine lv_aload_n hx hb d_Mo_isTwice_64 rfl (lv_at hl 0 rfl) ?_
          refine va_get (D := D) (v := .int t_name) hx hb hta i_Mo hown hK hP 0 rfl rfl 26 (by decide) (hta _ lk_Mo_216) (fun _ h9 => h9) rfl d_Mo_isTwice_65 ?_
          refine lv_ldc (v := 1919251232) hx hb hown (hta _ lk_Mo_187) d_Mo_isTwice_68 ?_
          refine lv_icmp_ne (tgt := 84) hx hb d_Mo_isTwice_70 (by decide) (fun c_70 => ?_) (fun c_70 => ?_)
          · have E := (if_neg c_70).symm.trans E
            have O := Eq.mp (if_neg c_70) O
            refine lv_iconst (v := 0) hx hb d_Mo_isTwice_84 (by decide) ?_
            exact kr_z hx hb hr hlk hQ hK hP hD hS ⟨(0 : Int32), E.trans E0.symm, rfl, rfl⟩ (by omega) (by omega) rfl d_Mo_isTwice_85
          · have E := (if_pos c_70).symm.trans E
            have O := Eq.mp (if_pos c_70) O
            refine lv_aload_n hx hb d_Mo_isTwice_73 rfl (lv_at hl 0 rfl) ?_
            refine va_get (D := D) (v := .int t_resolved) hx hb hta i_Mo hown hK hP 0 rfl rfl 39 (by decide) (hta _ lk_Mo_247) (fun _ h9 => h9) rfl d_Mo_isTwice_74 ?_
            refine lv_if_eq (tgt := 84) hx hb d_Mo_isTwice_77 (by decide) (fun c_77 => ?_) (fun c_77 => ?_)
            · have E := (if_pos c_77).symm.trans E
              have O := Eq.mp (if_pos c_77) O
              refine lv_iconst (v := 0) hx hb d_Mo_isTwice_84 (by decide) ?_
              exact kr_z hx hb hr hlk hQ hK hP hD hS ⟨(0 : Int32), E.trans E0.symm, rfl, rfl⟩ (by omega) (by omega) rfl d_Mo_isTwice_85
            · have E := (if_neg c_77).symm.trans E
              have O := Eq.mp (if_neg c_77) O
              refine lv_iconst (v := 1) hx hb d_Mo_isTwice_80 (by decide) ?_
              refine lv_goto (tgt := 85) hx hb d_Mo_isTwice_81 (by decide) ?_
              exact kr_z hx hb hr hlk hQ hK hP hD hS ⟨(1 : Int32), E.trans E0.symm, rfl, rfl⟩ (by omega) (by omega) rfl d_Mo_isTwice_85
        refine lv_icmp_ne (tgt := 64) hx hb d_Mo_isTwice_54 (by decide) (fun c_54 => ?_) (fun c_54 => ?_)
        · have E := (if_neg c_54).symm.trans E
          have O := Eq.mp (if_neg c_54) O
          exact J_64  E O _ _ hP hD hS ls (lv_sub hl [0] rfl)
        · have E := (if_pos c_54).symm.trans E
          have O := Eq.mp (if_pos c_54) O
          refine lv_aload_n hx hb d_Mo_isTwice_57 rfl (lv_at hl 0 rfl) ?_
          refine va_get (D := D) (v := .int t_channelsAt) hx hb hta i_Mo hown hK hP 0 rfl rfl 36 (by decide) (hta _ lk_Mo_244) (fun _ h9 => h9) rfl d_Mo_isTwice_58 ?_
          refine lv_if_gt (tgt := 80) hx hb d_Mo_isTwice_61 (by decide) (fun c_61 => ?_) (fun c_61 => ?_)
          · have E := (if_pos c_61).symm.trans E
            have O := Eq.mp (if_pos c_61) O
            refine lv_iconst (v := 1) hx hb d_Mo_isTwice_80 (by decide) ?_
            refine lv_goto (tgt := 85) hx hb d_Mo_isTwice_81 (by decide) ?_
            exact kr_z hx hb hr hlk hQ hK hP hD hS ⟨(1 : Int32), E.trans E0.symm, rfl, rfl⟩ (by omega) (by omega) rfl d_Mo_isTwice_85
          · have E := (if_neg c_61).symm.trans E
            have O := Eq.mp (if_neg c_61) O
            exact J_64  E O _ _ hP hD hS ls (lv_sub hl [0] rfl)
      refine lv_icmp_ne (tgt := 48) hx hb d_Mo_isTwice_38 (by decide) (fun c_38 => ?_) (fun c_38 => ?_)
      · have E := (if_neg c_38).symm.trans E
        have O := Eq.mp (if_neg c_38) O
        exact J_48  E O _ _ hP hD hS ls (lv_sub hl [0] rfl)
      · have E := (if_pos c_38).symm.trans E
        have O := Eq.mp (if_pos c_38) O
        refine lv_aload_n hx hb d_Mo_isTwice_41 rfl (lv_at hl 0 rfl) ?_
        refine va_get (D := D) (v := .int t_mapAt) hx hb hta i_Mo hown hK hP 0 rfl rfl 34 (by decide) (hta _ lk_Mo_241) (fun _ h9 => h9) rfl d_Mo_isTwice_42 ?_
        refine lv_if_gt (tgt := 80) hx hb d_Mo_isTwice_45 (by decide) (fun c_45 => ?_) (fun c_45 => ?_)
        · have E := (if_pos c_45).symm.trans E
          have O := Eq.mp (if_pos c_45) O
          refine lv_iconst (v := 1) hx hb d_Mo_isTwice_80 (by decide) ?_
          refine lv_goto (tgt := 85) hx hb d_Mo_isTwice_81 (by decide) ?_
          exact kr_z hx hb hr hlk hQ hK hP hD hS ⟨(1 : Int32), E.trans E0.symm, rfl, rfl⟩ (by omega) (by omega) rfl d_Mo_isTwice_85
        · have E := (if_neg c_45).symm.trans E
          have O := Eq.mp (if_neg c_45) O
          exact J_48  E O _ _ hP hD hS ls (lv_sub hl [0] rfl)
    refine lv_icmp_ne (tgt := 32) hx hb d_Mo_isTwice_22 (by decide) (fun c_22 => ?_) (fun c_22 => ?_)
    · have E := (if_neg c_22).symm.trans E
      have O := Eq.mp (if_neg c_22) O
      exact J_32  E O _ _ hP hD hS ls (lv_sub hl [0] rfl)
    · have E := (if_pos c_22).symm.trans E
      have O := Eq.mp (if_pos c_22) O
      refine lv_aload_n hx hb d_Mo_isTwice_25 rfl (lv_at hl 0 rfl) ?_
      refine va_get (D := D) (v := .int t_paletteAt) hx hb hta i_Mo hown hK hP 0 rfl rfl 33 (by decide) (hta _ lk_Mo_235) (fun _ h9 => h9) rfl d_Mo_isTwice_26 ?_
      refine lv_if_gt (tgt := 80) hx hb d_Mo_isTwice_29 (by decide) (fun c_29 => ?_) (fun c_29 => ?_)
      · have E := (if_pos c_29).symm.trans E
        have O := Eq.mp (if_pos c_29) O
        refine lv_iconst (v := 1) hx hb d_Mo_isTwice_80 (by decide) ?_
        refine lv_goto (tgt := 85) hx hb d_Mo_isTwice_81 (by decide) ?_
        exact kr_z hx hb hr hlk hQ hK hP hD hS ⟨(1 : Int32), E.trans E0.symm, rfl, rfl⟩ (by omega) (by omega) rfl d_Mo_isTwice_85
      · have E := (if_neg c_29).symm.trans E
        have O := Eq.mp (if_neg c_29) O
        exact J_32  E O _ _ hP hD hS ls (lv_sub hl [0] rfl)
  refine lv_icmp_ne (tgt := 16) hx hb d_Mo_isTwice_6 (by decide) (fun c_6 => ?_) (fun c_6 => ?_)
  · have E := (if_neg c_6).symm.trans E
    have O := Eq.mp (if_neg c_6) O
    exact J_16  E O _ _ hP hD hS ls (lv_sub hl [0] rfl)
  · have E := (if_pos c_6).symm.trans E
    have O := Eq.mp (if_pos c_6) O
    refine lv_aload_n hx hb d_Mo_isTwice_9 rfl (lv_at hl 0 rfl) ?_
    refine va_get (D := D) (v := .int t_bitsAt) hx hb hta i_Mo hown hK hP 0 rfl rfl 30 (by decide) (hta _ lk_Mo_238) (fun _ h9 => h9) rfl d_Mo_isTwice_10 ?_
    refine lv_if_gt (tgt := 80) hx hb d_Mo_isTwice_13 (by decide) (fun c_13 => ?_) (fun c_13 => ?_)
    · have E := (if_pos c_13).symm.trans E
      have O := Eq.mp (if_pos c_13) O
      refine lv_iconst (v := 1) hx hb d_Mo_isTwice_80 (by decide) ?_
      refine lv_goto (tgt := 85) hx hb d_Mo_isTwice_81 (by decide) ?_
      exact kr_z hx hb hr hlk hQ hK hP hD hS ⟨(1 : Int32), E.trans E0.symm, rfl, rfl⟩ (by omega) (by omega) rfl d_Mo_isTwice_85
    · have E := (if_neg c_13).symm.trans E
      have O := Eq.mp (if_neg c_13) O
      exact J_16  E O _ _ hP hD hS ls (lv_sub hl [0] rfl)
theorem d_Mo_isGreat_0 : decode b_Mo_isGreat 0 = .ok (.aload_n 0, 1) := by decide +kernel
theorem d_Mo_isGreat_1 : decode b_Mo_isGreat 1 = .ok (.getfield 222, 3) := by decide +kernel
theorem d_Mo_isGreat_4 : decode b_Mo_isGreat 4 = .ok (.aload_n 0, 1) := by decide +kernel
theorem d_Mo_isGreat_5 : decode b_Mo_isGreat 5 = .ok (.getfield 219, 3) := by decide +kernel
theorem d_Mo_isGreat_8 : decode b_Mo_isGreat 8 = .ok (.isub, 1) := by decide +kernel
theorem d_Mo_isGreat_9 : decode b_Mo_isGreat 9 = .ok (.istore_n 1, 1) := by decide +kernel
theorem d_Mo_isGreat_10 : decode b_Mo_isGreat 10 = .ok (.aload_n 0, 1) := by decide +kernel
theorem d_Mo_isGreat_11 : decode b_Mo_isGreat 11 = .ok (.getfield 216, 3) := by decide +kernel
theorem d_Mo_isGreat_14 : decode b_Mo_isGreat 14 = .ok (.lookupswitch 220 #[(1667523942, 118), (1668112752, 104), (1668246642, 185), (1768449138, 50), (1885564018, 137)], 50) := by decide +kernel
theorem d_Mo_isGreat_64 : decode b_Mo_isGreat 64 = .ok (.aload_n 0, 1) := by decide +kernel
theorem d_Mo_isGreat_65 : decode b_Mo_isGreat 65 = .ok (.aload_n 0, 1) := by decide +kernel
theorem d_Mo_isGreat_66 : decode b_Mo_isGreat 66 = .ok (.getfield 219, 3) := by decide +kernel
theorem d_Mo_isGreat_69 : decode b_Mo_isGreat 69 = .ok (.invokevirtual 212, 3) := by decide +kernel
theorem d_Mo_isGreat_72 : decode b_Mo_isGreat 72 = .ok (.ldc2_w 250, 3) := by decide +kernel
theorem d_Mo_isGreat_75 : decode b_Mo_isGreat 75 = .ok (.lcmp, 1) := by decide +kernel
theorem d_Mo_isGreat_76 : decode b_Mo_isGreat 76 = .ok (.ifCond .gt 36, 3) := by decide +kernel
theorem d_Mo_isGreat_79 : decode b_Mo_isGreat 79 = .ok (.aload_n 0, 1) := by decide +kernel
theorem d_Mo_isGreat_80 : decode b_Mo_isGreat 80 = .ok (.aload_n 0, 1) := by decide +kernel
theorem d_Mo_isGreat_81 : decode b_Mo_isGreat 81 = .ok (.getfield 219, 3) := by decide +kernel
theorem d_Mo_isGreat_84 : decode b_Mo_isGreat 84 = .ok (.iconst 4, 1) := by decide +kernel
theorem d_Mo_isGreat_85 : decode b_Mo_isGreat 85 = .ok (.iadd, 1) := by decide +kernel
theorem d_Mo_isGreat_86 : decode b_Mo_isGreat 86 = .ok (.invokevirtual 212, 3) := by decide +kernel
theorem d_Mo_isGreat_89 : decode b_Mo_isGreat 89 = .ok (.ldc2_w 250, 3) := by decide +kernel
theorem d_Mo_isGreat_92 : decode b_Mo_isGreat 92 = .ok (.lcmp, 1) := by decide +kernel
theorem d_Mo_isGreat_93 : decode b_Mo_isGreat 93 = .ok (.ifCond .gt 19, 3) := by decide +kernel
theorem d_Mo_isGreat_96 : decode b_Mo_isGreat 96 = .ok (.aload_n 0, 1) := by decide +kernel
theorem d_Mo_isGreat_97 : decode b_Mo_isGreat 97 = .ok (.aload_n 0, 1) := by decide +kernel
theorem d_Mo_isGreat_98 : decode b_Mo_isGreat 98 = .ok (.getfield 219, 3) := by decide +kernel
theorem d_Mo_isGreat_101 : decode b_Mo_isGreat 101 = .ok (.bipush 8, 2) := by decide +kernel
theorem d_Mo_isGreat_103 : decode b_Mo_isGreat 103 = .ok (.iadd, 1) := by decide +kernel
theorem d_Mo_isGreat_104 : decode b_Mo_isGreat 104 = .ok (.invokevirtual 209, 3) := by decide +kernel
theorem d_Mo_isGreat_107 : decode b_Mo_isGreat 107 = .ok (.bipush 16, 2) := by decide +kernel
theorem d_Mo_isGreat_109 : decode b_Mo_isGreat 109 = .ok (.if_icmp .le 7, 3) := by decide +kernel
theorem d_Mo_isGreat_112 : decode b_Mo_isGreat 112 = .ok (.iconst 1, 1) := by decide +kernel
theorem d_Mo_isGreat_113 : decode b_Mo_isGreat 113 = .ok (.goto 4, 3) := by decide +kernel
theorem d_Mo_isGreat_116 : decode b_Mo_isGreat 116 = .ok (.iconst 0, 1) := by decide +kernel
theorem d_Mo_isGreat_117 : decode b_Mo_isGreat 117 = .ok (.ireturn, 1) := by decide +kernel
theorem d_Mo_isGreat_118 : decode b_Mo_isGreat 118 = .ok (.iload_n 1, 1) := by decide +kernel
theorem d_Mo_isGreat_119 : decode b_Mo_isGreat 119 = .ok (.iconst 4, 1) := by decide +kernel
theorem d_Mo_isGreat_120 : decode b_Mo_isGreat 120 = .ok (.idiv, 1) := by decide +kernel
theorem d_Mo_isGreat_121 : decode b_Mo_isGreat 121 = .ok (.bipush 16, 2) := by decide +kernel
theorem d_Mo_isGreat_123 : decode b_Mo_isGreat 123 = .ok (.if_icmp .le 7, 3) := by decide +kernel
theorem d_Mo_isGreat_126 : decode b_Mo_isGreat 126 = .ok (.iconst 1, 1) := by decide +kernel
theorem d_Mo_isGreat_127 : decode b_Mo_isGreat 127 = .ok (.goto 4, 3) := by decide +kernel
theorem d_Mo_isGreat_130 : decode b_Mo_isGreat 130 = .ok (.iconst 0, 1) := by decide +kernel
theorem d_Mo_isGreat_131 : decode b_Mo_isGreat 131 = .ok (.ireturn, 1) := by decide +kernel
theorem d_Mo_isGreat_132 : decode b_Mo_isGreat 132 = .ok (.aload_n 0, 1) := by decide +kernel
theorem d_Mo_isGreat_133 : decode b_Mo_isGreat 133 = .ok (.aload_n 0, 1) := by decide +kernel
theorem d_Mo_isGreat_134 : decode b_Mo_isGreat 134 = .ok (.getfield 219, 3) := by decide +kernel
theorem d_Mo_isGreat_137 : decode b_Mo_isGreat 137 = .ok (.invokevirtual 209, 3) := by decide +kernel
theorem d_Mo_isGreat_140 : decode b_Mo_isGreat 140 = .ok (.bipush 16, 2) := by decide +kernel
theorem d_Mo_isGreat_142 : decode b_Mo_isGreat 142 = .ok (.if_icmp .le 7, 3) := by decide +kernel
theorem d_Mo_isGreat_145 : decode b_Mo_isGreat 145 = .ok (.iconst 1, 1) := by decide +kernel
theorem d_Mo_isGreat_146 : decode b_Mo_isGreat 146 = .ok (.goto 4, 3) := by decide +kernel
theorem d_Mo_isGreat_149 : decode b_Mo_isGreat 149 = .ok (.iconst 0, 1) := by decide +kernel
theorem d_Mo_isGreat_150 : decode b_Mo_isGreat 150 = .ok (.ireturn, 1) := by decide +kernel
theorem d_Mo_isGreat_151 : decode b_Mo_isGreat 151 = .ok (.aload_n 0, 1) := by decide +kernel
theorem d_Mo_isGreat_152 : decode b_Mo_isGreat 152 = .ok (.getfield 37, 3) := by decide +kernel
theorem d_Mo_isGreat_155 : decode b_Mo_isGreat 155 = .ok (.aload_n 0, 1) := by decide +kernel
theorem d_Mo_isGreat_156 : decode b_Mo_isGreat 156 = .ok (.getfield 219, 3) := by decide +kernel
theorem d_Mo_isGreat_159 : decode b_Mo_isGreat 159 = .ok (.iconst 2, 1) := by decide +kernel
theorem d_Mo_isGreat_160 : decode b_Mo_isGreat 160 = .ok (.iadd, 1) := by decide +kernel
theorem d_Mo_isGreat_161 : decode b_Mo_isGreat 161 = .ok (.iaload, 1) := by decide +kernel
theorem d_Mo_isGreat_162 : decode b_Mo_isGreat 162 = .ok (.bipush 8, 2) := by decide +kernel
theorem d_Mo_isGreat_164 : decode b_Mo_isGreat 164 = .ok (.if_icmp .gt 29, 3) := by decide +kernel
theorem d_Mo_isGreat_167 : decode b_Mo_isGreat 167 = .ok (.aload_n 0, 1) := by decide +kernel
theorem d_Mo_isGreat_168 : decode b_Mo_isGreat 168 = .ok (.aload_n 0, 1) := by decide +kernel
theorem d_Mo_isGreat_169 : decode b_Mo_isGreat 169 = .ok (.getfield 219, 3) := by decide +kernel
theorem d_Mo_isGreat_172 : decode b_Mo_isGreat 172 = .ok (.invokevirtual 209, 3) := by decide +kernel
theorem d_Mo_isGreat_175 : decode b_Mo_isGreat 175 = .ok (.aload_n 0, 1) := by decide +kernel
theorem d_Mo_isGreat_176 : decode b_Mo_isGreat 176 = .ok (.getfield 37, 3) := by decide +kernel
theorem d_Mo_isGreat_179 : decode b_Mo_isGreat 179 = .ok (.aload_n 0, 1) := by decide +kernel
theorem d_Mo_isGreat_180 : decode b_Mo_isGreat 180 = .ok (.getfield 219, 3) := by decide +kernel
theorem d_Mo_isGreat_183 : decode b_Mo_isGreat 183 = .ok (.iconst 2, 1) := by decide +kernel
theorem d_Mo_isGreat_184 : decode b_Mo_isGreat 184 = .ok (.iadd, 1) := by decide +kernel
theorem d_Mo_isGreat_185 : decode b_Mo_isGreat 185 = .ok (.iaload, 1) := by decide +kernel
theorem d_Mo_isGreat_186 : decode b_Mo_isGreat 186 = .ok (.imul, 1) := by decide +kernel
theorem d_Mo_isGreat_187 : decode b_Mo_isGreat 187 = .ok (.sipush 4096, 3) := by decide +kernel
theorem d_Mo_isGreat_190 : decode b_Mo_isGreat 190 = .ok (.if_icmp .le 7, 3) := by decide +kernel
theorem d_Mo_isGreat_193 : decode b_Mo_isGreat 193 = .ok (.iconst 1, 1) := by decide +kernel
theorem d_Mo_isGreat_194 : decode b_Mo_isGreat 194 = .ok (.goto 4, 3) := by decide +kernel
theorem d_Mo_isGreat_197 : decode b_Mo_isGreat 197 = .ok (.iconst 0, 1) := by decide +kernel
theorem d_Mo_isGreat_198 : decode b_Mo_isGreat 198 = .ok (.ireturn, 1) := by decide +kernel
theorem d_Mo_isGreat_199 : decode b_Mo_isGreat 199 = .ok (.aload_n 0, 1) := by decide +kernel
theorem d_Mo_isGreat_200 : decode b_Mo_isGreat 200 = .ok (.getfield 37, 3) := by decide +kernel
theorem d_Mo_isGreat_203 : decode b_Mo_isGreat 203 = .ok (.aload_n 0, 1) := by decide +kernel
theorem d_Mo_isGreat_204 : decode b_Mo_isGreat 204 = .ok (.getfield 219, 3) := by decide +kernel
theorem d_Mo_isGreat_207 : decode b_Mo_isGreat 207 = .ok (.iaload, 1) := by decide +kernel
theorem d_Mo_isGreat_208 : decode b_Mo_isGreat 208 = .ok (.iconst 2, 1) := by decide +kernel
theorem d_Mo_isGreat_209 : decode b_Mo_isGreat 209 = .ok (.if_icmp .ne 23, 3) := by decide +kernel
theorem d_Mo_isGreat_212 : decode b_Mo_isGreat 212 = .ok (.aload_n 0, 1) := by decide +kernel
theorem d_Mo_isGreat_213 : decode b_Mo_isGreat 213 = .ok (.getfield 252, 3) := by decide +kernel
theorem d_Mo_isGreat_216 : decode b_Mo_isGreat 216 = .ok (.ifCond .ne 16, 3) := by decide +kernel
theorem d_Mo_isGreat_219 : decode b_Mo_isGreat 219 = .ok (.iload_n 1, 1) := by decide +kernel
theorem d_Mo_isGreat_220 : decode b_Mo_isGreat 220 = .ok (.iconst 3, 1) := by decide +kernel
theorem d_Mo_isGreat_221 : decode b_Mo_isGreat 221 = .ok (.isub, 1) := by decide +kernel
theorem d_Mo_isGreat_222 : decode b_Mo_isGreat 222 = .ok (.sipush 1024, 3) := by decide +kernel
theorem d_Mo_isGreat_225 : decode b_Mo_isGreat 225 = .ok (.if_icmp .le 7, 3) := by decide +kernel
theorem d_Mo_isGreat_228 : decode b_Mo_isGreat 228 = .ok (.iconst 1, 1) := by decide +kernel
theorem d_Mo_isGreat_229 : decode b_Mo_isGreat 229 = .ok (.goto 4, 3) := by decide +kernel
theorem d_Mo_isGreat_232 : decode b_Mo_isGreat 232 = .ok (.iconst 0, 1) := by decide +kernel
theorem d_Mo_isGreat_233 : decode b_Mo_isGreat 233 = .ok (.ireturn, 1) := by decide +kernel
theorem d_Mo_isGreat_234 : decode b_Mo_isGreat 234 = .ok (.iconst 0, 1) := by decide +kernel
theorem d_Mo_isGreat_235 : decode b_Mo_isGreat 235 = .ok (.ireturn, 1) := by decide +kernel
def k_Mo_isGreat_137 (x137 : Int32) : Int32 :=
  if x137 ≤ 16 then 0 else 1
def ok_Mo_isGreat_137 (x137 : Int32) : Prop :=
  if x137 ≤ 16 then True else True
def k_Mo_isGreat_104 (x104 : Int32) : Int32 :=
  if x104 ≤ 16 then 0 else 1
def ok_Mo_isGreat_104 (x104 : Int32) : Prop :=
  if x104 ≤ 16 then True else True
def k_Mo_isGreat_86 (t_from : Int32) (f_t_file : Nat → Int32) (x86 : Int64) : Int32 :=
  if 0 < (lg_cmp x86 2147483647) then 1 else (k_Mo_isGreat_104 (m_Mo_u2 f_t_file (t_from + 8)))
def ok_Mo_isGreat_86 (t_from : Int32) (f_t_file : Nat → Int32) (x86 : Int64) : Prop :=
  if 0 < (lg_cmp x86 2147483647) then True else (om_Mo_u2 (t_from + 8) ∧ (ok_Mo_isGreat_104 (m_Mo_u2 f_t_file (t_from + 8))))
def k_Mo_isGreat_69 (t_from : Int32) (f_t_file : Nat → Int32) (x69 : Int64) : Int32 :=
  if 0 < (lg_cmp x69 2147483647) then 1 else (k_Mo_isGreat_86 t_from f_t_file (m_Mo_u4 f_t_file (t_from + 4)))
def ok_Mo_isGreat_69 (t_from : Int32) (f_t_file : Nat → Int32) (x69 : Int64) : Prop :=
  if 0 < (lg_cmp x69 2147483647) then True else (om_Mo_u4 f_t_file (t_from + 4) ∧ (ok_Mo_isGreat_86 t_from f_t_file (m_Mo_u4 f_t_file (t_from + 4))))
def k_Mo_isGreat_172 (t_from : Int32) (f_t_file : Nat → Int32) (x172 : Int32) : Int32 :=
  if (x172 * (f_t_file (t_from + 2).toNatClampNeg)) ≤ 4096 then 0 else 1
def ok_Mo_isGreat_172 (t_from : Int32) (f_t_file : Nat → Int32) (x172 : Int32) : Prop :=
  vp_in (t_from + 2) 65536 ∧ (if (x172 * (f_t_file (t_from + 2).toNatClampNeg)) ≤ 4096 then True else True)
def om_Mo_isGreat (t_name : Int32) (t_from : Int32) (t_end : Int32) (t_colourAt : Int32) (f_t_file : Nat → Int32) : Prop :=
  if t_name = 1667523942 then (om_Mo_u2 t_from ∧ (ok_Mo_isGreat_137 (m_Mo_u2 f_t_file t_from))) else (if t_name = 1668112752 then (if ((t_end - t_from) / 4) ≤ 16 then True else True) else (if t_name = 1668246642 then (vp_in t_from 65536 ∧ (if (f_t_file t_from.toNatClampNeg) = 2 then (if t_colourAt = 0 then (if ((t_end - t_from) - 3) ≤ 1024 then True else True) else True) else True)) else (if t_name = 1768449138 then (om_Mo_u4 f_t_file t_from ∧ (ok_Mo_isGreat_69 t_from f_t_file (m_Mo_u4 f_t_file t_from))) else (if t_name = 1885564018 then (vp_in (t_from + 2) 65536 ∧ (if 8 < (f_t_file (t_from + 2).toNatClampNeg) then True else (om_Mo_u2 t_from ∧ (ok_Mo_isGreat_172 t_from f_t_file (m_Mo_u2 f_t_file t_from))))) else True))))
def m_Mo_isGreat (t_name : Int32) (t_from : Int32) (t_end : Int32) (t_colourAt : Int32) (f_t_file : Nat → Int32) : Int32 :=
  if t_name = 1667523942 then (k_Mo_isGreat_137 (m_Mo_u2 f_t_file t_from)) else (if t_name = 1668112752 then (if ((t_end - t_from) / 4) ≤ 16 then 0 else 1) else (if t_name = 1668246642 then (if (f_t_file t_from.toNatClampNeg) = 2 then (if t_colourAt = 0 then (if ((t_end - t_from) - 3) ≤ 1024 then 0 else 1) else 0) else 0) else (if t_name = 1768449138 then (k_Mo_isGreat_69 t_from f_t_file (m_Mo_u4 f_t_file t_from)) else (if t_name = 1885564018 then (if 8 < (f_t_file (t_from + 2).toNatClampNeg) then 1 else (k_Mo_isGreat_172 t_from f_t_file (m_Mo_u2 f_t_file t_from))) else 0))))
set_option maxHeartbeats 4000000 in
set_option maxRecDepth 100000 in
theorem c_Mo_isGreat (l : Launch) (D : va_G) (cB cI cJ : ClassId) (h_t h_t_bits h_t_profile h_t_columnBits h_t_numbers h_t_map h_t_line h_t_resolutions h_t_file : Nat) (t_thrown : Int32) (t_high : Int32) (t_wide : Int32) (t_components : Int32) (t_unknown : Int32) (t_rights : Int32) (t_colours : Int32) (t_profiled : Int32) (t_entries : Int32) (t_columns : Int32) (t_maps : Int32) (t_lines : Int32) (t_size : Int32) (t_scanned : Int32) (t_refusedAt : Int32) (t_cursor : Int32) (t_streamAt : Int32) (t_streamMany : Int32) (t_name : Int32) (t_from : Int32) (t_end : Int32) (t_sizeAt : Int32) (t_bitsAt : Int32) (t_colourAt : Int32) (t_colourEnd : Int32) (t_paletteAt : Int32) (t_mapAt : Int32) (t_mapEnd : Int32) (t_channelsAt : Int32) (t_captureAt : Int32) (t_displayAt : Int32) (t_resolved : Int32) (f_t_file : Nat → Int32) (hO : om_Mo_isGreat t_name t_from t_end t_colourAt f_t_file) (sz : Nat) : Ct l D cB cI cJ y_Mo_isGreat b_Mo_isGreat 2 (some .boolean) 2 42 0 0 [.ref h_t] [(h_t, .inr (7, (.int t_thrown :: .int t_high :: .int t_wide :: .int t_components :: .ref h_t_bits :: .int t_unknown :: .int t_rights :: .int t_colours :: .int t_profiled :: .ref h_t_profile :: .int t_entries :: .int t_columns :: .ref h_t_columnBits :: .ref h_t_numbers :: .int t_maps :: .ref h_t_map :: .int t_lines :: .ref h_t_line :: .ref h_t_resolutions :: .ref h_t_file :: .int t_size :: .int t_scanned :: .int t_refusedAt :: .int t_cursor :: .int t_streamAt :: .int t_streamMany :: .int t_name :: .int t_from :: .int t_end :: .int t_sizeAt :: .int t_bitsAt :: .int t_colourAt :: .int t_colourEnd :: .int t_paletteAt :: .int t_mapAt :: .int t_mapEnd :: .int t_channelsAt :: .int t_captureAt :: .int t_displayAt :: .int t_resolved :: []))), (h_t_file, .inl (cI, 65536, .inl f_t_file))] (fun v w1 => ∃ (x : Int32), x = m_Mo_isGreat t_name t_from t_end t_colourAt f_t_file ∧ v = some (.int x) ∧ w1 = [(h_t, .inr (7, (.int t_thrown :: .int t_high :: .int t_wide :: .int t_components :: .ref h_t_bits :: .int t_unknown :: .int t_rights :: .int t_colours :: .int t_profiled :: .ref h_t_profile :: .int t_entries :: .int t_columns :: .ref h_t_columnBits :: .ref h_t_numbers :: .int t_maps :: .ref h_t_map :: .int t_lines :: .ref h_t_line :: .ref h_t_resolutions :: .ref h_t_file :: .int t_size :: .int t_scanned :: .int t_refusedAt :: .int t_cursor :: .int t_streamAt :: .int t_streamMany :: .int t_name :: .int t_from :: .int t_end :: .int t_sizeAt :: .int t_bitsAt :: .int t_colourAt :: .int t_colourEnd :: .int t_paletteAt :: .int t_mapAt :: .int t_mapEnd :: .int t_channelsAt :: .int t_captureAt :: .int t_displayAt :: .int t_resolved :: []))), (h_t_file, .inl (cI, 65536, .inl f_t_file))]) sz := by
  refine Ct.of (by decide) (Nat.le_of_ble_eq_true rfl) ?_
  intro p e R s m args below meth c A ls Q hx hb hr hlk hml hta hown hin hK hN hA hRf hRl hRc hRs hP hD hS hl hQ
  have hl : lv_has ls 2 [(0, .ref h_t)] := hl
  obtain ⟨RES, E0⟩ : ∃ R, m_Mo_isGreat t_name t_from t_end t_colourAt f_t_file = R := ⟨_, rfl⟩
  have E := E0
  have O := hO
  refine lv_aload_n hx hb d_Mo_isGreat_0 rfl (lv_at hl 0 rfl) ?_
  refine va_get (D := D) (v := .int t_end) hx hb hta i_Mo hown hK hP 0 rfl rfl 28 (by decide) (hta _ lk_Mo_222) (fun _ h9 => h9) rfl d_Mo_isGreat_1 ?_
  refine lv_aload_n hx hb d_Mo_isGreat_4 rfl (lv_at hl 0 rfl) ?_
  refine va_get (D := D) (v := .int t_from) hx hb hta i_Mo hown hK hP 0 rfl rfl 27 (by decide) (hta _ lk_Mo_219) (fun _ h9 => h9) rfl d_Mo_isGreat_5 ?_
  refine lv_isub hx hb d_Mo_isGreat_8 ?_
  refine lv_istore_n (lv' := [(1, .int (t_end - t_from)), (0, .ref h_t)]) hx hb d_Mo_isGreat_9 rfl hl (by decide) rfl (fun ls hl => ?_)
  refine lv_aload_n hx hb d_Mo_isGreat_10 rfl (lv_at hl 1 rfl) ?_
  refine va_get (D := D) (v := .int t_name) hx hb hta i_Mo hown hK hP 0 rfl rfl 26 (by decide) (hta _ lk_Mo_216) (fun _ h9 => h9) rfl d_Mo_isGreat_11 ?_
  by_cases c_14_0 : t_name = 1667523942
  · have E := (if_pos c_14_0).symm.trans E
    have O := Eq.mp (if_pos c_14_0) O
    refine lv_lookup (off := 118) (tgt := 132) hx hb d_Mo_isGreat_14 (by decide) (by rw [c_14_0]; rfl) (by decide) ?_
    refine lv_aload_n hx hb d_Mo_isGreat_132 rfl (lv_at hl 1 rfl) ?_
    refine lv_aload_n hx hb d_Mo_isGreat_133 rfl (lv_at hl 1 rfl) ?_
    refine va_get (D := D) (v := .int t_from) hx hb hta i_Mo hown hK hP 0 rfl rfl 27 (by decide) (hta _ lk_Mo_219) (fun _ h9 => h9) rfl d_Mo_isGreat_134 ?_
    refine kc_V (As := [.int t_from]) (rest := []) (wr := []) [0, 1] [] ⟨hx, hb, hml, hown, hta⟩ hK hN hP hD hS hA (c_Mo_u2 l D cB cI cJ h_t h_t_bits h_t_profile h_t_columnBits h_t_numbers h_t_map h_t_line h_t_resolutions h_t_file t_thrown t_high t_wide t_components t_unknown t_rights t_colours t_profiled t_entries t_columns t_maps t_lines t_size t_scanned t_refusedAt t_cursor t_streamAt t_streamMany t_name t_from t_end t_sizeAt t_bitsAt t_colourAt t_colourEnd t_paletteAt t_mapAt t_mapEnd t_channelsAt t_captureAt t_displayAt t_resolved f_t_file t_from O.1 _) (hta _ lk_Mo_209) (hta _ ini_Mo) (hta _ code_Mo_u2) code_Mo_u2 (hta _ inst_Mo_u2) (hta _ sel_Mo_u2) hd_Mo_u2 rfl ⟨by omega, by omega⟩ (ci := 7) 0 rfl rfl rfl rfl (by decide) (by decide) (by decide) rfl hl.1 (lv_room (Nat.le_of_ble_eq_true rfl)) d_Mo_isGreat_137 ⟨by omega, by omega⟩ (fun v w1 H locs hw hP hD hS => ?_)
    obtain ⟨x137, hx137, rfl, rfl⟩ := hw
    have hP : va_P D classes [(h_t, .inr (7, (.int t_thrown :: .int t_high :: .int t_wide :: .int t_components :: .ref h_t_bits :: .int t_unknown :: .int t_rights :: .int t_colours :: .int t_profiled :: .ref h_t_profile :: .int t_entries :: .int t_columns :: .ref h_t_columnBits :: .ref h_t_numbers :: .int t_maps :: .ref h_t_map :: .int t_lines :: .ref h_t_line :: .ref h_t_resolutions :: .ref h_t_file :: .int t_size :: .int t_scanned :: .int t_refusedAt :: .int t_cursor :: .int t_streamAt :: .int t_streamMany :: .int t_name :: .int t_from :: .int t_end :: .int t_sizeAt :: .int t_bitsAt :: .int t_colourAt :: .int t_colourEnd :: .int t_paletteAt :: .int t_mapAt :: .int t_mapEnd :: .int t_channelsAt :: .int t_captureAt :: .int t_displayAt :: .int t_resolved :: []))), (h_t_file, .inl (cI, 65536, .inl f_t_file))] H := hP.sub [0, 1] rfl
    have hD : va_D A [(h_t, .inr (7, (.int t_thrown :: .int t_high :: .int t_wide :: .int t_components :: .ref h_t_bits :: .int t_unknown :: .int t_rights :: .int t_colours :: .int t_profiled :: .ref h_t_profile :: .int t_entries :: .int t_columns :: .ref h_t_columnBits :: .ref h_t_numbers :: .int t_maps :: .ref h_t_map :: .int t_lines :: .ref h_t_line :: .ref h_t_resolutions :: .ref h_t_file :: .int t_size :: .int t_scanned :: .int t_refusedAt :: .int t_cursor :: .int t_streamAt :: .int t_streamMany :: .int t_name :: .int t_from :: .int t_end :: .int t_sizeAt :: .int t_bitsAt :: .int t_colourAt :: .int t_colourEnd :: .int t_paletteAt :: .int t_mapAt :: .int t_mapEnd :: .int t_channelsAt :: .int t_captureAt :: .int t_displayAt :: .int t_resolved :: []))), (h_t_file, .inl (cI, 65536, .inl f_t_file))] := hD.sub [0, 1] (by decide) rfl
    refine W.eq (g2 := F0 m 140 ls [.int x137]) rfl ?_
    have O := O.2
    have E : k_Mo_isGreat_137 x137 = RES := (congrArg (k_Mo_isGreat_137) hx137).trans E
    have O : ok_Mo_isGreat_137 x137 := by rw [hx137]; exact O
    refine lv_bipush (v := 16) hx hb d_Mo_isGreat_140 (by decide) ?_
    refine lv_icmp_le (tgt := 149) hx hb d_Mo_isGreat_142 (by decide) (fun c_142 => ?_) (fun c_142 => ?_)
    · have E := (if_pos c_142).symm.trans E
      have O := Eq.mp (if_pos c_142) O
      refine lv_iconst (v := 0) hx hb d_Mo_isGreat_149 (by decide) ?_
      exact kr_z hx hb hr hlk hQ hK hP hD hS ⟨(0 : Int32), E.trans E0.symm, rfl, rfl⟩ (by omega) (by omega) rfl d_Mo_isGreat_150
    · have E := (if_neg c_142).symm.trans E
      have O := Eq.mp (if_neg c_142) O
      refine lv_iconst (v := 1) hx hb d_Mo_isGreat_145 (by decide) ?_
      refine lv_goto (tgt := 150) hx hb d_Mo_isGreat_146 (by decide) ?_
      exact kr_z hx hb hr hlk hQ hK hP hD hS ⟨(1 : Int32), E.trans E0.symm, rfl, rfl⟩ (by omega) (by omega) rfl d_Mo_isGreat_150
  have E := (if_neg c_14_0).symm.trans E
  have O := Eq.mp (if_neg c_14_0) O
  by_cases c_14_1 : t_name = 1668112752
  · have E := (if_pos c_14_1).symm.trans E
    have O := Eq.mp (if_pos c_14_1) O
    refine lv_lookup (off := 104) (tgt := 118) hx hb d_Mo_isGreat_14 (by decide) (by rw [c_14_1]; rfl) (by decide) ?_
    refine lv_iload_n hx hb d_Mo_isGreat_118 rfl (lv_at hl 0 rfl) ?_
    refine lv_iconst (v := 4) hx hb d_Mo_isGreat_119 (by decide) ?_
    refine lv_idiv hx hb d_Mo_isGreat_120 (by decide) ?_
    refine lv_bipush (v := 16) hx hb d_Mo_isGreat_121 (by decide) ?_
    refine lv_icmp_le (tgt := 130) hx hb d_Mo_isGreat_123 (by decide) (fun c_123 => ?_) (fun c_123 => ?_)
    · have E := (if_pos c_123).symm.trans E
      have O := Eq.mp (if_pos c_123) O
      refine lv_iconst (v := 0) hx hb d_Mo_isGreat_130 (by decide) ?_
      exact kr_z hx hb hr hlk hQ hK hP hD hS ⟨(0 : Int32), E.trans E0.symm, rfl, rfl⟩ (by omega) (by omega) rfl d_Mo_isGreat_131
    · have E := (if_neg c_123).symm.trans E
      have O := Eq.mp (if_neg c_123) O
      refine lv_iconst (v := 1) hx hb d_Mo_isGreat_126 (by decide) ?_
      refine lv_goto (tgt := 131) hx hb d_Mo_isGreat_127 (by decide) ?_
      exact kr_z hx hb hr hlk hQ hK hP hD hS ⟨(1 : Int32), E.trans E0.symm, rfl, rfl⟩ (by omega) (by omega) rfl d_Mo_isGreat_131
  have E := (if_neg c_14_1).symm.trans E
  have O := Eq.mp (if_neg c_14_1) O
  by_cases c_14_2 : t_name = 1668246642
  · have E := (if_pos c_14_2).symm.trans E
    have O := Eq.mp (if_pos c_14_2) O
    refine lv_lookup (off := 185) (tgt := 199) hx hb d_Mo_isGreat_14 (by decide) (by rw [c_14_2]; rfl) (by decide) ?_
    refine lv_aload_n hx hb d_Mo_isGreat_199 rfl (lv_at hl 1 rfl) ?_
    refine va_get (D := D) (v := .ref h_t_file) hx hb hta i_Mo hown hK hP 0 rfl rfl 19 (by decide) (hta _ lk_Mo_37) (fun _ h9 => h9) rfl d_Mo_isGreat_200 ?_
    refine lv_aload_n hx hb d_Mo_isGreat_203 rfl (lv_at hl 1 rfl) ?_
    refine va_get (D := D) (v := .int t_from) hx hb hta i_Mo hown hK hP 0 rfl rfl 27 (by decide) (hta _ lk_Mo_219) (fun _ h9 => h9) rfl d_Mo_isGreat_204 ?_
    refine va_iald hx hb hK hP 1 1 rfl rfl O.1 d_Mo_isGreat_207 ?_
    have O := O.2
    refine lv_iconst (v := 2) hx hb d_Mo_isGreat_208 (by decide) ?_
    refine lv_icmp_ne (tgt := 232) hx hb d_Mo_isGreat_209 (by decide) (fun c_209 => ?_) (fun c_209 => ?_)
    · have E := (if_neg c_209).symm.trans E
      have O := Eq.mp (if_neg c_209) O
      refine lv_iconst (v := 0) hx hb d_Mo_isGreat_232 (by decide) ?_
      exact kr_z hx hb hr hlk hQ hK hP hD hS ⟨(0 : Int32), E.trans E0.symm, rfl, rfl⟩ (by omega) (by omega) rfl d_Mo_isGreat_233
    · have E := (if_pos c_209).symm.trans E
      have O := Eq.mp (if_pos c_209) O
      refine lv_aload_n hx hb d_Mo_isGreat_212 rfl (lv_at hl 1 rfl) ?_
      refine va_get (D := D) (v := .int t_colourAt) hx hb hta i_Mo hown hK hP 0 rfl rfl 31 (by decide) (hta _ lk_Mo_252) (fun _ h9 => h9) rfl d_Mo_isGreat_213 ?_
      refine lv_if_ne (tgt := 232) hx hb d_Mo_isGreat_216 (by decide) (fun c_216 => ?_) (fun c_216 => ?_)
      · have E := (if_neg c_216).symm.trans E
        have O := Eq.mp (if_neg c_216) O
        refine lv_iconst (v := 0) hx hb d_Mo_isGreat_232 (by decide) ?_
        exact kr_z hx hb hr hlk hQ hK hP hD hS ⟨(0 : Int32), E.trans E0.symm, rfl, rfl⟩ (by omega) (by omega) rfl d_Mo_isGreat_233
      · have E := (if_pos c_216).symm.trans E
        have O := Eq.mp (if_pos c_216) O
        refine lv_iload_n hx hb d_Mo_isGreat_219 rfl (lv_at hl 0 rfl) ?_
        refine lv_iconst (v := 3) hx hb d_Mo_isGreat_220 (by decide) ?_
        refine lv_isub hx hb d_Mo_isGreat_221 ?_
        refine lv_sipush (v := 1024) hx hb d_Mo_isGreat_222 (by decide) ?_
        refine lv_icmp_le (tgt := 232) hx hb d_Mo_isGreat_225 (by decide) (fun c_225 => ?_) (fun c_225 => ?_)
        · have E := (if_pos c_225).symm.trans E
          have O := Eq.mp (if_pos c_225) O
          refine lv_iconst (v := 0) hx hb d_Mo_isGreat_232 (by decide) ?_
          exact kr_z hx hb hr hlk hQ hK hP hD hS ⟨(0 : Int32), E.trans E0.symm, rfl, rfl⟩ (by omega) (by omega) rfl d_Mo_isGreat_233
        · have E := (if_neg c_225).symm.trans E
          have O := Eq.mp (if_neg c_225) O
          refine lv_iconst (v := 1) hx hb d_Mo_isGreat_228 (by decide) ?_
          refine lv_goto (tgt := 233) hx hb d_Mo_isGreat_229 (by decide) ?_
          exact kr_z hx hb hr hlk hQ hK hP hD hS ⟨(1 : Int32), E.trans E0.symm, rfl, rfl⟩ (by omega) (by omega) rfl d_Mo_isGreat_233
  have E := (if_neg c_14_2).symm.trans E
  have O := Eq.mp (if_neg c_14_2) O
  by_cases c_14_3 : t_name = 1768449138
  · have E := (if_pos c_14_3).symm.trans E
    have O := Eq.mp (if_pos c_14_3) O
    refine lv_lookup (off := 50) (tgt := 64) hx hb d_Mo_isGreat_14 (by decide) (by rw [c_14_3]; rfl) (by decide) ?_
    refine lv_aload_n hx hb d_Mo_isGreat_64 rfl (lv_at hl 1 rfl) ?_
    refine lv_aload_n hx hb d_Mo_isGreat_65 rfl (lv_at hl 1 rfl) ?_
    refine va_get (D := D) (v := .int t_from) hx hb hta i_Mo hown hK hP 0 rfl rfl 27 (by decide) (hta _ lk_Mo_219) (fun _ h9 => h9) rfl d_Mo_isGreat_66 ?_
    refine kc_V (As := [.int t_from]) (rest := []) (wr := []) [0, 1] [] ⟨hx, hb, hml, hown, hta⟩ hK hN hP hD hS hA (c_Mo_u4 l D cB cI cJ h_t h_t_bits h_t_profile h_t_columnBits h_t_numbers h_t_map h_t_line h_t_resolutions h_t_file t_thrown t_high t_wide t_components t_unknown t_rights t_colours t_profiled t_entries t_columns t_maps t_lines t_size t_scanned t_refusedAt t_cursor t_streamAt t_streamMany t_name t_from t_end t_sizeAt t_bitsAt t_colourAt t_colourEnd t_paletteAt t_mapAt t_mapEnd t_channelsAt t_captureAt t_displayAt t_resolved f_t_file t_from O.1 _) (hta _ lk_Mo_212) (hta _ ini_Mo) (hta _ code_Mo_u4) code_Mo_u4 (hta _ inst_Mo_u4) (hta _ sel_Mo_u4) hd_Mo_u4 rfl ⟨by omega, by omega⟩ (ci := 7) 0 rfl rfl rfl rfl (by decide) (by decide) (by decide) rfl hl.1 (lv_room (Nat.le_of_ble_eq_true rfl)) d_Mo_isGreat_69 ⟨by omega, by omega⟩ (fun v w1 H locs hw hP hD hS => ?_)
    obtain ⟨x69, hx69, rfl, rfl⟩ := hw
    have hP : va_P D classes [(h_t, .inr (7, (.int t_thrown :: .int t_high :: .int t_wide :: .int t_components :: .ref h_t_bits :: .int t_unknown :: .int t_rights :: .int t_colours :: .int t_profiled :: .ref h_t_profile :: .int t_entries :: .int t_columns :: .ref h_t_columnBits :: .ref h_t_numbers :: .int t_maps :: .ref h_t_map :: .int t_lines :: .ref h_t_line :: .ref h_t_resolutions :: .ref h_t_file :: .int t_size :: .int t_scanned :: .int t_refusedAt :: .int t_cursor :: .int t_streamAt :: .int t_streamMany :: .int t_name :: .int t_from :: .int t_end :: .int t_sizeAt :: .int t_bitsAt :: .int t_colourAt :: .int t_colourEnd :: .int t_paletteAt :: .int t_mapAt :: .int t_mapEnd :: .int t_channelsAt :: .int t_captureAt :: .int t_displayAt :: .int t_resolved :: []))), (h_t_file, .inl (cI, 65536, .inl f_t_file))] H := hP.sub [0, 1] rfl
    have hD : va_D A [(h_t, .inr (7, (.int t_thrown :: .int t_high :: .int t_wide :: .int t_components :: .ref h_t_bits :: .int t_unknown :: .int t_rights :: .int t_colours :: .int t_profiled :: .ref h_t_profile :: .int t_entries :: .int t_columns :: .ref h_t_columnBits :: .ref h_t_numbers :: .int t_maps :: .ref h_t_map :: .int t_lines :: .ref h_t_line :: .ref h_t_resolutions :: .ref h_t_file :: .int t_size :: .int t_scanned :: .int t_refusedAt :: .int t_cursor :: .int t_streamAt :: .int t_streamMany :: .int t_name :: .int t_from :: .int t_end :: .int t_sizeAt :: .int t_bitsAt :: .int t_colourAt :: .int t_colourEnd :: .int t_paletteAt :: .int t_mapAt :: .int t_mapEnd :: .int t_channelsAt :: .int t_captureAt :: .int t_displayAt :: .int t_resolved :: []))), (h_t_file, .inl (cI, 65536, .inl f_t_file))] := hD.sub [0, 1] (by decide) rfl
    refine W.eq (g2 := F0 m 72 ls [.long x69]) rfl ?_
    have O := O.2
    have E : k_Mo_isGreat_69 t_from f_t_file x69 = RES := (congrArg (k_Mo_isGreat_69 t_from f_t_file) hx69).trans E
    have O : ok_Mo_isGreat_69 t_from f_t_file x69 := by rw [hx69]; exact O
    refine lv_ldc2 (v := 2147483647) hx hb hown (hta _ lk_Mo_250) d_Mo_isGreat_72 ?_
    refine W.lcmp hx hb d_Mo_isGreat_75 ?_
    refine lv_if_gt (tgt := 112) hx hb d_Mo_isGreat_76 (by decide) (fun c_76 => ?_) (fun c_76 => ?_)
    · have E := (if_pos c_76).symm.trans E
      have O := Eq.mp (if_pos c_76) O
      refine lv_iconst (v := 1) hx hb d_Mo_isGreat_112 (by decide) ?_
      refine lv_goto (tgt := 117) hx hb d_Mo_isGreat_113 (by decide) ?_
      exact kr_z hx hb hr hlk hQ hK hP hD hS ⟨(1 : Int32), E.trans E0.symm, rfl, rfl⟩ (by omega) (by omega) rfl d_Mo_isGreat_117
    · have E := (if_neg c_76).symm.trans E
      have O := Eq.mp (if_neg c_76) O
      refine lv_aload_n hx hb d_Mo_isGreat_79 rfl (lv_at hl 1 rfl) ?_
      refine lv_aload_n hx hb d_Mo_isGreat_80 rfl (lv_at hl 1 rfl) ?_
      refine va_get (D := D) (v := .int t_from) hx hb hta i_Mo hown hK hP 0 rfl rfl 27 (by decide) (hta _ lk_Mo_219) (fun _ h9 => h9) rfl d_Mo_isGreat_81 ?_
      refine lv_iconst (v := 4) hx hb d_Mo_isGreat_84 (by decide) ?_
      refine lv_iadd hx hb d_Mo_isGreat_85 ?_
      refine kc_V (As := [.int (t_from + 4)]) (rest := []) (wr := []) [0, 1] [] ⟨hx, hb, hml, hown, hta⟩ hK hN hP hD hS hA (c_Mo_u4 l D cB cI cJ h_t h_t_bits h_t_profile h_t_columnBits h_t_numbers h_t_map h_t_line h_t_resolutions h_t_file t_thrown t_high t_wide t_components t_unknown t_rights t_colours t_profiled t_entries t_columns t_maps t_lines t_size t_scanned t_refusedAt t_cursor t_streamAt t_streamMany t_name t_from t_end t_sizeAt t_bitsAt t_colourAt t_colourEnd t_paletteAt t_mapAt t_mapEnd t_channelsAt t_captureAt t_displayAt t_resolved f_t_file (t_from + 4) O.1 _) (hta _ lk_Mo_212) (hta _ ini_Mo) (hta _ code_Mo_u4) code_Mo_u4 (hta _ inst_Mo_u4) (hta _ sel_Mo_u4) hd_Mo_u4 rfl ⟨by omega, by omega⟩ (ci := 7) 0 rfl rfl rfl rfl (by decide) (by decide) (by decide) rfl hl.1 (lv_room (Nat.le_of_ble_eq_true rfl)) d_Mo_isGreat_86 ⟨by omega, by omega⟩ (fun v w1 H locs hw hP hD hS => ?_)
      obtain ⟨x86, hx86, rfl, rfl⟩ := hw
      have hP : va_P D classes [(h_t, .inr (7, (.int t_thrown :: .int t_high :: .int t_wide :: .int t_components :: .ref h_t_bits :: .int t_unknown :: .int t_rights :: .int t_colours :: .int t_profiled :: .ref h_t_profile :: .int t_entries :: .int t_columns :: .ref h_t_columnBits :: .ref h_t_numbers :: .int t_maps :: .ref h_t_map :: .int t_lines :: .ref h_t_line :: .ref h_t_resolutions :: .ref h_t_file :: .int t_size :: .int t_scanned :: .int t_refusedAt :: .int t_cursor :: .int t_streamAt :: .int t_streamMany :: .int t_name :: .int t_from :: .int t_end :: .int t_sizeAt :: .int t_bitsAt :: .int t_colourAt :: .int t_colourEnd :: .int t_paletteAt :: .int t_mapAt :: .int t_mapEnd :: .int t_channelsAt :: .int t_captureAt :: .int t_displayAt :: .int t_resolved :: []))), (h_t_file, .inl (cI, 65536, .inl f_t_file))] H := hP.sub [0, 1] rfl
      have hD : va_D A [(h_t, .inr (7, (.int t_thrown :: .int t_high :: .int t_wide :: .int t_components :: .ref h_t_bits :: .int t_unknown :: .int t_rights :: .int t_colours :: .int t_profiled :: .ref h_t_profile :: .int t_entries :: .int t_columns :: .ref h_t_columnBits :: .ref h_t_numbers :: .int t_maps :: .ref h_t_map :: .int t_lines :: .ref h_t_line :: .ref h_t_resolutions :: .ref h_t_file :: .int t_size :: .int t_scanned :: .int t_refusedAt :: .int t_cursor :: .int t_streamAt :: .int t_streamMany :: .int t_name :: .int t_from :: .int t_end :: .int t_sizeAt :: .int t_bitsAt :: .int t_colourAt :: .int t_colourEnd :: .int t_paletteAt :: .int t_mapAt :: .int t_mapEnd :: .int t_channelsAt :: .int t_captureAt :: .int t_displayAt :: .int t_resolved :: []))), (h_t_file, .inl (cI, 65536, .inl f_t_file))] := hD.sub [0, 1] (by decide) rfl
      refine W.eq (g2 := F0 m 89 ls [.long x86]) rfl ?_
      have O := O.2
      have E : k_Mo_isGreat_86 t_from f_t_file x86 = RES := (congrArg (k_Mo_isGreat_86 t_from f_t_file) hx86).trans E
      have O : ok_Mo_isGreat_86 t_from f_t_file x86 := by rw [hx86]; exact O
      refine lv_ldc2 (v := 2147483647) hx hb hown (hta _ lk_Mo_250) d_Mo_isGreat_89 ?_
      refine W.lcmp hx hb d_Mo_isGreat_92 ?_
      refine lv_if_gt (tgt := 112) hx hb d_Mo_isGreat_93 (by decide) (fun c_93 => ?_) (fun c_93 => ?_)
      · have E := (if_pos c_93).symm.trans E
        have O := Eq.mp (if_pos c_93) O
        refine lv_iconst (v := 1) hx hb d_Mo_isGreat_112 (by decide) ?_
        refine lv_goto (tgt := 117) hx hb d_Mo_isGreat_113 (by decide) ?_
        exact kr_z hx hb hr hlk hQ hK hP hD hS ⟨(1 : Int32), E.trans E0.symm, rfl, rfl⟩ (by omega) (by omega) rfl d_Mo_isGreat_117
      · have E := (if_neg c_93).symm.trans E
        have O := Eq.mp (if_neg c_93) O
        refine lv_aload_n hx hb d_Mo_isGreat_96 rfl (lv_at hl 1 rfl) ?_
        refine lv_aload_n hx hb d_Mo_isGreat_97 rfl (lv_at hl 1 rfl) ?_
        refine va_get (D := D) (v := .int t_from) hx hb hta i_Mo hown hK hP 0 rfl rfl 27 (by decide) (hta _ lk_Mo_219) (fun _ h9 => h9) rfl d_Mo_isGreat_98 ?_
        refine lv_bipush (v := 8) hx hb d_Mo_isGreat_101 (by decide) ?_
        refine lv_iadd hx hb d_Mo_isGreat_103 ?_
        refine kc_V (As := [.int (t_from + 8)]) (rest := []) (wr := []) [0, 1] [] ⟨hx, hb, hml, hown, hta⟩ hK hN hP hD hS hA (c_Mo_u2 l D cB cI cJ h_t h_t_bits h_t_profile h_t_columnBits h_t_numbers h_t_map h_t_line h_t_resolutions h_t_file t_thrown t_high t_wide t_components t_unknown t_rights t_colours t_profiled t_entries t_columns t_maps t_lines t_size t_scanned t_refusedAt t_cursor t_streamAt t_streamMany t_name t_from t_end t_sizeAt t_bitsAt t_colourAt t_colourEnd t_paletteAt t_mapAt t_mapEnd t_channelsAt t_captureAt t_displayAt t_resolved f_t_file (t_from + 8) O.1 _) (hta _ lk_Mo_209) (hta _ ini_Mo) (hta _ code_Mo_u2) code_Mo_u2 (hta _ inst_Mo_u2) (hta _ sel_Mo_u2) hd_Mo_u2 rfl ⟨by omega, by omega⟩ (ci := 7) 0 rfl rfl rfl rfl (by decide) (by decide) (by decide) rfl hl.1 (lv_room (Nat.le_of_ble_eq_true rfl)) d_Mo_isGreat_104 ⟨by omega, by omega⟩ (fun v w1 H locs hw hP hD hS => ?_)
        obtain ⟨x104, hx104, rfl, rfl⟩ := hw
        have hP : va_P D classes [(h_t, .inr (7, (.int t_thrown :: .int t_high :: .int t_wide :: .int t_components :: .ref h_t_bits :: .int t_unknown :: .int t_rights :: .int t_colours :: .int t_profiled :: .ref h_t_profile :: .int t_entries :: .int t_columns :: .ref h_t_columnBits :: .ref h_t_numbers :: .int t_maps :: .ref h_t_map :: .int t_lines :: .ref h_t_line :: .ref h_t_resolutions :: .ref h_t_file :: .int t_size :: .int t_scanned :: .int t_refusedAt :: .int t_cursor :: .int t_streamAt :: .int t_streamMany :: .int t_name :: .int t_from :: .int t_end :: .int t_sizeAt :: .int t_bitsAt :: .int t_colourAt :: .int t_colourEnd :: .int t_paletteAt :: .int t_mapAt :: .int t_mapEnd :: .int t_channelsAt :: .int t_captureAt :: .int t_displayAt :: .int t_resolved :: []))), (h_t_file, .inl (cI, 65536, .inl f_t_file))] H := hP.sub [0, 1] rfl
        have hD : va_D A [(h_t, .inr (7, (.int t_thrown :: .int t_high :: .int t_wide :: .int t_components :: .ref h_t_bits :: .int t_unknown :: .int t_rights :: .int t_colours :: .int t_profiled :: .ref h_t_profile :: .int t_entries :: .int t_columns :: .ref h_t_columnBits :: .ref h_t_numbers :: .int t_maps :: .ref h_t_map :: .int t_lines :: .ref h_t_line :: .ref h_t_resolutions :: .ref h_t_file :: .int t_size :: .int t_scanned :: .int t_refusedAt :: .int t_cursor :: .int t_streamAt :: .int t_streamMany :: .int t_name :: .int t_from :: .int t_end :: .int t_sizeAt :: .int t_bitsAt :: .int t_colourAt :: .int t_colourEnd :: .int t_paletteAt :: .int t_mapAt :: .int t_mapEnd :: .int t_channelsAt :: .int t_captureAt :: .int t_displayAt :: .int t_resolved :: []))), (h_t_file, .inl (cI, 65536, .inl f_t_file))] := hD.sub [0, 1] (by decide) rfl
        refine W.eq (g2 := F0 m 107 ls [.int x104]) rfl ?_
        have O := O.2
        have E : k_Mo_isGreat_104 x104 = RES := (congrArg (k_Mo_isGreat_104) hx104).trans E
        have O : ok_Mo_isGreat_104 x104 := by rw [hx104]; exact O
        refine lv_bipush (v := 16) hx hb d_Mo_isGreat_107 (by decide) ?_
        refine lv_icmp_le (tgt := 116) hx hb d_Mo_isGreat_109 (by decide) (fun c_109 => ?_) (fun c_109 => ?_)
        · have E := (if_pos c_109).symm.trans E
          have O := Eq.mp (if_pos c_109) O
          refine lv_iconst (v := 0) hx hb d_Mo_isGreat_116 (by decide) ?_
          exact kr_z hx hb hr hlk hQ hK hP hD hS ⟨(0 : Int32), E.trans E0.symm, rfl, rfl⟩ (by omega) (by omega) rfl d_Mo_isGreat_117
        · have E := (if_neg c_109).symm.trans E
          have O := Eq.mp (if_neg c_109) O
          refine lv_iconst (v := 1) hx hb d_Mo_isGreat_112 (by decide) ?_
          refine lv_goto (tgt := 117) hx hb d_Mo_isGreat_113 (by decide) ?_
          exact kr_z hx hb hr hlk hQ hK hP hD hS ⟨(1 : Int32), E.trans E0.symm, rfl, rfl⟩ (by omega) (by omega) rfl d_Mo_isGreat_117
  have E := (if_neg c_14_3).symm.trans E
  have O := Eq.mp (if_neg c_14_3) O
  by_cases c_14_4 : t_name = 1885564018
  · have E := (if_pos c_14_4).symm.trans E
    have O := Eq.mp (if_pos c_14_4) O
    refine lv_lookup (off := 137) (tgt := 151) hx hb d_Mo_isGreat_14 (by decide) (by rw [c_14_4]; rfl) (by decide) ?_
    refine lv_aload_n hx hb d_Mo_isGreat_151 rfl (lv_at hl 1 rfl) ?_
    refine va_get (D := D) (v := .ref h_t_file) hx hb hta i_Mo hown hK hP 0 rfl rfl 19 (by decide) (hta _ lk_Mo_37) (fun _ h9 => h9) rfl d_Mo_isGreat_152 ?_
    refine lv_aload_n hx hb d_Mo_isGreat_155 rfl (lv_at hl 1 rfl) ?_
    refine va_get (D := D) (v := .int t_from) hx hb hta i_Mo hown hK hP 0 rfl rfl 27 (by decide) (hta _ lk_Mo_219) (fun _ h9 => h9) rfl d_Mo_isGreat_156 ?_
    refine lv_iconst (v := 2) hx hb d_Mo_isGreat_159 (by decide) ?_
    refine lv_iadd hx hb d_Mo_isGreat_160 ?_
    refine va_iald hx hb hK hP 1 1 rfl rfl O.1 d_Mo_isGreat_161 ?_
    have O := O.2
    refine lv_bipush (v := 8) hx hb d_Mo_isGreat_162 (by decide) ?_
    refine lv_icmp_gt (tgt := 193) hx hb d_Mo_isGreat_164 (by decide) (fun c_164 => ?_) (fun c_164 => ?_)
    · have E := (if_pos c_164).symm.trans E
      have O := Eq.mp (if_pos c_164) O
      refine lv_iconst (v := 1) hx hb d_Mo_isGreat_193 (by decide) ?_
      refine lv_goto (tgt := 198) hx hb d_Mo_isGreat_194 (by decide) ?_
      exact kr_z hx hb hr hlk hQ hK hP hD hS ⟨(1 : Int32), E.trans E0.symm, rfl, rfl⟩ (by omega) (by omega) rfl d_Mo_isGreat_198
    · have E := (if_neg c_164).symm.trans E
      have O := Eq.mp (if_neg c_164) O
      refine lv_aload_n hx hb d_Mo_isGreat_167 rfl (lv_at hl 1 rfl) ?_
      refine lv_aload_n hx hb d_Mo_isGreat_168 rfl (lv_at hl 1 rfl) ?_
      refine va_get (D := D) (v := .int t_from) hx hb hta i_Mo hown hK hP 0 rfl rfl 27 (by decide) (hta _ lk_Mo_219) (fun _ h9 => h9) rfl d_Mo_isGreat_169 ?_
      refine kc_V (As := [.int t_from]) (rest := []) (wr := []) [0, 1] [] ⟨hx, hb, hml, hown, hta⟩ hK hN hP hD hS hA (c_Mo_u2 l D cB cI cJ h_t h_t_bits h_t_profile h_t_columnBits h_t_numbers h_t_map h_t_line h_t_resolutions h_t_file t_thrown t_high t_wide t_components t_unknown t_rights t_colours t_profiled t_entries t_columns t_maps t_lines t_size t_scanned t_refusedAt t_cursor t_streamAt t_streamMany t_name t_from t_end t_sizeAt t_bitsAt t_colourAt t_colourEnd t_paletteAt t_mapAt t_mapEnd t_channelsAt t_captureAt t_displayAt t_resolved f_t_file t_from O.1 _) (hta _ lk_Mo_209) (hta _ ini_Mo) (hta _ code_Mo_u2) code_Mo_u2 (hta _ inst_Mo_u2) (hta _ sel_Mo_u2) hd_Mo_u2 rfl ⟨by omega, by omega⟩ (ci := 7) 0 rfl rfl rfl rfl (by decide) (by decide) (by decide) rfl hl.1 (lv_room (Nat.le_of_ble_eq_true rfl)) d_Mo_isGreat_172 ⟨by omega, by omega⟩ (fun v w1 H locs hw hP hD hS => ?_)
      obtain ⟨x172, hx172, rfl, rfl⟩ := hw
      have hP : va_P D classes [(h_t, .inr (7, (.int t_thrown :: .int t_high :: .int t_wide :: .int t_components :: .ref h_t_bits :: .int t_unknown :: .int t_rights :: .int t_colours :: .int t_profiled :: .ref h_t_profile :: .int t_entries :: .int t_columns :: .ref h_t_columnBits :: .ref h_t_numbers :: .int t_maps :: .ref h_t_map :: .int t_lines :: .ref h_t_line :: .ref h_t_resolutions :: .ref h_t_file :: .int t_size :: .int t_scanned :: .int t_refusedAt :: .int t_cursor :: .int t_streamAt :: .int t_streamMany :: .int t_name :: .int t_from :: .int t_end :: .int t_sizeAt :: .int t_bitsAt :: .int t_colourAt :: .int t_colourEnd :: .int t_paletteAt :: .int t_mapAt :: .int t_mapEnd :: .int t_channelsAt :: .int t_captureAt :: .int t_displayAt :: .int t_resolved :: []))), (h_t_file, .inl (cI, 65536, .inl f_t_file))] H := hP.sub [0, 1] rfl
      have hD : va_D A [(h_t, .inr (7, (.int t_thrown :: .int t_high :: .int t_wide :: .int t_components :: .ref h_t_bits :: .int t_unknown :: .int t_rights :: .int t_colours :: .int t_profiled :: .ref h_t_profile :: .int t_entries :: .int t_columns :: .ref h_t_columnBits :: .ref h_t_numbers :: .int t_maps :: .ref h_t_map :: .int t_lines :: .ref h_t_line :: .ref h_t_resolutions :: .ref h_t_file :: .int t_size :: .int t_scanned :: .int t_refusedAt :: .int t_cursor :: .int t_streamAt :: .int t_streamMany :: .int t_name :: .int t_from :: .int t_end :: .int t_sizeAt :: .int t_bitsAt :: .int t_colourAt :: .int t_colourEnd :: .int t_paletteAt :: .int t_mapAt :: .int t_mapEnd :: .int t_channelsAt :: .int t_captureAt :: .int t_displayAt :: .int t_resolved :: []))), (h_t_file, .inl (cI, 65536, .inl f_t_file))] := hD.sub [0, 1] (by decide) rfl
      refine W.eq (g2 := F0 m 175 ls [.int x172]) rfl ?_
      have O := O.2
      have E : k_Mo_isGreat_172 t_from f_t_file x172 = RES := (congrArg (k_Mo_isGreat_172 t_from f_t_file) hx172).trans E
      have O : ok_Mo_isGreat_172 t_from f_t_file x172 := by rw [hx172]; exact O
      refine lv_aload_n hx hb d_Mo_isGreat_175 rfl (lv_at hl 1 rfl) ?_
      refine va_get (D := D) (v := .ref h_t_file) hx hb hta i_Mo hown hK hP 0 rfl rfl 19 (by decide) (hta _ lk_Mo_37) (fun _ h9 => h9) rfl d_Mo_isGreat_176 ?_
      refine lv_aload_n hx hb d_Mo_isGreat_179 rfl (lv_at hl 1 rfl) ?_
      refine va_get (D := D) (v := .int t_from) hx hb hta i_Mo hown hK hP 0 rfl rfl 27 (by decide) (hta _ lk_Mo_219) (fun _ h9 => h9) rfl d_Mo_isGreat_180 ?_
      refine lv_iconst (v := 2) hx hb d_Mo_isGreat_183 (by decide) ?_
      refine lv_iadd hx hb d_Mo_isGreat_184 ?_
      refine va_iald hx hb hK hP 1 1 rfl rfl O.1 d_Mo_isGreat_185 ?_
      have O := O.2
      refine lv_imul hx hb d_Mo_isGreat_186 ?_
      refine lv_sipush (v := 4096) hx hb d_Mo_isGreat_187 (by decide) ?_
      refine lv_icmp_le (tgt := 197) hx hb d_Mo_isGreat_190 (by decide) (fun c_190 => ?_) (fun c_190 => ?_)
      · have E := (if_pos c_190).symm.trans E
        have O := Eq.mp (if_pos c_190) O
        refine lv_iconst (v := 0) hx hb d_Mo_isGreat_197 (by decide) ?_
        exact kr_z hx hb hr hlk hQ hK hP hD hS ⟨(0 : Int32), E.trans E0.symm, rfl, rfl⟩ (by omega) (by omega) rfl d_Mo_isGreat_198
      · have E := (if_neg c_190).symm.trans E
        have O := Eq.mp (if_neg c_190) O
        refine lv_iconst (v := 1) hx hb d_Mo_isGreat_193 (by decide) ?_
        refine lv_goto (tgt := 198) hx hb d_Mo_isGreat_194 (by decide) ?_
        exact kr_z hx hb hr hlk hQ hK hP hD hS ⟨(1 : Int32), E.trans E0.symm, rfl, rfl⟩ (by omega) (by omega) rfl d_Mo_isGreat_198
  have E := (if_neg c_14_4).symm.trans E
  have O := Eq.mp (if_neg c_14_4) O
  refine lv_lookup (off := 220) (tgt := 234) hx hb d_Mo_isGreat_14 (by decide) (by rw [lv_osw c_14_0 (a := 1667523942) (by decide), lv_osw c_14_1 (a := 1668112752) (by decide), lv_osw c_14_2 (a := 1668246642) (by decide), lv_osw c_14_3 (a := 1768449138) (by decide), lv_osw c_14_4 (a := 1885564018) (by decide)]; rfl) (by decide) ?_
  refine lv_iconst (v := 0) hx hb d_Mo_isGreat_234 (by decide) ?_
  exact kr_z hx hb hr hlk hQ hK hP hD hS ⟨(0 : Int32), E.trans E0.symm, rfl, rfl⟩ (by omega) (by omega) rfl d_Mo_isGreat_235
