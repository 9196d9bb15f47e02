theorem d_Mo_countOf_0 : decode b_Mo_countOf 0 = .ok (.iload_n 1, 1) := by decide +kernel
theorem d_Mo_countOf_1 : decode b_Mo_countOf 1 = .ok (.tableswitch 76 20 28 #[51, 56, 61, 66, 66, 66, 71, 71, 71], 51) := by decide +kernel
theorem d_Mo_countOf_52 : decode b_Mo_countOf 52 = .ok (.aload_n 0, 1) := by decide +kernel
theorem d_Mo_countOf_53 : decode b_Mo_countOf 53 = .ok (.getfield 55, 3) := by decide +kernel
theorem d_Mo_countOf_56 : decode b_Mo_countOf 56 = .ok (.ireturn, 1) := by decide +kernel
theorem d_Mo_countOf_57 : decode b_Mo_countOf 57 = .ok (.aload_n 0, 1) := by decide +kernel
theorem d_Mo_countOf_58 : decode b_Mo_countOf 58 = .ok (.getfield 13, 3) := by decide +kernel
theorem d_Mo_countOf_61 : decode b_Mo_countOf 61 = .ok (.ireturn, 1) := by decide +kernel
theorem d_Mo_countOf_62 : decode b_Mo_countOf 62 = .ok (.aload_n 0, 1) := by decide +kernel
theorem d_Mo_countOf_63 : decode b_Mo_countOf 63 = .ok (.getfield 70, 3) := by decide +kernel
theorem d_Mo_countOf_66 : decode b_Mo_countOf 66 = .ok (.ireturn, 1) := by decide +kernel
theorem d_Mo_countOf_67 : decode b_Mo_countOf 67 = .ok (.aload_n 0, 1) := by decide +kernel
theorem d_Mo_countOf_68 : decode b_Mo_countOf 68 = .ok (.getfield 73, 3) := by decide +kernel
theorem d_Mo_countOf_71 : decode b_Mo_countOf 71 = .ok (.ireturn, 1) := by decide +kernel
theorem d_Mo_countOf_72 : decode b_Mo_countOf 72 = .ok (.aload_n 0, 1) := by decide +kernel
theorem d_Mo_countOf_73 : decode b_Mo_countOf 73 = .ok (.getfield 76, 3) := by decide +kernel
theorem d_Mo_countOf_76 : decode b_Mo_countOf 76 = .ok (.ireturn, 1) := by decide +kernel
theorem d_Mo_countOf_77 : decode b_Mo_countOf 77 = .ok (.iconst 0, 1) := by decide +kernel
theorem d_Mo_countOf_78 : decode b_Mo_countOf 78 = .ok (.ireturn, 1) := by decide +kernel
def om_Mo_countOf (p1 : Int32) : Prop :=
  if p1 = 20 then True else (if p1 = 21 then True else (if p1 = 22 then True else (if p1 = 23 then True else (if p1 = 24 then True else (if p1 = 25 then True else (if p1 = 26 then True else (if p1 = 27 then True else (if p1 = 28 then True else True))))))))
def m_Mo_countOf (t_components : Int32) (t_profiled : Int32) (t_columns : Int32) (t_maps : Int32) (t_lines : Int32) (p1 : Int32) : Int32 :=
  if p1 = 20 then t_components else (if p1 = 21 then t_profiled else (if p1 = 22 then t_columns else (if p1 = 23 then t_maps else (if p1 = 24 then t_maps else (if p1 = 25 then t_maps else (if p1 = 26 then t_lines else (if p1 = 27 then t_lines else (if p1 = 28 then t_lines else 0))))))))
set_option maxHeartbeats 4000000 in
set_option maxRecDepth 100000 in
theorem c_Mo_countOf (l : Launch) (D : va_G) (cB cI cJ : ClassId) (h_t h_t_bits h_t_profile h_t_columnBits h_t_numbers h_t_map h_t_line h_t_resolutions h_t_file : Nat) (t_thrown : Int32) (t_high : Int32) (t_wide : Int32) (t_components : Int32) (t_unknown : Int32) (t_rights : Int32) (t_colours : Int32) (t_profiled : Int32) (t_entries : Int32) (t_columns : Int32) (t_maps : Int32) (t_lines : Int32) (t_size : Int32) (t_scanned : Int32) (t_refusedAt : Int32) (t_cursor : Int32) (t_streamAt : Int32) (t_streamMany : Int32) (t_name : Int32) (t_from : Int32) (t_end : Int32) (t_sizeAt : Int32) (t_bitsAt : Int32) (t_colourAt : Int32) (t_colourEnd : Int32) (t_paletteAt : Int32) (t_mapAt : Int32) (t_mapEnd : Int32) (t_channelsAt : Int32) (t_captureAt : Int32) (t_displayAt : Int32) (t_resolved : Int32) (p1 : Int32) (hO : om_Mo_countOf p1) (sz : Nat) : Ct l D cB cI cJ y_Mo_countOf b_Mo_countOf 2 (some .int) 0 0 0 0 [.ref h_t, .int p1] [(h_t, .inr (7, (.int t_thrown :: .int t_high :: .int t_wide :: .int t_components :: .ref h_t_bits :: .int t_unknown :: .int t_rights :: .int t_colours :: .int t_profiled :: .ref h_t_profile :: .int t_entries :: .int t_columns :: .ref h_t_columnBits :: .ref h_t_numbers :: .int t_maps :: .ref h_t_map :: .int t_lines :: .ref h_t_line :: .ref h_t_resolutions :: .ref h_t_file :: .int t_size :: .int t_scanned :: .int t_refusedAt :: .int t_cursor :: .int t_streamAt :: .int t_streamMany :: .int t_name :: .int t_from :: .int t_end :: .int t_sizeAt :: .int t_bitsAt :: .int t_colourAt :: .int t_colourEnd :: .int t_paletteAt :: .int t_mapAt :: .int t_mapEnd :: .int t_channelsAt :: .int t_captureAt :: .int t_displayAt :: .int t_resolved :: [])))] (fun v w1 => ∃ (x : Int32), x = m_Mo_countOf t_components t_profiled t_columns t_maps t_lines p1 ∧ v = some (.int x) ∧ w1 = [(h_t, .inr (7, (.int t_thrown :: .int t_high :: .int t_wide :: .int t_components :: .ref h_t_bits :: .int t_unknown :: .int t_rights :: .int t_colours :: .int t_profiled :: .ref h_t_profile :: .int t_entries :: .int t_columns :: .ref h_t_columnBits :: .ref h_t_numbers :: .int t_maps :: .ref h_t_map :: .int t_lines :: .ref h_t_line :: .ref h_t_resolutions :: .ref h_t_file :: .int t_size :: .int t_scanned :: .int t_refusedAt :: .int t_cursor :: .int t_streamAt :: .int t_streamMany :: .int t_name :: .int t_from :: .int t_end :: .int t_sizeAt :: .int t_bitsAt :: .int t_colourAt :: .int t_colourEnd :: .int t_paletteAt :: .int t_mapAt :: .int t_mapEnd :: .int t_channelsAt :: .int t_captureAt :: .int t_displayAt :: .int t_resolved :: [])))]) sz := by
  refine Ct.of (by decide) (Nat.le_of_ble_eq_true rfl) ?_
  intro p e R s m args below meth c A ls Q hx hb hr hlk hml hta hown hin hK hN hA hRf hRl hRc hRs hP hD hS hl hQ
  have hl : lv_has ls 2 [(0, .ref h_t), (1, .int p1)] := hl
  obtain ⟨RES, E0⟩ : ∃ R, m_Mo_countOf t_components t_profiled t_columns t_maps t_lines p1 = R := ⟨_, rfl⟩
  have E := E0
  have O := hO
  refine lv_iload_n hx hb d_Mo_countOf_0 rfl (lv_at hl 1 rfl) ?_
  by_cases c_1_0 : p1 = 20
  · have E := (if_pos c_1_0).symm.trans E
    have O := Eq.mp (if_pos c_1_0) O
    refine lv_tableIn (off := 51) (tgt := 52) hx hb d_Mo_countOf_1 (by rw [c_1_0]; decide) (by rw [c_1_0]; decide) (by rw [c_1_0]; rfl) (by decide) ?_
    refine lv_aload_n hx hb d_Mo_countOf_52 rfl (lv_at hl 0 rfl) ?_
    refine va_get (D := D) (v := .int t_components) hx hb hta i_Mo hown hK hP 0 rfl rfl 3 (by decide) (hta _ lk_Mo_55) (fun _ h9 => h9) rfl d_Mo_countOf_53 ?_
    exact kr_i hx hb hr hlk hQ hK hP hD hS ⟨(t_components : Int32), E.trans E0.symm, rfl, rfl⟩ (by omega) (by omega) d_Mo_countOf_56
  have E := (if_neg c_1_0).symm.trans E
  have O := Eq.mp (if_neg c_1_0) O
  by_cases c_1_1 : p1 = 21
  · have E := (if_pos c_1_1).symm.trans E
    have O := Eq.mp (if_pos c_1_1) O
    refine lv_tableIn (off := 56) (tgt := 57) hx hb d_Mo_countOf_1 (by rw [c_1_1]; decide) (by rw [c_1_1]; decide) (by rw [c_1_1]; rfl) (by decide) ?_
    refine lv_aload_n hx hb d_Mo_countOf_57 rfl (lv_at hl 0 rfl) ?_
    refine va_get (D := D) (v := .int t_profiled) hx hb hta i_Mo hown hK hP 0 rfl rfl 8 (by decide) (hta _ lk_Mo_13) (fun _ h9 => h9) rfl d_Mo_countOf_58 ?_
    exact kr_i hx hb hr hlk hQ hK hP hD hS ⟨(t_profiled : Int32), E.trans E0.symm, rfl, rfl⟩ (by omega) (by omega) d_Mo_countOf_61
  have E := (if_neg c_1_1).symm.trans E
  have O := Eq.mp (if_neg c_1_1) O
  by_cases c_1_2 : p1 = 22
  · have E := (if_pos c_1_2).symm.trans E
    have O := Eq.mp (if_pos c_1_2) O
    refine lv_tableIn (off := 61) (tgt := 62) hx hb d_Mo_countOf_1 (by rw [c_1_2]; decide) (by rw [c_1_2]; decide) (by rw [c_1_2]; rfl) (by decide) ?_
    refine lv_aload_n hx hb d_Mo_countOf_62 rfl (lv_at hl 0 rfl) ?_
    refine va_get (D := D) (v := .int t_columns) hx hb hta i_Mo hown hK hP 0 rfl rfl 11 (by decide) (hta _ lk_Mo_70) (fun _ h9 => h9) rfl d_Mo_countOf_63 ?_
    exact kr_i hx hb hr hlk hQ hK hP hD hS ⟨(t_columns : Int32), E.trans E0.symm, rfl, rfl⟩ (by omega) (by omega) d_Mo_countOf_66
  have E := (if_neg c_1_2).symm.trans E
  have O := Eq.mp (if_neg c_1_2) O
  by_cases c_1_3 : p1 = 23
  · have E := (if_pos c_1_3).symm.trans E
    have O := Eq.mp (if_pos c_1_3) O
    refine lv_tableIn (off := 66) (tgt := 67) hx hb d_Mo_countOf_1 (by rw [c_1_3]; decide) (by rw [c_1_3]; decide) (by rw [c_1_3]; rfl) (by decide) ?_
    refine lv_aload_n hx hb d_Mo_countOf_67 rfl (lv_at hl 0 rfl) ?_
    refine va_get (D := D) (v := .int t_maps) hx hb hta i_Mo hown hK hP 0 rfl rfl 14 (by decide) (hta _ lk_Mo_73) (fun _ h9 => h9) rfl d_Mo_countOf_68 ?_
    exact kr_i hx hb hr hlk hQ hK hP hD hS ⟨(t_maps : Int32), E.trans E0.symm, rfl, rfl⟩ (by omega) (by omega) d_Mo_countOf_71
  have E := (if_neg c_1_3).symm.trans E
  have O := Eq.mp (if_neg c_1_3) O
  by_cases c_1_4 : p1 = 24
  · have E := (if_pos c_1_4).symm.trans E
    have O := Eq.mp (if_pos c_1_4) O
    refine lv_tableIn (off := 66) (tgt := 67) hx hb d_Mo_countOf_1 (by rw [c_1_4]; decide) (by rw [c_1_4]; decide) (by rw [c_1_4]; rfl) (by decide) ?_
    refine lv_aload_n hx hb d_Mo_countOf_67 rfl (lv_at hl 0 rfl) ?_
    refine va_get (D := D) (v := .int t_maps) hx hb hta i_Mo hown hK hP 0 rfl rfl 14 (by decide) (hta _ lk_Mo_73) (fun _ h9 => h9) rfl d_Mo_countOf_68 ?_
    exact kr_i hx hb hr hlk hQ hK hP hD hS ⟨(t_maps : Int32), E.trans E0.symm, rfl, rfl⟩ (by omega) (by omega) d_Mo_countOf_71
  have E := (if_neg c_1_4).symm.trans E
  have O := Eq.mp (if_neg c_1_4) O
  by_cases c_1_5 : p1 = 25
  · have E := (if_pos c_1_5).symm.trans E
    have O := Eq.mp (if_pos c_1_5) O
    refine lv_tableIn (off := 66) (tgt := 67) hx hb d_Mo_countOf_1 (by rw [c_1_5]; decide) (by rw [c_1_5]; decide) (by rw [c_1_5]; rfl) (by decide) ?_
    refine lv_aload_n hx hb d_Mo_countOf_67 rfl (lv_at hl 0 rfl) ?_
    refine va_get (D := D) (v := .int t_maps) hx hb hta i_Mo hown hK hP 0 rfl rfl 14 (by decide) (hta _ lk_Mo_73) (fun _ h9 => h9) rfl d_Mo_countOf_68 ?_
    exact kr_i hx hb hr hlk hQ hK hP hD hS ⟨(t_maps : Int32), E.trans E0.symm, rfl, rfl⟩ (by omega) (by omega) d_Mo_countOf_71
  have E := (if_neg c_1_5).symm.trans E
  have O := Eq.mp (if_neg c_1_5) O
  by_cases c_1_6 : p1 = 26
  · have E := (if_pos c_1_6).symm.trans E
    have O := Eq.mp (if_pos c_1_6) O
    refine lv_tableIn (off := 71) (tgt := 72) hx hb d_Mo_countOf_1 (by rw [c_1_6]; decide) (by rw [c_1_6]; decide) (by rw [c_1_6]; rfl) (by decide) ?_
    refine lv_aload_n hx hb d_Mo_countOf_72 rfl (lv_at hl 0 rfl) ?_
    refine va_get (D := D) (v := .int t_lines) hx hb hta i_Mo hown hK hP 0 rfl rfl 16 (by decide) (hta _ lk_Mo_76) (fun _ h9 => h9) rfl d_Mo_countOf_73 ?_
    exact kr_i hx hb hr hlk hQ hK hP hD hS ⟨(t_lines : Int32), E.trans E0.symm, rfl, rfl⟩ (by omega) (by omega) d_Mo_countOf_76
  have E := (if_neg c_1_6).symm.trans E
  have O := Eq.mp (if_neg c_1_6) O
  by_cases c_1_7 : p1 = 27
  · have E := (if_pos c_1_7).symm.trans E
    have O := Eq.mp (if_pos c_1_7) O
    refine lv_tableIn (off := 71) (tgt := 72) hx hb d_Mo_countOf_1 (by rw [c_1_7]; decide) (by rw [c_1_7]; decide) (by rw [c_1_7]; rfl) (by decide) ?_
    refine lv_aload_n hx hb d_Mo_countOf_72 rfl (lv_at hl 0 rfl) ?_
    refine va_get (D := D) (v := .int t_lines) hx hb hta i_Mo hown hK hP 0 rfl rfl 16 (by decide) (hta _ lk_Mo_76) (fun _ h9 => h9) rfl d_Mo_countOf_73 ?_
    exact kr_i hx hb hr hlk hQ hK hP hD hS ⟨(t_lines : Int32), E.trans E0.symm, rfl, rfl⟩ (by omega) (by omega) d_Mo_countOf_76
  have E := (if_neg c_1_7).symm.trans E
  have O := Eq.mp (if_neg c_1_7) O
  by_cases c_1_8 : p1 = 28
  · have E := (if_pos c_1_8).symm.trans E
    have O := Eq.mp (if_pos c_1_8) O
    refine lv_tableIn (off := 71) (tgt := 72) hx hb d_Mo_countOf_1 (by rw [c_1_8]; decide) (by rw [c_1_8]; decide) (by rw [c_1_8]; rfl) (by decide) ?_
    refine lv_aload_n hx hb d_Mo_countOf_72 rfl (lv_at hl 0 rfl) ?_
    refine va_get (D := D) (v := .int t_lines) hx hb hta i_Mo hown hK hP 0 rfl rfl 16 (by decide) (hta _ lk_Mo_76) (fun _ h9 => h9) rfl d_Mo_countOf_73 ?_
    exact kr_i hx hb hr hlk hQ hK hP hD hS ⟨(t_lines : Int32), E.trans E0.symm, rfl, rfl⟩ (by omega) (by omega) d_Mo_countOf_76
  have E := (if_neg c_1_8).symm.trans E
  have O := Eq.mp (if_neg c_1_8) O
  refine lv_tableOut (tgt := 77) hx hb d_Mo_countOf_1 (by have g0 := lv_neT c_1_0 (a := 20) (by decide); have g1 := lv_neT c_1_1 (a := 21) (by decide); have g2 := lv_neT c_1_2 (a := 22) (by decide); have g3 := lv_neT c_1_3 (a := 23) (by decide); have g4 := lv_neT c_1_4 (a := 24) (by decide); have g5 := lv_neT c_1_5 (a := 25) (by decide); have g6 := lv_neT c_1_6 (a := 26) (by decide); have g7 := lv_neT c_1_7 (a := 27) (by decide); have g8 := lv_neT c_1_8 (a := 28) (by decide); omega) (by decide) ?_
  refine lv_iconst (v := 0) hx hb d_Mo_countOf_77 (by decide) ?_
  exact kr_i hx hb hr hlk hQ hK hP hD hS ⟨(0 : Int32), E.trans E0.symm, rfl, rfl⟩ (by omega) (by omega) d_Mo_countOf_78
theorem d_Mo_told_0 : decode b_Mo_told 0 = .ok (.iload_n 1, 1) := by decide +kernel
theorem d_Mo_told_1 : decode b_Mo_told 1 = .ok (.tableswitch 74 20 25 #[39, 46, 53, 60, 60, 60], 39) := by decide +kernel
theorem d_Mo_told_40 : decode b_Mo_told 40 = .ok (.aload_n 0, 1) := by decide +kernel
theorem d_Mo_told_41 : decode b_Mo_told 41 = .ok (.getfield 7, 3) := by decide +kernel
theorem d_Mo_told_44 : decode b_Mo_told 44 = .ok (.iload_n 2, 1) := by decide +kernel
theorem d_Mo_told_45 : decode b_Mo_told 45 = .ok (.iaload, 1) := by decide +kernel
theorem d_Mo_told_46 : decode b_Mo_told 46 = .ok (.ireturn, 1) := by decide +kernel
theorem d_Mo_told_47 : decode b_Mo_told 47 = .ok (.aload_n 0, 1) := by decide +kernel
theorem d_Mo_told_48 : decode b_Mo_told 48 = .ok (.getfield 17, 3) := by decide +kernel
theorem d_Mo_told_51 : decode b_Mo_told 51 = .ok (.iload_n 2, 1) := by decide +kernel
theorem d_Mo_told_52 : decode b_Mo_told 52 = .ok (.iaload, 1) := by decide +kernel
theorem d_Mo_told_53 : decode b_Mo_told 53 = .ok (.ireturn, 1) := by decide +kernel
theorem d_Mo_told_54 : decode b_Mo_told 54 = .ok (.aload_n 0, 1) := by decide +kernel
theorem d_Mo_told_55 : decode b_Mo_told 55 = .ok (.getfield 20, 3) := by decide +kernel
theorem d_Mo_told_58 : decode b_Mo_told 58 = .ok (.iload_n 2, 1) := by decide +kernel
theorem d_Mo_told_59 : decode b_Mo_told 59 = .ok (.iaload, 1) := by decide +kernel
theorem d_Mo_told_60 : decode b_Mo_told 60 = .ok (.ireturn, 1) := by decide +kernel
theorem d_Mo_told_61 : decode b_Mo_told 61 = .ok (.aload_n 0, 1) := by decide +kernel
theorem d_Mo_told_62 : decode b_Mo_told 62 = .ok (.getfield 27, 3) := by decide +kernel
theorem d_Mo_told_65 : decode b_Mo_told 65 = .ok (.iconst 3, 1) := by decide +kernel
theorem d_Mo_told_66 : decode b_Mo_told 66 = .ok (.iload_n 2, 1) := by decide +kernel
theorem d_Mo_told_67 : decode b_Mo_told 67 = .ok (.imul, 1) := by decide +kernel
theorem d_Mo_told_68 : decode b_Mo_told 68 = .ok (.iload_n 1, 1) := by decide +kernel
theorem d_Mo_told_69 : decode b_Mo_told 69 = .ok (.iadd, 1) := by decide +kernel
theorem d_Mo_told_70 : decode b_Mo_told 70 = .ok (.bipush 23, 2) := by decide +kernel
theorem d_Mo_told_72 : decode b_Mo_told 72 = .ok (.isub, 1) := by decide +kernel
theorem d_Mo_told_73 : decode b_Mo_told 73 = .ok (.iaload, 1) := by decide +kernel
theorem d_Mo_told_74 : decode b_Mo_told 74 = .ok (.ireturn, 1) := by decide +kernel
theorem d_Mo_told_75 : decode b_Mo_told 75 = .ok (.aload_n 0, 1) := by decide +kernel
theorem d_Mo_told_76 : decode b_Mo_told 76 = .ok (.getfield 30, 3) := by decide +kernel
theorem d_Mo_told_79 : decode b_Mo_told 79 = .ok (.iconst 3, 1) := by decide +kernel
theorem d_Mo_told_80 : decode b_Mo_told 80 = .ok (.iload_n 2, 1) := by decide +kernel
theorem d_Mo_told_81 : decode b_Mo_told 81 = .ok (.imul, 1) := by decide +kernel
theorem d_Mo_told_82 : decode b_Mo_told 82 = .ok (.iload_n 1, 1) := by decide +kernel
theorem d_Mo_told_83 : decode b_Mo_told 83 = .ok (.iadd, 1) := by decide +kernel
theorem d_Mo_told_84 : decode b_Mo_told 84 = .ok (.bipush 26, 2) := by decide +kernel
theorem d_Mo_told_86 : decode b_Mo_told 86 = .ok (.isub, 1) := by decide +kernel
theorem d_Mo_told_87 : decode b_Mo_told 87 = .ok (.iaload, 1) := by decide +kernel
theorem d_Mo_told_88 : decode b_Mo_told 88 = .ok (.ireturn, 1) := by decide +kernel
def om_Mo_told (p1 : Int32) (p2 : Int32) : Prop :=
  if p1 = 20 then (vp_in p2 16 ∧ True) else (if p1 = 21 then (vp_in p2 1024 ∧ True) else (if p1 = 22 then (vp_in p2 8 ∧ True) else (if p1 = 23 then (vp_in (((3 * p2) + p1) - 23) 48 ∧ True) else (if p1 = 24 then (vp_in (((3 * p2) + p1) - 23) 48 ∧ True) else (if p1 = 25 then (vp_in (((3 * p2) + p1) - 23) 48 ∧ True) else (vp_in (((3 * p2) + p1) - 26) 48 ∧ True))))))
def m_Mo_told (f_t_line : Nat → Int32) (f_t_map : Nat → Int32) (f_t_columnBits : Nat → Int32) (f_t_profile : Nat → Int32) (f_t_bits : Nat → Int32) (p1 : Int32) (p2 : Int32) : Int32 :=
  if p1 = 20 then (f_t_bits p2.toNatClampNeg) else (if p1 = 21 then (f_t_profile p2.toNatClampNeg) else (if p1 = 22 then (f_t_columnBits p2.toNatClampNeg) else (if p1 = 23 then (f_t_map (((3 * p2) + p1) - 23).toNatClampNeg) else (if p1 = 24 then (f_t_map (((3 * p2) + p1) - 23).toNatClampNeg) else (if p1 = 25 then (f_t_map (((3 * p2) + p1) - 23).toNatClampNeg) else (f_t_line (((3 * p2) + p1) - 26).toNatClampNeg))))))
set_option maxHeartbeats 4000000 in
set_option maxRecDepth 100000 in
theorem c_Mo_told (l : Launch) (D : va_G) (cB cI cJ : ClassId) (h_t h_t_bits h_t_profile h_t_columnBits h_t_numbers h_t_map h_t_line h_t_resolutions h_t_file : Nat) (t_thrown : Int32) (t_high : Int32) (t_wide : Int32) (t_components : Int32) (t_unknown : Int32) (t_rights : Int32) (t_colours : Int32) (t_profiled : Int32) (t_entries : Int32) (t_columns : Int32) (t_maps : Int32) (t_lines : Int32) (t_size : Int32) (t_scanned : Int32) (t_refusedAt : Int32) (t_cursor : Int32) (t_streamAt : Int32) (t_streamMany : Int32) (t_name : Int32) (t_from : Int32) (t_end : Int32) (t_sizeAt : Int32) (t_bitsAt : Int32) (t_colourAt : Int32) (t_colourEnd : Int32) (t_paletteAt : Int32) (t_mapAt : Int32) (t_mapEnd : Int32) (t_channelsAt : Int32) (t_captureAt : Int32) (t_displayAt : Int32) (t_resolved : Int32) (f_t_line : Nat → Int32) (f_t_map : Nat → Int32) (f_t_columnBits : Nat → Int32) (f_t_profile : Nat → Int32) (f_t_bits : Nat → Int32) (p1 : Int32) (p2 : Int32) (hO : om_Mo_told p1 p2) (sz : Nat) : Ct l D cB cI cJ y_Mo_told b_Mo_told 3 (some .int) 0 0 0 0 [.ref h_t, .int p1, .int p2] [(h_t, .inr (7, (.int t_thrown :: .int t_high :: .int t_wide :: .int t_components :: .ref h_t_bits :: .int t_unknown :: .int t_rights :: .int t_colours :: .int t_profiled :: .ref h_t_profile :: .int t_entries :: .int t_columns :: .ref h_t_columnBits :: .ref h_t_numbers :: .int t_maps :: .ref h_t_map :: .int t_lines :: .ref h_t_line :: .ref h_t_resolutions :: .ref h_t_file :: .int t_size :: .int t_scanned :: .int t_refusedAt :: .int t_cursor :: .int t_streamAt :: .int t_streamMany :: .int t_name :: .int t_from :: .int t_end :: .int t_sizeAt :: .int t_bitsAt :: .int t_colourAt :: .int t_colourEnd :: .int t_paletteAt :: .int t_mapAt :: .int t_mapEnd :: .int t_channelsAt :: .int t_captureAt :: .int t_displayAt :: .int t_resolved :: []))), (h_t_line, .inl (cI, 48, .inl f_t_line)), (h_t_map, .inl (cI, 48, .inl f_t_map)), (h_t_columnBits, .inl (cI, 8, .inl f_t_columnBits)), (h_t_profile, .inl (cI, 1024, .inl f_t_profile)), (h_t_bits, .inl (cI, 16, .inl f_t_bits))] (fun v w1 => ∃ (x : Int32), x = m_Mo_told f_t_line f_t_map f_t_columnBits f_t_profile f_t_bits p1 p2 ∧ v = some (.int x) ∧ w1 = [(h_t, .inr (7, (.int t_thrown :: .int t_high :: .int t_wide :: .int t_components :: .ref h_t_bits :: .int t_unknown :: .int t_rights :: .int t_colours :: .int t_profiled :: .ref h_t_profile :: .int t_entries :: .int t_columns :: .ref h_t_columnBits :: .ref h_t_numbers :: .int t_maps :: .ref h_t_map :: .int t_lines :: .ref h_t_line :: .ref h_t_resolutions :: .ref h_t_file :: .int t_size :: .int t_scanned :: .int t_refusedAt :: .int t_cursor :: .int t_streamAt :: .int t_streamMany :: .int t_name :: .int t_from :: .int t_end :: .int t_sizeAt :: .int t_bitsAt :: .int t_colourAt :: .int t_colourEnd :: .int t_paletteAt :: .int t_mapAt :: .int t_mapEnd :: .int t_channelsAt :: .int t_captureAt :: .int t_displayAt :: .int t_resolved :: []))), (h_t_line, .inl (cI, 48, .inl f_t_line)), (h_t_map, .inl (cI, 48, .inl f_t_map)), (h_t_columnBits, .inl (cI, 8, .inl f_t_columnBits)), (h_t_profile, .inl (cI, 1024, .inl f_t_profile)), (h_t_bits, .inl (cI, 16, .inl f_t_bits))]) sz := by
  refine Ct.of (by decide) (Nat.le_of_ble_eq_true rfl) ?_
  intro p e R s m args below meth c A ls Q hx hb hr hlk hml hta hown hin hK hN hA hRf hRl hRc hRs hP hD hS hl hQ
  have hl : lv_has ls 3 [(0, .ref h_t), (1, .int p1), (2, .int p2)] := hl
  obtain ⟨RES, E0⟩ : ∃ R, m_Mo_told f_t_line f_t_map f_t_columnBits f_t_profile f_t_bits p1 p2 = R := ⟨_, rfl⟩
  have E := E0
  have O := hO
  refine lv_iload_n hx hb d_Mo_told_0 rfl (lv_at hl 1 rfl) ?_
  by_cases c_1_0 : p1 = 20
  · have E := (if_pos c_1_0).symm.trans E
    have O := Eq.mp (if_pos c_1_0) O
    refine lv_tableIn (off := 39) (tgt := 40) hx hb d_Mo_told_1 (by rw [c_1_0]; decide) (by rw [c_1_0]; decide) (by rw [c_1_0]; rfl) (by decide) ?_
    refine lv_aload_n hx hb d_Mo_told_40 rfl (lv_at hl 0 rfl) ?_
    refine va_get (D := D) (v := .ref h_t_bits) hx hb hta i_Mo hown hK hP 0 rfl rfl 4 (by decide) (hta _ lk_Mo_7) (fun _ h9 => h9) rfl d_Mo_told_41 ?_
    refine lv_iload_n hx hb d_Mo_told_44 rfl (lv_at hl 2 rfl) ?_
    refine va_iald hx hb hK hP 5 1 rfl rfl O.1 d_Mo_told_45 ?_
    have O := O.2
    exact kr_i hx hb hr hlk hQ hK hP hD hS ⟨(f_t_bits p2.toNatClampNeg : Int32), E.trans E0.symm, rfl, rfl⟩ (by omega) (by omega) d_Mo_told_46
  have E := (if_neg c_1_0).symm.trans E
  have O := Eq.mp (if_neg c_1_0) O
  by_cases c_1_1 : p1 = 21
  · have E := (if_pos c_1_1).symm.trans E
    have O := Eq.mp (if_pos c_1_1) O
    refine lv_tableIn (off := 46) (tgt := 47) hx hb d_Mo_told_1 (by rw [c_1_1]; decide) (by rw [c_1_1]; decide) (by rw [c_1_1]; rfl) (by decide) ?_
    refine lv_aload_n hx hb d_Mo_told_47 rfl (lv_at hl 0 rfl) ?_
    refine va_get (D := D) (v := .ref h_t_profile) hx hb hta i_Mo hown hK hP 0 rfl rfl 9 (by decide) (hta _ lk_Mo_17) (fun _ h9 => h9) rfl d_Mo_told_48 ?_
    refine lv_iload_n hx hb d_Mo_told_51 rfl (lv_at hl 2 rfl) ?_
    refine va_iald hx hb hK hP 4 1 rfl rfl O.1 d_Mo_told_52 ?_
    have O := O.2
    exact kr_i hx hb hr hlk hQ hK hP hD hS ⟨(f_t_profile p2.toNatClampNeg : Int32), E.trans E0.symm, rfl, rfl⟩ (by omega) (by omega) d_Mo_told_53
  have E := (if_neg c_1_1).symm.trans E
  have O := Eq.mp (if_neg c_1_1) O
  by_cases c_1_2 : p1 = 22
  · have E := (if_pos c_1_2).symm.trans E
    have O := Eq.mp (if_pos c_1_2) O
    refine lv_tableIn (off := 53) (tgt := 54) hx hb d_Mo_told_1 (by rw [c_1_2]; decide) (by rw [c_1_2]; decide) (by rw [c_1_2]; rfl) (by decide) ?_
    refine lv_aload_n hx hb d_Mo_told_54 rfl (lv_at hl 0 rfl) ?_
    refine va_get (D := D) (v := .ref h_t_columnBits) hx hb hta i_Mo hown hK hP 0 rfl rfl 12 (by decide) (hta _ lk_Mo_20) (fun _ h9 => h9) rfl d_Mo_told_55 ?_
    refine lv_iload_n hx hb d_Mo_told_58 rfl (lv_at hl 2 rfl) ?_
    refine va_iald hx hb hK hP 3 1 rfl rfl O.1 d_Mo_told_59 ?_
    have O := O.2
    exact kr_i hx hb hr hlk hQ hK hP hD hS ⟨(f_t_columnBits p2.toNatClampNeg : Int32), E.trans E0.symm, rfl, rfl⟩ (by omega) (by omega) d_Mo_told_60
  have E := (if_neg c_1_2).symm.trans E
  have O := Eq.mp (if_neg c_1_2) O
  by_cases c_1_3 : p1 = 23
  · have E := (if_pos c_1_3).symm.trans E
    have O := Eq.mp (if_pos c_1_3) O
    refine lv_tableIn (off := 60) (tgt := 61) hx hb d_Mo_told_1 (by rw [c_1_3]; decide) (by rw [c_1_3]; decide) (by rw [c_1_3]; rfl) (by decide) ?_
    refine lv_aload_n hx hb d_Mo_told_61 rfl (lv_at hl 0 rfl) ?_
    refine va_get (D := D) (v := .ref h_t_map) hx hb hta i_Mo hown hK hP 0 rfl rfl 15 (by decide) (hta _ lk_Mo_27) (fun _ h9 => h9) rfl d_Mo_told_62 ?_
    refine lv_iconst (v := 3) hx hb d_Mo_told_65 (by decide) ?_
    refine lv_iload_n hx hb d_Mo_told_66 rfl (lv_at hl 2 rfl) ?_
    refine lv_imul hx hb d_Mo_told_67 ?_
    refine lv_iload_n hx hb d_Mo_told_68 rfl (lv_at hl 1 rfl) ?_
    refine lv_iadd hx hb d_Mo_told_69 ?_
    refine lv_bipush (v := 23) hx hb d_Mo_told_70 (by decide) ?_
    refine lv_isub hx hb d_Mo_told_72 ?_
    refine va_iald hx hb hK hP 2 1 rfl rfl O.1 d_Mo_told_73 ?_
    have O := O.2
    exact kr_i hx hb hr hlk hQ hK hP hD hS ⟨(f_t_map (((3 * p2) + p1) - 23).toNatClampNeg : Int32), E.trans E0.symm, rfl, rfl⟩ (by omega) (by omega) d_Mo_told_74
  have E := (if_neg c_1_3).symm.trans E
  have O := Eq.mp (if_neg c_1_3) O
  by_cases c_1_4 : p1 = 24
  · have E := (if_pos c_1_4).symm.trans E
    have O := Eq.mp (if_pos c_1_4) O
    refine lv_tableIn (off := 60) (tgt := 61) hx hb d_Mo_told_1 (by rw [c_1_4]; decide) (by rw [c_1_4]; decide) (by rw [c_1_4]; rfl) (by decide) ?_
    refine lv_aload_n hx hb d_Mo_told_61 rfl (lv_at hl 0 rfl) ?_
    refine va_get (D := D) (v := .ref h_t_map) hx hb hta i_Mo hown hK hP 0 rfl rfl 15 (by decide) (hta _ lk_Mo_27) (fun _ h9 => h9) rfl d_Mo_told_62 ?_
    refine lv_iconst (v := 3) hx hb d_Mo_told_65 (by decide) ?_
    refine lv_iload_n hx hb d_Mo_told_66 rfl (lv_at hl 2 rfl) ?_
    refine lv_imul hx hb d_Mo_told_67 ?_
    refine lv_iload_n hx hb d_Mo_told_68 rfl (lv_at hl 1 rfl) ?_
    refine lv_iadd hx hb d_Mo_told_69 ?_
    refine lv_bipush (v := 23) hx hb d_Mo_told_70 (by decide) ?_
    refine lv_isub hx hb d_Mo_told_72 ?_
    refine va_iald hx hb hK hP 2 1 rfl rfl O.1 d_Mo_told_73 ?_
    have O := O.2
    exact kr_i hx hb hr hlk hQ hK hP hD hS ⟨(f_t_map (((3 * p2) + p1) - 23).toNatClampNeg : Int32), E.trans E0.symm, rfl, rfl⟩ (by omega) (by omega) d_Mo_told_74
  have E := (if_neg c_1_4).symm.trans E
  have O := Eq.mp (if_neg c_1_4) O
  by_cases c_1_5 : p1 = 25
  · have E := (if_pos c_1_5).symm.trans E
    have O := Eq.mp (if_pos c_1_5) O
    refine lv_tableIn (off := 60) (tgt := 61) hx hb d_Mo_told_1 (by rw [c_1_5]; decide) (by rw [c_1_5]; decide) (by rw [c_1_5]; rfl) (by decide) ?_
    refine lv_aload_n hx hb d_Mo_told_61 rfl (lv_at hl 0 rfl) ?_
    refine va_get (D := D) (v := .ref h_t_map) hx hb hta i_Mo hown hK hP 0 rfl rfl 15 (by decide) (hta _ lk_Mo_27) (fun _ h9 => h9) rfl d_Mo_told_62 ?_
    refine lv_iconst (v := 3) hx hb d_Mo_told_65 (by decide) ?_
    refine lv_iload_n hx hb d_Mo_told_66 rfl (lv_at hl 2 rfl) ?_
    refine lv_imul hx hb d_Mo_told_67 ?_
    refine lv_iload_n hx hb d_Mo_told_68 rfl (lv_at hl 1 rfl) ?_
    refine lv_iadd hx hb d_Mo_told_69 ?_
    refine lv_bipush (v := 23) hx hb d_Mo_told_70 (by decide) ?_
    refine lv_isub hx hb d_Mo_told_72 ?_
    refine va_iald hx hb hK hP 2 1 rfl rfl O.1 d_Mo_told_73 ?_
    have O := O.2
    exact kr_i hx hb hr hlk hQ hK hP hD hS ⟨(f_t_map (((3 * p2) + p1) - 23).toNatClampNeg : Int32), E.trans E0.symm, rfl, rfl⟩ (by omega) (by omega) d_Mo_told_74
  have E := (if_neg c_1_5).symm.trans E
  have O := Eq.mp (if_neg c_1_5) O
  refine lv_tableOut (tgt := 75) hx hb d_Mo_told_1 (by have g0 := lv_neT c_1_0 (a := 20) (by decide); have g1 := lv_neT c_1_1 (a := 21) (by decide); have g2 := lv_neT c_1_2 (a := 22) (by decide); have g3 := lv_neT c_1_3 (a := 23) (by decide); have g4 := lv_neT c_1_4 (a := 24) (by decide); have g5 := lv_neT c_1_5 (a := 25) (by decide); omega) (by decide) ?_
  refine lv_aload_n hx hb d_Mo_told_75 rfl (lv_at hl 0 rfl) ?_
  refine va_get (D := D) (v := .ref h_t_line) hx hb hta i_Mo hown hK hP 0 rfl rfl 17 (by decide) (hta _ lk_Mo_30) (fun _ h9 => h9) rfl d_Mo_told_76 ?_
  refine lv_iconst (v := 3) hx hb d_Mo_told_79 (by decide) ?_
  refine lv_iload_n hx hb d_Mo_told_80 rfl (lv_at hl 2 rfl) ?_
  refine lv_imul hx hb d_Mo_told_81 ?_
  refine lv_iload_n hx hb d_Mo_told_82 rfl (lv_at hl 1 rfl) ?_
  refine lv_iadd hx hb d_Mo_told_83 ?_
  refine lv_bipush (v := 26) hx hb d_Mo_told_84 (by decide) ?_
  refine lv_isub hx hb d_Mo_told_86 ?_
  refine va_iald hx hb hK hP 1 1 rfl rfl O.1 d_Mo_told_87 ?_
  have O := O.2
  exact kr_i hx hb hr hlk hQ hK hP hD hS ⟨(f_t_line (((3 * p2) + p1) - 26).toNatClampNeg : Int32), E.trans E0.symm, rfl, rfl⟩ (by omega) (by omega) d_Mo_told_88
theorem d_Mo_get_0 : decode b_Mo_get 0 = .ok (.iload_n 1, 1) := by decide +kernel
theorem d_Mo_get_1 : decode b_Mo_get 1 = .ok (.i2l, 1) := by decide +kernel
theorem d_Mo_get_2 : decode b_Mo_get 2 = .ok (.lconst 0, 1) := by decide +kernel
theorem d_Mo_get_3 : decode b_Mo_get 3 = .ok (.ldc2_w 125, 3) := by decide +kernel
theorem d_Mo_get_6 : decode b_Mo_get 6 = .ok (.invokestatic 81, 3) := by decide +kernel
theorem d_Mo_get_9 : decode b_Mo_get 9 = .ok (.ifCond .ne 31, 3) := by decide +kernel
theorem d_Mo_get_12 : decode b_Mo_get 12 = .ok (.iload_n 1, 1) := by decide +kernel
theorem d_Mo_get_13 : decode b_Mo_get 13 = .ok (.i2l, 1) := by decide +kernel
theorem d_Mo_get_14 : decode b_Mo_get 14 = .ok (.ldc2_w 127, 3) := by decide +kernel
theorem d_Mo_get_17 : decode b_Mo_get 17 = .ok (.ldc2_w 129, 3) := by decide +kernel
theorem d_Mo_get_20 : decode b_Mo_get 20 = .ok (.invokestatic 81, 3) := by decide +kernel
theorem d_Mo_get_23 : decode b_Mo_get 23 = .ok (.ifCond .ne 17, 3) := by decide +kernel
theorem d_Mo_get_26 : decode b_Mo_get 26 = .ok (.iload_n 1, 1) := by decide +kernel
theorem d_Mo_get_27 : decode b_Mo_get 27 = .ok (.i2l, 1) := by decide +kernel
theorem d_Mo_get_28 : decode b_Mo_get 28 = .ok (.ldc2_w 131, 3) := by decide +kernel
theorem d_Mo_get_31 : decode b_Mo_get 31 = .ok (.ldc2_w 133, 3) := by decide +kernel
theorem d_Mo_get_34 : decode b_Mo_get 34 = .ok (.invokestatic 81, 3) := by decide +kernel
theorem d_Mo_get_37 : decode b_Mo_get 37 = .ok (.ifCond .eq 7, 3) := by decide +kernel
theorem d_Mo_get_40 : decode b_Mo_get 40 = .ok (.iconst 1, 1) := by decide +kernel
theorem d_Mo_get_41 : decode b_Mo_get 41 = .ok (.goto 4, 3) := by decide +kernel
theorem d_Mo_get_44 : decode b_Mo_get 44 = .ok (.iconst 0, 1) := by decide +kernel
theorem d_Mo_get_45 : decode b_Mo_get 45 = .ok (.istore_n 3, 1) := by decide +kernel
theorem d_Mo_get_46 : decode b_Mo_get 46 = .ok (.iload_n 2, 1) := by decide +kernel
theorem d_Mo_get_47 : decode b_Mo_get 47 = .ok (.ifCond .lt 16, 3) := by decide +kernel
theorem d_Mo_get_50 : decode b_Mo_get 50 = .ok (.iload_n 2, 1) := by decide +kernel
theorem d_Mo_get_51 : decode b_Mo_get 51 = .ok (.aload_n 0, 1) := by decide +kernel
theorem d_Mo_get_52 : decode b_Mo_get 52 = .ok (.iload_n 1, 1) := by decide +kernel
theorem d_Mo_get_53 : decode b_Mo_get 53 = .ok (.invokevirtual 135, 3) := by decide +kernel
theorem d_Mo_get_56 : decode b_Mo_get 56 = .ok (.if_icmp .ge 7, 3) := by decide +kernel
theorem d_Mo_get_59 : decode b_Mo_get 59 = .ok (.iconst 1, 1) := by decide +kernel
theorem d_Mo_get_60 : decode b_Mo_get 60 = .ok (.goto 4, 3) := by decide +kernel
theorem d_Mo_get_63 : decode b_Mo_get 63 = .ok (.iconst 0, 1) := by decide +kernel
theorem d_Mo_get_64 : decode b_Mo_get 64 = .ok (.istore 4, 2) := by decide +kernel
theorem d_Mo_get_66 : decode b_Mo_get 66 = .ok (.aload_n 0, 1) := by decide +kernel
theorem d_Mo_get_67 : decode b_Mo_get 67 = .ok (.iload_n 3, 1) := by decide +kernel
theorem d_Mo_get_68 : decode b_Mo_get 68 = .ok (.ifCond .ne 12, 3) := by decide +kernel
theorem d_Mo_get_71 : decode b_Mo_get 71 = .ok (.iload 4, 2) := by decide +kernel
theorem d_Mo_get_73 : decode b_Mo_get 73 = .ok (.ifCond .ne 7, 3) := by decide +kernel
theorem d_Mo_get_76 : decode b_Mo_get 76 = .ok (.iconst 1, 1) := by decide +kernel
theorem d_Mo_get_77 : decode b_Mo_get 77 = .ok (.goto 4, 3) := by decide +kernel
theorem d_Mo_get_80 : decode b_Mo_get 80 = .ok (.iconst 0, 1) := by decide +kernel
theorem d_Mo_get_81 : decode b_Mo_get 81 = .ok (.invokevirtual 89, 3) := by decide +kernel
theorem d_Mo_get_84 : decode b_Mo_get 84 = .ok (.ifCond .eq 5, 3) := by decide +kernel
theorem d_Mo_get_87 : decode b_Mo_get 87 = .ok (.iconst 0, 1) := by decide +kernel
theorem d_Mo_get_88 : decode b_Mo_get 88 = .ok (.ireturn, 1) := by decide +kernel
theorem d_Mo_get_89 : decode b_Mo_get 89 = .ok (.iload 4, 2) := by decide +kernel
theorem d_Mo_get_91 : decode b_Mo_get 91 = .ok (.ifCond .eq 14, 3) := by decide +kernel
theorem d_Mo_get_94 : decode b_Mo_get 94 = .ok (.iload_n 3, 1) := by decide +kernel
theorem d_Mo_get_95 : decode b_Mo_get 95 = .ok (.ifCond .ne 10, 3) := by decide +kernel
theorem d_Mo_get_98 : decode b_Mo_get 98 = .ok (.aload_n 0, 1) := by decide +kernel
theorem d_Mo_get_99 : decode b_Mo_get 99 = .ok (.iload_n 1, 1) := by decide +kernel
theorem d_Mo_get_100 : decode b_Mo_get 100 = .ok (.iload_n 2, 1) := by decide +kernel
theorem d_Mo_get_101 : decode b_Mo_get 101 = .ok (.invokevirtual 139, 3) := by decide +kernel
theorem d_Mo_get_104 : decode b_Mo_get 104 = .ok (.ireturn, 1) := by decide +kernel
theorem d_Mo_get_105 : decode b_Mo_get 105 = .ok (.iload_n 1, 1) := by decide +kernel
theorem d_Mo_get_106 : decode b_Mo_get 106 = .ok (.tableswitch 113 0 10 #[58, 63, 68, 73, 78, 83, 88, 93, 98, 103, 108], 58) := by decide +kernel
theorem d_Mo_get_164 : decode b_Mo_get 164 = .ok (.aload_n 0, 1) := by decide +kernel
theorem d_Mo_get_165 : decode b_Mo_get 165 = .ok (.getfield 49, 3) := by decide +kernel
theorem d_Mo_get_168 : decode b_Mo_get 168 = .ok (.ireturn, 1) := by decide +kernel
theorem d_Mo_get_169 : decode b_Mo_get 169 = .ok (.aload_n 0, 1) := by decide +kernel
theorem d_Mo_get_170 : decode b_Mo_get 170 = .ok (.getfield 52, 3) := by decide +kernel
theorem d_Mo_get_173 : decode b_Mo_get 173 = .ok (.ireturn, 1) := by decide +kernel
theorem d_Mo_get_174 : decode b_Mo_get 174 = .ok (.aload_n 0, 1) := by decide +kernel
theorem d_Mo_get_175 : decode b_Mo_get 175 = .ok (.getfield 55, 3) := by decide +kernel
theorem d_Mo_get_178 : decode b_Mo_get 178 = .ok (.ireturn, 1) := by decide +kernel
theorem d_Mo_get_179 : decode b_Mo_get 179 = .ok (.aload_n 0, 1) := by decide +kernel
theorem d_Mo_get_180 : decode b_Mo_get 180 = .ok (.getfield 58, 3) := by decide +kernel
theorem d_Mo_get_183 : decode b_Mo_get 183 = .ok (.ireturn, 1) := by decide +kernel
theorem d_Mo_get_184 : decode b_Mo_get 184 = .ok (.aload_n 0, 1) := by decide +kernel
theorem d_Mo_get_185 : decode b_Mo_get 185 = .ok (.getfield 61, 3) := by decide +kernel
theorem d_Mo_get_188 : decode b_Mo_get 188 = .ok (.ireturn, 1) := by decide +kernel
theorem d_Mo_get_189 : decode b_Mo_get 189 = .ok (.aload_n 0, 1) := by decide +kernel
theorem d_Mo_get_190 : decode b_Mo_get 190 = .ok (.getfield 64, 3) := by decide +kernel
theorem d_Mo_get_193 : decode b_Mo_get 193 = .ok (.ireturn, 1) := by decide +kernel
theorem d_Mo_get_194 : decode b_Mo_get 194 = .ok (.aload_n 0, 1) := by decide +kernel
theorem d_Mo_get_195 : decode b_Mo_get 195 = .ok (.getfield 13, 3) := by decide +kernel
theorem d_Mo_get_198 : decode b_Mo_get 198 = .ok (.ireturn, 1) := by decide +kernel
theorem d_Mo_get_199 : decode b_Mo_get 199 = .ok (.aload_n 0, 1) := by decide +kernel
theorem d_Mo_get_200 : decode b_Mo_get 200 = .ok (.getfield 67, 3) := by decide +kernel
theorem d_Mo_get_203 : decode b_Mo_get 203 = .ok (.ireturn, 1) := by decide +kernel
theorem d_Mo_get_204 : decode b_Mo_get 204 = .ok (.aload_n 0, 1) := by decide +kernel
theorem d_Mo_get_205 : decode b_Mo_get 205 = .ok (.getfield 70, 3) := by decide +kernel
theorem d_Mo_get_208 : decode b_Mo_get 208 = .ok (.ireturn, 1) := by decide +kernel
theorem d_Mo_get_209 : decode b_Mo_get 209 = .ok (.aload_n 0, 1) := by decide +kernel
theorem d_Mo_get_210 : decode b_Mo_get 210 = .ok (.getfield 73, 3) := by decide +kernel
theorem d_Mo_get_213 : decode b_Mo_get 213 = .ok (.ireturn, 1) := by decide +kernel
theorem d_Mo_get_214 : decode b_Mo_get 214 = .ok (.aload_n 0, 1) := by decide +kernel
theorem d_Mo_get_215 : decode b_Mo_get 215 = .ok (.getfield 76, 3) := by decide +kernel
theorem d_Mo_get_218 : decode b_Mo_get 218 = .ok (.ireturn, 1) := by decide +kernel
theorem d_Mo_get_219 : decode b_Mo_get 219 = .ok (.iload_n 1, 1) := by decide +kernel
theorem d_Mo_get_220 : decode b_Mo_get 220 = .ok (.bipush 40, 2) := by decide +kernel
theorem d_Mo_get_222 : decode b_Mo_get 222 = .ok (.if_icmp .ge 15, 3) := by decide +kernel
theorem d_Mo_get_225 : decode b_Mo_get 225 = .ok (.aload_n 0, 1) := by decide +kernel
theorem d_Mo_get_226 : decode b_Mo_get 226 = .ok (.getfield 33, 3) := by decide +kernel
theorem d_Mo_get_229 : decode b_Mo_get 229 = .ok (.iload_n 1, 1) := by decide +kernel
theorem d_Mo_get_230 : decode b_Mo_get 230 = .ok (.bipush 30, 2) := by decide +kernel
theorem d_Mo_get_232 : decode b_Mo_get 232 = .ok (.isub, 1) := by decide +kernel
theorem d_Mo_get_233 : decode b_Mo_get 233 = .ok (.iaload, 1) := by decide +kernel
theorem d_Mo_get_234 : decode b_Mo_get 234 = .ok (.goto 12, 3) := by decide +kernel
theorem d_Mo_get_237 : decode b_Mo_get 237 = .ok (.aload_n 0, 1) := by decide +kernel
theorem d_Mo_get_238 : decode b_Mo_get 238 = .ok (.getfield 33, 3) := by decide +kernel
theorem d_Mo_get_241 : decode b_Mo_get 241 = .ok (.iload_n 1, 1) := by decide +kernel
theorem d_Mo_get_242 : decode b_Mo_get 242 = .ok (.bipush 34, 2) := by decide +kernel
theorem d_Mo_get_244 : decode b_Mo_get 244 = .ok (.isub, 1) := by decide +kernel
theorem d_Mo_get_245 : decode b_Mo_get 245 = .ok (.iaload, 1) := by decide +kernel
theorem d_Mo_get_246 : decode b_Mo_get 246 = .ok (.ireturn, 1) := by decide +kernel
def j_Mo_get_105 (t_high : Int32) (t_wide : Int32) (t_components : Int32) (t_unknown : Int32) (t_rights : Int32) (t_colours : Int32) (t_profiled : Int32) (t_entries : Int32) (t_columns : Int32) (t_maps : Int32) (t_lines : Int32) (f_t_resolutions : Nat → Int32) (p1 : Int32) (x81 : Int32 × Int32) : Int32 × Int32 :=
  if p1 = 0 then (t_high, x81.2) else (if p1 = 1 then (t_wide, x81.2) else (if p1 = 2 then (t_components, x81.2) else (if p1 = 3 then (t_unknown, x81.2) else (if p1 = 4 then (t_rights, x81.2) else (if p1 = 5 then (t_colours, x81.2) else (if p1 = 6 then (t_profiled, x81.2) else (if p1 = 7 then (t_entries, x81.2) else (if p1 = 8 then (t_columns, x81.2) else (if p1 = 9 then (t_maps, x81.2) else (if p1 = 10 then (t_lines, x81.2) else (if 40 ≤ p1 then ((f_t_resolutions (p1 - 34).toNatClampNeg, x81.2)) else ((f_t_resolutions (p1 - 30).toNatClampNeg, x81.2)))))))))))))
def oj_Mo_get_105 (p1 : Int32) : Prop :=
  if p1 = 0 then True else (if p1 = 1 then True else (if p1 = 2 then True else (if p1 = 3 then True else (if p1 = 4 then True else (if p1 = 5 then True else (if p1 = 6 then True else (if p1 = 7 then True else (if p1 = 8 then True else (if p1 = 9 then True else (if p1 = 10 then True else (if 40 ≤ p1 then (vp_in (p1 - 34) 12 ∧ True) else (vp_in (p1 - 30) 12 ∧ True))))))))))))
def k_Mo_get_101 (x81 : Int32 × Int32) (x101 : Int32) : Int32 × Int32 :=
  (x101, x81.2)
def ok_Mo_get_101 (x101 : Int32) : Prop :=
  True
def k_Mo_get_81 (t_high : Int32) (t_wide : Int32) (t_components : Int32) (t_unknown : Int32) (t_rights : Int32) (t_colours : Int32) (t_profiled : Int32) (t_entries : Int32) (t_columns : Int32) (t_maps : Int32) (t_lines : Int32) (f_t_line : Nat → Int32) (f_t_map : Nat → Int32) (f_t_columnBits : Nat → Int32) (f_t_profile : Nat → Int32) (f_t_bits : Nat → Int32) (f_t_resolutions : Nat → Int32) (p1 : Int32) (p2 : Int32) (j45_s0 : Int32) (j64_s0 : Int32) (x81 : Int32 × Int32) : Int32 × Int32 :=
  if x81.1 = 0 then (if j64_s0 = 0 then (j_Mo_get_105 t_high t_wide t_components t_unknown t_rights t_colours t_profiled t_entries t_columns t_maps t_lines f_t_resolutions p1 x81) else (if j45_s0 = 0 then (k_Mo_get_101 x81 (m_Mo_told f_t_line f_t_map f_t_columnBits f_t_profile f_t_bits p1 p2)) else (j_Mo_get_105 t_high t_wide t_components t_unknown t_rights t_colours t_profiled t_entries t_columns t_maps t_lines f_t_resolutions p1 x81))) else (0, x81.2)
def ok_Mo_get_81 (f_t_line : Nat → Int32) (f_t_map : Nat → Int32) (f_t_columnBits : Nat → Int32) (f_t_profile : Nat → Int32) (f_t_bits : Nat → Int32) (p1 : Int32) (p2 : Int32) (j45_s0 : Int32) (j64_s0 : Int32) (x81 : Int32 × Int32) : Prop :=
  if x81.1 = 0 then (if j64_s0 = 0 then (oj_Mo_get_105 p1) else (if j45_s0 = 0 then (om_Mo_told p1 p2 ∧ (ok_Mo_get_101 (m_Mo_told f_t_line f_t_map f_t_columnBits f_t_profile f_t_bits p1 p2))) else (oj_Mo_get_105 p1))) else True
def j_Mo_get_81 (t_high : Int32) (t_wide : Int32) (t_components : Int32) (t_unknown : Int32) (t_rights : Int32) (t_colours : Int32) (t_profiled : Int32) (t_entries : Int32) (t_columns : Int32) (t_maps : Int32) (t_lines : Int32) (f_t_line : Nat → Int32) (f_t_map : Nat → Int32) (f_t_columnBits : Nat → Int32) (f_t_profile : Nat → Int32) (f_t_bits : Nat → Int32) (f_t_resolutions : Nat → Int32) (p1 : Int32) (p2 : Int32) (j45_s0 : Int32) (j64_s0 : Int32) (j81_s1 : Int32) : Int32 × Int32 :=
  k_Mo_get_81 t_high t_wide t_components t_unknown t_rights t_colours t_profiled t_entries t_columns t_maps t_lines f_t_line f_t_map f_t_columnBits f_t_profile f_t_bits f_t_resolutions p1 p2 j45_s0 j64_s0 (m_Mo_refuse j81_s1)
def oj_Mo_get_81 (f_t_line : Nat → Int32) (f_t_map : Nat → Int32) (f_t_columnBits : Nat → Int32) (f_t_profile : Nat → Int32) (f_t_bits : Nat → Int32) (p1 : Int32) (p2 : Int32) (j45_s0 : Int32) (j64_s0 : Int32) (j81_s1 : Int32) : Prop :=
  om_Mo_refuse j81_s1 ∧ (ok_Mo_get_81 f_t_line f_t_map f_t_columnBits f_t_profile f_t_bits p1 p2 j45_s0 j64_s0 (m_Mo_refuse j81_s1))
def j_Mo_get_80 (t_high : Int32) (t_wide : Int32) (t_components : Int32) (t_unknown : Int32) (t_rights : Int32) (t_colours : Int32) (t_profiled : Int32) (t_entries : Int32) (t_columns : Int32) (t_maps : Int32) (t_lines : Int32) (f_t_line : Nat → Int32) (f_t_map : Nat → Int32) (f_t_columnBits : Nat → Int32) (f_t_profile : Nat → Int32) (f_t_bits : Nat → Int32) (f_t_resolutions : Nat → Int32) (p1 : Int32) (p2 : Int32) (j45_s0 : Int32) (j64_s0 : Int32) : Int32 × Int32 :=
  j_Mo_get_81 t_high t_wide t_components t_unknown t_rights t_colours t_profiled t_entries t_columns t_maps t_lines f_t_line f_t_map f_t_columnBits f_t_profile f_t_bits f_t_resolutions p1 p2 j45_s0 j64_s0 0
def oj_Mo_get_80 (f_t_line : Nat → Int32) (f_t_map : Nat → Int32) (f_t_columnBits : Nat → Int32) (f_t_profile : Nat → Int32) (f_t_bits : Nat → Int32) (p1 : Int32) (p2 : Int32) (j45_s0 : Int32) (j64_s0 : Int32) : Prop :=
  oj_Mo_get_81 f_t_line f_t_map f_t_columnBits f_t_profile f_t_bits p1 p2 j45_s0 j64_s0 0
def j_Mo_get_64 (t_high : Int32) (t_wide : Int32) (t_components : Int32) (t_unknown : Int32) (t_rights : Int32) (t_colours : Int32) (t_profiled : Int32) (t_entries : Int32) (t_columns : Int32) (t_maps : Int32) (t_lines : Int32) (f_t_line : Nat → Int32) (f_t_map : Nat → Int32) (f_t_columnBits : Nat → Int32) (f_t_profile : Nat → Int32) (f_t_bits : Nat → Int32) (f_t_resolutions : Nat → Int32) (p1 : Int32) (p2 : Int32) (j45_s0 : Int32) (j64_s0 : Int32) : Int32 × Int32 :=
  if j45_s0 = 0 then (if j64_s0 = 0 then (j_Mo_get_81 t_high t_wide t_components t_unknown t_rights t_colours t_profiled t_entries t_columns t_maps t_lines f_t_line f_t_map f_t_columnBits f_t_profile f_t_bits f_t_resolutions p1 p2 j45_s0 j64_s0 1) else (j_Mo_get_80 t_high t_wide t_components t_unknown t_rights t_colours t_profiled t_entries t_columns t_maps t_lines f_t_line f_t_map f_t_columnBits f_t_profile f_t_bits f_t_resolutions p1 p2 j45_s0 j64_s0)) else (j_Mo_get_80 t_high t_wide t_components t_unknown t_rights t_colours t_profiled t_entries t_columns t_maps t_lines f_t_line f_t_map f_t_columnBits f_t_profile f_t_bits f_t_resolutions p1 p2 j45_s0 j64_s0)
def oj_Mo_get_64 (f_t_line : Nat → Int32) (f_t_map : Nat → Int32) (f_t_columnBits : Nat → Int32) (f_t_profile : Nat → Int32) (f_t_bits : Nat → Int32) (p1 : Int32) (p2 : Int32) (j45_s0 : Int32) (j64_s0 : Int32) : Prop :=
  if j45_s0 = 0 then (if j64_s0 = 0 then (oj_Mo_get_81 f_t_line f_t_map f_t_columnBits f_t_profile f_t_bits p1 p2 j45_s0 j64_s0 1) else (oj_Mo_get_80 f_t_line f_t_map f_t_columnBits f_t_profile f_t_bits p1 p2 j45_s0 j64_s0)) else (oj_Mo_get_80 f_t_line f_t_map f_t_columnBits f_t_profile f_t_bits p1 p2 j45_s0 j64_s0)
def j_Mo_get_63 (t_high : Int32) (t_wide : Int32) (t_components : Int32) (t_unknown : Int32) (t_rights : Int32) (t_colours : Int32) (t_profiled : Int32) (t_entries : Int32) (t_columns : Int32) (t_maps : Int32) (t_lines : Int32) (f_t_line : Nat → Int32) (f_t_map : Nat → Int32) (f_t_columnBits : Nat → Int32) (f_t_profile : Nat → Int32) (f_t_bits : Nat → Int32) (f_t_resolutions : Nat → Int32) (p1 : Int32) (p2 : Int32) (j45_s0 : Int32) : Int32 × Int32 :=
  j_Mo_get_64 t_high t_wide t_components t_unknown t_rights t_colours t_profiled t_entries t_columns t_maps t_lines f_t_line f_t_map f_t_columnBits f_t_profile f_t_bits f_t_resolutions p1 p2 j45_s0 0
def oj_Mo_get_63 (f_t_line : Nat → Int32) (f_t_map : Nat → Int32) (f_t_columnBits : Nat → Int32) (f_t_profile : Nat → Int32) (f_t_bits : Nat → Int32) (p1 : Int32) (p2 : Int32) (j45_s0 : Int32) : Prop :=
  oj_Mo_get_64 f_t_line f_t_map f_t_columnBits f_t_profile f_t_bits p1 p2 j45_s0 0
def k_Mo_get_53 (t_high : Int32) (t_wide : Int32) (t_components : Int32) (t_unknown : Int32) (t_rights : Int32) (t_colours : Int32) (t_profiled : Int32) (t_entries : Int32) (t_columns : Int32) (t_maps : Int32) (t_lines : Int32) (f_t_line : Nat → Int32) (f_t_map : Nat → Int32) (f_t_columnBits : Nat → Int32) (f_t_profile : Nat → Int32) (f_t_bits : Nat → Int32) (f_t_resolutions : Nat → Int32) (p1 : Int32) (p2 : Int32) (j45_s0 : Int32) (x53 : Int32) : Int32 × Int32 :=
  if x53 ≤ p2 then (j_Mo_get_63 t_high t_wide t_components t_unknown t_rights t_colours t_profiled t_entries t_columns t_maps t_lines f_t_line f_t_map f_t_columnBits f_t_profile f_t_bits f_t_resolutions p1 p2 j45_s0) else (j_Mo_get_64 t_high t_wide t_components t_unknown t_rights t_colours t_profiled t_entries t_columns t_maps t_lines f_t_line f_t_map f_t_columnBits f_t_profile f_t_bits f_t_resolutions p1 p2 j45_s0 1)
def ok_Mo_get_53 (f_t_line : Nat → Int32) (f_t_map : Nat → Int32) (f_t_columnBits : Nat → Int32) (f_t_profile : Nat → Int32) (f_t_bits : Nat → Int32) (p1 : Int32) (p2 : Int32) (j45_s0 : Int32) (x53 : Int32) : Prop :=
  if x53 ≤ p2 then (oj_Mo_get_63 f_t_line f_t_map f_t_columnBits f_t_profile f_t_bits p1 p2 j45_s0) else (oj_Mo_get_64 f_t_line f_t_map f_t_columnBits f_t_profile f_t_bits p1 p2 j45_s0 1)
def j_Mo_get_45 (t_high : Int32) (t_wide : Int32) (t_components : Int32) (t_unknown : Int32) (t_rights : Int32) (t_colours : Int32) (t_profiled : Int32) (t_entries : Int32) (t_columns : Int32) (t_maps : Int32) (t_lines : Int32) (f_t_line : Nat → Int32) (f_t_map : Nat → Int32) (f_t_columnBits : Nat → Int32) (f_t_profile : Nat → Int32) (f_t_bits : Nat → Int32) (f_t_resolutions : Nat → Int32) (p1 : Int32) (p2 : Int32) (j45_s0 : Int32) : Int32 × Int32 :=
  if p2 < 0 then (j_Mo_get_63 t_high t_wide t_components t_unknown t_rights t_colours t_profiled t_entries t_columns t_maps t_lines f_t_line f_t_map f_t_columnBits f_t_profile f_t_bits f_t_resolutions p1 p2 j45_s0) else (k_Mo_get_53 t_high t_wide t_components t_unknown t_rights t_colours t_profiled t_entries t_columns t_maps t_lines f_t_line f_t_map f_t_columnBits f_t_profile f_t_bits f_t_resolutions p1 p2 j45_s0 (m_Mo_countOf t_components t_profiled t_columns t_maps t_lines p1))
def oj_Mo_get_45 (t_components : Int32) (t_profiled : Int32) (t_columns : Int32) (t_maps : Int32) (t_lines : Int32) (f_t_line : Nat → Int32) (f_t_map : Nat → Int32) (f_t_columnBits : Nat → Int32) (f_t_profile : Nat → Int32) (f_t_bits : Nat → Int32) (p1 : Int32) (p2 : Int32) (j45_s0 : Int32) : Prop :=
  if p2 < 0 then (oj_Mo_get_63 f_t_line f_t_map f_t_columnBits f_t_profile f_t_bits p1 p2 j45_s0) else (om_Mo_countOf p1 ∧ (ok_Mo_get_53 f_t_line f_t_map f_t_columnBits f_t_profile f_t_bits p1 p2 j45_s0 (m_Mo_countOf t_components t_profiled t_columns t_maps t_lines p1)))
def j_Mo_get_40 (t_high : Int32) (t_wide : Int32) (t_components : Int32) (t_unknown : Int32) (t_rights : Int32) (t_colours : Int32) (t_profiled : Int32) (t_entries : Int32) (t_columns : Int32) (t_maps : Int32) (t_lines : Int32) (f_t_line : Nat → Int32) (f_t_map : Nat → Int32) (f_t_columnBits : Nat → Int32) (f_t_profile : Nat → Int32) (f_t_bits : Nat → Int32) (f_t_resolutions : Nat → Int32) (p1 : Int32) (p2 : Int32) : Int32 × Int32 :=
  j_Mo_get_45 t_high t_wide t_components t_unknown t_rights t_colours t_profiled t_entries t_columns t_maps t_lines f_t_line f_t_map f_t_columnBits f_t_profile f_t_bits f_t_resolutions p1 p2 1
def oj_Mo_get_40 (t_components : Int32) (t_profiled : Int32) (t_columns : Int32) (t_maps : Int32) (t_lines : Int32) (f_t_line : Nat → Int32) (f_t_map : Nat → Int32) (f_t_columnBits : Nat → Int32) (f_t_profile : Nat → Int32) (f_t_bits : Nat → Int32) (p1 : Int32) (p2 : Int32) : Prop :=
  oj_Mo_get_45 t_components t_profiled t_columns t_maps t_lines f_t_line f_t_map f_t_columnBits f_t_profile f_t_bits p1 p2 1
def k_Mo_get_34 (t_high : Int32) (t_wide : Int32) (t_components : Int32) (t_unknown : Int32) (t_rights : Int32) (t_colours : Int32) (t_profiled : Int32) (t_entries : Int32) (t_columns : Int32) (t_maps : Int32) (t_lines : Int32) (f_t_line : Nat → Int32) (f_t_map : Nat → Int32) (f_t_columnBits : Nat → Int32) (f_t_profile : Nat → Int32) (f_t_bits : Nat → Int32) (f_t_resolutions : Nat → Int32) (p1 : Int32) (p2 : Int32) (x34 : Int32) : Int32 × Int32 :=
  if x34 = 0 then (j_Mo_get_45 t_high t_wide t_components t_unknown t_rights t_colours t_profiled t_entries t_columns t_maps t_lines f_t_line f_t_map f_t_columnBits f_t_profile f_t_bits f_t_resolutions p1 p2 0) else (j_Mo_get_40 t_high t_wide t_components t_unknown t_rights t_colours t_profiled t_entries t_columns t_maps t_lines f_t_line f_t_map f_t_columnBits f_t_profile f_t_bits f_t_resolutions p1 p2)
def ok_Mo_get_34 (t_components : Int32) (t_profiled : Int32) (t_columns : Int32) (t_maps : Int32) (t_lines : Int32) (f_t_line : Nat → Int32) (f_t_map : Nat → Int32) (f_t_columnBits : Nat → Int32) (f_t_profile : Nat → Int32) (f_t_bits : Nat → Int32) (p1 : Int32) (p2 : Int32) (x34 : Int32) : Prop :=
  if x34 = 0 then (oj_Mo_get_45 t_components t_profiled t_columns t_maps t_lines f_t_line f_t_map f_t_columnBits f_t_profile f_t_bits p1 p2 0) else (oj_Mo_get_40 t_components t_profiled t_columns t_maps t_lines f_t_line f_t_map f_t_columnBits f_t_profile f_t_bits p1 p2)
def k_Mo_get_20 (t_high : Int32) (t_wide : Int32) (t_components : Int32) (t_unknown : Int32) (t_rights : Int32) (t_colours : Int32) (t_profiled : Int32) (t_entries : Int32) (t_columns : Int32) (t_maps : Int32) (t_lines : Int32) (f_t_line : Nat → Int32) (f_t_map : Nat → Int32) (f_t_columnBits : Nat → Int32) (f_t_profile : Nat → Int32) (f_t_bits : Nat → Int32) (f_t_resolutions : Nat → Int32) (p1 : Int32) (p2 : Int32) (x20 : Int32) : Int32 × Int32 :=
  if x20 = 0 then (k_Mo_get_34 t_high t_wide t_components t_unknown t_rights t_colours t_profiled t_entries t_columns t_maps t_lines f_t_line f_t_map f_t_columnBits f_t_profile f_t_bits f_t_resolutions p1 p2 (m_Mo_in ((p1 : Int32).toInt64) 40 45)) else (j_Mo_get_40 t_high t_wide t_components t_unknown t_rights t_colours t_profiled t_entries t_columns t_maps t_lines f_t_line f_t_map f_t_columnBits f_t_profile f_t_bits f_t_resolutions p1 p2)
def ok_Mo_get_20 (t_components : Int32) (t_profiled : Int32) (t_columns : Int32) (t_maps : Int32) (t_lines : Int32) (f_t_line : Nat → Int32) (f_t_map : Nat → Int32) (f_t_columnBits : Nat → Int32) (f_t_profile : Nat → Int32) (f_t_bits : Nat → Int32) (p1 : Int32) (p2 : Int32) (x20 : Int32) : Prop :=
  if x20 = 0 then (om_Mo_in ((p1 : Int32).toInt64) 40 45 ∧ (ok_Mo_get_34 t_components t_profiled t_columns t_maps t_lines f_t_line f_t_map f_t_columnBits f_t_profile f_t_bits p1 p2 (m_Mo_in ((p1 : Int32).toInt64) 40 45))) else (oj_Mo_get_40 t_components t_profiled t_columns t_maps t_lines f_t_line f_t_map f_t_columnBits f_t_profile f_t_bits p1 p2)
def k_Mo_get_6 (t_high : Int32) (t_wide : Int32) (t_components : Int32) (t_unknown : Int32) (t_rights : Int32) (t_colours : Int32) (t_profiled : Int32) (t_entries : Int32) (t_columns : Int32) (t_maps : Int32) (t_lines : Int32) (f_t_line : Nat → Int32) (f_t_map : Nat → Int32) (f_t_columnBits : Nat → Int32) (f_t_profile : Nat → Int32) (f_t_bits : Nat → Int32) (f_t_resolutions : Nat → Int32) (p1 : Int32) (p2 : Int32) (x6 : Int32) : Int32 × Int32 :=
  if x6 = 0 then (k_Mo_get_20 t_high t_wide t_components t_unknown t_rights t_colours t_profiled t_entries t_columns t_maps t_lines f_t_line f_t_map f_t_columnBits f_t_profile f_t_bits f_t_resolutions p1 p2 (m_Mo_in ((p1 : Int32).toInt64) 30 35)) else (j_Mo_get_40 t_high t_wide t_components t_unknown t_rights t_colours t_profiled t_entries t_columns t_maps t_lines f_t_line f_t_map f_t_columnBits f_t_profile f_t_bits f_t_resolutions p1 p2)
def ok_Mo_get_6 (t_components : Int32) (t_profiled : Int32) (t_columns : Int32) (t_maps : Int32) (t_lines : Int32) (f_t_line : Nat → Int32) (f_t_map : Nat → Int32) (f_t_columnBits : Nat → Int32) (f_t_profile : Nat → Int32) (f_t_bits : Nat → Int32) (p1 : Int32) (p2 : Int32) (x6 : Int32) : Prop :=
  if x6 = 0 then (om_Mo_in ((p1 : Int32).toInt64) 30 35 ∧ (ok_Mo_get_20 t_components t_profiled t_columns t_maps t_lines f_t_line f_t_map f_t_columnBits f_t_profile f_t_bits p1 p2 (m_Mo_in ((p1 : Int32).toInt64) 30 35))) else (oj_Mo_get_40 t_components t_profiled t_columns t_maps t_lines f_t_line f_t_map f_t_columnBits f_t_profile f_t_bits p1 p2)
def om_Mo_get (t_components : Int32) (t_profiled : Int32) (t_columns : Int32) (t_maps : Int32) (t_lines : Int32) (f_t_line : Nat → Int32) (f_t_map : Nat → Int32) (f_t_columnBits : Nat → Int32) (f_t_profile : Nat → Int32) (f_t_bits : Nat → Int32) (p1 : Int32) (p2 : Int32) : Prop :=
  om_Mo_in ((p1 : Int32).toInt64) 0 10 ∧ (ok_Mo_get_6 t_components t_profiled t_columns t_maps t_lines f_t_line f_t_map f_t_columnBits f_t_profile f_t_bits p1 p2 (m_Mo_in ((p1 : Int32).toInt64) 0 10))
def m_Mo_get (t_high : Int32) (t_wide : Int32) (t_components : Int32) (t_unknown : Int32) (t_rights : Int32) (t_colours : Int32) (t_profiled : Int32) (t_entries : Int32) (t_columns : Int32) (t_maps : Int32) (t_lines : Int32) (f_t_line : Nat → Int32) (f_t_map : Nat → Int32) (f_t_columnBits : Nat → Int32) (f_t_profile : Nat → Int32) (f_t_bits : Nat → Int32) (f_t_resolutions : Nat → Int32) (p1 : Int32) (p2 : Int32) : Int32 × Int32 :=
  k_Mo_get_6 t_high t_wide t_components t_unknown t_rights t_colours t_profiled t_entries t_columns t_maps t_lines f_t_line f_t_map f_t_columnBits f_t_profile f_t_bits f_t_resolutions p1 p2 (m_Mo_in ((p1 : Int32).toInt64) 0 10)
set_option maxHeartbeats 4000000 in
set_option maxRecDepth 100000 in
theorem c_Mo_get (l : Launch) (D : va_G) (cB cI cJ : ClassId) (h_t h_t_bits h_t_profile h_t_columnBits h_t_numbers h_t_map h_t_line h_t_resolutions h_t_file : Nat) (t_thrown : Int32) (t_high : Int32) (t_wide : Int32) (t_components : Int32) (t_unknown : Int32) (t_rights : Int32) (t_colours : Int32) (t_profiled : Int32) (t_entries : Int32) (t_columns : Int32) (t_maps : Int32) (t_lines : Int32) (t_size : Int32) (t_scanned : Int32) (t_refusedAt : Int32) (t_cursor : Int32) (t_streamAt : Int32) (t_streamMany : Int32) (t_name : Int32) (t_from : Int32) (t_end : Int32) (t_sizeAt : Int32) (t_bitsAt : Int32) (t_colourAt : Int32) (t_colourEnd : Int32) (t_paletteAt : Int32) (t_mapAt : Int32) (t_mapEnd : Int32) (t_channelsAt : Int32) (t_captureAt : Int32) (t_displayAt : Int32) (t_resolved : Int32) (f_t_line : Nat → Int32) (f_t_map : Nat → Int32) (f_t_columnBits : Nat → Int32) (f_t_profile : Nat → Int32) (f_t_bits : Nat → Int32) (f_t_resolutions : Nat → Int32) (p1 : Int32) (p2 : Int32) (hO : om_Mo_get t_components t_profiled t_columns t_maps t_lines f_t_line f_t_map f_t_columnBits f_t_profile f_t_bits p1 p2) (sz : Nat) : Ct l D cB cI cJ y_Mo_get b_Mo_get 5 (some .int) 1 25 0 0 [.ref h_t, .int p1, .int p2] [(h_t, .inr (7, (.int t_thrown :: .int t_high :: .int t_wide :: .int t_components :: .ref h_t_bits :: .int t_unknown :: .int t_rights :: .int t_colours :: .int t_profiled :: .ref h_t_profile :: .int t_entries :: .int t_columns :: .ref h_t_columnBits :: .ref h_t_numbers :: .int t_maps :: .ref h_t_map :: .int t_lines :: .ref h_t_line :: .ref h_t_resolutions :: .ref h_t_file :: .int t_size :: .int t_scanned :: .int t_refusedAt :: .int t_cursor :: .int t_streamAt :: .int t_streamMany :: .int t_name :: .int t_from :: .int t_end :: .int t_sizeAt :: .int t_bitsAt :: .int t_colourAt :: .int t_colourEnd :: .int t_paletteAt :: .int t_mapAt :: .int t_mapEnd :: .int t_channelsAt :: .int t_captureAt :: .int t_displayAt :: .int t_resolved :: []))), (h_t_line, .inl (cI, 48, .inl f_t_line)), (h_t_map, .inl (cI, 48, .inl f_t_map)), (h_t_columnBits, .inl (cI, 8, .inl f_t_columnBits)), (h_t_profile, .inl (cI, 1024, .inl f_t_profile)), (h_t_bits, .inl (cI, 16, .inl f_t_bits)), (h_t_resolutions, .inl (cI, 12, .inl f_t_resolutions))] (fun v w1 => ∃ (x : Int32 × Int32), x = m_Mo_get t_high t_wide t_components t_unknown t_rights t_colours t_profiled t_entries t_columns t_maps t_lines f_t_line f_t_map f_t_columnBits f_t_profile f_t_bits f_t_resolutions p1 p2 ∧ v = some (.int x.1) ∧ w1 = [(h_t, .inr (7, (.int x.2 :: .int t_high :: .int t_wide :: .int t_components :: .ref h_t_bits :: .int t_unknown :: .int t_rights :: .int t_colours :: .int t_profiled :: .ref h_t_profile :: .int t_entries :: .int t_columns :: .ref h_t_columnBits :: .ref h_t_numbers :: .int t_maps :: .ref h_t_map :: .int t_lines :: .ref h_t_line :: .ref h_t_resolutions :: .ref h_t_file :: .int t_size :: .int t_scanned :: .int t_refusedAt :: .int t_cursor :: .int t_streamAt :: .int t_streamMany :: .int t_name :: .int t_from :: .int t_end :: .int t_sizeAt :: .int t_bitsAt :: .int t_colourAt :: .int t_colourEnd :: .int t_paletteAt :: .int t_mapAt :: .int t_mapEnd :: .int t_channelsAt :: .int t_captureAt :: .int t_displayAt :: .int t_resolved :: []))), (h_t_line, .inl (cI, 48, .inl f_t_line)), (h_t_map, .inl (cI, 48, .inl f_t_map)), (h_t_columnBits, .inl (cI, 8, .inl f_t_columnBits)), (h_t_profile, .inl (cI, 1024, .inl f_t_profile)), (h_t_bits, .inl (cI, 16, .inl f_t_bits)), (h_t_resolutions, .inl (cI, 12, .inl f_t_resolutions))]) sz := by
  refine Ct.of (by decide) (Nat.le_of_ble_eq_true rfl) ?_
  intro p e R s m args below meth c A ls Q hx hb hr hlk hml hta hown hin hK hN hA hRf hRl hRc hRs hP hD hS hl hQ
  have hl : lv_has ls 5 [(0, .ref h_t), (1, .int p1), (2, .int p2)] := hl
  obtain ⟨RES, E0⟩ : ∃ R, m_Mo_get t_high t_wide t_components t_unknown t_rights t_colours t_profiled t_entries t_columns t_maps t_lines f_t_line f_t_map f_t_columnBits f_t_profile f_t_bits f_t_resolutions p1 p2 = R := ⟨_, rfl⟩
  have E := E0
  have O := hO
  refine lv_iload_n hx hb d_Mo_get_0 rfl (lv_at hl 1 rfl) ?_
  refine lv_i2l (v := (p1 : Int32).toInt64) hx hb d_Mo_get_1 rfl ?_
  refine lv_lconst (v := 0) hx hb d_Mo_get_2 (by decide) ?_
  refine lv_ldc2 (v := 10) hx hb hown (hta _ lk_Mo_125) d_Mo_get_3 ?_
  refine kc_S (As := [.long ((p1 : Int32).toInt64), .long 0, .long 10]) (rest := []) (wr := [(h_t, .inr (7, (.int t_thrown :: .int t_high :: .int t_wide :: .int t_components :: .ref h_t_bits :: .int t_unknown :: .int t_rights :: .int t_colours :: .int t_profiled :: .ref h_t_profile :: .int t_entries :: .int t_columns :: .ref h_t_columnBits :: .ref h_t_numbers :: .int t_maps :: .ref h_t_map :: .int t_lines :: .ref h_t_line :: .ref h_t_resolutions :: .ref h_t_file :: .int t_size :: .int t_scanned :: .int t_refusedAt :: .int t_cursor :: .int t_streamAt :: .int t_streamMany :: .int t_name :: .int t_from :: .int t_end :: .int t_sizeAt :: .int t_bitsAt :: .int t_colourAt :: .int t_colourEnd :: .int t_paletteAt :: .int t_mapAt :: .int t_mapEnd :: .int t_channelsAt :: .int t_captureAt :: .int t_displayAt :: .int t_resolved :: []))), (h_t_line, .inl (cI, 48, .inl f_t_line)), (h_t_map, .inl (cI, 48, .inl f_t_map)), (h_t_columnBits, .inl (cI, 8, .inl f_t_columnBits)), (h_t_profile, .inl (cI, 1024, .inl f_t_profile)), (h_t_bits, .inl (cI, 16, .inl f_t_bits)), (h_t_resolutions, .inl (cI, 12, .inl f_t_resolutions))]) [] [0, 1, 2, 3, 4, 5, 6] ⟨hx, hb, hml, hown, hta⟩ hK hN hP hD hS hA (c_Mo_in l D cB cI cJ ((p1 : Int32).toInt64) 0 10 O.1 _) (hta _ lk_Mo_81) (hta _ ini_Mo) (hta _ code_Mo_in) code_Mo_in (hta _ stat_Mo_in) hd_Mo_in rfl ⟨by omega, by omega⟩ rfl rfl (by decide) (by decide) (by decide) rfl hl.1 (lv_room (Nat.le_of_ble_eq_true rfl)) d_Mo_get_6 ⟨by omega, by omega⟩ (fun v w1 H locs hw hP hD hS => ?_)
  obtain ⟨x6, hx6, rfl, rfl⟩ := hw
  have hP : va_P D classes [(h_t, .inr (7, (.int t_thrown :: .int t_high :: .int t_wide :: .int t_components :: .ref h_t_bits :: .int t_unknown :: .int t_rights :: .int t_colours :: .int t_profiled :: .ref h_t_profile :: .int t_entries :: .int t_columns :: .ref h_t_columnBits :: .ref h_t_numbers :: .int t_maps :: .ref h_t_map :: .int t_lines :: .ref h_t_line :: .ref h_t_resolutions :: .ref h_t_file :: .int t_size :: .int t_scanned :: .int t_refusedAt :: .int t_cursor :: .int t_streamAt :: .int t_streamMany :: .int t_name :: .int t_from :: .int t_end :: .int t_sizeAt :: .int t_bitsAt :: .int t_colourAt :: .int t_colourEnd :: .int t_paletteAt :: .int t_mapAt :: .int t_mapEnd :: .int t_channelsAt :: .int t_captureAt :: .int t_displayAt :: .int t_resolved :: []))), (h_t_line, .inl (cI, 48, .inl f_t_line)), (h_t_map, .inl (cI, 48, .inl f_t_map)), (h_t_columnBits, .inl (cI, 8, .inl f_t_columnBits)), (h_t_profile, .inl (cI, 1024, .inl f_t_profile)), (h_t_bits, .inl (cI, 16, .inl f_t_bits)), (h_t_resolutions, .inl (cI, 12, .inl f_t_resolutions))] H := hP.sub [0, 1, 2, 3, 4, 5, 6] rfl
  have hD : va_D A [(h_t, .inr (7, (.int t_thrown :: .int t_high :: .int t_wide :: .int t_components :: .ref h_t_bits :: .int t_unknown :: .int t_rights :: .int t_colours :: .int t_profiled :: .ref h_t_profile :: .int t_entries :: .int t_columns :: .ref h_t_columnBits :: .ref h_t_numbers :: .int t_maps :: .ref h_t_map :: .int t_lines :: .ref h_t_line :: .ref h_t_resolutions :: .ref h_t_file :: .int t_size :: .int t_scanned :: .int t_refusedAt :: .int t_cursor :: .int t_streamAt :: .int t_streamMany :: .int t_name :: .int t_from :: .int t_end :: .int t_sizeAt :: .int t_bitsAt :: .int t_colourAt :: .int t_colourEnd :: .int t_paletteAt :: .int t_mapAt :: .int t_mapEnd :: .int t_channelsAt :: .int t_captureAt :: .int t_displayAt :: .int t_resolved :: []))), (h_t_line, .inl (cI, 48, .inl f_t_line)), (h_t_map, .inl (cI, 48, .inl f_t_map)), (h_t_columnBits, .inl (cI, 8, .inl f_t_columnBits)), (h_t_profile, .inl (cI, 1024, .inl f_t_profile)), (h_t_bits, .inl (cI, 16, .inl f_t_bits)), (h_t_resolutions, .inl (cI, 12, .inl f_t_resolutions))] := hD.sub [0, 1, 2, 3, 4, 5, 6] (by decide) rfl
  refine W.eq (g2 := F0 m 9 ls [.int x6]) rfl ?_
  have O := O.2
  have E : k_Mo_get_6 t_high t_wide t_components t_unknown t_rights t_colours t_profiled t_entries t_columns t_maps t_lines f_t_line f_t_map f_t_columnBits f_t_profile f_t_bits f_t_resolutions p1 p2 x6 = RES := (congrArg (k_Mo_get_6 t_high t_wide t_components t_unknown t_rights t_colours t_profiled t_entries t_columns t_maps t_lines f_t_line f_t_map f_t_columnBits f_t_profile f_t_bits f_t_resolutions p1 p2) hx6).trans E
  have O : ok_Mo_get_6 t_components t_profiled t_columns t_maps t_lines f_t_line f_t_map f_t_columnBits f_t_profile f_t_bits p1 p2 x6 := by rw [hx6]; exact O
  have J_45 : ∀ (j45_s0 : Int32), j_Mo_get_45 t_high t_wide t_components t_unknown t_rights t_colours t_profiled t_entries t_columns t_maps t_lines f_t_line f_t_map f_t_columnBits f_t_profile f_t_bits f_t_resolutions p1 p2 j45_s0 = RES → oj_Mo_get_45 t_components t_profiled t_columns t_maps t_lines f_t_line f_t_map f_t_columnBits f_t_profile f_t_bits p1 p2 j45_s0 → ∀ (H : Heap) (locs : List Loc), va_P D classes [(h_t, .inr (7, (.int t_thrown :: .int t_high :: .int t_wide :: .int t_components :: .ref h_t_bits :: .int t_unknown :: .int t_rights :: .int t_colours :: .int t_profiled :: .ref h_t_profile :: .int t_entries :: .int t_columns :: .ref h_t_columnBits :: .ref h_t_numbers :: .int t_maps :: .ref h_t_map :: .int t_lines :: .ref h_t_line :: .ref h_t_resolutions :: .ref h_t_file :: .int t_size :: .int t_scanned :: .int t_refusedAt :: .int t_cursor :: .int t_streamAt :: .int t_streamMany :: .int t_name :: .int t_from :: .int t_end :: .int t_sizeAt :: .int t_bitsAt :: .int t_colourAt :: .int t_colourEnd :: .int t_paletteAt :: .int t_mapAt :: .int t_mapEnd :: .int t_channelsAt :: .int t_captureAt :: .int t_displayAt :: .int t_resolved :: []))), (h_t_line, .inl (cI, 48, .inl f_t_line)), (h_t_map, .inl (cI, 48, .inl f_t_map)), (h_t_columnBits, .inl (cI, 8, .inl f_t_columnBits)), (h_t_profile, .inl (cI, 1024, .inl f_t_profile)), (h_t_bits, .inl (cI, 16, .inl f_t_bits)), (h_t_resolutions, .inl (cI, 12, .inl f_t_resolutions))] H → va_D A [(h_t, .inr (7, (.int t_thrown :: .int t_high :: .int t_wide :: .int t_components :: .ref h_t_bits :: .int t_unknown :: .int t_rights :: .int t_colours :: .int t_profiled :: .ref h_t_profile :: .int t_entries :: .int t_columns :: .ref h_t_columnBits :: .ref h_t_numbers :: .int t_maps :: .ref h_t_map :: .int t_lines :: .ref h_t_line :: .ref h_t_resolutions :: .ref h_t_file :: .int t_size :: .int t_scanned :: .int t_refusedAt :: .int t_cursor :: .int t_streamAt :: .int t_streamMany :: .int t_name :: .int t_from :: .int t_end :: .int t_sizeAt :: .int t_bitsAt :: .int t_colourAt :: .int t_colourEnd :: .int t_paletteAt :: .int t_mapAt :: .int t_mapEnd :: .int t_channelsAt :: .int t_captureAt :: .int t_displayAt :: .int t_resolved :: []))), (h_t_line, .inl (cI, 48, .inl f_t_line)), (h_t_map, .inl (cI, 48, .inl f_t_map)), (h_t_columnBits, .inl (cI, 8, .inl f_t_columnBits)), (h_t_profile, .inl (cI, 1024, .inl f_t_profile)), (h_t_bits, .inl (cI, 16, .inl f_t_bits)), (h_t_resolutions, .inl (cI, 12, .inl f_t_resolutions))] → va_S A s.heap H locs → ∀ ls : Array Slot, lv_has ls 5 [(0, .ref h_t), (1, .int p1), (2, .int p2)] → W p l e R s m args below meth c H locs 0 0 Q (F0 m 45 ls [.int j45_s0]) := by
    intro j45_s0 E O H locs hP hD hS ls hl
    refine lv_istore_n (lv' := [(3, .int j45_s0), (0, .ref h_t), (1, .int p1), (2, .int p2)]) hx hb d_Mo_get_45 rfl hl (by decide) rfl (fun ls hl => ?_)
    refine lv_iload_n hx hb d_Mo_get_46 rfl (lv_at hl 3 rfl) ?_
    have J_64 : ∀ (j64_s0 : Int32), j_Mo_get_64 t_high t_wide t_components t_unknown t_rights t_colours t_profiled t_entries t_columns t_maps t_lines f_t_line f_t_map f_t_columnBits f_t_profile f_t_bits f_t_resolutions p1 p2 j45_s0 j64_s0 = RES → oj_Mo_get_64 f_t_line f_t_map f_t_columnBits f_t_profile f_t_bits p1 p2 j45_s0 j64_s0 → ∀ (H : Heap) (locs : List Loc), va_P D classes [(h_t, .inr (7, (.int t_thrown :: .int t_high :: .int t_wide :: .int t_components :: .ref h_t_bits :: .int t_unknown :: .int t_rights :: .int t_colours :: .int t_profiled :: .ref h_t_profile :: .int t_entries :: .int t_columns :: .ref h_t_columnBits :: .ref h_t_numbers :: .int t_maps :: .ref h_t_map :: .int t_lines :: .ref h_t_line :: .ref h_t_resolutions :: .ref h_t_file :: .int t_size :: .int t_scanned :: .int t_refusedAt :: .int t_cursor :: .int t_streamAt :: .int t_streamMany :: .int t_name :: .int t_from :: .int t_end :: .int t_sizeAt :: .int t_bitsAt :: .int t_colourAt :: .int t_colourEnd :: .int t_paletteAt :: .int t_mapAt :: .int t_mapEnd :: .int t_channelsAt :: .int t_captureAt :: .int t_displayAt :: .int t_resolved :: []))), (h_t_line, .inl (cI, 48, .inl f_t_line)), (h_t_map, .inl (cI, 48, .inl f_t_map)), (h_t_columnBits, .inl (cI, 8, .inl f_t_columnBits)), (h_t_profile, .inl (cI, 1024, .inl f_t_profile)), (h_t_bits, .inl (cI, 16, .inl f_t_bits)), (h_t_resolutions, .inl (cI, 12, .inl f_t_resolutions))] H → va_D A [(h_t, .inr (7, (.int t_thrown :: .int t_high :: .int t_wide :: .int t_components :: .ref h_t_bits :: .int t_unknown :: .int t_rights :: .int t_colours :: .int t_profiled :: .ref h_t_profile :: .int t_entries :: .int t_columns :: .ref h_t_columnBits :: .ref h_t_numbers :: .int t_maps :: .ref h_t_map :: .int t_lines :: .ref h_t_line :: .ref h_t_resolutions :: .ref h_t_file :: .int t_size :: .int t_scanned :: .int t_refusedAt :: .int t_cursor :: .int t_streamAt :: .int t_streamMany :: .int t_name :: .int t_from :: .int t_end :: .int t_sizeAt :: .int t_bitsAt :: .int t_colourAt :: .int t_colourEnd :: .int t_paletteAt :: .int t_mapAt :: .int t_mapEnd :: .int t_channelsAt :: .int t_captureAt :: .int t_displayAt :: .int t_resolved :: []))), (h_t_line, .inl (cI, 48, .inl f_t_line)), (h_t_map, .inl (cI, 48, .inl f_t_map)), (h_t_columnBits, .inl (cI, 8, .inl f_t_columnBits)), (h_t_profile, .inl (cI, 1024, .inl f_t_profile)), (h_t_bits, .inl (cI, 16, .inl f_t_bits)), (h_t_resolutions, .inl (cI, 12, .inl f_t_resolutions))] → va_S A s.heap H locs → ∀ ls : Array Slot, lv_has ls 5 [(3, .int j45_s0), (0, .ref h_t), (1, .int p1), (2, .int p2)] → W p l e R s m args below meth c H locs 0 0 Q (F0 m 64 ls [.int j64_s0]) := by
      intro j64_s0 E O H locs hP hD hS ls hl
      refine lv_istore (lv' := [(4, .int j64_s0), (3, .int j45_s0), (0, .ref h_t), (1, .int p1), (2, .int p2)]) hx hb d_Mo_get_64 hl (by decide) rfl (fun ls hl => ?_)
      refine lv_aload_n hx hb d_Mo_get_66 rfl (lv_at hl 2 rfl) ?_
      refine lv_iload_n hx hb d_Mo_get_67 rfl (lv_at hl 1 rfl) ?_
      have J_81 : ∀ (j81_s1 : Int32), j_Mo_get_81 t_high t_wide t_components t_unknown t_rights t_colours t_profiled t_entries t_columns t_maps t_lines f_t_line f_t_map f_t_columnBits f_t_profile f_t_bits f_t_resolutions p1 p2 j45_s0 j64_s0 j81_s1 = RES → oj_Mo_get_81 f_t_line f_t_map f_t_columnBits f_t_profile f_t_bits p1 p2 j45_s0 j64_s0 j81_s1 → ∀ (H : Heap) (locs : List Loc), va_P D classes [(h_t, .inr (7, (.int t_thrown :: .int t_high :: .int t_wide :: .int t_components :: .ref h_t_bits :: .int t_unknown :: .int t_rights :: .int t_colours :: .int t_profiled :: .ref h_t_profile :: .int t_entries :: .int t_columns :: .ref h_t_columnBits :: .ref h_t_numbers :: .int t_maps :: .ref h_t_map :: .int t_lines :: .ref h_t_line :: .ref h_t_resolutions :: .ref h_t_file :: .int t_size :: .int t_scanned :: .int t_refusedAt :: .int t_cursor :: .int t_streamAt :: .int t_streamMany :: .int t_name :: .int t_from :: .int t_end :: .int t_sizeAt :: .int t_bitsAt :: .int t_colourAt :: .int t_colourEnd :: .int t_paletteAt :: .int t_mapAt :: .int t_mapEnd :: .int t_channelsAt :: .int t_captureAt :: .int t_displayAt :: .int t_resolved :: []))), (h_t_line, .inl (cI, 48, .inl f_t_line)), (h_t_map, .inl (cI, 48, .inl f_t_map)), (h_t_columnBits, .inl (cI, 8, .inl f_t_columnBits)), (h_t_profile, .inl (cI, 1024, .inl f_t_profile)), (h_t_bits, .inl (cI, 16, .inl f_t_bits)), (h_t_resolutions, .inl (cI, 12, .inl f_t_resolutions))] H → va_D A [(h_t, .inr (7, (.int t_thrown :: .int t_high :: .int t_wide :: .int t_components :: .ref h_t_bits :: .int t_unknown :: .int t_rights :: .int t_colours :: .int t_profiled :: .ref h_t_profile :: .int t_entries :: .int t_columns :: .ref h_t_columnBits :: .ref h_t_numbers :: .int t_maps :: .ref h_t_map :: .int t_lines :: .ref h_t_line :: .ref h_t_resolutions :: .ref h_t_file :: .int t_size :: .int t_scanned :: .int t_refusedAt :: .int t_cursor :: .int t_streamAt :: .int t_streamMany :: .int t_name :: .int t_from :: .int t_end :: .int t_sizeAt :: .int t_bitsAt :: .int t_colourAt :: .int t_colourEnd :: .int t_paletteAt :: .int t_mapAt :: .int t_mapEnd :: .int t_channelsAt :: .int t_captureAt :: .int t_displayAt :: .int t_resolved :: []))), (h_t_line, .inl (cI, 48, .inl f_t_line)), (h_t_map, .inl (cI, 48, .inl f_t_map)), (h_t_columnBits, .inl (cI, 8, .inl f_t_columnBits)), (h_t_profile, .inl (cI, 1024, .inl f_t_profile)), (h_t_bits, .inl (cI, 16, .inl f_t_bits)), (h_t_resolutions, .inl (cI, 12, .inl f_t_resolutions))] → va_S A s.heap H locs → ∀ ls : Array Slot, lv_has ls 5 [(4, .int j64_s0), (3, .int j45_s0), (0, .ref h_t), (1, .int p1), (2, .int p2)] → W p l e R s m args below meth c H locs 0 0 Q (F0 m 81 ls [.int j81_s1, .ref h_t]) := by
        intro j81_s1 E O H locs hP hD hS ls hl
        refine kc_V (As := [.int j81_s1]) (rest := []) (wr := [(h_t_line, .inl (cI, 48, .inl f_t_line)), (h_t_map, .inl (cI, 48, .inl f_t_map)), (h_t_columnBits, .inl (cI, 8, .inl f_t_columnBits)), (h_t_profile, .inl (cI, 1024, .inl f_t_profile)), (h_t_bits, .inl (cI, 16, .inl f_t_bits)), (h_t_resolutions, .inl (cI, 12, .inl f_t_resolutions))]) [0] [1, 2, 3, 4, 5, 6] ⟨hx, hb, hml, hown, hta⟩ hK hN hP hD hS hA (c_Mo_refuse l D cB cI cJ h_t h_t_bits h_t_profile h_t_columnBits h_t_numbers h_t_map h_t_line h_t_resolutions h_t_file t_thrown t_high t_wide t_components t_unknown t_rights t_colours t_profiled t_entries t_columns t_maps t_lines t_size t_scanned t_refusedAt t_cursor t_streamAt t_streamMany t_name t_from t_end t_sizeAt t_bitsAt t_colourAt t_colourEnd t_paletteAt t_mapAt t_mapEnd t_channelsAt t_captureAt t_displayAt t_resolved j81_s1 O.1 _) (hta _ lk_Mo_89) (hta _ ini_Mo) (hta _ code_Mo_refuse) code_Mo_refuse (hta _ inst_Mo_refuse) (hta _ sel_Mo_refuse) hd_Mo_refuse rfl ⟨by omega, by omega⟩ (ci := 7) 0 rfl rfl rfl rfl (by decide) (by decide) (by decide) rfl hl.1 (lv_room (Nat.le_of_ble_eq_true rfl)) d_Mo_get_81 ⟨by omega, by omega⟩ (fun v w1 H locs hw hP hD hS => ?_)
        obtain ⟨x81, hx81, rfl, rfl⟩ := hw
        have hP : va_P D classes [(h_t, .inr (7, (.int x81.2 :: .int t_high :: .int t_wide :: .int t_components :: .ref h_t_bits :: .int t_unknown :: .int t_rights :: .int t_colours :: .int t_profiled :: .ref h_t_profile :: .int t_entries :: .int t_columns :: .ref h_t_columnBits :: .ref h_t_numbers :: .int t_maps :: .ref h_t_map :: .int t_lines :: .ref h_t_line :: .ref h_t_resolutions :: .ref h_t_file :: .int t_size :: .int t_scanned :: .int t_refusedAt :: .int t_cursor :: .int t_streamAt :: .int t_streamMany :: .int t_name :: .int t_from :: .int t_end :: .int t_sizeAt :: .int t_bitsAt :: .int t_colourAt :: .int t_colourEnd :: .int t_paletteAt :: .int t_mapAt :: .int t_mapEnd :: .int t_channelsAt :: .int t_captureAt :: .int t_displayAt :: .int t_resolved :: []))), (h_t_line, .inl (cI, 48, .inl f_t_line)), (h_t_map, .inl (cI, 48, .inl f_t_map)), (h_t_columnBits, .inl (cI, 8, .inl f_t_columnBits)), (h_t_profile, .inl (cI, 1024, .inl f_t_profile)), (h_t_bits, .inl (cI, 16, .inl f_t_bits)), (h_t_resolutions, .inl (cI, 12, .inl f_t_resolutions))] H := hP.sub [6, 0, 1, 2, 3, 4, 5] rfl
        have hD : va_D A [(h_t, .inr (7, (.int x81.2 :: .int t_high :: .int t_wide :: .int t_components :: .ref h_t_bits :: .int t_unknown :: .int t_rights :: .int t_colours :: .int t_profiled :: .ref h_t_profile :: .int t_entries :: .int t_columns :: .ref h_t_columnBits :: .ref h_t_numbers :: .int t_maps :: .ref h_t_map :: .int t_lines :: .ref h_t_line :: .ref h_t_resolutions :: .ref h_t_file :: .int t_size :: .int t_scanned :: .int t_refusedAt :: .int t_cursor :: .int t_streamAt :: .int t_streamMany :: .int t_name :: .int t_from :: .int t_end :: .int t_sizeAt :: .int t_bitsAt :: .int t_colourAt :: .int t_colourEnd :: .int t_paletteAt :: .int t_mapAt :: .int t_mapEnd :: .int t_channelsAt :: .int t_captureAt :: .int t_displayAt :: .int t_resolved :: []))), (h_t_line, .inl (cI, 48, .inl f_t_line)), (h_t_map, .inl (cI, 48, .inl f_t_map)), (h_t_columnBits, .inl (cI, 8, .inl f_t_columnBits)), (h_t_profile, .inl (cI, 1024, .inl f_t_profile)), (h_t_bits, .inl (cI, 16, .inl f_t_bits)), (h_t_resolutions, .inl (cI, 12, .inl f_t_resolutions))] := hD.sub [6, 0, 1, 2, 3, 4, 5] (by decide) rfl
        refine W.eq (g2 := F0 m 84 ls [.int x81.1]) rfl ?_
        have O := O.2
        have E : k_Mo_get_81 t_high t_wide t_components t_unknown t_rights t_colours t_profiled t_entries t_columns t_maps t_lines f_t_line f_t_map f_t_columnBits f_t_profile f_t_bits f_t_resolutions p1 p2 j45_s0 j64_s0 x81 = RES := (congrArg (k_Mo_get_81 t_high t_wide t_components t_unknown t_rights t_colours t_profiled t_entries t_columns t_maps t_lines f_t_line f_t_map f_t_columnBits f_t_profile f_t_bits f_t_resolutions p1 p2 j45_s0 j64_s0) hx81).trans E
        have O : ok_Mo_get_81 f_t_line f_t_map f_t_columnBits f_t_profile f_t_bits p1 p2 j45_s0 j64_s0 x81 := by rw [hx81]; exact O
        refine lv_if_eq (tgt := 89) hx hb d_Mo_get_84 (by decide) (fun c_84 => ?_) (fun c_84 => ?_)
        · have E := (if_pos c_84).symm.trans E
          have O := Eq.mp (if_pos c_84) O
          refine lv_iload hx hb d_Mo_get_89 (lv_at hl 0 rfl) ?_
          have J_105 : j_Mo_get_105 t_high t_wide t_components t_unknown t_rights t_colours t_profiled t_entries t_columns t_maps t_lines f_t_resolutions p1 x81 = RES → oj_Mo_get_105 p1 → ∀ (H : Heap) (locs : List Loc), va_P D classes [(h_t, .inr (7, (.int x81.2 :: .int t_high :: .int t_wide :: .int t_components :: .ref h_t_bits :: .int t_unknown :: .int t_rights :: .int t_colours :: .int t_profiled :: .ref h_t_profile :: .int t_entries :: .int t_columns :: .ref h_t_columnBits :: .ref h_t_numbers :: .int t_maps :: .ref h_t_map :: .int t_lines :: .ref h_t_line :: .ref h_t_resolutions :: .ref h_t_file :: .int t_size :: .int t_scanned :: .int t_refusedAt :: .int t_cursor :: .int t_streamAt :: .int t_streamMany :: .int t_name :: .int t_from :: .int t_end :: .int t_sizeAt :: .int t_bitsAt :: .int t_colourAt :: .int t_colourEnd :: .int t_paletteAt :: .int t_mapAt :: .int t_mapEnd :: .int t_channelsAt :: .int t_captureAt :: .int t_displayAt :: .int t_resolved :: []))), (h_t_line, .inl (cI, 48, .inl f_t_line)), (h_t_map, .inl (cI, 48, .inl f_t_map)), (h_t_columnBits, .inl (cI, 8, .inl f_t_columnBits)), (h_t_profile, .inl (cI, 1024, .inl f_t_profile)), (h_t_bits, .inl (cI, 16, .inl f_t_bits)), (h_t_resolutions, .inl (cI, 12, .inl f_t_resolutions))] H → va_D A [(h_t, .inr (7, (.int x81.2 :: .int t_high :: .int t_wide :: .int t_components :: .ref h_t_bits :: .int t_unknown :: .int t_rights :: .int t_colours :: .int t_profiled :: .ref h_t_profile :: .int t_entries :: .int t_columns :: .ref h_t_columnBits :: .ref h_t_numbers :: .int t_maps :: .ref h_t_map :: .int t_lines :: .ref h_t_line :: .ref h_t_resolutions :: .ref h_t_file :: .int t_size :: .int t_scanned :: .int t_refusedAt :: .int t_cursor :: .int t_streamAt :: .int t_streamMany :: .int t_name :: .int t_from :: .int t_end :: .int t_sizeAt :: .int t_bitsAt :: .int t_colourAt :: .int t_colourEnd :: .int t_paletteAt :: .int t_mapAt :: .int t_mapEnd :: .int t_channelsAt :: .int t_captureAt :: .int t_displayAt :: .int t_resolved :: []))), (h_t_line, .inl (cI, 48, .inl f_t_line)), (h_t_map, .inl (cI, 48, .inl f_t_map)), (h_t_columnBits, .inl (cI, 8, .inl f_t_columnBits)), (h_t_profile, .inl (cI, 1024, .inl f_t_profile)), (h_t_bits, .inl (cI, 16, .inl f_t_bits)), (h_t_resolutions, .inl (cI, 12, .inl f_t_resolutions))] → va_S A s.heap H locs → ∀ ls : Array Slot, lv_has ls 5 [(0, .ref h_t), (1, .int p1)] → W p l e R s m args below meth c H locs 0 0 Q (F0 m 105 ls []) := by
            intro E O H locs hP hD hS ls hl
            refine lv_iload_n hx hb d_Mo_get_105 rfl (lv_at hl 1 rfl) ?_
            by_cases c_106_0 : p1 = 0
            · have E := (if_pos c_106_0).symm.trans E
              have O := Eq.mp (if_pos c_106_0) O
              refine lv_tableIn (off := 58) (tgt := 164) hx hb d_Mo_get_106 (by rw [c_106_0]; decide) (by rw [c_106_0]; decide) (by rw [c_106_0]; rfl) (by decide) ?_
              refine lv_aload_n hx hb d_Mo_get_164 rfl (lv_at hl 0 rfl) ?_
              refine va_get (D := D) (v := .int t_high) hx hb hta i_Mo hown hK hP 0 rfl rfl 1 (by decide) (hta _ lk_Mo_49) (fun _ h9 => h9) rfl d_Mo_get_165 ?_
              exact kr_i hx hb hr hlk hQ hK hP hD hS ⟨((t_high, x81.2) : Int32 × Int32), E.trans E0.symm, rfl, rfl⟩ (by omega) (by omega) d_Mo_get_168
            have E := (if_neg c_106_0).symm.trans E
            have O := Eq.mp (if_neg c_106_0) O
            by_cases c_106_1 : p1 = 1
            · have E := (if_pos c_106_1).symm.trans E
              have O := Eq.mp (if_pos c_106_1) O
              refine lv_tableIn (off := 63) (tgt := 169) hx hb d_Mo_get_106 (by rw [c_106_1]; decide) (by rw [c_106_1]; decide) (by rw [c_106_1]; rfl) (by decide) ?_
              refine lv_aload_n hx hb d_Mo_get_169 rfl (lv_at hl 0 rfl) ?_
              refine va_get (D := D) (v := .int t_wide) hx hb hta i_Mo hown hK hP 0 rfl rfl 2 (by decide) (hta _ lk_Mo_52) (fun _ h9 => h9) rfl d_Mo_get_170 ?_
              exact kr_i hx hb hr hlk hQ hK hP hD hS ⟨((t_wide, x81.2) : Int32 × Int32), E.trans E0.symm, rfl, rfl⟩ (by omega) (by omega) d_Mo_get_173
            have E := (if_neg c_106_1).symm.trans E
            have O := Eq.mp (if_neg c_106_1) O
            by_cases c_106_2 : p1 = 2
            · have E := (if_pos c_106_2).symm.trans E
              have O := Eq.mp (if_pos c_106_2) O
              refine lv_tableIn (off := 68) (tgt := 174) hx hb d_Mo_get_106 (by rw [c_106_2]; decide) (by rw [c_106_2]; decide) (by rw [c_106_2]; rfl) (by decide) ?_
              refine lv_aload_n hx hb d_Mo_get_174 rfl (lv_at hl 0 rfl) ?_
              refine va_get (D := D) (v := .int t_components) hx hb hta i_Mo hown hK hP 0 rfl rfl 3 (by decide) (hta _ lk_Mo_55) (fun _ h9 => h9) rfl d_Mo_get_175 ?_
              exact kr_i hx hb hr hlk hQ hK hP hD hS ⟨((t_components, x81.2) : Int32 × Int32), E.trans E0.symm, rfl, rfl⟩ (by omega) (by omega) d_Mo_get_178
            have E := (if_neg c_106_2).symm.trans E
            have O := Eq.mp (if_neg c_106_2) O
            by_cases c_106_3 : p1 = 3
            · have E := (if_pos c_106_3).symm.trans E
              have O := Eq.mp (if_pos c_106_3) O
              refine lv_tableIn (off := 73) (tgt := 179) hx hb d_Mo_get_106 (by rw [c_106_3]; decide) (by rw [c_106_3]; decide) (by rw [c_106_3]; rfl) (by decide) ?_
              refine lv_aload_n hx hb d_Mo_get_179 rfl (lv_at hl 0 rfl) ?_
              refine va_get (D := D) (v := .int t_unknown) hx hb hta i_Mo hown hK hP 0 rfl rfl 5 (by decide) (hta _ lk_Mo_58) (fun _ h9 => h9) rfl d_Mo_get_180 ?_
              exact kr_i hx hb hr hlk hQ hK hP hD hS ⟨((t_unknown, x81.2) : Int32 × Int32), E.trans E0.symm, rfl, rfl⟩ (by omega) (by omega) d_Mo_get_183
            have E := (if_neg c_106_3).symm.trans E
            have O := Eq.mp (if_neg c_106_3) O
            by_cases c_106_4 : p1 = 4
            · have E := (if_pos c_106_4).symm.trans E
              have O := Eq.mp (if_pos c_106_4) O
              refine lv_tableIn (off := 78) (tgt := 184) hx hb d_Mo_get_106 (by rw [c_106_4]; decide) (by rw [c_106_4]; decide) (by rw [c_106_4]; rfl) (by decide) ?_
              refine lv_aload_n hx hb d_Mo_get_184 rfl (lv_at hl 0 rfl) ?_
              refine va_get (D := D) (v := .int t_rights) hx hb hta i_Mo hown hK hP 0 rfl rfl 6 (by decide) (hta _ lk_Mo_61) (fun _ h9 => h9) rfl d_Mo_get_185 ?_
              exact kr_i hx hb hr hlk hQ hK hP hD hS ⟨((t_rights, x81.2) : Int32 × Int32), E.trans E0.symm, rfl, rfl⟩ (by omega) (by omega) d_Mo_get_188
            have E := (if_neg c_106_4).symm.trans E
            have O := Eq.mp (if_neg c_106_4) O
            by_cases c_106_5 : p1 = 5
            · have E := (if_pos c_106_5).symm.trans E
              have O := Eq.mp (if_pos c_106_5) O
              refine lv_tableIn (off := 83) (tgt := 189) hx hb d_Mo_get_106 (by rw [c_106_5]; decide) (by rw [c_106_5]; decide) (by rw [c_106_5]; rfl) (by decide) ?_
              refine lv_aload_n hx hb d_Mo_get_189 rfl (lv_at hl 0 rfl) ?_
              refine va_get (D := D) (v := .int t_colours) hx hb hta i_Mo hown hK hP 0 rfl rfl 7 (by decide) (hta _ lk_Mo_64) (fun _ h9 => h9) rfl d_Mo_get_190 ?_
              exact kr_i hx hb hr hlk hQ hK hP hD hS ⟨((t_colours, x81.2) : Int32 × Int32), E.trans E0.symm, rfl, rfl⟩ (by omega) (by omega) d_Mo_get_193
            have E := (if_neg c_106_5).symm.trans E
            have O := Eq.mp (if_neg c_106_5) O
            by_cases c_106_6 : p1 = 6
            · have E := (if_pos c_106_6).symm.trans E
              have O := Eq.mp (if_pos c_106_6) O
              refine lv_tableIn (off := 88) (tgt := 194) hx hb d_Mo_get_106 (by rw [c_106_6]; decide) (by rw [c_106_6]; decide) (by rw [c_106_6]; rfl) (by decide) ?_
              refine lv_aload_n hx hb d_Mo_get_194 rfl (lv_at hl 0 rfl) ?_
              refine va_get (D := D) (v := .int t_profiled) hx hb hta i_Mo hown hK hP 0 rfl rfl 8 (by decide) (hta _ lk_Mo_13) (fun _ h9 => h9) rfl d_Mo_get_195 ?_
              exact kr_i hx hb hr hlk hQ hK hP hD hS ⟨((t_profiled, x81.2) : Int32 × Int32), E.trans E0.symm, rfl, rfl⟩ (by omega) (by omega) d_Mo_get_198
            have E := (if_neg c_106_6).symm.trans E
            have O := Eq.mp (if_neg c_106_6) O
            by_cases c_106_7 : p1 = 7
            · have E := (if_pos c_106_7).symm.trans E
              have O := Eq.mp (if_pos c_106_7) O
              refine lv_tableIn (off := 93) (tgt := 199) hx hb d_Mo_get_106 (by rw [c_106_7]; decide) (by rw [c_106_7]; decide) (by rw [c_106_7]; rfl) (by decide) ?_
              refine lv_aload_n hx hb d_Mo_get_199 rfl (lv_at hl 0 rfl) ?_
              refine va_get (D := D) (v := .int t_entries) hx hb hta i_Mo hown hK hP 0 rfl rfl 10 (by decide) (hta _ lk_Mo_67) (fun _ h9 => h9) rfl d_Mo_get_200 ?_
              exact kr_i hx hb hr hlk hQ hK hP hD hS ⟨((t_entries, x81.2) : Int32 × Int32), E.trans E0.symm, rfl, rfl⟩ (by omega) (by omega) d_Mo_get_203
            have E := (if_neg c_106_7).symm.trans E
            have O := Eq.mp (if_neg c_106_7) O
            by_cases c_106_8 : p1 = 8
            · have E := (if_pos c_106_8).symm.trans E
              have O := Eq.mp (if_pos c_106_8) O
              refine lv_tableIn (off := 98) (tgt := 204) hx hb d_Mo_get_106 (by rw [c_106_8]; decide) (by rw [c_106_8]; decide) (by rw [c_106_8]; rfl) (by decide) ?_
              refine lv_aload_n hx hb d_Mo_get_204 rfl (lv_at hl 0 rfl) ?_
              refine va_get (D := D) (v := .int t_columns) hx hb hta i_Mo hown hK hP 0 rfl rfl 11 (by decide) (hta _ lk_Mo_70) (fun _ h9 => h9) rfl d_Mo_get_205 ?_
              exact kr_i hx hb hr hlk hQ hK hP hD hS ⟨((t_columns, x81.2) : Int32 × Int32), E.trans E0.symm, rfl, rfl⟩ (by omega) (by omega) d_Mo_get_208
            have E := (if_neg c_106_8).symm.trans E
            have O := Eq.mp (if_neg c_106_8) O
            by_cases c_106_9 : p1 = 9
            · have E := (if_pos c_106_9).symm.trans E
              have O := Eq.mp (if_pos c_106_9) O
              refine lv_tableIn (off := 103) (tgt := 209) hx hb d_Mo_get_106 (by rw [c_106_9]; decide) (by rw [c_106_9]; decide) (by rw [c_106_9]; rfl) (by decide) ?_
              refine lv_aload_n hx hb d_Mo_get_209 rfl (lv_at hl 0 rfl) ?_
              refine va_get (D := D) (v := .int t_maps) hx hb hta i_Mo hown hK hP 0 rfl rfl 14 (by decide) (hta _ lk_Mo_73) (fun _ h9 => h9) rfl d_Mo_get_210 ?_
              exact kr_i hx hb hr hlk hQ hK hP hD hS ⟨((t_maps, x81.2) : Int32 × Int32), E.trans E0.symm, rfl, rfl⟩ (by omega) (by omega) d_Mo_get_213
            have E := (if_neg c_106_9).symm.trans E
            have O := Eq.mp (if_neg c_106_9) O
            by_cases c_106_10 : p1 = 10
            · have E := (if_pos c_106_10).symm.trans E
              have O := Eq.mp (if_pos c_106_10) O
              refine lv_tableIn (off := 108) (tgt := 214) hx hb d_Mo_get_106 (by rw [c_106_10]; decide) (by rw [c_106_10]; decide) (by rw [c_106_10]; rfl) (by decide) ?_
              refine lv_aload_n hx hb d_Mo_get_214 rfl (lv_at hl 0 rfl) ?_
              refine va_get (D := D) (v := .int t_lines) hx hb hta i_Mo hown hK hP 0 rfl rfl 16 (by decide) (hta _ lk_Mo_76) (fun _ h9 => h9) rfl d_Mo_get_215 ?_
              exact kr_i hx hb hr hlk hQ hK hP hD hS ⟨((t_lines, x81.2) : Int32 × Int32), E.trans E0.symm, rfl, rfl⟩ (by omega) (by omega) d_Mo_get_218
            have E := (if_neg c_106_10).symm.trans E
            have O := Eq.mp (if_neg c_106_10) O
            refine lv_tableOut (tgt := 219) hx hb d_Mo_get_106 (by have g0 := lv_neT c_106_0 (a := 0) (by decide); have g1 := lv_neT c_106_1 (a := 1) (by decide); have g2 := lv_neT c_106_2 (a := 2) (by decide); have g3 := lv_neT c_106_3 (a := 3) (by decide); have g4 := lv_neT c_106_4 (a := 4) (by decide); have g5 := lv_neT c_106_5 (a := 5) (by decide); have g6 := lv_neT c_106_6 (a := 6) (by decide); have g7 := lv_neT c_106_7 (a := 7) (by decide); have g8 := lv_neT c_106_8 (a := 8) (by decide); have g9 := lv_neT c_106_9 (a := 9) (by decide); have g10 := lv_neT c_106_10 (a := 10) (by decide); omega) (by decide) ?_
            refine lv_iload_n hx hb d_Mo_get_219 rfl (lv_at hl 1 rfl) ?_
            refine lv_bipush (v := 40) hx hb d_Mo_get_220 (by decide) ?_
            refine lv_icmp_ge (tgt := 237) hx hb d_Mo_get_222 (by decide) (fun c_222 => ?_) (fun c_222 => ?_)
            · have E := (if_pos c_222).symm.trans E
              have O := Eq.mp (if_pos c_222) O
              refine lv_aload_n hx hb d_Mo_get_237 rfl (lv_at hl 0 rfl) ?_
              refine va_get (D := D) (v := .ref h_t_resolutions) hx hb hta i_Mo hown hK hP 0 rfl rfl 18 (by decide) (hta _ lk_Mo_33) (fun _ h9 => h9) rfl d_Mo_get_238 ?_
              refine lv_iload_n hx hb d_Mo_get_241 rfl (lv_at hl 1 rfl) ?_
              refine lv_bipush (v := 34) hx hb d_Mo_get_242 (by decide) ?_
              refine lv_isub hx hb d_Mo_get_244 ?_
              refine va_iald hx hb hK hP 6 1 rfl rfl O.1 d_Mo_get_245 ?_
              have O := O.2
              exact kr_i hx hb hr hlk hQ hK hP hD hS ⟨((f_t_resolutions (p1 - 34).toNatClampNeg, x81.2) : Int32 × Int32), E.trans E0.symm, rfl, rfl⟩ (by omega) (by omega) d_Mo_get_246
            · have E := (if_neg c_222).symm.trans E
              have O := Eq.mp (if_neg c_222) O
              refine lv_aload_n hx hb d_Mo_get_225 rfl (lv_at hl 0 rfl) ?_
              refine va_get (D := D) (v := .ref h_t_resolutions) hx hb hta i_Mo hown hK hP 0 rfl rfl 18 (by decide) (hta _ lk_Mo_33) (fun _ h9 => h9) rfl d_Mo_get_226 ?_
              refine lv_iload_n hx hb d_Mo_get_229 rfl (lv_at hl 1 rfl) ?_
              refine lv_bipush (v := 30) hx hb d_Mo_get_230 (by decide) ?_
              refine lv_isub hx hb d_Mo_get_232 ?_
              refine va_iald hx hb hK hP 6 1 rfl rfl O.1 d_Mo_get_233 ?_
              have O := O.2
              refine lv_goto (tgt := 246) hx hb d_Mo_get_234 (by decide) ?_
              exact kr_i hx hb hr hlk hQ hK hP hD hS ⟨((f_t_resolutions (p1 - 30).toNatClampNeg, x81.2) : Int32 × Int32), E.trans E0.symm, rfl, rfl⟩ (by omega) (by omega) d_Mo_get_246
          refine lv_if_eq (tgt := 105) hx hb d_Mo_get_91 (by decide) (fun c_91 => ?_) (fun c_91 => ?_)
          · have E := (if_pos c_91).symm.trans E
            have O := Eq.mp (if_pos c_91) O
            exact J_105  E O _ _ hP hD hS ls (lv_sub hl [2, 3] rfl)
          · have E := (if_neg c_91).symm.trans E
            have O := Eq.mp (if_neg c_91) O
            refine lv_iload_n hx hb d_Mo_get_94 rfl (lv_at hl 1 rfl) ?_
            refine lv_if_ne (tgt := 105) hx hb d_Mo_get_95 (by decide) (fun c_95 => ?_) (fun c_95 => ?_)
            · have E := (if_neg c_95).symm.trans E
              have O := Eq.mp (if_neg c_95) O
              exact J_105  E O _ _ hP hD hS ls (lv_sub hl [2, 3] rfl)
            · have E := (if_pos c_95).symm.trans E
              have O := Eq.mp (if_pos c_95) O
              refine lv_aload_n hx hb d_Mo_get_98 rfl (lv_at hl 2 rfl) ?_
              refine lv_iload_n hx hb d_Mo_get_99 rfl (lv_at hl 3 rfl) ?_
              refine lv_iload_n hx hb d_Mo_get_100 rfl (lv_at hl 4 rfl) ?_
              refine kc_V (As := [.int p1, .int p2]) (rest := []) (wr := [(h_t_resolutions, .inl (cI, 12, .inl f_t_resolutions))]) [0, 1, 2, 3, 4, 5] [6] ⟨hx, hb, hml, hown, hta⟩ hK hN hP hD hS hA (c_Mo_told l D cB cI cJ h_t h_t_bits h_t_profile h_t_columnBits h_t_numbers h_t_map h_t_line h_t_resolutions h_t_file x81.2 t_high t_wide t_components t_unknown t_rights t_colours t_profiled t_entries t_columns t_maps t_lines t_size t_scanned t_refusedAt t_cursor t_streamAt t_streamMany t_name t_from t_end t_sizeAt t_bitsAt t_colourAt t_colourEnd t_paletteAt t_mapAt t_mapEnd t_channelsAt t_captureAt t_displayAt t_resolved f_t_line f_t_map f_t_columnBits f_t_profile f_t_bits p1 p2 O.1 _) (hta _ lk_Mo_139) (hta _ ini_Mo) (hta _ code_Mo_told) code_Mo_told (hta _ inst_Mo_told) (hta _ sel_Mo_told) hd_Mo_told rfl ⟨by omega, by omega⟩ (ci := 7) 0 rfl rfl rfl rfl (by decide) (by decide) (by decide) rfl hl.1 (lv_room (Nat.le_of_ble_eq_true rfl)) d_Mo_get_101 ⟨by omega, by omega⟩ (fun v w1 H locs hw hP hD hS => ?_)
              obtain ⟨x101, hx101, rfl, rfl⟩ := hw
              have hP : va_P D classes [(h_t, .inr (7, (.int x81.2 :: .int t_high :: .int t_wide :: .int t_components :: .ref h_t_bits :: .int t_unknown :: .int t_rights :: .int t_colours :: .int t_profiled :: .ref h_t_profile :: .int t_entries :: .int t_columns :: .ref h_t_columnBits :: .ref h_t_numbers :: .int t_maps :: .ref h_t_map :: .int t_lines :: .ref h_t_line :: .ref h_t_resolutions :: .ref h_t_file :: .int t_size :: .int t_scanned :: .int t_refusedAt :: .int t_cursor :: .int t_streamAt :: .int t_streamMany :: .int t_name :: .int t_from :: .int t_end :: .int t_sizeAt :: .int t_bitsAt :: .int t_colourAt :: .int t_colourEnd :: .int t_paletteAt :: .int t_mapAt :: .int t_mapEnd :: .int t_channelsAt :: .int t_captureAt :: .int t_displayAt :: .int t_resolved :: []))), (h_t_line, .inl (cI, 48, .inl f_t_line)), (h_t_map, .inl (cI, 48, .inl f_t_map)), (h_t_columnBits, .inl (cI, 8, .inl f_t_columnBits)), (h_t_profile, .inl (cI, 1024, .inl f_t_profile)), (h_t_bits, .inl (cI, 16, .inl f_t_bits)), (h_t_resolutions, .inl (cI, 12, .inl f_t_resolutions))] H := hP.sub [1, 2, 3, 4, 5, 6, 0] rfl
              have hD : va_D A [(h_t, .inr (7, (.int x81.2 :: .int t_high :: .int t_wide :: .int t_components :: .ref h_t_bits :: .int t_unknown :: .int t_rights :: .int t_colours :: .int t_profiled :: .ref h_t_profile :: .int t_entries :: .int t_columns :: .ref h_t_columnBits :: .ref h_t_numbers :: .int t_maps :: .ref h_t_map :: .int t_lines :: .ref h_t_line :: .ref h_t_resolutions :: .ref h_t_file :: .int t_size :: .int t_scanned :: .int t_refusedAt :: .int t_cursor :: .int t_streamAt :: .int t_streamMany :: .int t_name :: .int t_from :: .int t_end :: .int t_sizeAt :: .int t_bitsAt :: .int t_colourAt :: .int t_colourEnd :: .int t_paletteAt :: .int t_mapAt :: .int t_mapEnd :: .int t_channelsAt :: .int t_captureAt :: .int t_displayAt :: .int t_resolved :: []))), (h_t_line, .inl (cI, 48, .inl f_t_line)), (h_t_map, .inl (cI, 48, .inl f_t_map)), (h_t_columnBits, .inl (cI, 8, .inl f_t_columnBits)), (h_t_profile, .inl (cI, 1024, .inl f_t_profile)), (h_t_bits, .inl (cI, 16, .inl f_t_bits)), (h_t_resolutions, .inl (cI, 12, .inl f_t_resolutions))] := hD.sub [1, 2, 3, 4, 5, 6, 0] (by decide) rfl
              refine W.eq (g2 := F0 m 104 ls [.int x101]) rfl ?_
              have O := O.2
              have E : k_Mo_get_101 x81 x101 = RES := (congrArg (k_Mo_get_101 x81) hx101).trans E
              have O : ok_Mo_get_101 x101 := by rw [hx101]; exact O
              exact kr_i hx hb hr hlk hQ hK hP hD hS ⟨((x101, x81.2) : Int32 × Int32), E.trans E0.symm, rfl, rfl⟩ (by omega) (by omega) d_Mo_get_104
        · have E := (if_neg c_84).symm.trans E
          have O := Eq.mp (if_neg c_84) O
          refine lv_iconst (v := 0) hx hb d_Mo_get_87 (by decide) ?_
          exact kr_i hx hb hr hlk hQ hK hP hD hS ⟨((0, x81.2) : Int32 × Int32), E.trans E0.symm, rfl, rfl⟩ (by omega) (by omega) d_Mo_get_88
      have J_80 : j_Mo_get_80 t_high t_wide t_components t_unknown t_rights t_colours t_profiled t_entries t_columns t_maps t_lines f_t_line f_t_map f_t_columnBits f_t_profile f_t_bits f_t_resolutions p1 p2 j45_s0 j64_s0 = RES → oj_Mo_get_80 f_t_line f_t_map f_t_columnBits f_t_profile f_t_bits p1 p2 j45_s0 j64_s0 → ∀ (H : Heap) (locs : List Loc), va_P D classes [(h_t, .inr (7, (.int t_thrown :: .int t_high :: .int t_wide :: .int t_components :: .ref h_t_bits :: .int t_unknown :: .int t_rights :: .int t_colours :: .int t_profiled :: .ref h_t_profile :: .int t_entries :: .int t_columns :: .ref h_t_columnBits :: .ref h_t_numbers :: .int t_maps :: .ref h_t_map :: .int t_lines :: .ref h_t_line :: .ref h_t_resolutions :: .ref h_t_file :: .int t_size :: .int t_scanned :: .int t_refusedAt :: .int t_cursor :: .int t_streamAt :: .int t_streamMany :: .int t_name :: .int t_from :: .int t_end :: .int t_sizeAt :: .int t_bitsAt :: .int t_colourAt :: .int t_colourEnd :: .int t_paletteAt :: .int t_mapAt :: .int t_mapEnd :: .int t_channelsAt :: .int t_captureAt :: .int t_displayAt :: .int t_resolved :: []))), (h_t_line, .inl (cI, 48, .inl f_t_line)), (h_t_map, .inl (cI, 48, .inl f_t_map)), (h_t_columnBits, .inl (cI, 8, .inl f_t_columnBits)), (h_t_profile, .inl (cI, 1024, .inl f_t_profile)), (h_t_bits, .inl (cI, 16, .inl f_t_bits)), (h_t_resolutions, .inl (cI, 12, .inl f_t_resolutions))] H → va_D A [(h_t, .inr (7, (.int t_thrown :: .int t_high :: .int t_wide :: .int t_components :: .ref h_t_bits :: .int t_unknown :: .int t_rights :: .int t_colours :: .int t_profiled :: .ref h_t_profile :: .int t_entries :: .int t_columns :: .ref h_t_columnBits :: .ref h_t_numbers :: .int t_maps :: .ref h_t_map :: .int t_lines :: .ref h_t_line :: .ref h_t_resolutions :: .ref h_t_file :: .int t_size :: .int t_scanned :: .int t_refusedAt :: .int t_cursor :: .int t_streamAt :: .int t_streamMany :: .int t_name :: .int t_from :: .int t_end :: .int t_sizeAt :: .int t_bitsAt :: .int t_colourAt :: .int t_colourEnd :: .int t_paletteAt :: .int t_mapAt :: .int t_mapEnd :: .int t_channelsAt :: .int t_captureAt :: .int t_displayAt :: .int t_resolved :: []))), (h_t_line, .inl (cI, 48, .inl f_t_line)), (h_t_map, .inl (cI, 48, .inl f_t_map)), (h_t_columnBits, .inl (cI, 8, .inl f_t_columnBits)), (h_t_profile, .inl (cI, 1024, .inl f_t_profile)), (h_t_bits, .inl (cI, 16, .inl f_t_bits)), (h_t_resolutions, .inl (cI, 12, .inl f_t_resolutions))] → va_S A s.heap H locs → ∀ ls : Array Slot, lv_has ls 5 [(4, .int j64_s0), (3, .int j45_s0), (0, .ref h_t), (1, .int p1), (2, .int p2)] → W p l e R s m args below meth c H locs 0 0 Q (F0 m 80 ls [.ref h_t]) := by
        intro E O H locs hP hD hS ls hl
        refine lv_iconst (v := 0) hx hb d_Mo_get_80 (by decide) ?_
        exact J_81 0 E O _ _ hP hD hS ls (lv_sub hl [0, 1, 2, 3, 4] rfl)
      refine lv_if_ne (tgt := 80) hx hb d_Mo_get_68 (by decide) (fun c_68 => ?_) (fun c_68 => ?_)
      · have E := (if_neg c_68).symm.trans E
        have O := Eq.mp (if_neg c_68) O
        exact J_80  E O _ _ hP hD hS ls (lv_sub hl [0, 1, 2, 3, 4] rfl)
      · have E := (if_pos c_68).symm.trans E
        have O := Eq.mp (if_pos c_68) O
        refine lv_iload hx hb d_Mo_get_71 (lv_at hl 0 rfl) ?_
        refine lv_if_ne (tgt := 80) hx hb d_Mo_get_73 (by decide) (fun c_73 => ?_) (fun c_73 => ?_)
        · have E := (if_neg c_73).symm.trans E
          have O := Eq.mp (if_neg c_73) O
          exact J_80  E O _ _ hP hD hS ls (lv_sub hl [0, 1, 2, 3, 4] rfl)
        · have E := (if_pos c_73).symm.trans E
          have O := Eq.mp (if_pos c_73) O
          refine lv_iconst (v := 1) hx hb d_Mo_get_76 (by decide) ?_
          refine lv_goto (tgt := 81) hx hb d_Mo_get_77 (by decide) ?_
          exact J_81 1 E O _ _ hP hD hS ls (lv_sub hl [0, 1, 2, 3, 4] rfl)
    have J_63 : j_Mo_get_63 t_high t_wide t_components t_unknown t_rights t_colours t_profiled t_entries t_columns t_maps t_lines f_t_line f_t_map f_t_columnBits f_t_profile f_t_bits f_t_resolutions p1 p2 j45_s0 = RES → oj_Mo_get_63 f_t_line f_t_map f_t_columnBits f_t_profile f_t_bits p1 p2 j45_s0 → ∀ (H : Heap) (locs : List Loc), va_P D classes [(h_t, .inr (7, (.int t_thrown :: .int t_high :: .int t_wide :: .int t_components :: .ref h_t_bits :: .int t_unknown :: .int t_rights :: .int t_colours :: .int t_profiled :: .ref h_t_profile :: .int t_entries :: .int t_columns :: .ref h_t_columnBits :: .ref h_t_numbers :: .int t_maps :: .ref h_t_map :: .int t_lines :: .ref h_t_line :: .ref h_t_resolutions :: .ref h_t_file :: .int t_size :: .int t_scanned :: .int t_refusedAt :: .int t_cursor :: .int t_streamAt :: .int t_streamMany :: .int t_name :: .int t_from :: .int t_end :: .int t_sizeAt :: .int t_bitsAt :: .int t_colourAt :: .int t_colourEnd :: .int t_paletteAt :: .int t_mapAt :: .int t_mapEnd :: .int t_channelsAt :: .int t_captureAt :: .int t_displayAt :: .int t_resolved :: []))), (h_t_line, .inl (cI, 48, .inl f_t_line)), (h_t_map, .inl (cI, 48, .inl f_t_map)), (h_t_columnBits, .inl (cI, 8, .inl f_t_columnBits)), (h_t_profile, .inl (cI, 1024, .inl f_t_profile)), (h_t_bits, .inl (cI, 16, .inl f_t_bits)), (h_t_resolutions, .inl (cI, 12, .inl f_t_resolutions))] H → va_D A [(h_t, .inr (7, (.int t_thrown :: .int t_high :: .int t_wide :: .int t_components :: .ref h_t_bits :: .int t_unknown :: .int t_rights :: .int t_colours :: .int t_profiled :: .ref h_t_profile :: .int t_entries :: .int t_columns :: .ref h_t_columnBits :: .ref h_t_numbers :: .int t_maps :: .ref h_t_map :: .int t_lines :: .ref h_t_line :: .ref h_t_resolutions :: .ref h_t_file :: .int t_size :: .int t_scanned :: .int t_refusedAt :: .int t_cursor :: .int t_streamAt :: .int t_streamMany :: .int t_name :: .int t_from :: .int t_end :: .int t_sizeAt :: .int t_bitsAt :: .int t_colourAt :: .int t_colourEnd :: .int t_paletteAt :: .int t_mapAt :: .int t_mapEnd :: .int t_channelsAt :: .int t_captureAt :: .int t_displayAt :: .int t_resolved :: []))), (h_t_line, .inl (cI, 48, .inl f_t_line)), (h_t_map, .inl (cI, 48, .inl f_t_map)), (h_t_columnBits, .inl (cI, 8, .inl f_t_columnBits)), (h_t_profile, .inl (cI, 1024, .inl f_t_profile)), (h_t_bits, .inl (cI, 16, .inl f_t_bits)), (h_t_resolutions, .inl (cI, 12, .inl f_t_resolutions))] → va_S A s.heap H locs → ∀ ls : Array Slot, lv_has ls 5 [(3, .int j45_s0), (0, .ref h_t), (1, .int p1), (2, .int p2)] → W p l e R s m args below meth c H locs 0 0 Q (F0 m 63 ls []) := by
      intro E O H locs hP hD hS ls hl
      refine lv_iconst (v := 0) hx hb d_Mo_get_63 (by decide) ?_
      exact J_64 0 E O _ _ hP hD hS ls (lv_sub hl [0, 1, 2, 3] rfl)
    refine lv_if_lt (tgt := 63) hx hb d_Mo_get_47 (by decide) (fun c_47 => ?_) (fun c_47 => ?_)
    · have E := (if_pos c_47).symm.trans E
      have O := Eq.mp (if_pos c_47) O
      exact J_63  E O _ _ hP hD hS ls (lv_sub hl [0, 1, 2, 3] rfl)
    · have E := (if_neg c_47).symm.trans E
      have O := Eq.mp (if_neg c_47) O
      refine lv_iload_n hx hb d_Mo_get_50 rfl (lv_at hl 3 rfl) ?_
      refine lv_aload_n hx hb d_Mo_get_51 rfl (lv_at hl 1 rfl) ?_
      refine lv_iload_n hx hb d_Mo_get_52 rfl (lv_at hl 2 rfl) ?_
      refine kc_V (As := [.int p1]) (rest := [.int p2]) (wr := [(h_t_line, .inl (cI, 48, .inl f_t_line)), (h_t_map, .inl (cI, 48, .inl f_t_map)), (h_t_columnBits, .inl (cI, 8, .inl f_t_columnBits)), (h_t_profile, .inl (cI, 1024, .inl f_t_profile)), (h_t_bits, .inl (cI, 16, .inl f_t_bits)), (h_t_resolutions, .inl (cI, 12, .inl f_t_resolutions))]) [0] [1, 2, 3, 4, 5, 6] ⟨hx, hb, hml, hown, hta⟩ hK hN hP hD hS hA (c_Mo_countOf l D cB cI cJ h_t h_t_bits h_t_profile h_t_columnBits h_t_numbers h_t_map h_t_line h_t_resolutions h_t_file t_thrown t_high t_wide t_components t_unknown t_rights t_colours t_profiled t_entries t_columns t_maps t_lines t_size t_scanned t_refusedAt t_cursor t_streamAt t_streamMany t_name t_from t_end t_sizeAt t_bitsAt t_colourAt t_colourEnd t_paletteAt t_mapAt t_mapEnd t_channelsAt t_captureAt t_displayAt t_resolved p1 O.1 _) (hta _ lk_Mo_135) (hta _ ini_Mo) (hta _ code_Mo_countOf) code_Mo_countOf (hta _ inst_Mo_countOf) (hta _ sel_Mo_countOf) hd_Mo_countOf rfl ⟨by omega, by omega⟩ (ci := 7) 0 rfl rfl rfl rfl (by decide) (by decide) (by decide) rfl hl.1 (lv_room (Nat.le_of_ble_eq_true rfl)) d_Mo_get_53 ⟨by omega, by omega⟩ (fun v w1 H locs hw hP hD hS => ?_)
      obtain ⟨x53, hx53, rfl, rfl⟩ := hw
      have hP : va_P D classes [(h_t, .inr (7, (.int t_thrown :: .int t_high :: .int t_wide :: .int t_components :: .ref h_t_bits :: .int t_unknown :: .int t_rights :: .int t_colours :: .int t_profiled :: .ref h_t_profile :: .int t_entries :: .int t_columns :: .ref h_t_columnBits :: .ref h_t_numbers :: .int t_maps :: .ref h_t_map :: .int t_lines :: .ref h_t_line :: .ref h_t_resolutions :: .ref h_t_file :: .int t_size :: .int t_scanned :: .int t_refusedAt :: .int t_cursor :: .int t_streamAt :: .int t_streamMany :: .int t_name :: .int t_from :: .int t_end :: .int t_sizeAt :: .int t_bitsAt :: .int t_colourAt :: .int t_colourEnd :: .int t_paletteAt :: .int t_mapAt :: .int t_mapEnd :: .int t_channelsAt :: .int t_captureAt :: .int t_displayAt :: .int t_resolved :: []))), (h_t_line, .inl (cI, 48, .inl f_t_line)), (h_t_map, .inl (cI, 48, .inl f_t_map)), (h_t_columnBits, .inl (cI, 8, .inl f_t_columnBits)), (h_t_profile, .inl (cI, 1024, .inl f_t_profile)), (h_t_bits, .inl (cI, 16, .inl f_t_bits)), (h_t_resolutions, .inl (cI, 12, .inl f_t_resolutions))] H := hP.sub [6, 0, 1, 2, 3, 4, 5] rfl
      have hD : va_D A [(h_t, .inr (7, (.int t_thrown :: .int t_high :: .int t_wide :: .int t_components :: .ref h_t_bits :: .int t_unknown :: .int t_rights :: .int t_colours :: .int t_profiled :: .ref h_t_profile :: .int t_entries :: .int t_columns :: .ref h_t_columnBits :: .ref h_t_numbers :: .int t_maps :: .ref h_t_map :: .int t_lines :: .ref h_t_line :: .ref h_t_resolutions :: .ref h_t_file :: .int t_size :: .int t_scanned :: .int t_refusedAt :: .int t_cursor :: .int t_streamAt :: .int t_streamMany :: .int t_name :: .int t_from :: .int t_end :: .int t_sizeAt :: .int t_bitsAt :: .int t_colourAt :: .int t_colourEnd :: .int t_paletteAt :: .int t_mapAt :: .int t_mapEnd :: .int t_channelsAt :: .int t_captureAt :: .int t_displayAt :: .int t_resolved :: []))), (h_t_line, .inl (cI, 48, .inl f_t_line)), (h_t_map, .inl (cI, 48, .inl f_t_map)), (h_t_columnBits, .inl (cI, 8, .inl f_t_columnBits)), (h_t_profile, .inl (cI, 1024, .inl f_t_profile)), (h_t_bits, .inl (cI, 16, .inl f_t_bits)), (h_t_resolutions, .inl (cI, 12, .inl f_t_resolutions))] := hD.sub [6, 0, 1, 2, 3, 4, 5] (by decide) rfl
      refine W.eq (g2 := F0 m 56 ls [.int x53, .int p2]) rfl ?_
      have O := O.2
      have E : k_Mo_get_53 t_high t_wide t_components t_unknown t_rights t_colours t_profiled t_entries t_columns t_maps t_lines f_t_line f_t_map f_t_columnBits f_t_profile f_t_bits f_t_resolutions p1 p2 j45_s0 x53 = RES := (congrArg (k_Mo_get_53 t_high t_wide t_components t_unknown t_rights t_colours t_profiled t_entries t_columns t_maps t_lines f_t_line f_t_map f_t_columnBits f_t_profile f_t_bits f_t_resolutions p1 p2 j45_s0) hx53).trans E
      have O : ok_Mo_get_53 f_t_line f_t_map f_t_columnBits f_t_profile f_t_bits p1 p2 j45_s0 x53 := by rw [hx53]; exact O
      refine lv_icmp_ge (tgt := 63) hx hb d_Mo_get_56 (by decide) (fun c_56 => ?_) (fun c_56 => ?_)
      · have E := (if_pos c_56).symm.trans E
        have O := Eq.mp (if_pos c_56) O
        exact J_63  E O _ _ hP hD hS ls (lv_sub hl [0, 1, 2, 3] rfl)
      · have E := (if_neg c_56).symm.trans E
        have O := Eq.mp (if_neg c_56) O
        refine lv_iconst (v := 1) hx hb d_Mo_get_59 (by decide) ?_
        refine lv_goto (tgt := 64) hx hb d_Mo_get_60 (by decide) ?_
        exact J_64 1 E O _ _ hP hD hS ls (lv_sub hl [0, 1, 2, 3] rfl)
  have J_40 : j_Mo_get_40 t_high t_wide t_components t_unknown t_rights t_colours t_profiled t_entries t_columns t_maps t_lines f_t_line f_t_map f_t_columnBits f_t_profile f_t_bits f_t_resolutions p1 p2 = RES → oj_Mo_get_40 t_components t_profiled t_columns t_maps t_lines f_t_line f_t_map f_t_columnBits f_t_profile f_t_bits p1 p2 → ∀ (H : Heap) (locs : List Loc), va_P D classes [(h_t, .inr (7, (.int t_thrown :: .int t_high :: .int t_wide :: .int t_components :: .ref h_t_bits :: .int t_unknown :: .int t_rights :: .int t_colours :: .int t_profiled :: .ref h_t_profile :: .int t_entries :: .int t_columns :: .ref h_t_columnBits :: .ref h_t_numbers :: .int t_maps :: .ref h_t_map :: .int t_lines :: .ref h_t_line :: .ref h_t_resolutions :: .ref h_t_file :: .int t_size :: .int t_scanned :: .int t_refusedAt :: .int t_cursor :: .int t_streamAt :: .int t_streamMany :: .int t_name :: .int t_from :: .int t_end :: .int t_sizeAt :: .int t_bitsAt :: .int t_colourAt :: .int t_colourEnd :: .int t_paletteAt :: .int t_mapAt :: .int t_mapEnd :: .int t_channelsAt :: .int t_captureAt :: .int t_displayAt :: .int t_resolved :: []))), (h_t_line, .inl (cI, 48, .inl f_t_line)), (h_t_map, .inl (cI, 48, .inl f_t_map)), (h_t_columnBits, .inl (cI, 8, .inl f_t_columnBits)), (h_t_profile, .inl (cI, 1024, .inl f_t_profile)), (h_t_bits, .inl (cI, 16, .inl f_t_bits)), (h_t_resolutions, .inl (cI, 12, .inl f_t_resolutions))] H → va_D A [(h_t, .inr (7, (.int t_thrown :: .int t_high :: .int t_wide :: .int t_components :: .ref h_t_bits :: .int t_unknown :: .int t_rights :: .int t_colours :: .int t_profiled :: .ref h_t_profile :: .int t_entries :: .int t_columns :: .ref h_t_columnBits :: .ref h_t_numbers :: .int t_maps :: .ref h_t_map :: .int t_lines :: .ref h_t_line :: .ref h_t_resolutions :: .ref h_t_file :: .int t_size :: .int t_scanned :: .int t_refusedAt :: .int t_cursor :: .int t_streamAt :: .int t_streamMany :: .int t_name :: .int t_from :: .int t_end :: .int t_sizeAt :: .int t_bitsAt :: .int t_colourAt :: .int t_colourEnd :: .int t_paletteAt :: .int t_mapAt :: .int t_mapEnd :: .int t_channelsAt :: .int t_captureAt :: .int t_displayAt :: .int t_resolved :: []))), (h_t_line, .inl (cI, 48, .inl f_t_line)), (h_t_map, .inl (cI, 48, .inl f_t_map)), (h_t_columnBits, .inl (cI, 8, .inl f_t_columnBits)), (h_t_profile, .inl (cI, 1024, .inl f_t_profile)), (h_t_bits, .inl (cI, 16, .inl f_t_bits)), (h_t_resolutions, .inl (cI, 12, .inl f_t_resolutions))] → va_S A s.heap H locs → ∀ ls : Array Slot, lv_has ls 5 [(0, .ref h_t), (1, .int p1), (2, .int p2)] → W p l e R s m args below meth c H locs 0 0 Q (F0 m 40 ls []) := by
    intro E O H locs hP hD hS ls hl
    refine lv_iconst (v := 1) hx hb d_Mo_get_40 (by decide) ?_
    refine lv_goto (tgt := 45) hx hb d_Mo_get_41 (by decide) ?_
    exact J_45 1 E O _ _ hP hD hS ls (lv_sub hl [0, 1, 2] rfl)
  refine lv_if_ne (tgt := 40) hx hb d_Mo_get_9 (by decide) (fun c_9 => ?_) (fun c_9 => ?_)
  · have E := (if_neg c_9).symm.trans E
    have O := Eq.mp (if_neg c_9) O
    exact J_40  E O _ _ hP hD hS ls (lv_sub hl [0, 1, 2] rfl)
  · have E := (if_pos c_9).symm.trans E
    have O := Eq.mp (if_pos c_9) O
    refine lv_iload_n hx hb d_Mo_get_12 rfl (lv_at hl 1 rfl) ?_
    refine lv_i2l (v := (p1 : Int32).toInt64) hx hb d_Mo_get_13 rfl ?_
    refine lv_ldc2 (v := 30) hx hb hown (hta _ lk_Mo_127) d_Mo_get_14 ?_
    refine lv_ldc2 (v := 35) hx hb hown (hta _ lk_Mo_129) d_Mo_get_17 ?_
    refine kc_S (As := [.long ((p1 : Int32).toInt64), .long 30, .long 35]) (rest := []) (wr := [(h_t, .inr (7, (.int t_thrown :: .int t_high :: .int t_wide :: .int t_components :: .ref h_t_bits :: .int t_unknown :: .int t_rights :: .int t_colours :: .int t_profiled :: .ref h_t_profile :: .int t_entries :: .int t_columns :: .ref h_t_columnBits :: .ref h_t_numbers :: .int t_maps :: .ref h_t_map :: .int t_lines :: .ref h_t_line :: .ref h_t_resolutions :: .ref h_t_file :: .int t_size :: .int t_scanned :: .int t_refusedAt :: .int t_cursor :: .int t_streamAt :: .int t_streamMany :: .int t_name :: .int t_from :: .int t_end :: .int t_sizeAt :: .int t_bitsAt :: .int t_colourAt :: .int t_colourEnd :: .int t_paletteAt :: .int t_mapAt :: .int t_mapEnd :: .int t_channelsAt :: .int t_captureAt :: .int t_displayAt :: .int t_resolved :: []))), (h_t_line, .inl (cI, 48, .inl f_t_line)), (h_t_map, .inl (cI, 48, .inl f_t_map)), (h_t_columnBits, .inl (cI, 8, .inl f_t_columnBits)), (h_t_profile, .inl (cI, 1024, .inl f_t_profile)), (h_t_bits, .inl (cI, 16, .inl f_t_bits)), (h_t_resolutions, .inl (cI, 12, .inl f_t_resolutions))]) [] [0, 1, 2, 3, 4, 5, 6] ⟨hx, hb, hml, hown, hta⟩ hK hN hP hD hS hA (c_Mo_in l D cB cI cJ ((p1 : Int32).toInt64) 30 35 O.1 _) (hta _ lk_Mo_81) (hta _ ini_Mo) (hta _ code_Mo_in) code_Mo_in (hta _ stat_Mo_in) hd_Mo_in rfl ⟨by omega, by omega⟩ rfl rfl (by decide) (by decide) (by decide) rfl hl.1 (lv_room (Nat.le_of_ble_eq_true rfl)) d_Mo_get_20 ⟨by omega, by omega⟩ (fun v w1 H locs hw hP hD hS => ?_)
    obtain ⟨x20, hx20, rfl, rfl⟩ := hw
    have hP : va_P D classes [(h_t, .inr (7, (.int t_thrown :: .int t_high :: .int t_wide :: .int t_components :: .ref h_t_bits :: .int t_unknown :: .int t_rights :: .int t_colours :: .int t_profiled :: .ref h_t_profile :: .int t_entries :: .int t_columns :: .ref h_t_columnBits :: .ref h_t_numbers :: .int t_maps :: .ref h_t_map :: .int t_lines :: .ref h_t_line :: .ref h_t_resolutions :: .ref h_t_file :: .int t_size :: .int t_scanned :: .int t_refusedAt :: .int t_cursor :: .int t_streamAt :: .int t_streamMany :: .int t_name :: .int t_from :: .int t_end :: .int t_sizeAt :: .int t_bitsAt :: .int t_colourAt :: .int t_colourEnd :: .int t_paletteAt :: .int t_mapAt :: .int t_mapEnd :: .int t_channelsAt :: .int t_captureAt :: .int t_displayAt :: .int t_resolved :: []))), (h_t_line, .inl (cI, 48, .inl f_t_line)), (h_t_map, .inl (cI, 48, .inl f_t_map)), (h_t_columnBits, .inl (cI, 8, .inl f_t_columnBits)), (h_t_profile, .inl (cI, 1024, .inl f_t_profile)), (h_t_bits, .inl (cI, 16, .inl f_t_bits)), (h_t_resolutions, .inl (cI, 12, .inl f_t_resolutions))] H := hP.sub [0, 1, 2, 3, 4, 5, 6] rfl
    have hD : va_D A [(h_t, .inr (7, (.int t_thrown :: .int t_high :: .int t_wide :: .int t_components :: .ref h_t_bits :: .int t_unknown :: .int t_rights :: .int t_colours :: .int t_profiled :: .ref h_t_profile :: .int t_entries :: .int t_columns :: .ref h_t_columnBits :: .ref h_t_numbers :: .int t_maps :: .ref h_t_map :: .int t_lines :: .ref h_t_line :: .ref h_t_resolutions :: .ref h_t_file :: .int t_size :: .int t_scanned :: .int t_refusedAt :: .int t_cursor :: .int t_streamAt :: .int t_streamMany :: .int t_name :: .int t_from :: .int t_end :: .int t_sizeAt :: .int t_bitsAt :: .int t_colourAt :: .int t_colourEnd :: .int t_paletteAt :: .int t_mapAt :: .int t_mapEnd :: .int t_channelsAt :: .int t_captureAt :: .int t_displayAt :: .int t_resolved :: []))), (h_t_line, .inl (cI, 48, .inl f_t_line)), (h_t_map, .inl (cI, 48, .inl f_t_map)), (h_t_columnBits, .inl (cI, 8, .inl f_t_columnBits)), (h_t_profile, .inl (cI, 1024, .inl f_t_profile)), (h_t_bits, .inl (cI, 16, .inl f_t_bits)), (h_t_resolutions, .inl (cI, 12, .inl f_t_resolutions))] := hD.sub [0, 1, 2, 3, 4, 5, 6] (by decide) rfl
    refine W.eq (g2 := F0 m 23 ls [.int x20]) rfl ?_
    have O := O.2
    have E : k_Mo_get_20 t_high t_wide t_components t_unknown t_rights t_colours t_profiled t_entries t_columns t_maps t_lines f_t_line f_t_map f_t_columnBits f_t_profile f_t_bits f_t_resolutions p1 p2 x20 = RES := (congrArg (k_Mo_get_20 t_high t_wide t_components t_unknown t_rights t_colours t_profiled t_entries t_columns t_maps t_lines f_t_line f_t_map f_t_columnBits f_t_profile f_t_bits f_t_resolutions p1 p2) hx20).trans E
    have O : ok_Mo_get_20 t_components t_profiled t_columns t_maps t_lines f_t_line f_t_map f_t_columnBits f_t_profile f_t_bits p1 p2 x20 := by rw [hx20]; exact O
    refine lv_if_ne (tgt := 40) hx hb d_Mo_get_23 (by decide) (fun c_23 => ?_) (fun c_23 => ?_)
    · have E := (if_neg c_23).symm.trans E
      have O := Eq.mp (if_neg c_23) O
      exact J_40  E O _ _ hP hD hS ls (lv_sub hl [0, 1, 2] rfl)
    · have E := (if_pos c_23).symm.trans E
      have O := Eq.mp (if_pos c_23) O
      refine lv_iload_n hx hb d_Mo_get_26 rfl (lv_at hl 1 rfl) ?_
      refine lv_i2l (v := (p1 : Int32).toInt64) hx hb d_Mo_get_27 rfl ?_
      refine lv_ldc2 (v := 40) hx hb hown (hta _ lk_Mo_131) d_Mo_get_28 ?_
      refine lv_ldc2 (v := 45) hx hb hown (hta _ lk_Mo_133) d_Mo_get_31 ?_
      refine kc_S (As := [.long ((p1 : Int32).toInt64), .long 40, .long 45]) (rest := []) (wr := [(h_t, .inr (7, (.int t_thrown :: .int t_high :: .int t_wide :: .int t_components :: .ref h_t_bits :: .int t_unknown :: .int t_rights :: .int t_colours :: .int t_profiled :: .ref h_t_profile :: .int t_entries :: .int t_columns :: .ref h_t_columnBits :: .ref h_t_numbers :: .int t_maps :: .ref h_t_map :: .int t_lines :: .ref h_t_line :: .ref h_t_resolutions :: .ref h_t_file :: .int t_size :: .int t_scanned :: .int t_refusedAt :: .int t_cursor :: .int t_streamAt :: .int t_streamMany :: .int t_name :: .int t_from :: .int t_end :: .int t_sizeAt :: .int t_bitsAt :: .int t_colourAt :: .int t_colourEnd :: .int t_paletteAt :: .int t_mapAt :: .int t_mapEnd :: .int t_channelsAt :: .int t_captureAt :: .int t_displayAt :: .int t_resolved :: []))), (h_t_line, .inl (cI, 48, .inl f_t_line)), (h_t_map, .inl (cI, 48, .inl f_t_map)), (h_t_columnBits, .inl (cI, 8, .inl f_t_columnBits)), (h_t_profile, .inl (cI, 1024, .inl f_t_profile)), (h_t_bits, .inl (cI, 16, .inl f_t_bits)), (h_t_resolutions, .inl (cI, 12, .inl f_t_resolutions))]) [] [0, 1, 2, 3, 4, 5, 6] ⟨hx, hb, hml, hown, hta⟩ hK hN hP hD hS hA (c_Mo_in l D cB cI cJ ((p1 : Int32).toInt64) 40 45 O.1 _) (hta _ lk_Mo_81) (hta _ ini_Mo) (hta _ code_Mo_in) code_Mo_in (hta _ stat_Mo_in) hd_Mo_in rfl ⟨by omega, by omega⟩ rfl rfl (by decide) (by decide) (by decide) rfl hl.1 (lv_room (Nat.le_of_ble_eq_true rfl)) d_Mo_get_34 ⟨by omega, by omega⟩ (fun v w1 H locs hw hP hD hS => ?_)
      obtain ⟨x34, hx34, rfl, rfl⟩ := hw
      have hP : va_P D classes [(h_t, .inr (7, (.int t_thrown :: .int t_high :: .int t_wide :: .int t_components :: .ref h_t_bits :: .int t_unknown :: .int t_rights :: .int t_colours :: .int t_profiled :: .ref h_t_profile :: .int t_entries :: .int t_columns :: .ref h_t_columnBits :: .ref h_t_numbers :: .int t_maps :: .ref h_t_map :: .int t_lines :: .ref h_t_line :: .ref h_t_resolutions :: .ref h_t_file :: .int t_size :: .int t_scanned :: .int t_refusedAt :: .int t_cursor :: .int t_streamAt :: .int t_streamMany :: .int t_name :: .int t_from :: .int t_end :: .int t_sizeAt :: .int t_bitsAt :: .int t_colourAt :: .int t_colourEnd :: .int t_paletteAt :: .int t_mapAt :: .int t_mapEnd :: .int t_channelsAt :: .int t_captureAt :: .int t_displayAt :: .int t_resolved :: []))), (h_t_line, .inl (cI, 48, .inl f_t_line)), (h_t_map, .inl (cI, 48, .inl f_t_map)), (h_t_columnBits, .inl (cI, 8, .inl f_t_columnBits)), (h_t_profile, .inl (cI, 1024, .inl f_t_profile)), (h_t_bits, .inl (cI, 16, .inl f_t_bits)), (h_t_resolutions, .inl (cI, 12, .inl f_t_resolutions))] H := hP.sub [0, 1, 2, 3, 4, 5, 6] rfl
      have hD : va_D A [(h_t, .inr (7, (.int t_thrown :: .int t_high :: .int t_wide :: .int t_components :: .ref h_t_bits :: .int t_unknown :: .int t_rights :: .int t_colours :: .int t_profiled :: .ref h_t_profile :: .int t_entries :: .int t_columns :: .ref h_t_columnBits :: .ref h_t_numbers :: .int t_maps :: .ref h_t_map :: .int t_lines :: .ref h_t_line :: .ref h_t_resolutions :: .ref h_t_file :: .int t_size :: .int t_scanned :: .int t_refusedAt :: .int t_cursor :: .int t_streamAt :: .int t_streamMany :: .int t_name :: .int t_from :: .int t_end :: .int t_sizeAt :: .int t_bitsAt :: .int t_colourAt :: .int t_colourEnd :: .int t_paletteAt :: .int t_mapAt :: .int t_mapEnd :: .int t_channelsAt :: .int t_captureAt :: .int t_displayAt :: .int t_resolved :: []))), (h_t_line, .inl (cI, 48, .inl f_t_line)), (h_t_map, .inl (cI, 48, .inl f_t_map)), (h_t_columnBits, .inl (cI, 8, .inl f_t_columnBits)), (h_t_profile, .inl (cI, 1024, .inl f_t_profile)), (h_t_bits, .inl (cI, 16, .inl f_t_bits)), (h_t_resolutions, .inl (cI, 12, .inl f_t_resolutions))] := hD.sub [0, 1, 2, 3, 4, 5, 6] (by decide) rfl
      refine W.eq (g2 := F0 m 37 ls [.int x34]) rfl ?_
      have O := O.2
      have E : k_Mo_get_34 t_high t_wide t_components t_unknown t_rights t_colours t_profiled t_entries t_columns t_maps t_lines f_t_line f_t_map f_t_columnBits f_t_profile f_t_bits f_t_resolutions p1 p2 x34 = RES := (congrArg (k_Mo_get_34 t_high t_wide t_components t_unknown t_rights t_colours t_profiled t_entries t_columns t_maps t_lines f_t_line f_t_map f_t_columnBits f_t_profile f_t_bits f_t_resolutions p1 p2) hx34).trans E
      have O : ok_Mo_get_34 t_components t_profiled t_columns t_maps t_lines f_t_line f_t_map f_t_columnBits f_t_profile f_t_bits p1 p2 x34 := by rw [hx34]; exact O
      refine lv_if_eq (tgt := 44) hx hb d_Mo_get_37 (by decide) (fun c_37 => ?_) (fun c_37 => ?_)
      · have E := (if_pos c_37).symm.trans E
        have O := Eq.mp (if_pos c_37) O
        refine lv_iconst (v := 0) hx hb d_Mo_get_44 (by decide) ?_
        exact J_45 0 E O _ _ hP hD hS ls (lv_sub hl [0, 1, 2] rfl)
      · have E := (if_neg c_37).symm.trans E
        have O := Eq.mp (if_neg c_37) O
        exact J_40  E O _ _ hP hD hS ls (lv_sub hl [0, 1, 2] rfl)
theorem d_Mo_number_0 : decode b_Mo_number 0 = .ok (.aload_n 0, 1) := by decide +kernel
theorem d_Mo_number_1 : decode b_Mo_number 1 = .ok (.aload_n 0, 1) := by decide +kernel
theorem d_Mo_number_2 : decode b_Mo_number 2 = .ok (.iload_n 1, 1) := by decide +kernel
theorem d_Mo_number_3 : decode b_Mo_number 3 = .ok (.iload_n 2, 1) := by decide +kernel
theorem d_Mo_number_4 : decode b_Mo_number 4 = .ok (.invokevirtual 100, 3) := by decide +kernel
theorem d_Mo_number_7 : decode b_Mo_number 7 = .ok (.ifCond .ne 7, 3) := by decide +kernel
theorem d_Mo_number_10 : decode b_Mo_number 10 = .ok (.iconst 1, 1) := by decide +kernel
theorem d_Mo_number_11 : decode b_Mo_number 11 = .ok (.goto 4, 3) := by decide +kernel
theorem d_Mo_number_14 : decode b_Mo_number 14 = .ok (.iconst 0, 1) := by decide +kernel
theorem d_Mo_number_15 : decode b_Mo_number 15 = .ok (.invokevirtual 89, 3) := by decide +kernel
theorem d_Mo_number_18 : decode b_Mo_number 18 = .ok (.ifCond .eq 5, 3) := by decide +kernel
theorem d_Mo_number_21 : decode b_Mo_number 21 = .ok (.lconst 0, 1) := by decide +kernel
theorem d_Mo_number_22 : decode b_Mo_number 22 = .ok (.lreturn, 1) := by decide +kernel
theorem d_Mo_number_23 : decode b_Mo_number 23 = .ok (.aload_n 0, 1) := by decide +kernel
theorem d_Mo_number_24 : decode b_Mo_number 24 = .ok (.getfield 23, 3) := by decide +kernel
theorem d_Mo_number_27 : decode b_Mo_number 27 = .ok (.aload_n 0, 1) := by decide +kernel
theorem d_Mo_number_28 : decode b_Mo_number 28 = .ok (.getfield 70, 3) := by decide +kernel
theorem d_Mo_number_31 : decode b_Mo_number 31 = .ok (.iload_n 1, 1) := by decide +kernel
theorem d_Mo_number_32 : decode b_Mo_number 32 = .ok (.imul, 1) := by decide +kernel
theorem d_Mo_number_33 : decode b_Mo_number 33 = .ok (.iload_n 2, 1) := by decide +kernel
theorem d_Mo_number_34 : decode b_Mo_number 34 = .ok (.iadd, 1) := by decide +kernel
theorem d_Mo_number_35 : decode b_Mo_number 35 = .ok (.laload, 1) := by decide +kernel
theorem d_Mo_number_36 : decode b_Mo_number 36 = .ok (.lreturn, 1) := by decide +kernel
def k_Mo_number_15 (t_columns : Int32) (f_t_numbers : Nat → Int64) (p1 : Int32) (p2 : Int32) (x15 : Int32 × Int32) : Int64 × Int32 :=
  if x15.1 = 0 then ((f_t_numbers ((t_columns * p1) + p2).toNatClampNeg, x15.2)) else (0, x15.2)
def ok_Mo_number_15 (t_columns : Int32) (p1 : Int32) (p2 : Int32) (x15 : Int32 × Int32) : Prop :=
  if x15.1 = 0 then (vp_in ((t_columns * p1) + p2) 4096 ∧ True) else True
def j_Mo_number_15 (t_columns : Int32) (f_t_numbers : Nat → Int64) (p1 : Int32) (p2 : Int32) (j15_s1 : Int32) : Int64 × Int32 :=
  k_Mo_number_15 t_columns f_t_numbers p1 p2 (m_Mo_refuse j15_s1)
def oj_Mo_number_15 (t_columns : Int32) (p1 : Int32) (p2 : Int32) (j15_s1 : Int32) : Prop :=
  om_Mo_refuse j15_s1 ∧ (ok_Mo_number_15 t_columns p1 p2 (m_Mo_refuse j15_s1))
def k_Mo_number_4 (t_columns : Int32) (f_t_numbers : Nat → Int64) (p1 : Int32) (p2 : Int32) (x4 : Int32) : Int64 × Int32 :=
  if x4 = 0 then (j_Mo_number_15 t_columns f_t_numbers p1 p2 1) else (j_Mo_number_15 t_columns f_t_numbers p1 p2 0)
def ok_Mo_number_4 (t_columns : Int32) (p1 : Int32) (p2 : Int32) (x4 : Int32) : Prop :=
  if x4 = 0 then (oj_Mo_number_15 t_columns p1 p2 1) else (oj_Mo_number_15 t_columns p1 p2 0)
def om_Mo_number (t_entries : Int32) (t_columns : Int32) (p1 : Int32) (p2 : Int32) : Prop :=
  om_Mo_isNumber t_entries t_columns p1 p2 ∧ (ok_Mo_number_4 t_columns p1 p2 (m_Mo_isNumber t_entries t_columns p1 p2))
def m_Mo_number (t_entries : Int32) (t_columns : Int32) (f_t_numbers : Nat → Int64) (p1 : Int32) (p2 : Int32) : Int64 × Int32 :=
  k_Mo_number_4 t_columns f_t_numbers p1 p2 (m_Mo_isNumber t_entries t_columns p1 p2)
set_option maxHeartbeats 4000000 in
set_option maxRecDepth 100000 in
theorem c_Mo_number (l : Launch) (D : va_G) (cB cI cJ : ClassId) (h_t h_t_bits h_t_profile h_t_columnBits h_t_numbers h_t_map h_t_line h_t_resolutions h_t_file : Nat) (t_thrown : Int32) (t_high : Int32) (t_wide : Int32) (t_components : Int32) (t_unknown : Int32) (t_rights : Int32) (t_colours : Int32) (t_profiled : Int32) (t_entries : Int32) (t_columns : Int32) (t_maps : Int32) (t_lines : Int32) (t_size : Int32) (t_scanned : Int32) (t_refusedAt : Int32) (t_cursor : Int32) (t_streamAt : Int32) (t_streamMany : Int32) (t_name : Int32) (t_from : Int32) (t_end : Int32) (t_sizeAt : Int32) (t_bitsAt : Int32) (t_colourAt : Int32) (t_colourEnd : Int32) (t_paletteAt : Int32) (t_mapAt : Int32) (t_mapEnd : Int32) (t_channelsAt : Int32) (t_captureAt : Int32) (t_displayAt : Int32) (t_resolved : Int32) (f_t_numbers : Nat → Int64) (p1 : Int32) (p2 : Int32) (hO : om_Mo_number t_entries t_columns p1 p2) (sz : Nat) : Ct l D cB cI cJ y_Mo_number b_Mo_number 3 (some .long) 1 22 0 0 [.ref h_t, .int p1, .int p2] [(h_t, .inr (7, (.int t_thrown :: .int t_high :: .int t_wide :: .int t_components :: .ref h_t_bits :: .int t_unknown :: .int t_rights :: .int t_colours :: .int t_profiled :: .ref h_t_profile :: .int t_entries :: .int t_columns :: .ref h_t_columnBits :: .ref h_t_numbers :: .int t_maps :: .ref h_t_map :: .int t_lines :: .ref h_t_line :: .ref h_t_resolutions :: .ref h_t_file :: .int t_size :: .int t_scanned :: .int t_refusedAt :: .int t_cursor :: .int t_streamAt :: .int t_streamMany :: .int t_name :: .int t_from :: .int t_end :: .int t_sizeAt :: .int t_bitsAt :: .int t_colourAt :: .int t_colourEnd :: .int t_paletteAt :: .int t_mapAt :: .int t_mapEnd :: .int t_channelsAt :: .int t_captureAt :: .int t_displayAt :: .int t_resolved :: []))), (h_t_numbers, .inl (cJ, 4096, .inr (.inl f_t_numbers)))] (fun v w1 => ∃ (x : Int64 × Int32), x = m_Mo_number t_entries t_columns f_t_numbers p1 p2 ∧ v = some (.long x.1) ∧ w1 = [(h_t, .inr (7, (.int x.2 :: .int t_high :: .int t_wide :: .int t_components :: .ref h_t_bits :: .int t_unknown :: .int t_rights :: .int t_colours :: .int t_profiled :: .ref h_t_profile :: .int t_entries :: .int t_columns :: .ref h_t_columnBits :: .ref h_t_numbers :: .int t_maps :: .ref h_t_map :: .int t_lines :: .ref h_t_line :: .ref h_t_resolutions :: .ref h_t_file :: .int t_size :: .int t_scanned :: .int t_refusedAt :: .int t_cursor :: .int t_streamAt :: .int t_streamMany :: .int t_name :: .int t_from :: .int t_end :: .int t_sizeAt :: .int t_bitsAt :: .int t_colourAt :: .int t_colourEnd :: .int t_paletteAt :: .int t_mapAt :: .int t_mapEnd :: .int t_channelsAt :: .int t_captureAt :: .int t_displayAt :: .int t_resolved :: []))), (h_t_numbers, .inl (cJ, 4096, .inr (.inl f_t_numbers)))]) sz := by
  refine Ct.of (by decide) (Nat.le_of_ble_eq_true rfl) ?_
  intro p e R s m args below meth c A ls Q hx hb hr hlk hml hta hown hin hK hN hA hRf hRl hRc hRs hP hD hS hl hQ
  have hl : lv_has ls 3 [(0, .ref h_t), (1, .int p1), (2, .int p2)] := hl
  obtain ⟨RES, E0⟩ : ∃ R, m_Mo_number t_entries t_columns f_t_numbers p1 p2 = R := ⟨_, rfl⟩
  have E := E0
  have O := hO
  refine lv_aload_n hx hb d_Mo_number_0 rfl (lv_at hl 0 rfl) ?_
  refine lv_aload_n hx hb d_Mo_number_1 rfl (lv_at hl 0 rfl) ?_
  refine lv_iload_n hx hb d_Mo_number_2 rfl (lv_at hl 1 rfl) ?_
  refine lv_iload_n hx hb d_Mo_number_3 rfl (lv_at hl 2 rfl) ?_
  refine kc_V (As := [.int p1, .int p2]) (rest := [.ref h_t]) (wr := [(h_t_numbers, .inl (cJ, 4096, .inr (.inl f_t_numbers)))]) [0] [1] ⟨hx, hb, hml, hown, hta⟩ hK hN hP hD hS hA (c_Mo_isNumber l D cB cI cJ h_t h_t_bits h_t_profile h_t_columnBits h_t_numbers h_t_map h_t_line h_t_resolutions h_t_file t_thrown t_high t_wide t_components t_unknown t_rights t_colours t_profiled t_entries t_columns t_maps t_lines t_size t_scanned t_refusedAt t_cursor t_streamAt t_streamMany t_name t_from t_end t_sizeAt t_bitsAt t_colourAt t_colourEnd t_paletteAt t_mapAt t_mapEnd t_channelsAt t_captureAt t_displayAt t_resolved p1 p2 O.1 _) (hta _ lk_Mo_100) (hta _ ini_Mo) (hta _ code_Mo_isNumber) code_Mo_isNumber (hta _ inst_Mo_isNumber) (hta _ sel_Mo_isNumber) hd_Mo_isNumber rfl ⟨by omega, by omega⟩ (ci := 7) 0 rfl rfl rfl rfl (by decide) (by decide) (by decide) rfl hl.1 (lv_room (Nat.le_of_ble_eq_true rfl)) d_Mo_number_4 ⟨by omega, by omega⟩ (fun v w1 H locs hw hP hD hS => ?_)
  obtain ⟨x4, hx4, rfl, rfl⟩ := hw
  have hP : va_P D classes [(h_t, .inr (7, (.int t_thrown :: .int t_high :: .int t_wide :: .int t_components :: .ref h_t_bits :: .int t_unknown :: .int t_rights :: .int t_colours :: .int t_profiled :: .ref h_t_profile :: .int t_entries :: .int t_columns :: .ref h_t_columnBits :: .ref h_t_numbers :: .int t_maps :: .ref h_t_map :: .int t_lines :: .ref h_t_line :: .ref h_t_resolutions :: .ref h_t_file :: .int t_size :: .int t_scanned :: .int t_refusedAt :: .int t_cursor :: .int t_streamAt :: .int t_streamMany :: .int t_name :: .int t_from :: .int t_end :: .int t_sizeAt :: .int t_bitsAt :: .int t_colourAt :: .int t_colourEnd :: .int t_paletteAt :: .int t_mapAt :: .int t_mapEnd :: .int t_channelsAt :: .int t_captureAt :: .int t_displayAt :: .int t_resolved :: []))), (h_t_numbers, .inl (cJ, 4096, .inr (.inl f_t_numbers)))] H := hP.sub [1, 0] rfl
  have hD : va_D A [(h_t, .inr (7, (.int t_thrown :: .int t_high :: .int t_wide :: .int t_components :: .ref h_t_bits :: .int t_unknown :: .int t_rights :: .int t_colours :: .int t_profiled :: .ref h_t_profile :: .int t_entries :: .int t_columns :: .ref h_t_columnBits :: .ref h_t_numbers :: .int t_maps :: .ref h_t_map :: .int t_lines :: .ref h_t_line :: .ref h_t_resolutions :: .ref h_t_file :: .int t_size :: .int t_scanned :: .int t_refusedAt :: .int t_cursor :: .int t_streamAt :: .int t_streamMany :: .int t_name :: .int t_from :: .int t_end :: .int t_sizeAt :: .int t_bitsAt :: .int t_colourAt :: .int t_colourEnd :: .int t_paletteAt :: .int t_mapAt :: .int t_mapEnd :: .int t_channelsAt :: .int t_captureAt :: .int t_displayAt :: .int t_resolved :: []))), (h_t_numbers, .inl (cJ, 4096, .inr (.inl f_t_numbers)))] := hD.sub [1, 0] (by decide) rfl
  refine W.eq (g2 := F0 m 7 ls [.int x4, .ref h_t]) rfl ?_
  have O := O.2
  have E : k_Mo_number_4 t_columns f_t_numbers p1 p2 x4 = RES := (congrArg (k_Mo_number_4 t_columns f_t_numbers p1 p2) hx4).trans E
  have O : ok_Mo_number_4 t_columns p1 p2 x4 := by rw [hx4]; exact O
  have J_15 : ∀ (j15_s1 : Int32), j_Mo_number_15 t_columns f_t_numbers p1 p2 j15_s1 = RES → oj_Mo_number_15 t_columns p1 p2 j15_s1 → ∀ (H : Heap) (locs : List Loc), va_P D classes [(h_t, .inr (7, (.int t_thrown :: .int t_high :: .int t_wide :: .int t_components :: .ref h_t_bits :: .int t_unknown :: .int t_rights :: .int t_colours :: .int t_profiled :: .ref h_t_profile :: .int t_entries :: .int t_columns :: .ref h_t_columnBits :: .ref h_t_numbers :: .int t_maps :: .ref h_t_map :: .int t_lines :: .ref h_t_line :: .ref h_t_resolutions :: .ref h_t_file :: .int t_size :: .int t_scanned :: .int t_refusedAt :: .int t_cursor :: .int t_streamAt :: .int t_streamMany :: .int t_name :: .int t_from :: .int t_end :: .int t_sizeAt :: .int t_bitsAt :: .int t_colourAt :: .int t_colourEnd :: .int t_paletteAt :: .int t_mapAt :: .int t_mapEnd :: .int t_channelsAt :: .int t_captureAt :: .int t_displayAt :: .int t_resolved :: []))), (h_t_numbers, .inl (cJ, 4096, .inr (.inl f_t_numbers)))] H → va_D A [(h_t, .inr (7, (.int t_thrown :: .int t_high :: .int t_wide :: .int t_components :: .ref h_t_bits :: .int t_unknown :: .int t_rights :: .int t_colours :: .int t_profiled :: .ref h_t_profile :: .int t_entries :: .int t_columns :: .ref h_t_columnBits :: .ref h_t_numbers :: .int t_maps :: .ref h_t_map :: .int t_lines :: .ref h_t_line :: .ref h_t_resolutions :: .ref h_t_file :: .int t_size :: .int t_scanned :: .int t_refusedAt :: .int t_cursor :: .int t_streamAt :: .int t_streamMany :: .int t_name :: .int t_from :: .int t_end :: .int t_sizeAt :: .int t_bitsAt :: .int t_colourAt :: .int t_colourEnd :: .int t_paletteAt :: .int t_mapAt :: .int t_mapEnd :: .int t_channelsAt :: .int t_captureAt :: .int t_displayAt :: .int t_resolved :: []))), (h_t_numbers, .inl (cJ, 4096, .inr (.inl f_t_numbers)))] → va_S A s.heap H locs → ∀ ls : Array Slot, lv_has ls 3 [(0, .ref h_t), (1, .int p1), (2, .int p2)] → W p l e R s m args below meth c H locs 0 0 Q (F0 m 15 ls [.int j15_s1, .ref h_t]) := by
    intro j15_s1 E O H locs hP hD hS ls hl
    refine kc_V (As := [.int j15_s1]) (rest := []) (wr := [(h_t_numbers, .inl (cJ, 4096, .inr (.inl f_t_numbers)))]) [0] [1] ⟨hx, hb, hml, hown, hta⟩ hK hN hP hD hS hA (c_Mo_refuse l D cB cI cJ h_t h_t_bits h_t_profile h_t_columnBits h_t_numbers h_t_map h_t_line h_t_resolutions h_t_file t_thrown t_high t_wide t_components t_unknown t_rights t_colours t_profiled t_entries t_columns t_maps t_lines t_size t_scanned t_refusedAt t_cursor t_streamAt t_streamMany t_name t_from t_end t_sizeAt t_bitsAt t_colourAt t_colourEnd t_paletteAt t_mapAt t_mapEnd t_channelsAt t_captureAt t_displayAt t_resolved j15_s1 O.1 _) (hta _ lk_Mo_89) (hta _ ini_Mo) (hta _ code_Mo_refuse) code_Mo_refuse (hta _ inst_Mo_refuse) (hta _ sel_Mo_refuse) hd_Mo_refuse rfl ⟨by omega, by omega⟩ (ci := 7) 0 rfl rfl rfl rfl (by decide) (by decide) (by decide) rfl hl.1 (lv_room (Nat.le_of_ble_eq_true rfl)) d_Mo_number_15 ⟨by omega, by omega⟩ (fun v w1 H locs hw hP hD hS => ?_)
    obtain ⟨x15, hx15, rfl, rfl⟩ := hw
    have hP : va_P D classes [(h_t, .inr (7, (.int x15.2 :: .int t_high :: .int t_wide :: .int t_components :: .ref h_t_bits :: .int t_unknown :: .int t_rights :: .int t_colours :: .int t_profiled :: .ref h_t_profile :: .int t_entries :: .int t_columns :: .ref h_t_columnBits :: .ref h_t_numbers :: .int t_maps :: .ref h_t_map :: .int t_lines :: .ref h_t_line :: .ref h_t_resolutions :: .ref h_t_file :: .int t_size :: .int t_scanned :: .int t_refusedAt :: .int t_cursor :: .int t_streamAt :: .int t_streamMany :: .int t_name :: .int t_from :: .int t_end :: .int t_sizeAt :: .int t_bitsAt :: .int t_colourAt :: .int t_colourEnd :: .int t_paletteAt :: .int t_mapAt :: .int t_mapEnd :: .int t_channelsAt :: .int t_captureAt :: .int t_displayAt :: .int t_resolved :: []))), (h_t_numbers, .inl (cJ, 4096, .inr (.inl f_t_numbers)))] H := hP.sub [1, 0] rfl
    have hD : va_D A [(h_t, .inr (7, (.int x15.2 :: .int t_high :: .int t_wide :: .int t_components :: .ref h_t_bits :: .int t_unknown :: .int t_rights :: .int t_colours :: .int t_profiled :: .ref h_t_profile :: .int t_entries :: .int t_columns :: .ref h_t_columnBits :: .ref h_t_numbers :: .int t_maps :: .ref h_t_map :: .int t_lines :: .ref h_t_line :: .ref h_t_resolutions :: .ref h_t_file :: .int t_size :: .int t_scanned :: .int t_refusedAt :: .int t_cursor :: .int t_streamAt :: .int t_streamMany :: .int t_name :: .int t_from :: .int t_end :: .int t_sizeAt :: .int t_bitsAt :: .int t_colourAt :: .int t_colourEnd :: .int t_paletteAt :: .int t_mapAt :: .int t_mapEnd :: .int t_channelsAt :: .int t_captureAt :: .int t_displayAt :: .int t_resolved :: []))), (h_t_numbers, .inl (cJ, 4096, .inr (.inl f_t_numbers)))] := hD.sub [1, 0] (by decide) rfl
    refine W.eq (g2 := F0 m 18 ls [.int x15.1]) rfl ?_
    have O := O.2
    have E : k_Mo_number_15 t_columns f_t_numbers p1 p2 x15 = RES := (congrArg (k_Mo_number_15 t_columns f_t_numbers p1 p2) hx15).trans E
    have O : ok_Mo_number_15 t_columns p1 p2 x15 := by rw [hx15]; exact O
    refine lv_if_eq (tgt := 23) hx hb d_Mo_number_18 (by decide) (fun c_18 => ?_) (fun c_18 => ?_)
    · have E := (if_pos c_18).symm.trans E
      have O := Eq.mp (if_pos c_18) O
      refine lv_aload_n hx hb d_Mo_number_23 rfl (lv_at hl 0 rfl) ?_
      refine va_get (D := D) (v := .ref h_t_numbers) hx hb hta i_Mo hown hK hP 0 rfl rfl 13 (by decide) (hta _ lk_Mo_23) (fun _ h9 => h9) rfl d_Mo_number_24 ?_
      refine lv_aload_n hx hb d_Mo_number_27 rfl (lv_at hl 0 rfl) ?_
      refine va_get (D := D) (v := .int t_columns) hx hb hta i_Mo hown hK hP 0 rfl rfl 11 (by decide) (hta _ lk_Mo_70) (fun _ h9 => h9) rfl d_Mo_number_28 ?_
      refine lv_iload_n hx hb d_Mo_number_31 rfl (lv_at hl 1 rfl) ?_
      refine lv_imul hx hb d_Mo_number_32 ?_
      refine lv_iload_n hx hb d_Mo_number_33 rfl (lv_at hl 2 rfl) ?_
      refine lv_iadd hx hb d_Mo_number_34 ?_
      refine va_lald hx hb hK hP 1 2 rfl rfl O.1 d_Mo_number_35 ?_
      have O := O.2
      exact kr_l hx hb hr hlk hQ hK hP hD hS ⟨((f_t_numbers ((t_columns * p1) + p2).toNatClampNeg, x15.2) : Int64 × Int32), E.trans E0.symm, rfl, rfl⟩ (by omega) (by omega) d_Mo_number_36
    · have E := (if_neg c_18).symm.trans E
      have O := Eq.mp (if_neg c_18) O
      refine lv_lconst (v := 0) hx hb d_Mo_number_21 (by decide) ?_
      exact kr_l hx hb hr hlk hQ hK hP hD hS ⟨((0, x15.2) : Int64 × Int32), E.trans E0.symm, rfl, rfl⟩ (by omega) (by omega) d_Mo_number_22
  refine lv_if_ne (tgt := 14) hx hb d_Mo_number_7 (by decide) (fun c_7 => ?_) (fun c_7 => ?_)
  · have E := (if_neg c_7).symm.trans E
    have O := Eq.mp (if_neg c_7) O
    refine lv_iconst (v := 0) hx hb d_Mo_number_14 (by decide) ?_
    exact J_15 0 E O _ _ hP hD hS ls (lv_sub hl [0, 1, 2] rfl)
  · have E := (if_pos c_7).symm.trans E
    have O := Eq.mp (if_pos c_7) O
    refine lv_iconst (v := 1) hx hb d_Mo_number_10 (by decide) ?_
    refine lv_goto (tgt := 15) hx hb d_Mo_number_11 (by decide) ?_
    exact J_15 1 E O _ _ hP hD hS ls (lv_sub hl [0, 1, 2] rfl)
theorem d_Mo_shown_0 : decode b_Mo_shown 0 = .ok (.aload_n 0, 1) := by decide +kernel
theorem d_Mo_shown_1 : decode b_Mo_shown 1 = .ok (.getfield 73, 3) := by decide +kernel
theorem d_Mo_shown_4 : decode b_Mo_shown 4 = .ok (.ifCond .le 10, 3) := by decide +kernel
theorem d_Mo_shown_7 : decode b_Mo_shown 7 = .ok (.aload_n 0, 1) := by decide +kernel
theorem d_Mo_shown_8 : decode b_Mo_shown 8 = .ok (.getfield 73, 3) := by decide +kernel
theorem d_Mo_shown_11 : decode b_Mo_shown 11 = .ok (.goto 7, 3) := by decide +kernel
theorem d_Mo_shown_14 : decode b_Mo_shown 14 = .ok (.aload_n 0, 1) := by decide +kernel
theorem d_Mo_shown_15 : decode b_Mo_shown 15 = .ok (.getfield 55, 3) := by decide +kernel
theorem d_Mo_shown_18 : decode b_Mo_shown 18 = .ok (.istore_n 3, 1) := by decide +kernel
theorem d_Mo_shown_19 : decode b_Mo_shown 19 = .ok (.aload_n 0, 1) := by decide +kernel
theorem d_Mo_shown_20 : decode b_Mo_shown 20 = .ok (.iload_n 1, 1) := by decide +kernel
theorem d_Mo_shown_21 : decode b_Mo_shown 21 = .ok (.ifCond .lt 8, 3) := by decide +kernel
theorem d_Mo_shown_24 : decode b_Mo_shown 24 = .ok (.iload_n 1, 1) := by decide +kernel
theorem d_Mo_shown_25 : decode b_Mo_shown 25 = .ok (.iload_n 3, 1) := by decide +kernel
theorem d_Mo_shown_26 : decode b_Mo_shown 26 = .ok (.if_icmp .lt 7, 3) := by decide +kernel
theorem d_Mo_shown_29 : decode b_Mo_shown 29 = .ok (.iconst 1, 1) := by decide +kernel
theorem d_Mo_shown_30 : decode b_Mo_shown 30 = .ok (.goto 4, 3) := by decide +kernel
theorem d_Mo_shown_33 : decode b_Mo_shown 33 = .ok (.iconst 0, 1) := by decide +kernel
theorem d_Mo_shown_34 : decode b_Mo_shown 34 = .ok (.invokevirtual 89, 3) := by decide +kernel
theorem d_Mo_shown_37 : decode b_Mo_shown 37 = .ok (.ifCond .eq 5, 3) := by decide +kernel
theorem d_Mo_shown_40 : decode b_Mo_shown 40 = .ok (.lconst 0, 1) := by decide +kernel
theorem d_Mo_shown_41 : decode b_Mo_shown 41 = .ok (.lreturn, 1) := by decide +kernel
theorem d_Mo_shown_42 : decode b_Mo_shown 42 = .ok (.aload_n 0, 1) := by decide +kernel
theorem d_Mo_shown_43 : decode b_Mo_shown 43 = .ok (.getfield 73, 3) := by decide +kernel
theorem d_Mo_shown_46 : decode b_Mo_shown 46 = .ok (.ifCond .eq 16, 3) := by decide +kernel
theorem d_Mo_shown_49 : decode b_Mo_shown 49 = .ok (.aload_n 0, 1) := by decide +kernel
theorem d_Mo_shown_50 : decode b_Mo_shown 50 = .ok (.getfield 27, 3) := by decide +kernel
theorem d_Mo_shown_53 : decode b_Mo_shown 53 = .ok (.iconst 3, 1) := by decide +kernel
theorem d_Mo_shown_54 : decode b_Mo_shown 54 = .ok (.iload_n 1, 1) := by decide +kernel
theorem d_Mo_shown_55 : decode b_Mo_shown 55 = .ok (.imul, 1) := by decide +kernel
theorem d_Mo_shown_56 : decode b_Mo_shown 56 = .ok (.iconst 1, 1) := by decide +kernel
theorem d_Mo_shown_57 : decode b_Mo_shown 57 = .ok (.iadd, 1) := by decide +kernel
theorem d_Mo_shown_58 : decode b_Mo_shown 58 = .ok (.iaload, 1) := by decide +kernel
theorem d_Mo_shown_59 : decode b_Mo_shown 59 = .ok (.ifCond .ne 6, 3) := by decide +kernel
theorem d_Mo_shown_62 : decode b_Mo_shown 62 = .ok (.iload_n 2, 1) := by decide +kernel
theorem d_Mo_shown_63 : decode b_Mo_shown 63 = .ok (.i2l, 1) := by decide +kernel
theorem d_Mo_shown_64 : decode b_Mo_shown 64 = .ok (.lreturn, 1) := by decide +kernel
theorem d_Mo_shown_65 : decode b_Mo_shown 65 = .ok (.iload_n 2, 1) := by decide +kernel
theorem d_Mo_shown_66 : decode b_Mo_shown 66 = .ok (.ifCond .ge 7, 3) := by decide +kernel
theorem d_Mo_shown_69 : decode b_Mo_shown 69 = .ok (.iconst 0, 1) := by decide +kernel
theorem d_Mo_shown_70 : decode b_Mo_shown 70 = .ok (.goto 21, 3) := by decide +kernel
theorem d_Mo_shown_73 : decode b_Mo_shown 73 = .ok (.iload_n 2, 1) := by decide +kernel
theorem d_Mo_shown_74 : decode b_Mo_shown 74 = .ok (.aload_n 0, 1) := by decide +kernel
theorem d_Mo_shown_75 : decode b_Mo_shown 75 = .ok (.getfield 67, 3) := by decide +kernel
theorem d_Mo_shown_78 : decode b_Mo_shown 78 = .ok (.if_icmp .lt 12, 3) := by decide +kernel
theorem d_Mo_shown_81 : decode b_Mo_shown 81 = .ok (.aload_n 0, 1) := by decide +kernel
theorem d_Mo_shown_82 : decode b_Mo_shown 82 = .ok (.getfield 67, 3) := by decide +kernel
theorem d_Mo_shown_85 : decode b_Mo_shown 85 = .ok (.iconst 1, 1) := by decide +kernel
theorem d_Mo_shown_86 : decode b_Mo_shown 86 = .ok (.isub, 1) := by decide +kernel
theorem d_Mo_shown_87 : decode b_Mo_shown 87 = .ok (.goto 4, 3) := by decide +kernel
theorem d_Mo_shown_90 : decode b_Mo_shown 90 = .ok (.iload_n 2, 1) := by decide +kernel
theorem d_Mo_shown_91 : decode b_Mo_shown 91 = .ok (.istore 4, 2) := by decide +kernel
theorem d_Mo_shown_93 : decode b_Mo_shown 93 = .ok (.aload_n 0, 1) := by decide +kernel
theorem d_Mo_shown_94 : decode b_Mo_shown 94 = .ok (.getfield 23, 3) := by decide +kernel
theorem d_Mo_shown_97 : decode b_Mo_shown 97 = .ok (.aload_n 0, 1) := by decide +kernel
theorem d_Mo_shown_98 : decode b_Mo_shown 98 = .ok (.getfield 70, 3) := by decide +kernel
theorem d_Mo_shown_101 : decode b_Mo_shown 101 = .ok (.iload 4, 2) := by decide +kernel
theorem d_Mo_shown_103 : decode b_Mo_shown 103 = .ok (.imul, 1) := by decide +kernel
theorem d_Mo_shown_104 : decode b_Mo_shown 104 = .ok (.aload_n 0, 1) := by decide +kernel
theorem d_Mo_shown_105 : decode b_Mo_shown 105 = .ok (.getfield 27, 3) := by decide +kernel
theorem d_Mo_shown_108 : decode b_Mo_shown 108 = .ok (.iconst 3, 1) := by decide +kernel
theorem d_Mo_shown_109 : decode b_Mo_shown 109 = .ok (.iload_n 1, 1) := by decide +kernel
theorem d_Mo_shown_110 : decode b_Mo_shown 110 = .ok (.imul, 1) := by decide +kernel
theorem d_Mo_shown_111 : decode b_Mo_shown 111 = .ok (.iconst 2, 1) := by decide +kernel
theorem d_Mo_shown_112 : decode b_Mo_shown 112 = .ok (.iadd, 1) := by decide +kernel
theorem d_Mo_shown_113 : decode b_Mo_shown 113 = .ok (.iaload, 1) := by decide +kernel
theorem d_Mo_shown_114 : decode b_Mo_shown 114 = .ok (.iadd, 1) := by decide +kernel
theorem d_Mo_shown_115 : decode b_Mo_shown 115 = .ok (.laload, 1) := by decide +kernel
theorem d_Mo_shown_116 : decode b_Mo_shown 116 = .ok (.lreturn, 1) := by decide +kernel
def j_Mo_shown_91 (t_columns : Int32) (f_t_map : Nat → Int32) (f_t_numbers : Nat → Int64) (p1 : Int32) (x34 : Int32 × Int32) (j91_s0 : Int32) : Int64 × Int32 :=
  (f_t_numbers ((t_columns * j91_s0) + (f_t_map ((3 * p1) + 2).toNatClampNeg)).toNatClampNeg, x34.2)
def oj_Mo_shown_91 (t_columns : Int32) (f_t_map : Nat → Int32) (p1 : Int32) (j91_s0 : Int32) : Prop :=
  vp_in ((3 * p1) + 2) 48 ∧ vp_in ((t_columns * j91_s0) + (f_t_map ((3 * p1) + 2).toNatClampNeg)) 4096 ∧ True
def k_Mo_shown_34 (t_entries : Int32) (t_columns : Int32) (t_maps : Int32) (f_t_map : Nat → Int32) (f_t_numbers : Nat → Int64) (p1 : Int32) (p2 : Int32) (x34 : Int32 × Int32) : Int64 × Int32 :=
  if x34.1 = 0 then (if t_maps = 0 then (((p2 : Int32).toInt64, x34.2)) else (if (f_t_map ((3 * p1) + 1).toNatClampNeg) = 0 then (((p2 : Int32).toInt64, x34.2)) else (if 0 ≤ p2 then (if p2 < t_entries then (j_Mo_shown_91 t_columns f_t_map f_t_numbers p1 x34 p2) else (j_Mo_shown_91 t_columns f_t_map f_t_numbers p1 x34 (t_entries - 1))) else (j_Mo_shown_91 t_columns f_t_map f_t_numbers p1 x34 0)))) else (0, x34.2)
def ok_Mo_shown_34 (t_entries : Int32) (t_columns : Int32) (t_maps : Int32) (f_t_map : Nat → Int32) (p1 : Int32) (p2 : Int32) (x34 : Int32 × Int32) : Prop :=
  if x34.1 = 0 then (if t_maps = 0 then True else (vp_in ((3 * p1) + 1) 48 ∧ (if (f_t_map ((3 * p1) + 1).toNatClampNeg) = 0 then True else (if 0 ≤ p2 then (if p2 < t_entries then (oj_Mo_shown_91 t_columns f_t_map p1 p2) else (oj_Mo_shown_91 t_columns f_t_map p1 (t_entries - 1))) else (oj_Mo_shown_91 t_columns f_t_map p1 0))))) else True
def j_Mo_shown_34 (t_entries : Int32) (t_columns : Int32) (t_maps : Int32) (f_t_map : Nat → Int32) (f_t_numbers : Nat → Int64) (p1 : Int32) (p2 : Int32) (j34_s1 : Int32) : Int64 × Int32 :=
  k_Mo_shown_34 t_entries t_columns t_maps f_t_map f_t_numbers p1 p2 (m_Mo_refuse j34_s1)
def oj_Mo_shown_34 (t_entries : Int32) (t_columns : Int32) (t_maps : Int32) (f_t_map : Nat → Int32) (p1 : Int32) (p2 : Int32) (j34_s1 : Int32) : Prop :=
  om_Mo_refuse j34_s1 ∧ (ok_Mo_shown_34 t_entries t_columns t_maps f_t_map p1 p2 (m_Mo_refuse j34_s1))
def j_Mo_shown_29 (t_entries : Int32) (t_columns : Int32) (t_maps : Int32) (f_t_map : Nat → Int32) (f_t_numbers : Nat → Int64) (p1 : Int32) (p2 : Int32) : Int64 × Int32 :=
  j_Mo_shown_34 t_entries t_columns t_maps f_t_map f_t_numbers p1 p2 1
def oj_Mo_shown_29 (t_entries : Int32) (t_columns : Int32) (t_maps : Int32) (f_t_map : Nat → Int32) (p1 : Int32) (p2 : Int32) : Prop :=
  oj_Mo_shown_34 t_entries t_columns t_maps f_t_map p1 p2 1
def j_Mo_shown_18 (t_entries : Int32) (t_columns : Int32) (t_maps : Int32) (f_t_map : Nat → Int32) (f_t_numbers : Nat → Int64) (p1 : Int32) (p2 : Int32) (j18_s0 : Int32) : Int64 × Int32 :=
  if p1 < 0 then (j_Mo_shown_29 t_entries t_columns t_maps f_t_map f_t_numbers p1 p2) else (if p1 < j18_s0 then (j_Mo_shown_34 t_entries t_columns t_maps f_t_map f_t_numbers p1 p2 0) else (j_Mo_shown_29 t_entries t_columns t_maps f_t_map f_t_numbers p1 p2))
def oj_Mo_shown_18 (t_entries : Int32) (t_columns : Int32) (t_maps : Int32) (f_t_map : Nat → Int32) (p1 : Int32) (p2 : Int32) (j18_s0 : Int32) : Prop :=
  if p1 < 0 then (oj_Mo_shown_29 t_entries t_columns t_maps f_t_map p1 p2) else (if p1 < j18_s0 then (oj_Mo_shown_34 t_entries t_columns t_maps f_t_map p1 p2 0) else (oj_Mo_shown_29 t_entries t_columns t_maps f_t_map p1 p2))
def om_Mo_shown (t_components : Int32) (t_entries : Int32) (t_columns : Int32) (t_maps : Int32) (f_t_map : Nat → Int32) (p1 : Int32) (p2 : Int32) : Prop :=
  if t_maps ≤ 0 then (oj_Mo_shown_18 t_entries t_columns t_maps f_t_map p1 p2 t_components) else (oj_Mo_shown_18 t_entries t_columns t_maps f_t_map p1 p2 t_maps)
def m_Mo_shown (t_components : Int32) (t_entries : Int32) (t_columns : Int32) (t_maps : Int32) (f_t_map : Nat → Int32) (f_t_numbers : Nat → Int64) (p1 : Int32) (p2 : Int32) : Int64 × Int32 :=
  if t_maps ≤ 0 then (j_Mo_shown_18 t_entries t_columns t_maps f_t_map f_t_numbers p1 p2 t_components) else (j_Mo_shown_18 t_entries t_columns t_maps f_t_map f_t_numbers p1 p2 t_maps)
set_option maxHeartbeats 4000000 in
set_option maxRecDepth 100000 in
theorem c_Mo_shown (l : Launch) (D : va_G) (cB cI cJ : ClassId) (h_t h_t_bits h_t_profile h_t_columnBits h_t_numbers h_t_map h_t_line h_t_resolutions h_t_file : Nat) (t_thrown : Int32) (t_high : Int32) (t_wide : Int32) (t_components : Int32) (t_unknown : Int32) (t_rights : Int32) (t_colours : Int32) (t_profiled : Int32) (t_entries : Int32) (t_columns : Int32) (t_maps : Int32) (t_lines : Int32) (t_size : Int32) (t_scanned : Int32) (t_refusedAt : Int32) (t_cursor : Int32) (t_streamAt : Int32) (t_streamMany : Int32) (t_name : Int32) (t_from : Int32) (t_end : Int32) (t_sizeAt : Int32) (t_bitsAt : Int32) (t_colourAt : Int32) (t_colourEnd : Int32) (t_paletteAt : Int32) (t_mapAt : Int32) (t_mapEnd : Int32) (t_channelsAt : Int32) (t_captureAt : Int32) (t_displayAt : Int32) (t_resolved : Int32) (f_t_map : Nat → Int32) (f_t_numbers : Nat → Int64) (p1 : Int32) (p2 : Int32) (hO : om_Mo_shown t_components t_entries t_columns t_maps f_t_map p1 p2) (sz : Nat) : Ct l D cB cI cJ y_Mo_shown b_Mo_shown 5 (some .long) 1 21 0 0 [.ref h_t, .int p1, .int p2] [(h_t, .inr (7, (.int t_thrown :: .int t_high :: .int t_wide :: .int t_components :: .ref h_t_bits :: .int t_unknown :: .int t_rights :: .int t_colours :: .int t_profiled :: .ref h_t_profile :: .int t_entries :: .int t_columns :: .ref h_t_columnBits :: .ref h_t_numbers :: .int t_maps :: .ref h_t_map :: .int t_lines :: .ref h_t_line :: .ref h_t_resolutions :: .ref h_t_file :: .int t_size :: .int t_scanned :: .int t_refusedAt :: .int t_cursor :: .int t_streamAt :: .int t_streamMany :: .int t_name :: .int t_from :: .int t_end :: .int t_sizeAt :: .int t_bitsAt :: .int t_colourAt :: .int t_colourEnd :: .int t_paletteAt :: .int t_mapAt :: .int t_mapEnd :: .int t_channelsAt :: .int t_captureAt :: .int t_displayAt :: .int t_resolved :: []))), (h_t_map, .inl (cI, 48, .inl f_t_map)), (h_t_numbers, .inl (cJ, 4096, .inr (.inl f_t_numbers)))] (fun v w1 => ∃ (x : Int64 × Int32), x = m_Mo_shown t_components t_entries t_columns t_maps f_t_map f_t_numbers p1 p2 ∧ v = some (.long x.1) ∧ w1 = [(h_t, .inr (7, (.int x.2 :: .int t_high :: .int t_wide :: .int t_components :: .ref h_t_bits :: .int t_unknown :: .int t_rights :: .int t_colours :: .int t_profiled :: .ref h_t_profile :: .int t_entries :: .int t_columns :: .ref h_t_columnBits :: .ref h_t_numbers :: .int t_maps :: .ref h_t_map :: .int t_lines :: .ref h_t_line :: .ref h_t_resolutions :: .ref h_t_file :: .int t_size :: .int t_scanned :: .int t_refusedAt :: .int t_cursor :: .int t_streamAt :: .int t_streamMany :: .int t_name :: .int t_from :: .int t_end :: .int t_sizeAt :: .int t_bitsAt :: .int t_colourAt :: .int t_colourEnd :: .int t_paletteAt :: .int t_mapAt :: .int t_mapEnd :: .int t_channelsAt :: .int t_captureAt :: .int t_displayAt :: .int t_resolved :: []))), (h_t_map, .inl (cI, 48, .inl f_t_map)), (h_t_numbers, .inl (cJ, 4096, .inr (.inl f_t_numbers)))]) sz := by
  refine Ct.of (by decide) (Nat.le_of_ble_eq_true rfl) ?_
  intro p e R s m args below meth c A ls Q hx hb hr hlk hml hta hown hin hK hN hA hRf hRl hRc hRs hP hD hS hl hQ
  have hl : lv_has ls 5 [(0, .ref h_t), (1, .int p1), (2, .int p2)] := hl
  obtain ⟨RES, E0⟩ : ∃ R, m_Mo_shown t_components t_entries t_columns t_maps f_t_map f_t_numbers p1 p2 = R := ⟨_, rfl⟩
  have E := E0
  have O := hO
  refine lv_aload_n hx hb d_Mo_shown_0 rfl (lv_at hl 0 rfl) ?_
  refine va_get (D := D) (v := .int t_maps) hx hb hta i_Mo hown hK hP 0 rfl rfl 14 (by decide) (hta _ lk_Mo_73) (fun _ h9 => h9) rfl d_Mo_shown_1 ?_
  have J_18 : ∀ (j18_s0 : Int32), j_Mo_shown_18 t_entries t_columns t_maps f_t_map f_t_numbers p1 p2 j18_s0 = RES → oj_Mo_shown_18 t_entries t_columns t_maps f_t_map p1 p2 j18_s0 → ∀ (H : Heap) (locs : List Loc), va_P D classes [(h_t, .inr (7, (.int t_thrown :: .int t_high :: .int t_wide :: .int t_components :: .ref h_t_bits :: .int t_unknown :: .int t_rights :: .int t_colours :: .int t_profiled :: .ref h_t_profile :: .int t_entries :: .int t_columns :: .ref h_t_columnBits :: .ref h_t_numbers :: .int t_maps :: .ref h_t_map :: .int t_lines :: .ref h_t_line :: .ref h_t_resolutions :: .ref h_t_file :: .int t_size :: .int t_scanned :: .int t_refusedAt :: .int t_cursor :: .int t_streamAt :: .int t_streamMany :: .int t_name :: .int t_from :: .int t_end :: .int t_sizeAt :: .int t_bitsAt :: .int t_colourAt :: .int t_colourEnd :: .int t_paletteAt :: .int t_mapAt :: .int t_mapEnd :: .int t_channelsAt :: .int t_captureAt :: .int t_displayAt :: .int t_resolved :: []))), (h_t_map, .inl (cI, 48, .inl f_t_map)), (h_t_numbers, .inl (cJ, 4096, .inr (.inl f_t_numbers)))] H → va_D A [(h_t, .inr (7, (.int t_thrown :: .int t_high :: .int t_wide :: .int t_components :: .ref h_t_bits :: .int t_unknown :: .int t_rights :: .int t_colours :: .int t_profiled :: .ref h_t_profile :: .int t_entries :: .int t_columns :: .ref h_t_columnBits :: .ref h_t_numbers :: .int t_maps :: .ref h_t_map :: .int t_lines :: .ref h_t_line :: .ref h_t_resolutions :: .ref h_t_file :: .int t_size :: .int t_scanned :: .int t_refusedAt :: .int t_cursor :: .int t_streamAt :: .int t_streamMany :: .int t_name :: .int t_from :: .int t_end :: .int t_sizeAt :: .int t_bitsAt :: .int t_colourAt :: .int t_colourEnd :: .int t_paletteAt :: .int t_mapAt :: .int t_mapEnd :: .int t_channelsAt :: .int t_captureAt :: .int t_displayAt :: .int t_resolved :: []))), (h_t_map, .inl (cI, 48, .inl f_t_map)), (h_t_numbers, .inl (cJ, 4096, .inr (.inl f_t_numbers)))] → va_S A s.heap H locs → ∀ ls : Array Slot, lv_has ls 5 [(0, .ref h_t), (1, .int p1), (2, .int p2)] → W p l e R s m args below meth c H locs 0 0 Q (F0 m 18 ls [.int j18_s0]) := by
    intro j18_s0 E O H locs hP hD hS ls hl
    refine lv_istore_n (lv' := [(3, .int j18_s0), (0, .ref h_t), (1, .int p1), (2, .int p2)]) hx hb d_Mo_shown_18 rfl hl (by decide) rfl (fun ls hl => ?_)
    refine lv_aload_n hx hb d_Mo_shown_19 rfl (lv_at hl 1 rfl) ?_
    refine lv_iload_n hx hb d_Mo_shown_20 rfl (lv_at hl 2 rfl) ?_
    have J_34 : ∀ (j34_s1 : Int32), j_Mo_shown_34 t_entries t_columns t_maps f_t_map f_t_numbers p1 p2 j34_s1 = RES → oj_Mo_shown_34 t_entries t_columns t_maps f_t_map p1 p2 j34_s1 → ∀ (H : Heap) (locs : List Loc), va_P D classes [(h_t, .inr (7, (.int t_thrown :: .int t_high :: .int t_wide :: .int t_components :: .ref h_t_bits :: .int t_unknown :: .int t_rights :: .int t_colours :: .int t_profiled :: .ref h_t_profile :: .int t_entries :: .int t_columns :: .ref h_t_columnBits :: .ref h_t_numbers :: .int t_maps :: .ref h_t_map :: .int t_lines :: .ref h_t_line :: .ref h_t_resolutions :: .ref h_t_file :: .int t_size :: .int t_scanned :: .int t_refusedAt :: .int t_cursor :: .int t_streamAt :: .int t_streamMany :: .int t_name :: .int t_from :: .int t_end :: .int t_sizeAt :: .int t_bitsAt :: .int t_colourAt :: .int t_colourEnd :: .int t_paletteAt :: .int t_mapAt :: .int t_mapEnd :: .int t_channelsAt :: .int t_captureAt :: .int t_displayAt :: .int t_resolved :: []))), (h_t_map, .inl (cI, 48, .inl f_t_map)), (h_t_numbers, .inl (cJ, 4096, .inr (.inl f_t_numbers)))] H → va_D A [(h_t, .inr (7, (.int t_thrown :: .int t_high :: .int t_wide :: .int t_components :: .ref h_t_bits :: .int t_unknown :: .int t_rights :: .int t_colours :: .int t_profiled :: .ref h_t_profile :: .int t_entries :: .int t_columns :: .ref h_t_columnBits :: .ref h_t_numbers :: .int t_maps :: .ref h_t_map :: .int t_lines :: .ref h_t_line :: .ref h_t_resolutions :: .ref h_t_file :: .int t_size :: .int t_scanned :: .int t_refusedAt :: .int t_cursor :: .int t_streamAt :: .int t_streamMany :: .int t_name :: .int t_from :: .int t_end :: .int t_sizeAt :: .int t_bitsAt :: .int t_colourAt :: .int t_colourEnd :: .int t_paletteAt :: .int t_mapAt :: .int t_mapEnd :: .int t_channelsAt :: .int t_captureAt :: .int t_displayAt :: .int t_resolved :: []))), (h_t_map, .inl (cI, 48, .inl f_t_map)), (h_t_numbers, .inl (cJ, 4096, .inr (.inl f_t_numbers)))] → va_S A s.heap H locs → ∀ ls : Array Slot, lv_has ls 5 [(0, .ref h_t), (1, .int p1), (2, .int p2)] → W p l e R s m args below meth c H locs 0 0 Q (F0 m 34 ls [.int j34_s1, .ref h_t]) := by
      intro j34_s1 E O H locs hP hD hS ls hl
      refine kc_V (As := [.int j34_s1]) (rest := []) (wr := [(h_t_map, .inl (cI, 48, .inl f_t_map)), (h_t_numbers, .inl (cJ, 4096, .inr (.inl f_t_numbers)))]) [0] [1, 2] ⟨hx, hb, hml, hown, hta⟩ hK hN hP hD hS hA (c_Mo_refuse l D cB cI cJ h_t h_t_bits h_t_profile h_t_columnBits h_t_numbers h_t_map h_t_line h_t_resolutions h_t_file t_thrown t_high t_wide t_components t_unknown t_rights t_colours t_profiled t_entries t_columns t_maps t_lines t_size t_scanned t_refusedAt t_cursor t_streamAt t_streamMany t_name t_from t_end t_sizeAt t_bitsAt t_colourAt t_colourEnd t_paletteAt t_mapAt t_mapEnd t_channelsAt t_captureAt t_displayAt t_resolved j34_s1 O.1 _) (hta _ lk_Mo_89) (hta _ ini_Mo) (hta _ code_Mo_refuse) code_Mo_refuse (hta _ inst_Mo_refuse) (hta _ sel_Mo_refuse) hd_Mo_refuse rfl ⟨by omega, by omega⟩ (ci := 7) 0 rfl rfl rfl rfl (by decide) (by decide) (by decide) rfl hl.1 (lv_room (Nat.le_of_ble_eq_true rfl)) d_Mo_shown_34 ⟨by omega, by omega⟩ (fun v w1 H locs hw hP hD hS => ?_)
      obtain ⟨x34, hx34, rfl, rfl⟩ := hw
      have hP : va_P D classes [(h_t, .inr (7, (.int x34.2 :: .int t_high :: .int t_wide :: .int t_components :: .ref h_t_bits :: .int t_unknown :: .int t_rights :: .int t_colours :: .int t_profiled :: .ref h_t_profile :: .int t_entries :: .int t_columns :: .ref h_t_columnBits :: .ref h_t_numbers :: .int t_maps :: .ref h_t_map :: .int t_lines :: .ref h_t_line :: .ref h_t_resolutions :: .ref h_t_file :: .int t_size :: .int t_scanned :: .int t_refusedAt :: .int t_cursor :: .int t_streamAt :: .int t_streamMany :: .int t_name :: .int t_from :: .int t_end :: .int t_sizeAt :: .int t_bitsAt :: .int t_colourAt :: .int t_colourEnd :: .int t_paletteAt :: .int t_mapAt :: .int t_mapEnd :: .int t_channelsAt :: .int t_captureAt :: .int t_displayAt :: .int t_resolved :: []))), (h_t_map, .inl (cI, 48, .inl f_t_map)), (h_t_numbers, .inl (cJ, 4096, .inr (.inl f_t_numbers)))] H := hP.sub [2, 0, 1] rfl
      have hD : va_D A [(h_t, .inr (7, (.int x34.2 :: .int t_high :: .int t_wide :: .int t_components :: .ref h_t_bits :: .int t_unknown :: .int t_rights :: .int t_colours :: .int t_profiled :: .ref h_t_profile :: .int t_entries :: .int t_columns :: .ref h_t_columnBits :: .ref h_t_numbers :: .int t_maps :: .ref h_t_map :: .int t_lines :: .ref h_t_line :: .ref h_t_resolutions :: .ref h_t_file :: .int t_size :: .int t_scanned :: .int t_refusedAt :: .int t_cursor :: .int t_streamAt :: .int t_streamMany :: .int t_name :: .int t_from :: .int t_end :: .int t_sizeAt :: .int t_bitsAt :: .int t_colourAt :: .int t_colourEnd :: .int t_paletteAt :: .int t_mapAt :: .int t_mapEnd :: .int t_channelsAt :: .int t_captureAt :: .int t_displayAt :: .int t_resolved :: []))), (h_t_map, .inl (cI, 48, .inl f_t_map)), (h_t_numbers, .inl (cJ, 4096, .inr (.inl f_t_numbers)))] := hD.sub [2, 0, 1] (by decide) rfl
      refine W.eq (g2 := F0 m 37 ls [.int x34.1]) rfl ?_
      have O := O.2
      have E : k_Mo_shown_34 t_entries t_columns t_maps f_t_map f_t_numbers p1 p2 x34 = RES := (congrArg (k_Mo_shown_34 t_entries t_columns t_maps f_t_map f_t_numbers p1 p2) hx34).trans E
      have O : ok_Mo_shown_34 t_entries t_columns t_maps f_t_map p1 p2 x34 := by rw [hx34]; exact O
      refine lv_if_eq (tgt := 42) hx hb d_Mo_shown_37 (by decide) (fun c_37 => ?_) (fun c_37 => ?_)
      · have E := (if_pos c_37).symm.trans E
        have O := Eq.mp (if_pos c_37) O
        refine lv_aload_n hx hb d_Mo_shown_42 rfl (lv_at hl 0 rfl) ?_
        refine va_get (D := D) (v := .int t_maps) hx hb hta i_Mo hown hK hP 0 rfl rfl 14 (by decide) (hta _ lk_Mo_73) (fun _ h9 => h9) rfl d_Mo_shown_43 ?_
        refine lv_if_eq (tgt := 62) hx hb d_Mo_shown_46 (by decide) (fun c_46 => ?_) (fun c_46 => ?_)
        · have E := (if_pos c_46).symm.trans E
          have O := Eq.mp (if_pos c_46) O
          refine lv_iload_n hx hb d_Mo_shown_62 rfl (lv_at hl 2 rfl) ?_
          refine lv_i2l (v := (p2 : Int32).toInt64) hx hb d_Mo_shown_63 rfl ?_
          exact kr_l hx hb hr hlk hQ hK hP hD hS ⟨(((p2 : Int32).toInt64, x34.2) : Int64 × Int32), E.trans E0.symm, rfl, rfl⟩ (by omega) (by omega) d_Mo_shown_64
        · have E := (if_neg c_46).symm.trans E
          have O := Eq.mp (if_neg c_46) O
          refine lv_aload_n hx hb d_Mo_shown_49 rfl (lv_at hl 0 rfl) ?_
          refine va_get (D := D) (v := .ref h_t_map) hx hb hta i_Mo hown hK hP 0 rfl rfl 15 (by decide) (hta _ lk_Mo_27) (fun _ h9 => h9) rfl d_Mo_shown_50 ?_
          refine lv_iconst (v := 3) hx hb d_Mo_shown_53 (by decide) ?_
          refine lv_iload_n hx hb d_Mo_shown_54 rfl (lv_at hl 1 rfl) ?_
          refine lv_imul hx hb d_Mo_shown_55 ?_
          refine lv_iconst (v := 1) hx hb d_Mo_shown_56 (by decide) ?_
          refine lv_iadd hx hb d_Mo_shown_57 ?_
          refine va_iald hx hb hK hP 1 1 rfl rfl O.1 d_Mo_shown_58 ?_
          have O := O.2
          refine lv_if_ne (tgt := 65) hx hb d_Mo_shown_59 (by decide) (fun c_59 => ?_) (fun c_59 => ?_)
          · have E := (if_neg c_59).symm.trans E
            have O := Eq.mp (if_neg c_59) O
            refine lv_iload_n hx hb d_Mo_shown_65 rfl (lv_at hl 2 rfl) ?_
            have J_91 : ∀ (j91_s0 : Int32), j_Mo_shown_91 t_columns f_t_map f_t_numbers p1 x34 j91_s0 = RES → oj_Mo_shown_91 t_columns f_t_map p1 j91_s0 → ∀ (H : Heap) (locs : List Loc), va_P D classes [(h_t, .inr (7, (.int x34.2 :: .int t_high :: .int t_wide :: .int t_components :: .ref h_t_bits :: .int t_unknown :: .int t_rights :: .int t_colours :: .int t_profiled :: .ref h_t_profile :: .int t_entries :: .int t_columns :: .ref h_t_columnBits :: .ref h_t_numbers :: .int t_maps :: .ref h_t_map :: .int t_lines :: .ref h_t_line :: .ref h_t_resolutions :: .ref h_t_file :: .int t_size :: .int t_scanned :: .int t_refusedAt :: .int t_cursor :: .int t_streamAt :: .int t_streamMany :: .int t_name :: .int t_from :: .int t_end :: .int t_sizeAt :: .int t_bitsAt :: .int t_colourAt :: .int t_colourEnd :: .int t_paletteAt :: .int t_mapAt :: .int t_mapEnd :: .int t_channelsAt :: .int t_captureAt :: .int t_displayAt :: .int t_resolved :: []))), (h_t_map, .inl (cI, 48, .inl f_t_map)), (h_t_numbers, .inl (cJ, 4096, .inr (.inl f_t_numbers)))] H → va_D A [(h_t, .inr (7, (.int x34.2 :: .int t_high :: .int t_wide :: .int t_components :: .ref h_t_bits :: .int t_unknown :: .int t_rights :: .int t_colours :: .int t_profiled :: .ref h_t_profile :: .int t_entries :: .int t_columns :: .ref h_t_columnBits :: .ref h_t_numbers :: .int t_maps :: .ref h_t_map :: .int t_lines :: .ref h_t_line :: .ref h_t_resolutions :: .ref h_t_file :: .int t_size :: .int t_scanned :: .int t_refusedAt :: .int t_cursor :: .int t_streamAt :: .int t_streamMany :: .int t_name :: .int t_from :: .int t_end :: .int t_sizeAt :: .int t_bitsAt :: .int t_colourAt :: .int t_colourEnd :: .int t_paletteAt :: .int t_mapAt :: .int t_mapEnd :: .int t_channelsAt :: .int t_captureAt :: .int t_displayAt :: .int t_resolved :: []))), (h_t_map, .inl (cI, 48, .inl f_t_map)), (h_t_numbers, .inl (cJ, 4096, .inr (.inl f_t_numbers)))] → va_S A s.heap H locs → ∀ ls : Array Slot, lv_has ls 5 [(0, .ref h_t), (1, .int p1)] → W p l e R s m args below meth c H locs 0 0 Q (F0 m 91 ls [.int j91_s0]) := by
              intro j91_s0 E O H locs hP hD hS ls hl
              refine lv_istore (lv' := [(4, .int j91_s0), (0, .ref h_t), (1, .int p1)]) hx hb d_Mo_shown_91 hl (by decide) rfl (fun ls hl => ?_)
              refine lv_aload_n hx hb d_Mo_shown_93 rfl (lv_at hl 1 rfl) ?_
              refine va_get (D := D) (v := .ref h_t_numbers) hx hb hta i_Mo hown hK hP 0 rfl rfl 13 (by decide) (hta _ lk_Mo_23) (fun _ h9 => h9) rfl d_Mo_shown_94 ?_
              refine lv_aload_n hx hb d_Mo_shown_97 rfl (lv_at hl 1 rfl) ?_
              refine va_get (D := D) (v := .int t_columns) hx hb hta i_Mo hown hK hP 0 rfl rfl 11 (by decide) (hta _ lk_Mo_70) (fun _ h9 => h9) rfl d_Mo_shown_98 ?_
              refine lv_iload hx hb d_Mo_shown_101 (lv_at hl 0 rfl) ?_
              refine lv_imul hx hb d_Mo_shown_103 ?_
              refine lv_aload_n hx hb d_Mo_shown_104 rfl (lv_at hl 1 rfl) ?_
              refine va_get (D := D) (v := .ref h_t_map) hx hb hta i_Mo hown hK hP 0 rfl rfl 15 (by decide) (hta _ lk_Mo_27) (fun _ h9 => h9) rfl d_Mo_shown_105 ?_
              refine lv_iconst (v := 3) hx hb d_Mo_shown_108 (by decide) ?_
              refine lv_iload_n hx hb d_Mo_shown_109 rfl (lv_at hl 2 rfl) ?_
              refine lv_imul hx hb d_Mo_shown_110 ?_
              refine lv_iconst (v := 2) hx hb d_Mo_shown_111 (by decide) ?_
              refine lv_iadd hx hb d_Mo_shown_112 ?_
              refine va_iald hx hb hK hP 1 1 rfl rfl O.1 d_Mo_shown_113 ?_
              have O := O.2
              refine lv_iadd hx hb d_Mo_shown_114 ?_
              refine va_lald hx hb hK hP 2 2 rfl rfl O.1 d_Mo_shown_115 ?_
              have O := O.2
              exact kr_l hx hb hr hlk hQ hK hP hD hS ⟨((f_t_numbers ((t_columns * j91_s0) + (f_t_map ((3 * p1) + 2).toNatClampNeg)).toNatClampNeg, x34.2) : Int64 × Int32), E.trans E0.symm, rfl, rfl⟩ (by omega) (by omega) d_Mo_shown_116
            refine lv_if_ge (tgt := 73) hx hb d_Mo_shown_66 (by decide) (fun c_66 => ?_) (fun c_66 => ?_)
            · have E := (if_pos c_66).symm.trans E
              have O := Eq.mp (if_pos c_66) O
              refine lv_iload_n hx hb d_Mo_shown_73 rfl (lv_at hl 2 rfl) ?_
              refine lv_aload_n hx hb d_Mo_shown_74 rfl (lv_at hl 0 rfl) ?_
              refine va_get (D := D) (v := .int t_entries) hx hb hta i_Mo hown hK hP 0 rfl rfl 10 (by decide) (hta _ lk_Mo_67) (fun _ h9 => h9) rfl d_Mo_shown_75 ?_
              refine lv_icmp_lt (tgt := 90) hx hb d_Mo_shown_78 (by decide) (fun c_78 => ?_) (fun c_78 => ?_)
              · have E := (if_pos c_78).symm.trans E
                have O := Eq.mp (if_pos c_78) O
                refine lv_iload_n hx hb d_Mo_shown_90 rfl (lv_at hl 2 rfl) ?_
                exact J_91 p2 E O _ _ hP hD hS ls (lv_sub hl [0, 1] rfl)
              · have E := (if_neg c_78).symm.trans E
                have O := Eq.mp (if_neg c_78) O
                refine lv_aload_n hx hb d_Mo_shown_81 rfl (lv_at hl 0 rfl) ?_
                refine va_get (D := D) (v := .int t_entries) hx hb hta i_Mo hown hK hP 0 rfl rfl 10 (by decide) (hta _ lk_Mo_67) (fun _ h9 => h9) rfl d_Mo_shown_82 ?_
                refine lv_iconst (v := 1) hx hb d_Mo_shown_85 (by decide) ?_
                refine lv_isub hx hb d_Mo_shown_86 ?_
                refine lv_goto (tgt := 91) hx hb d_Mo_shown_87 (by decide) ?_
                exact J_91 (t_entries - 1) E O _ _ hP hD hS ls (lv_sub hl [0, 1] rfl)
            · have E := (if_neg c_66).symm.trans E
              have O := Eq.mp (if_neg c_66) O
              refine lv_iconst (v := 0) hx hb d_Mo_shown_69 (by decide) ?_
              refine lv_goto (tgt := 91) hx hb d_Mo_shown_70 (by decide) ?_
              exact J_91 0 E O _ _ hP hD hS ls (lv_sub hl [0, 1] rfl)
          · have E := (if_pos c_59).symm.trans E
            have O := Eq.mp (if_pos c_59) O
            refine lv_iload_n hx hb d_Mo_shown_62 rfl (lv_at hl 2 rfl) ?_
            refine lv_i2l (v := (p2 : Int32).toInt64) hx hb d_Mo_shown_63 rfl ?_
            exact kr_l hx hb hr hlk hQ hK hP hD hS ⟨(((p2 : Int32).toInt64, x34.2) : Int64 × Int32), E.trans E0.symm, rfl, rfl⟩ (by omega) (by omega) d_Mo_shown_64
      · have E := (if_neg c_37).symm.trans E
        have O := Eq.mp (if_neg c_37) O
        refine lv_lconst (v := 0) hx hb d_Mo_shown_40 (by decide) ?_
        exact kr_l hx hb hr hlk hQ hK hP hD hS ⟨((0, x34.2) : Int64 × Int32), E.trans E0.symm, rfl, rfl⟩ (by omega) (by omega) d_Mo_shown_41
    have J_29 : j_Mo_shown_29 t_entries t_columns t_maps f_t_map f_t_numbers p1 p2 = RES → oj_Mo_shown_29 t_entries t_columns t_maps f_t_map p1 p2 → ∀ (H : Heap) (locs : List Loc), va_P D classes [(h_t, .inr (7, (.int t_thrown :: .int t_high :: .int t_wide :: .int t_components :: .ref h_t_bits :: .int t_unknown :: .int t_rights :: .int t_colours :: .int t_profiled :: .ref h_t_profile :: .int t_entries :: .int t_columns :: .ref h_t_columnBits :: .ref h_t_numbers :: .int t_maps :: .ref h_t_map :: .int t_lines :: .ref h_t_line :: .ref h_t_resolutions :: .ref h_t_file :: .int t_size :: .int t_scanned :: .int t_refusedAt :: .int t_cursor :: .int t_streamAt :: .int t_streamMany :: .int t_name :: .int t_from :: .int t_end :: .int t_sizeAt :: .int t_bitsAt :: .int t_colourAt :: .int t_colourEnd :: .int t_paletteAt :: .int t_mapAt :: .int t_mapEnd :: .int t_channelsAt :: .int t_captureAt :: .int t_displayAt :: .int t_resolved :: []))), (h_t_map, .inl (cI, 48, .inl f_t_map)), (h_t_numbers, .inl (cJ, 4096, .inr (.inl f_t_numbers)))] H → va_D A [(h_t, .inr (7, (.int t_thrown :: .int t_high :: .int t_wide :: .int t_components :: .ref h_t_bits :: .int t_unknown :: .int t_rights :: .int t_colours :: .int t_profiled :: .ref h_t_profile :: .int t_entries :: .int t_columns :: .ref h_t_columnBits :: .ref h_t_numbers :: .int t_maps :: .ref h_t_map :: .int t_lines :: .ref h_t_line :: .ref h_t_resolutions :: .ref h_t_file :: .int t_size :: .int t_scanned :: .int t_refusedAt :: .int t_cursor :: .int t_streamAt :: .int t_streamMany :: .int t_name :: .int t_from :: .int t_end :: .int t_sizeAt :: .int t_bitsAt :: .int t_colourAt :: .int t_colourEnd :: .int t_paletteAt :: .int t_mapAt :: .int t_mapEnd :: .int t_channelsAt :: .int t_captureAt :: .int t_displayAt :: .int t_resolved :: []))), (h_t_map, .inl (cI, 48, .inl f_t_map)), (h_t_numbers, .inl (cJ, 4096, .inr (.inl f_t_numbers)))] → va_S A s.heap H locs → ∀ ls : Array Slot, lv_has ls 5 [(0, .ref h_t), (1, .int p1), (2, .int p2)] → W p l e R s m args below meth c H locs 0 0 Q (F0 m 29 ls [.ref h_t]) := by
      intro E O H locs hP hD hS ls hl
      refine lv_iconst (v := 1) hx hb d_Mo_shown_29 (by decide) ?_
      refine lv_goto (tgt := 34) hx hb d_Mo_shown_30 (by decide) ?_
      exact J_34 1 E O _ _ hP hD hS ls (lv_sub hl [0, 1, 2] rfl)
    refine lv_if_lt (tgt := 29) hx hb d_Mo_shown_21 (by decide) (fun c_21 => ?_) (fun c_21 => ?_)
    · have E := (if_pos c_21).symm.trans E
      have O := Eq.mp (if_pos c_21) O
      exact J_29  E O _ _ hP hD hS ls (lv_sub hl [1, 2, 3] rfl)
    · have E := (if_neg c_21).symm.trans E
      have O := Eq.mp (if_neg c_21) O
      refine lv_iload_n hx hb d_Mo_shown_24 rfl (lv_at hl 2 rfl) ?_
      refine lv_iload_n hx hb d_Mo_shown_25 rfl (lv_at hl 0 rfl) ?_
      refine lv_icmp_lt (tgt := 33) hx hb d_Mo_shown_26 (by decide) (fun c_26 => ?_) (fun c_26 => ?_)
      · have E := (if_pos c_26).symm.trans E
        have O := Eq.mp (if_pos c_26) O
        refine lv_iconst (v := 0) hx hb d_Mo_shown_33 (by decide) ?_
        exact J_34 0 E O _ _ hP hD hS ls (lv_sub hl [1, 2, 3] rfl)
      · have E := (if_neg c_26).symm.trans E
        have O := Eq.mp (if_neg c_26) O
        exact J_29  E O _ _ hP hD hS ls (lv_sub hl [1, 2, 3] rfl)
  refine lv_if_le (tgt := 14) hx hb d_Mo_shown_4 (by decide) (fun c_4 => ?_) (fun c_4 => ?_)
  · have E := (if_pos c_4).symm.trans E
    have O := Eq.mp (if_pos c_4) O
    refine lv_aload_n hx hb d_Mo_shown_14 rfl (lv_at hl 0 rfl) ?_
    refine va_get (D := D) (v := .int t_components) hx hb hta i_Mo hown hK hP 0 rfl rfl 3 (by decide) (hta _ lk_Mo_55) (fun _ h9 => h9) rfl d_Mo_shown_15 ?_
    exact J_18 t_components E O _ _ hP hD hS ls (lv_sub hl [0, 1, 2] rfl)
  · have E := (if_neg c_4).symm.trans E
    have O := Eq.mp (if_neg c_4) O
    refine lv_aload_n hx hb d_Mo_shown_7 rfl (lv_at hl 0 rfl) ?_
    refine va_get (D := D) (v := .int t_maps) hx hb hta i_Mo hown hK hP 0 rfl rfl 14 (by decide) (hta _ lk_Mo_73) (fun _ h9 => h9) rfl d_Mo_shown_8 ?_
    refine lv_goto (tgt := 18) hx hb d_Mo_shown_11 (by decide) ?_
    exact J_18 t_maps E O _ _ hP hD hS ls (lv_sub hl [0, 1, 2] rfl)
theorem d_Mo_clear_0 : decode b_Mo_clear 0 = .ok (.aload_n 0, 1) := by decide +kernel
theorem d_Mo_clear_1 : decode b_Mo_clear 1 = .ok (.iconst 0, 1) := by decide +kernel
theorem d_Mo_clear_2 : decode b_Mo_clear 2 = .ok (.putfield 43, 3) := by decide +kernel
theorem d_Mo_clear_5 : decode b_Mo_clear 5 = .ok (.aload_n 0, 1) := by decide +kernel
theorem d_Mo_clear_6 : decode b_Mo_clear 6 = .ok (.iconst 0, 1) := by decide +kernel
theorem d_Mo_clear_7 : decode b_Mo_clear 7 = .ok (.putfield 143, 3) := by decide +kernel
theorem d_Mo_clear_10 : decode b_Mo_clear 10 = .ok (.aload_n 0, 1) := by decide +kernel
theorem d_Mo_clear_11 : decode b_Mo_clear 11 = .ok (.iconst 0, 1) := by decide +kernel
theorem d_Mo_clear_12 : decode b_Mo_clear 12 = .ok (.putfield 146, 3) := by decide +kernel
theorem d_Mo_clear_15 : decode b_Mo_clear 15 = .ok (.return_, 1) := by decide +kernel
def om_Mo_clear : Prop :=
  True
set_option maxHeartbeats 4000000 in
set_option maxRecDepth 100000 in
theorem c_Mo_clear (l : Launch) (D : va_G) (cB cI cJ : ClassId) (h_t h_t_bits h_t_profile h_t_columnBits h_t_numbers h_t_map h_t_line h_t_resolutions h_t_file : Nat) (t_thrown : Int32) (t_high : Int32) (t_wide : Int32) (t_components : Int32) (t_unknown : Int32) (t_rights : Int32) (t_colours : Int32) (t_profiled : Int32) (t_entries : Int32) (t_columns : Int32) (t_maps : Int32) (t_lines : Int32) (t_size : Int32) (t_scanned : Int32) (t_refusedAt : Int32) (t_cursor : Int32) (t_streamAt : Int32) (t_streamMany : Int32) (t_name : Int32) (t_from : Int32) (t_end : Int32) (t_sizeAt : Int32) (t_bitsAt : Int32) (t_colourAt : Int32) (t_colourEnd : Int32) (t_paletteAt : Int32) (t_mapAt : Int32) (t_mapEnd : Int32) (t_channelsAt : Int32) (t_captureAt : Int32) (t_displayAt : Int32) (t_resolved : Int32) (hO : om_Mo_clear) (sz : Nat) : Ct l D cB cI cJ y_Mo_clear b_Mo_clear 1 none 0 0 0 0 [.ref h_t] [(h_t, .inr (7, (.int t_thrown :: .int t_high :: .int t_wide :: .int t_components :: .ref h_t_bits :: .int t_unknown :: .int t_rights :: .int t_colours :: .int t_profiled :: .ref h_t_profile :: .int t_entries :: .int t_columns :: .ref h_t_columnBits :: .ref h_t_numbers :: .int t_maps :: .ref h_t_map :: .int t_lines :: .ref h_t_line :: .ref h_t_resolutions :: .ref h_t_file :: .int t_size :: .int t_scanned :: .int t_refusedAt :: .int t_cursor :: .int t_streamAt :: .int t_streamMany :: .int t_name :: .int t_from :: .int t_end :: .int t_sizeAt :: .int t_bitsAt :: .int t_colourAt :: .int t_colourEnd :: .int t_paletteAt :: .int t_mapAt :: .int t_mapEnd :: .int t_channelsAt :: .int t_captureAt :: .int t_displayAt :: .int t_resolved :: [])))] (fun v w1 => v = none ∧ w1 = [(h_t, .inr (7, (.int 0 :: .int t_high :: .int t_wide :: .int t_components :: .ref h_t_bits :: .int t_unknown :: .int t_rights :: .int t_colours :: .int t_profiled :: .ref h_t_profile :: .int t_entries :: .int t_columns :: .ref h_t_columnBits :: .ref h_t_numbers :: .int t_maps :: .ref h_t_map :: .int t_lines :: .ref h_t_line :: .ref h_t_resolutions :: .ref h_t_file :: .int 0 :: .int 0 :: .int t_refusedAt :: .int t_cursor :: .int t_streamAt :: .int t_streamMany :: .int t_name :: .int t_from :: .int t_end :: .int t_sizeAt :: .int t_bitsAt :: .int t_colourAt :: .int t_colourEnd :: .int t_paletteAt :: .int t_mapAt :: .int t_mapEnd :: .int t_channelsAt :: .int t_captureAt :: .int t_displayAt :: .int t_resolved :: [])))]) sz := by
  refine Ct.of (by decide) (Nat.le_of_ble_eq_true rfl) ?_
  intro p e R s m args below meth c A ls Q hx hb hr hlk hml hta hown hin hK hN hA hRf hRl hRc hRs hP hD hS hl hQ
  have hl : lv_has ls 1 [(0, .ref h_t)] := hl
  have O := hO
  refine lv_aload_n hx hb d_Mo_clear_0 rfl (lv_at hl 0 rfl) ?_
  refine lv_iconst (v := 0) hx hb d_Mo_clear_1 (by decide) ?_
  refine va_put (D := D) (ty := .int) hx hb hta i_Mo t_Mo t_Mo_ok n_Mo hown hK hP hD hS 0 rfl rfl 0 (by decide) (hta _ lk_Mo_43) (fun _ h9 => h9) rfl (by decide +kernel) rfl rfl (Nat.le_of_ble_eq_true rfl) d_Mo_clear_2 (fun H locs (hP : va_P D classes [(h_t, .inr (7, (.int 0 :: .int t_high :: .int t_wide :: .int t_components :: .ref h_t_bits :: .int t_unknown :: .int t_rights :: .int t_colours :: .int t_profiled :: .ref h_t_profile :: .int t_entries :: .int t_columns :: .ref h_t_columnBits :: .ref h_t_numbers :: .int t_maps :: .ref h_t_map :: .int t_lines :: .ref h_t_line :: .ref h_t_resolutions :: .ref h_t_file :: .int t_size :: .int t_scanned :: .int t_refusedAt :: .int t_cursor :: .int t_streamAt :: .int t_streamMany :: .int t_name :: .int t_from :: .int t_end :: .int t_sizeAt :: .int t_bitsAt :: .int t_colourAt :: .int t_colourEnd :: .int t_paletteAt :: .int t_mapAt :: .int t_mapEnd :: .int t_channelsAt :: .int t_captureAt :: .int t_displayAt :: .int t_resolved :: [])))] H) (hD : va_D A [(h_t, .inr (7, (.int 0 :: .int t_high :: .int t_wide :: .int t_components :: .ref h_t_bits :: .int t_unknown :: .int t_rights :: .int t_colours :: .int t_profiled :: .ref h_t_profile :: .int t_entries :: .int t_columns :: .ref h_t_columnBits :: .ref h_t_numbers :: .int t_maps :: .ref h_t_map :: .int t_lines :: .ref h_t_line :: .ref h_t_resolutions :: .ref h_t_file :: .int t_size :: .int t_scanned :: .int t_refusedAt :: .int t_cursor :: .int t_streamAt :: .int t_streamMany :: .int t_name :: .int t_from :: .int t_end :: .int t_sizeAt :: .int t_bitsAt :: .int t_colourAt :: .int t_colourEnd :: .int t_paletteAt :: .int t_mapAt :: .int t_mapEnd :: .int t_channelsAt :: .int t_captureAt :: .int t_displayAt :: .int t_resolved :: [])))]) hS => ?_)
  refine lv_aload_n hx hb d_Mo_clear_5 rfl (lv_at hl 0 rfl) ?_
  refine lv_iconst (v := 0) hx hb d_Mo_clear_6 (by decide) ?_
  refine va_put (D := D) (ty := .int) hx hb hta i_Mo t_Mo t_Mo_ok n_Mo hown hK hP hD hS 0 rfl rfl 20 (by decide) (hta _ lk_Mo_143) (fun _ h9 => h9) rfl (by decide +kernel) rfl rfl (Nat.le_of_ble_eq_true rfl) d_Mo_clear_7 (fun H locs (hP : va_P D classes [(h_t, .inr (7, (.int 0 :: .int t_high :: .int t_wide :: .int t_components :: .ref h_t_bits :: .int t_unknown :: .int t_rights :: .int t_colours :: .int t_profiled :: .ref h_t_profile :: .int t_entries :: .int t_columns :: .ref h_t_columnBits :: .ref h_t_numbers :: .int t_maps :: .ref h_t_map :: .int t_lines :: .ref h_t_line :: .ref h_t_resolutions :: .ref h_t_file :: .int 0 :: .int t_scanned :: .int t_refusedAt :: .int t_cursor :: .int t_streamAt :: .int t_streamMany :: .int t_name :: .int t_from :: .int t_end :: .int t_sizeAt :: .int t_bitsAt :: .int t_colourAt :: .int t_colourEnd :: .int t_paletteAt :: .int t_mapAt :: .int t_mapEnd :: .int t_channelsAt :: .int t_captureAt :: .int t_displayAt :: .int t_resolved :: [])))] H) (hD : va_D A [(h_t, .inr (7, (.int 0 :: .int t_high :: .int t_wide :: .int t_components :: .ref h_t_bits :: .int t_unknown :: .int t_rights :: .int t_colours :: .int t_profiled :: .ref h_t_profile :: .int t_entries :: .int t_columns :: .ref h_t_columnBits :: .ref h_t_numbers :: .int t_maps :: .ref h_t_map :: .int t_lines :: .ref h_t_line :: .ref h_t_resolutions :: .ref h_t_file :: .int 0 :: .int t_scanned :: .int t_refusedAt :: .int t_cursor :: .int t_streamAt :: .int t_streamMany :: .int t_name :: .int t_from :: .int t_end :: .int t_sizeAt :: .int t_bitsAt :: .int t_colourAt :: .int t_colourEnd :: .int t_paletteAt :: .int t_mapAt :: .int t_mapEnd :: .int t_channelsAt :: .int t_captureAt :: .int t_displayAt :: .int t_resolved :: [])))]) hS => ?_)
  refine lv_aload_n hx hb d_Mo_clear_10 rfl (lv_at hl 0 rfl) ?_
  refine lv_iconst (v := 0) hx hb d_Mo_clear_11 (by decide) ?_
  refine va_put (D := D) (ty := .boolean) hx hb hta i_Mo t_Mo t_Mo_ok n_Mo hown hK hP hD hS 0 rfl rfl 21 (by decide) (hta _ lk_Mo_146) (fun _ h9 => h9) rfl (by decide +kernel) rfl rfl (Nat.le_of_ble_eq_true rfl) d_Mo_clear_12 (fun H locs (hP : va_P D classes [(h_t, .inr (7, (.int 0 :: .int t_high :: .int t_wide :: .int t_components :: .ref h_t_bits :: .int t_unknown :: .int t_rights :: .int t_colours :: .int t_profiled :: .ref h_t_profile :: .int t_entries :: .int t_columns :: .ref h_t_columnBits :: .ref h_t_numbers :: .int t_maps :: .ref h_t_map :: .int t_lines :: .ref h_t_line :: .ref h_t_resolutions :: .ref h_t_file :: .int 0 :: .int 0 :: .int t_refusedAt :: .int t_cursor :: .int t_streamAt :: .int t_streamMany :: .int t_name :: .int t_from :: .int t_end :: .int t_sizeAt :: .int t_bitsAt :: .int t_colourAt :: .int t_colourEnd :: .int t_paletteAt :: .int t_mapAt :: .int t_mapEnd :: .int t_channelsAt :: .int t_captureAt :: .int t_displayAt :: .int t_resolved :: [])))] H) (hD : va_D A [(h_t, .inr (7, (.int 0 :: .int t_high :: .int t_wide :: .int t_components :: .ref h_t_bits :: .int t_unknown :: .int t_rights :: .int t_colours :: .int t_profiled :: .ref h_t_profile :: .int t_entries :: .int t_columns :: .ref h_t_columnBits :: .ref h_t_numbers :: .int t_maps :: .ref h_t_map :: .int t_lines :: .ref h_t_line :: .ref h_t_resolutions :: .ref h_t_file :: .int 0 :: .int 0 :: .int t_refusedAt :: .int t_cursor :: .int t_streamAt :: .int t_streamMany :: .int t_name :: .int t_from :: .int t_end :: .int t_sizeAt :: .int t_bitsAt :: .int t_colourAt :: .int t_colourEnd :: .int t_paletteAt :: .int t_mapAt :: .int t_mapEnd :: .int t_channelsAt :: .int t_captureAt :: .int t_displayAt :: .int t_resolved :: [])))]) hS => ?_)
  exact kr_v hx hb hr hlk hQ hK hP hD hS ⟨rfl, rfl⟩ (by omega) (by omega) d_Mo_clear_15
theorem d_Mo_put_0 : decode b_Mo_put 0 = .ok (.aload_n 0, 1) := by decide +kernel
theorem d_Mo_put_1 : decode b_Mo_put 1 = .ok (.iload_n 1, 1) := by decide +kernel
theorem d_Mo_put_2 : decode b_Mo_put 2 = .ok (.i2l, 1) := by decide +kernel
theorem d_Mo_put_3 : decode b_Mo_put 3 = .ok (.lconst 0, 1) := by decide +kernel
theorem d_Mo_put_4 : decode b_Mo_put 4 = .ok (.ldc2_w 94, 3) := by decide +kernel
theorem d_Mo_put_7 : decode b_Mo_put 7 = .ok (.invokestatic 81, 3) := by decide +kernel
theorem d_Mo_put_10 : decode b_Mo_put 10 = .ok (.ifCond .ne 7, 3) := by decide +kernel
theorem d_Mo_put_13 : decode b_Mo_put 13 = .ok (.iconst 1, 1) := by decide +kernel
theorem d_Mo_put_14 : decode b_Mo_put 14 = .ok (.goto 17, 3) := by decide +kernel
theorem d_Mo_put_17 : decode b_Mo_put 17 = .ok (.aload_n 0, 1) := by decide +kernel
theorem d_Mo_put_18 : decode b_Mo_put 18 = .ok (.getfield 143, 3) := by decide +kernel
theorem d_Mo_put_21 : decode b_Mo_put 21 = .ok (.ldc 36, 2) := by decide +kernel
theorem d_Mo_put_23 : decode b_Mo_put 23 = .ok (.if_icmp .ne 7, 3) := by decide +kernel
theorem d_Mo_put_26 : decode b_Mo_put 26 = .ok (.iconst 2, 1) := by decide +kernel
theorem d_Mo_put_27 : decode b_Mo_put 27 = .ok (.goto 4, 3) := by decide +kernel
theorem d_Mo_put_30 : decode b_Mo_put 30 = .ok (.iconst 0, 1) := by decide +kernel
theorem d_Mo_put_31 : decode b_Mo_put 31 = .ok (.invokevirtual 89, 3) := by decide +kernel
theorem d_Mo_put_34 : decode b_Mo_put 34 = .ok (.ifCond .eq 5, 3) := by decide +kernel
theorem d_Mo_put_37 : decode b_Mo_put 37 = .ok (.iconst 0, 1) := by decide +kernel
theorem d_Mo_put_38 : decode b_Mo_put 38 = .ok (.ireturn, 1) := by decide +kernel
theorem d_Mo_put_39 : decode b_Mo_put 39 = .ok (.aload_n 0, 1) := by decide +kernel
theorem d_Mo_put_40 : decode b_Mo_put 40 = .ok (.getfield 37, 3) := by decide +kernel
theorem d_Mo_put_43 : decode b_Mo_put 43 = .ok (.aload_n 0, 1) := by decide +kernel
theorem d_Mo_put_44 : decode b_Mo_put 44 = .ok (.getfield 143, 3) := by decide +kernel
theorem d_Mo_put_47 : decode b_Mo_put 47 = .ok (.iload_n 1, 1) := by decide +kernel
theorem d_Mo_put_48 : decode b_Mo_put 48 = .ok (.iastore, 1) := by decide +kernel
theorem d_Mo_put_49 : decode b_Mo_put 49 = .ok (.aload_n 0, 1) := by decide +kernel
theorem d_Mo_put_50 : decode b_Mo_put 50 = .ok (.dup, 1) := by decide +kernel
theorem d_Mo_put_51 : decode b_Mo_put 51 = .ok (.getfield 143, 3) := by decide +kernel
theorem d_Mo_put_54 : decode b_Mo_put 54 = .ok (.iconst 1, 1) := by decide +kernel
theorem d_Mo_put_55 : decode b_Mo_put 55 = .ok (.iadd, 1) := by decide +kernel
theorem d_Mo_put_56 : decode b_Mo_put 56 = .ok (.putfield 143, 3) := by decide +kernel
theorem d_Mo_put_59 : decode b_Mo_put 59 = .ok (.aload_n 0, 1) := by decide +kernel
theorem d_Mo_put_60 : decode b_Mo_put 60 = .ok (.iconst 0, 1) := by decide +kernel
theorem d_Mo_put_61 : decode b_Mo_put 61 = .ok (.putfield 146, 3) := by decide +kernel
theorem d_Mo_put_64 : decode b_Mo_put 64 = .ok (.aload_n 0, 1) := by decide +kernel
theorem d_Mo_put_65 : decode b_Mo_put 65 = .ok (.getfield 143, 3) := by decide +kernel
theorem d_Mo_put_68 : decode b_Mo_put 68 = .ok (.ireturn, 1) := by decide +kernel
def k_Mo_put_31 (t_size : Int32) (t_scanned : Int32) (f_t_file : Nat → Int32) (p1 : Int32) (x31 : Int32 × Int32) : Int32 × Int32 × Int32 × Int32 × (Nat → Int32) :=
  if x31.1 = 0 then (t_size + 1, x31.2, t_size + 1, 0, upd f_t_file t_size.toNatClampNeg p1) else (0, x31.2, t_size, t_scanned, f_t_file)
def ok_Mo_put_31 (t_size : Int32) (x31 : Int32 × Int32) : Prop :=
  if x31.1 = 0 then (vp_in t_size 65536 ∧ True) else True
def j_Mo_put_31 (t_size : Int32) (t_scanned : Int32) (f_t_file : Nat → Int32) (p1 : Int32) (j31_s1 : Int32) : Int32 × Int32 × Int32 × Int32 × (Nat → Int32) :=
  k_Mo_put_31 t_size t_scanned f_t_file p1 (m_Mo_refuse j31_s1)
def oj_Mo_put_31 (t_size : Int32) (j31_s1 : Int32) : Prop :=
  om_Mo_refuse j31_s1 ∧ (ok_Mo_put_31 t_size (m_Mo_refuse j31_s1))
def k_Mo_put_7 (t_size : Int32) (t_scanned : Int32) (f_t_file : Nat → Int32) (p1 : Int32) (x7 : Int32) : Int32 × Int32 × Int32 × Int32 × (Nat → Int32) :=
  if x7 = 0 then (j_Mo_put_31 t_size t_scanned f_t_file p1 1) else (if t_size = 65536 then (j_Mo_put_31 t_size t_scanned f_t_file p1 2) else (j_Mo_put_31 t_size t_scanned f_t_file p1 0))
def ok_Mo_put_7 (t_size : Int32) (x7 : Int32) : Prop :=
  if x7 = 0 then (oj_Mo_put_31 t_size 1) else (if t_size = 65536 then (oj_Mo_put_31 t_size 2) else (oj_Mo_put_31 t_size 0))
def om_Mo_put (t_size : Int32) (p1 : Int32) : Prop :=
  om_Mo_in ((p1 : Int32).toInt64) 0 255 ∧ (ok_Mo_put_7 t_size (m_Mo_in ((p1 : Int32).toInt64) 0 255))
def m_Mo_put (t_size : Int32) (t_scanned : Int32) (f_t_file : Nat → Int32) (p1 : Int32) : Int32 × Int32 × Int32 × Int32 × (Nat → Int32) :=
  k_Mo_put_7 t_size t_scanned f_t_file p1 (m_Mo_in ((p1 : Int32).toInt64) 0 255)
set_option maxHeartbeats 4000000 in
set_option maxRecDepth 100000 in
theorem c_Mo_put (l : Launch) (D : va_G) (cB cI cJ : ClassId) (h_t h_t_bits h_t_profile h_t_columnBits h_t_numbers h_t_map h_t_line h_t_resolutions h_t_file : Nat) (t_thrown : Int32) (t_high : Int32) (t_wide : Int32) (t_components : Int32) (t_unknown : Int32) (t_rights : Int32) (t_colours : Int32) (t_profiled : Int32) (t_entries : Int32) (t_columns : Int32) (t_maps : Int32) (t_lines : Int32) (t_size : Int32) (t_scanned : Int32) (t_refusedAt : Int32) (t_cursor : Int32) (t_streamAt : Int32) (t_streamMany : Int32) (t_name : Int32) (t_from : Int32) (t_end : Int32) (t_sizeAt : Int32) (t_bitsAt : Int32) (t_colourAt : Int32) (t_colourEnd : Int32) (t_paletteAt : Int32) (t_mapAt : Int32) (t_mapEnd : Int32) (t_channelsAt : Int32) (t_captureAt : Int32) (t_displayAt : Int32) (t_resolved : Int32) (f_t_file : Nat → Int32) (p1 : Int32) (hO : om_Mo_put t_size p1) (sz : Nat) : Ct l D cB cI cJ y_Mo_put b_Mo_put 2 (some .int) 1 25 0 0 [.ref h_t, .int p1] [(h_t, .inr (7, (.int t_thrown :: .int t_high :: .int t_wide :: .int t_components :: .ref h_t_bits :: .int t_unknown :: .int t_rights :: .int t_colours :: .int t_profiled :: .ref h_t_profile :: .int t_entries :: .int t_columns :: .ref h_t_columnBits :: .ref h_t_numbers :: .int t_maps :: .ref h_t_map :: .int t_lines :: .ref h_t_line :: .ref h_t_resolutions :: .ref h_t_file :: .int t_size :: .int t_scanned :: .int t_refusedAt :: .int t_cursor :: .int t_streamAt :: .int t_streamMany :: .int t_name :: .int t_from :: .int t_end :: .int t_sizeAt :: .int t_bitsAt :: .int t_colourAt :: .int t_colourEnd :: .int t_paletteAt :: .int t_mapAt :: .int t_mapEnd :: .int t_channelsAt :: .int t_captureAt :: .int t_displayAt :: .int t_resolved :: []))), (h_t_file, .inl (cI, 65536, .inl f_t_file))] (fun v w1 => ∃ (x : Int32 × Int32 × Int32 × Int32 × (Nat → Int32)), x = m_Mo_put t_size t_scanned f_t_file p1 ∧ v = some (.int x.1) ∧ w1 = [(h_t, .inr (7, (.int x.2.1 :: .int t_high :: .int t_wide :: .int t_components :: .ref h_t_bits :: .int t_unknown :: .int t_rights :: .int t_colours :: .int t_profiled :: .ref h_t_profile :: .int t_entries :: .int t_columns :: .ref h_t_columnBits :: .ref h_t_numbers :: .int t_maps :: .ref h_t_map :: .int t_lines :: .ref h_t_line :: .ref h_t_resolutions :: .ref h_t_file :: .int x.2.2.1 :: .int x.2.2.2.1 :: .int t_refusedAt :: .int t_cursor :: .int t_streamAt :: .int t_streamMany :: .int t_name :: .int t_from :: .int t_end :: .int t_sizeAt :: .int t_bitsAt :: .int t_colourAt :: .int t_colourEnd :: .int t_paletteAt :: .int t_mapAt :: .int t_mapEnd :: .int t_channelsAt :: .int t_captureAt :: .int t_displayAt :: .int t_resolved :: []))), (h_t_file, .inl (cI, 65536, .inl x.2.2.2.2))]) sz := by
  refine Ct.of (by decide) (Nat.le_of_ble_eq_true rfl) ?_
  intro p e R s m args below meth c A ls Q hx hb hr hlk hml hta hown hin hK hN hA hRf hRl hRc hRs hP hD hS hl hQ
  have hl : lv_has ls 2 [(0, .ref h_t), (1, .int p1)] := hl
  obtain ⟨RES, E0⟩ : ∃ R, m_Mo_put t_size t_scanned f_t_file p1 = R := ⟨_, rfl⟩
  have E := E0
  have O := hO
  refine lv_aload_n hx hb d_Mo_put_0 rfl (lv_at hl 0 rfl) ?_
  refine lv_iload_n hx hb d_Mo_put_1 rfl (lv_at hl 1 rfl) ?_
  refine lv_i2l (v := (p1 : Int32).toInt64) hx hb d_Mo_put_2 rfl ?_
  refine lv_lconst (v := 0) hx hb d_Mo_put_3 (by decide) ?_
  refine lv_ldc2 (v := 255) hx hb hown (hta _ lk_Mo_94) d_Mo_put_4 ?_
  refine kc_S (As := [.long ((p1 : Int32).toInt64), .long 0, .long 255]) (rest := [.ref h_t]) (wr := [(h_t, .inr (7, (.int t_thrown :: .int t_high :: .int t_wide :: .int t_components :: .ref h_t_bits :: .int t_unknown :: .int t_rights :: .int t_colours :: .int t_profiled :: .ref h_t_profile :: .int t_entries :: .int t_columns :: .ref h_t_columnBits :: .ref h_t_numbers :: .int t_maps :: .ref h_t_map :: .int t_lines :: .ref h_t_line :: .ref h_t_resolutions :: .ref h_t_file :: .int t_size :: .int t_scanned :: .int t_refusedAt :: .int t_cursor :: .int t_streamAt :: .int t_streamMany :: .int t_name :: .int t_from :: .int t_end :: .int t_sizeAt :: .int t_bitsAt :: .int t_colourAt :: .int t_colourEnd :: .int t_paletteAt :: .int t_mapAt :: .int t_mapEnd :: .int t_channelsAt :: .int t_captureAt :: .int t_displayAt :: .int t_resolved :: []))), (h_t_file, .inl (cI, 65536, .inl f_t_file))]) [] [0, 1] ⟨hx, hb, hml, hown, hta⟩ hK hN hP hD hS hA (c_Mo_in l D cB cI cJ ((p1 : Int32).toInt64) 0 255 O.1 _) (hta _ lk_Mo_81) (hta _ ini_Mo) (hta _ code_Mo_in) code_Mo_in (hta _ stat_Mo_in) hd_Mo_in rfl ⟨by omega, by omega⟩ rfl rfl (by decide) (by decide) (by decide) rfl hl.1 (lv_room (Nat.le_of_ble_eq_true rfl)) d_Mo_put_7 ⟨by omega, by omega⟩ (fun v w1 H locs hw hP hD hS => ?_)
  obtain ⟨x7, hx7, rfl, rfl⟩ := hw
  have hP : va_P D classes [(h_t, .inr (7, (.int t_thrown :: .int t_high :: .int t_wide :: .int t_components :: .ref h_t_bits :: .int t_unknown :: .int t_rights :: .int t_colours :: .int t_profiled :: .ref h_t_profile :: .int t_entries :: .int t_columns :: .ref h_t_columnBits :: .ref h_t_numbers :: .int t_maps :: .ref h_t_map :: .int t_lines :: .ref h_t_line :: .ref h_t_resolutions :: .ref h_t_file :: .int t_size :: .int t_scanned :: .int t_refusedAt :: .int t_cursor :: .int t_streamAt :: .int t_streamMany :: .int t_name :: .int t_from :: .int t_end :: .int t_sizeAt :: .int t_bitsAt :: .int t_colourAt :: .int t_colourEnd :: .int t_paletteAt :: .int t_mapAt :: .int t_mapEnd :: .int t_channelsAt :: .int t_captureAt :: .int t_displayAt :: .int t_resolved :: []))), (h_t_file, .inl (cI, 65536, .inl f_t_file))] H := hP.sub [0, 1] rfl
  have hD : va_D A [(h_t, .inr (7, (.int t_thrown :: .int t_high :: .int t_wide :: .int t_components :: .ref h_t_bits :: .int t_unknown :: .int t_rights :: .int t_colours :: .int t_profiled :: .ref h_t_profile :: .int t_entries :: .int t_columns :: .ref h_t_columnBits :: .ref h_t_numbers :: .int t_maps :: .ref h_t_map :: .int t_lines :: .ref h_t_line :: .ref h_t_resolutions :: .ref h_t_file :: .int t_size :: .int t_scanned :: .int t_refusedAt :: .int t_cursor :: .int t_streamAt :: .int t_streamMany :: .int t_name :: .int t_from :: .int t_end :: .int t_sizeAt :: .int t_bitsAt :: .int t_colourAt :: .int t_colourEnd :: .int t_paletteAt :: .int t_mapAt :: .int t_mapEnd :: .int t_channelsAt :: .int t_captureAt :: .int t_displayAt :: .int t_resolved :: []))), (h_t_file, .inl (cI, 65536, .inl f_t_file))] := hD.sub [0, 1] (by decide) rfl
  refine W.eq (g2 := F0 m 10 ls [.int x7, .ref h_t]) rfl ?_
  have O := O.2
  have E : k_Mo_put_7 t_size t_scanned f_t_file p1 x7 = RES := (congrArg (k_Mo_put_7 t_size t_scanned f_t_file p1) hx7).trans E
  have O : ok_Mo_put_7 t_size x7 := by rw [hx7]; exact O
  have J_31 : ∀ (j31_s1 : Int32), j_Mo_put_31 t_size t_scanned f_t_file p1 j31_s1 = RES → oj_Mo_put_31 t_size j31_s1 → ∀ (H : Heap) (locs : List Loc), va_P D classes [(h_t, .inr (7, (.int t_thrown :: .int t_high :: .int t_wide :: .int t_components :: .ref h_t_bits :: .int t_unknown :: .int t_rights :: .int t_colours :: .int t_profiled :: .ref h_t_profile :: .int t_entries :: .int t_columns :: .ref h_t_columnBits :: .ref h_t_numbers :: .int t_maps :: .ref h_t_map :: .int t_lines :: .ref h_t_line :: .ref h_t_resolutions :: .ref h_t_file :: .int t_size :: .int t_scanned :: .int t_refusedAt :: .int t_cursor :: .int t_streamAt :: .int t_streamMany :: .int t_name :: .int t_from :: .int t_end :: .int t_sizeAt :: .int t_bitsAt :: .int t_colourAt :: .int t_colourEnd :: .int t_paletteAt :: .int t_mapAt :: .int t_mapEnd :: .int t_channelsAt :: .int t_captureAt :: .int t_displayAt :: .int t_resolved :: []))), (h_t_file, .inl (cI, 65536, .inl f_t_file))] H → va_D A [(h_t, .inr (7, (.int t_thrown :: .int t_high :: .int t_wide :: .int t_components :: .ref h_t_bits :: .int t_unknown :: .int t_rights :: .int t_colours :: .int t_profiled :: .ref h_t_profile :: .int t_entries :: .int t_columns :: .ref h_t_columnBits :: .ref h_t_numbers :: .int t_maps :: .ref h_t_map :: .int t_lines :: .ref h_t_line :: .ref h_t_resolutions :: .ref h_t_file :: .int t_size :: .int t_scanned :: .int t_refusedAt :: .int t_cursor :: .int t_streamAt :: .int t_streamMany :: .int t_name :: .int t_from :: .int t_end :: .int t_sizeAt :: .int t_bitsAt :: .int t_colourAt :: .int t_colourEnd :: .int t_paletteAt :: .int t_mapAt :: .int t_mapEnd :: .int t_channelsAt :: .int t_captureAt :: .int t_displayAt :: .int t_resolved :: []))), (h_t_file, .inl (cI, 65536, .inl f_t_file))] → va_S A s.heap H locs → ∀ ls : Array Slot, lv_has ls 2 [(0, .ref h_t), (1, .int p1)] → W p l e R s m args below meth c H locs 0 0 Q (F0 m 31 ls [.int j31_s1, .ref h_t]) := by
    intro j31_s1 E O H locs hP hD hS ls hl
    refine kc_V (As := [.int j31_s1]) (rest := []) (wr := [(h_t_file, .inl (cI, 65536, .inl f_t_file))]) [0] [1] ⟨hx, hb, hml, hown, hta⟩ hK hN hP hD hS hA (c_Mo_refuse l D cB cI cJ h_t h_t_bits h_t_profile h_t_columnBits h_t_numbers h_t_map h_t_line h_t_resolutions h_t_file t_thrown t_high t_wide t_components t_unknown t_rights t_colours t_profiled t_entries t_columns t_maps t_lines t_size t_scanned t_refusedAt t_cursor t_streamAt t_streamMany t_name t_from t_end t_sizeAt t_bitsAt t_colourAt t_colourEnd t_paletteAt t_mapAt t_mapEnd t_channelsAt t_captureAt t_displayAt t_resolved j31_s1 O.1 _) (hta _ lk_Mo_89) (hta _ ini_Mo) (hta _ code_Mo_refuse) code_Mo_refuse (hta _ inst_Mo_refuse) (hta _ sel_Mo_refuse) hd_Mo_refuse rfl ⟨by omega, by omega⟩ (ci := 7) 0 rfl rfl rfl rfl (by decide) (by decide) (by decide) rfl hl.1 (lv_room (Nat.le_of_ble_eq_true rfl)) d_Mo_put_31 ⟨by omega, by omega⟩ (fun v w1 H locs hw hP hD hS => ?_)
    obtain ⟨x31, hx31, rfl, rfl⟩ := hw
    have hP : va_P D classes [(h_t, .inr (7, (.int x31.2 :: .int t_high :: .int t_wide :: .int t_components :: .ref h_t_bits :: .int t_unknown :: .int t_rights :: .int t_colours :: .int t_profiled :: .ref h_t_profile :: .int t_entries :: .int t_columns :: .ref h_t_columnBits :: .ref h_t_numbers :: .int t_maps :: .ref h_t_map :: .int t_lines :: .ref h_t_line :: .ref h_t_resolutions :: .ref h_t_file :: .int t_size :: .int t_scanned :: .int t_refusedAt :: .int t_cursor :: .int t_streamAt :: .int t_streamMany :: .int t_name :: .int t_from :: .int t_end :: .int t_sizeAt :: .int t_bitsAt :: .int t_colourAt :: .int t_colourEnd :: .int t_paletteAt :: .int t_mapAt :: .int t_mapEnd :: .int t_channelsAt :: .int t_captureAt :: .int t_displayAt :: .int t_resolved :: []))), (h_t_file, .inl (cI, 65536, .inl f_t_file))] H := hP.sub [1, 0] rfl
    have hD : va_D A [(h_t, .inr (7, (.int x31.2 :: .int t_high :: .int t_wide :: .int t_components :: .ref h_t_bits :: .int t_unknown :: .int t_rights :: .int t_colours :: .int t_profiled :: .ref h_t_profile :: .int t_entries :: .int t_columns :: .ref h_t_columnBits :: .ref h_t_numbers :: .int t_maps :: .ref h_t_map :: .int t_lines :: .ref h_t_line :: .ref h_t_resolutions :: .ref h_t_file :: .int t_size :: .int t_scanned :: .int t_refusedAt :: .int t_cursor :: .int t_streamAt :: .int t_streamMany :: .int t_name :: .int t_from :: .int t_end :: .int t_sizeAt :: .int t_bitsAt :: .int t_colourAt :: .int t_colourEnd :: .int t_paletteAt :: .int t_mapAt :: .int t_mapEnd :: .int t_channelsAt :: .int t_captureAt :: .int t_displayAt :: .int t_resolved :: []))), (h_t_file, .inl (cI, 65536, .inl f_t_file))] := hD.sub [1, 0] (by decide) rfl
    refine W.eq (g2 := F0 m 34 ls [.int x31.1]) rfl ?_
    have O := O.2
    have E : k_Mo_put_31 t_size t_scanned f_t_file p1 x31 = RES := (congrArg (k_Mo_put_31 t_size t_scanned f_t_file p1) hx31).trans E
    have O : ok_Mo_put_31 t_size x31 := by rw [hx31]; exact O
    refine lv_if_eq (tgt := 39) hx hb d_Mo_put_34 (by decide) (fun c_34 => ?_) (fun c_34 => ?_)
    · have E := (if_pos c_34).symm.trans E
      have O := Eq.mp (if_pos c_34) O
      refine lv_aload_n hx hb d_Mo_put_39 rfl (lv_at hl 0 rfl) ?_
      refine va_get (D := D) (v := .ref h_t_file) hx hb hta i_Mo hown hK hP 0 rfl rfl 19 (by decide) (hta _ lk_Mo_37) (fun _ h9 => h9) rfl d_Mo_put_40 ?_
      refine lv_aload_n hx hb d_Mo_put_43 rfl (lv_at hl 0 rfl) ?_
      refine va_get (D := D) (v := .int t_size) hx hb hta i_Mo hown hK hP 0 rfl rfl 20 (by decide) (hta _ lk_Mo_143) (fun _ h9 => h9) rfl d_Mo_put_44 ?_
      refine lv_iload_n hx hb d_Mo_put_47 rfl (lv_at hl 1 rfl) ?_
      refine va_iast hx hb hK hP hD hS 1 1 rfl rfl O.1 d_Mo_put_48 (fun H locs (hP : va_P D classes [(h_t, .inr (7, (.int x31.2 :: .int t_high :: .int t_wide :: .int t_components :: .ref h_t_bits :: .int t_unknown :: .int t_rights :: .int t_colours :: .int t_profiled :: .ref h_t_profile :: .int t_entries :: .int t_columns :: .ref h_t_columnBits :: .ref h_t_numbers :: .int t_maps :: .ref h_t_map :: .int t_lines :: .ref h_t_line :: .ref h_t_resolutions :: .ref h_t_file :: .int t_size :: .int t_scanned :: .int t_refusedAt :: .int t_cursor :: .int t_streamAt :: .int t_streamMany :: .int t_name :: .int t_from :: .int t_end :: .int t_sizeAt :: .int t_bitsAt :: .int t_colourAt :: .int t_colourEnd :: .int t_paletteAt :: .int t_mapAt :: .int t_mapEnd :: .int t_channelsAt :: .int t_captureAt :: .int t_displayAt :: .int t_resolved :: []))), (h_t_file, .inl (cI, 65536, .inl (upd f_t_file t_size.toNatClampNeg p1)))] H) (hD : va_D A [(h_t, .inr (7, (.int x31.2 :: .int t_high :: .int t_wide :: .int t_components :: .ref h_t_bits :: .int t_unknown :: .int t_rights :: .int t_colours :: .int t_profiled :: .ref h_t_profile :: .int t_entries :: .int t_columns :: .ref h_t_columnBits :: .ref h_t_numbers :: .int t_maps :: .ref h_t_map :: .int t_lines :: .ref h_t_line :: .ref h_t_resolutions :: .ref h_t_file :: .int t_size :: .int t_scanned :: .int t_refusedAt :: .int t_cursor :: .int t_streamAt :: .int t_streamMany :: .int t_name :: .int t_from :: .int t_end :: .int t_sizeAt :: .int t_bitsAt :: .int t_colourAt :: .int t_colourEnd :: .int t_paletteAt :: .int t_mapAt :: .int t_mapEnd :: .int t_channelsAt :: .int t_captureAt :: .int t_displayAt :: .int t_resolved :: []))), (h_t_file, .inl (cI, 65536, .inl (upd f_t_file t_size.toNatClampNeg p1)))]) hS => ?_)
      have O := O.2
      refine lv_aload_n hx hb d_Mo_put_49 rfl (lv_at hl 0 rfl) ?_
      refine lv_dup hx hb d_Mo_put_50 rfl ?_
      refine va_get (D := D) (v := .int t_size) hx hb hta i_Mo hown hK hP 0 rfl rfl 20 (by decide) (hta _ lk_Mo_143) (fun _ h9 => h9) rfl d_Mo_put_51 ?_
      refine lv_iconst (v := 1) hx hb d_Mo_put_54 (by decide) ?_
      refine lv_iadd hx hb d_Mo_put_55 ?_
      refine va_put (D := D) (ty := .int) hx hb hta i_Mo t_Mo t_Mo_ok n_Mo hown hK hP hD hS 0 rfl rfl 20 (by decide) (hta _ lk_Mo_143) (fun _ h9 => h9) rfl (by decide +kernel) rfl rfl (Nat.le_of_ble_eq_true rfl) d_Mo_put_56 (fun H locs (hP : va_P D classes [(h_t, .inr (7, (.int x31.2 :: .int t_high :: .int t_wide :: .int t_components :: .ref h_t_bits :: .int t_unknown :: .int t_rights :: .int t_colours :: .int t_profiled :: .ref h_t_profile :: .int t_entries :: .int t_columns :: .ref h_t_columnBits :: .ref h_t_numbers :: .int t_maps :: .ref h_t_map :: .int t_lines :: .ref h_t_line :: .ref h_t_resolutions :: .ref h_t_file :: .int (t_size + 1) :: .int t_scanned :: .int t_refusedAt :: .int t_cursor :: .int t_streamAt :: .int t_streamMany :: .int t_name :: .int t_from :: .int t_end :: .int t_sizeAt :: .int t_bitsAt :: .int t_colourAt :: .int t_colourEnd :: .int t_paletteAt :: .int t_mapAt :: .int t_mapEnd :: .int t_channelsAt :: .int t_captureAt :: .int t_displayAt :: .int t_resolved :: []))), (h_t_file, .inl (cI, 65536, .inl (upd f_t_file t_size.toNatClampNeg p1)))] H) (hD : va_D A [(h_t, .inr (7, (.int x31.2 :: .int t_high :: .int t_wide :: .int t_components :: .ref h_t_bits :: .int t_unknown :: .int t_rights :: .int t_colours :: .int t_profiled :: .ref h_t_profile :: .int t_entries :: .int t_columns :: .ref h_t_columnBits :: .ref h_t_numbers :: .int t_maps :: .ref h_t_map :: .int t_lines :: .ref h_t_line :: .ref h_t_resolutions :: .ref h_t_file :: .int (t_size + 1) :: .int t_scanned :: .int t_refusedAt :: .int t_cursor :: .int t_streamAt :: .int t_streamMany :: .int t_name :: .int t_from :: .int t_end :: .int t_sizeAt :: .int t_bitsAt :: .int t_colourAt :: .int t_colourEnd :: .int t_paletteAt :: .int t_mapAt :: .int t_mapEnd :: .int t_channelsAt :: .int t_captureAt :: .int t_displayAt :: .int t_resolved :: []))), (h_t_file, .inl (cI, 65536, .inl (upd f_t_file t_size.toNatClampNeg p1)))]) hS => ?_)
      refine lv_aload_n hx hb d_Mo_put_59 rfl (lv_at hl 0 rfl) ?_
      refine lv_iconst (v := 0) hx hb d_Mo_put_60 (by decide) ?_
      refine va_put (D := D) (ty := .boolean) hx hb hta i_Mo t_Mo t_Mo_ok n_Mo hown hK hP hD hS 0 rfl rfl 21 (by decide) (hta _ lk_Mo_146) (fun _ h9 => h9) rfl (by decide +kernel) rfl rfl (Nat.le_of_ble_eq_true rfl) d_Mo_put_61 (fun H locs (hP : va_P D classes [(h_t, .inr (7, (.int x31.2 :: .int t_high :: .int t_wide :: .int t_components :: .ref h_t_bits :: .int t_unknown :: .int t_rights :: .int t_colours :: .int t_profiled :: .ref h_t_profile :: .int t_entries :: .int t_columns :: .ref h_t_columnBits :: .ref h_t_numbers :: .int t_maps :: .ref h_t_map :: .int t_lines :: .ref h_t_line :: .ref h_t_resolutions :: .ref h_t_file :: .int (t_size + 1) :: .int 0 :: .int t_refusedAt :: .int t_cursor :: .int t_streamAt :: .int t_streamMany :: .int t_name :: .int t_from :: .int t_end :: .int t_sizeAt :: .int t_bitsAt :: .int t_colourAt :: .int t_colourEnd :: .int t_paletteAt :: .int t_mapAt :: .int t_mapEnd :: .int t_channelsAt :: .int t_captureAt :: .int t_displayAt :: .int t_resolved :: []))), (h_t_file, .inl (cI, 65536, .inl (upd f_t_file t_size.toNatClampNeg p1)))] H) (hD : va_D A [(h_t, .inr (7, (.int x31.2 :: .int t_high :: .int t_wide :: .int t_components :: .ref h_t_bits :: .int t_unknown :: .int t_rights :: .int t_colours :: .int t_profiled :: .ref h_t_profile :: .int t_entries :: .int t_columns :: .ref h_t_columnBits :: .ref h_t_numbers :: .int t_maps :: .ref h_t_map :: .int t_lines :: .ref h_t_line :: .ref h_t_resolutions :: .ref h_t_file :: .int (t_size + 1) :: .int 0 :: .int t_refusedAt :: .int t_cursor :: .int t_streamAt :: .int t_streamMany :: .int t_name :: .int t_from :: .int t_end :: .int t_sizeAt :: .int t_bitsAt :: .int t_colourAt :: .int t_colourEnd :: .int t_paletteAt :: .int t_mapAt :: .int t_mapEnd :: .int t_channelsAt :: .int t_captureAt :: .int t_displayAt :: .int t_resolved :: []))), (h_t_file, .inl (cI, 65536, .inl (upd f_t_file t_size.toNatClampNeg p1)))]) hS => ?_)
      refine lv_aload_n hx hb d_Mo_put_64 rfl (lv_at hl 0 rfl) ?_
      refine va_get (D := D) (v := .int (t_size + 1)) hx hb hta i_Mo hown hK hP 0 rfl rfl 20 (by decide) (hta _ lk_Mo_143) (fun _ h9 => h9) rfl d_Mo_put_65 ?_
      exact kr_i hx hb hr hlk hQ hK hP hD hS ⟨((t_size + 1, x31.2, t_size + 1, 0, upd f_t_file t_size.toNatClampNeg p1) : Int32 × Int32 × Int32 × Int32 × (Nat → Int32)), E.trans E0.symm, rfl, rfl⟩ (by omega) (by omega) d_Mo_put_68
    · have E := (if_neg c_34).symm.trans E
      have O := Eq.mp (if_neg c_34) O
      refine lv_iconst (v := 0) hx hb d_Mo_put_37 (by decide) ?_
      exact kr_i hx hb hr hlk hQ hK hP hD hS ⟨((0, x31.2, t_size, t_scanned, f_t_file) : Int32 × Int32 × Int32 × Int32 × (Nat → Int32)), E.trans E0.symm, rfl, rfl⟩ (by omega) (by omega) d_Mo_put_38
  refine lv_if_ne (tgt := 17) hx hb d_Mo_put_10 (by decide) (fun c_10 => ?_) (fun c_10 => ?_)
  · have E := (if_neg c_10).symm.trans E
    have O := Eq.mp (if_neg c_10) O
    refine lv_aload_n hx hb d_Mo_put_17 rfl (lv_at hl 0 rfl) ?_
    refine va_get (D := D) (v := .int t_size) hx hb hta i_Mo hown hK hP 0 rfl rfl 20 (by decide) (hta _ lk_Mo_143) (fun _ h9 => h9) rfl d_Mo_put_18 ?_
    refine lv_ldc (v := 65536) hx hb hown (hta _ lk_Mo_36) d_Mo_put_21 ?_
    refine lv_icmp_ne (tgt := 30) hx hb d_Mo_put_23 (by decide) (fun c_23 => ?_) (fun c_23 => ?_)
    · have E := (if_neg c_23).symm.trans E
      have O := Eq.mp (if_neg c_23) O
      refine lv_iconst (v := 0) hx hb d_Mo_put_30 (by decide) ?_
      exact J_31 0 E O _ _ hP hD hS ls (lv_sub hl [0, 1] rfl)
    · have E := (if_pos c_23).symm.trans E
      have O := Eq.mp (if_pos c_23) O
      refine lv_iconst (v := 2) hx hb d_Mo_put_26 (by decide) ?_
      refine lv_goto (tgt := 31) hx hb d_Mo_put_27 (by decide) ?_
      exact J_31 2 E O _ _ hP hD hS ls (lv_sub hl [0, 1] rfl)
  · have E := (if_pos c_10).symm.trans E
    have O := Eq.mp (if_pos c_10) O
    refine lv_iconst (v := 1) hx hb d_Mo_put_13 (by decide) ?_
    refine lv_goto (tgt := 31) hx hb d_Mo_put_14 (by decide) ?_
    exact J_31 1 E O _ _ hP hD hS ls (lv_sub hl [0, 1] rfl)
theorem d_Mo_at_0 : decode b_Mo_at 0 = .ok (.aload_n 0, 1) := by decide +kernel
theorem d_Mo_at_1 : decode b_Mo_at 1 = .ok (.iload_n 1, 1) := by decide +kernel
theorem d_Mo_at_2 : decode b_Mo_at 2 = .ok (.iconst (-1), 1) := by decide +kernel
theorem d_Mo_at_3 : decode b_Mo_at 3 = .ok (.if_icmp .lt 11, 3) := by decide +kernel
theorem d_Mo_at_6 : decode b_Mo_at 6 = .ok (.iload_n 1, 1) := by decide +kernel
theorem d_Mo_at_7 : decode b_Mo_at 7 = .ok (.aload_n 0, 1) := by decide +kernel
theorem d_Mo_at_8 : decode b_Mo_at 8 = .ok (.getfield 143, 3) := by decide +kernel
theorem d_Mo_at_11 : decode b_Mo_at 11 = .ok (.if_icmp .lt 7, 3) := by decide +kernel
theorem d_Mo_at_14 : decode b_Mo_at 14 = .ok (.iconst 1, 1) := by decide +kernel
theorem d_Mo_at_15 : decode b_Mo_at 15 = .ok (.goto 4, 3) := by decide +kernel
theorem d_Mo_at_18 : decode b_Mo_at 18 = .ok (.iconst 0, 1) := by decide +kernel
theorem d_Mo_at_19 : decode b_Mo_at 19 = .ok (.invokevirtual 89, 3) := by decide +kernel
theorem d_Mo_at_22 : decode b_Mo_at 22 = .ok (.ifCond .eq 5, 3) := by decide +kernel
theorem d_Mo_at_25 : decode b_Mo_at 25 = .ok (.iconst 0, 1) := by decide +kernel
theorem d_Mo_at_26 : decode b_Mo_at 26 = .ok (.ireturn, 1) := by decide +kernel
theorem d_Mo_at_27 : decode b_Mo_at 27 = .ok (.iload_n 1, 1) := by decide +kernel
theorem d_Mo_at_28 : decode b_Mo_at 28 = .ok (.ifCond .ge 10, 3) := by decide +kernel
theorem d_Mo_at_31 : decode b_Mo_at 31 = .ok (.aload_n 0, 1) := by decide +kernel
theorem d_Mo_at_32 : decode b_Mo_at 32 = .ok (.getfield 143, 3) := by decide +kernel
theorem d_Mo_at_35 : decode b_Mo_at 35 = .ok (.goto 9, 3) := by decide +kernel
theorem d_Mo_at_38 : decode b_Mo_at 38 = .ok (.aload_n 0, 1) := by decide +kernel
theorem d_Mo_at_39 : decode b_Mo_at 39 = .ok (.getfield 37, 3) := by decide +kernel
theorem d_Mo_at_42 : decode b_Mo_at 42 = .ok (.iload_n 1, 1) := by decide +kernel
theorem d_Mo_at_43 : decode b_Mo_at 43 = .ok (.iaload, 1) := by decide +kernel
theorem d_Mo_at_44 : decode b_Mo_at 44 = .ok (.ireturn, 1) := by decide +kernel
def k_Mo_at_19 (t_size : Int32) (f_t_file : Nat → Int32) (p1 : Int32) (x19 : Int32 × Int32) : Int32 × Int32 :=
  if x19.1 = 0 then (if 0 ≤ p1 then (f_t_file p1.toNatClampNeg, x19.2) else (t_size, x19.2)) else (0, x19.2)
def ok_Mo_at_19 (p1 : Int32) (x19 : Int32 × Int32) : Prop :=
  if x19.1 = 0 then (if 0 ≤ p1 then (vp_in p1 65536 ∧ True) else True) else True
def j_Mo_at_19 (t_size : Int32) (f_t_file : Nat → Int32) (p1 : Int32) (j19_s1 : Int32) : Int32 × Int32 :=
  k_Mo_at_19 t_size f_t_file p1 (m_Mo_refuse j19_s1)
def oj_Mo_at_19 (p1 : Int32) (j19_s1 : Int32) : Prop :=
  om_Mo_refuse j19_s1 ∧ (ok_Mo_at_19 p1 (m_Mo_refuse j19_s1))
def j_Mo_at_14 (t_size : Int32) (f_t_file : Nat → Int32) (p1 : Int32) : Int32 × Int32 :=
  j_Mo_at_19 t_size f_t_file p1 1
def oj_Mo_at_14 (p1 : Int32) : Prop :=
  oj_Mo_at_19 p1 1
def om_Mo_at (t_size : Int32) (p1 : Int32) : Prop :=
  if p1 < (-1) then (oj_Mo_at_14 p1) else (if p1 < t_size then (oj_Mo_at_19 p1 0) else (oj_Mo_at_14 p1))
def m_Mo_at (t_size : Int32) (f_t_file : Nat → Int32) (p1 : Int32) : Int32 × Int32 :=
  if p1 < (-1) then (j_Mo_at_14 t_size f_t_file p1) else (if p1 < t_size then (j_Mo_at_19 t_size f_t_file p1 0) else (j_Mo_at_14 t_size f_t_file p1))
set_option maxHeartbeats 4000000 in
set_option maxRecDepth 100000 in
theorem c_Mo_at (l : Launch) (D : va_G) (cB cI cJ : ClassId) (h_t h_t_bits h_t_profile h_t_columnBits h_t_numbers h_t_map h_t_line h_t_resolutions h_t_file : Nat) (t_thrown : Int32) (t_high : Int32) (t_wide : Int32) (t_components : Int32) (t_unknown : Int32) (t_rights : Int32) (t_colours : Int32) (t_profiled : Int32) (t_entries : Int32) (t_columns : Int32) (t_maps : Int32) (t_lines : Int32) (t_size : Int32) (t_scanned : Int32) (t_refusedAt : Int32) (t_cursor : Int32) (t_streamAt : Int32) (t_streamMany : Int32) (t_name : Int32) (t_from : Int32) (t_end : Int32) (t_sizeAt : Int32) (t_bitsAt : Int32) (t_colourAt : Int32) (t_colourEnd : Int32) (t_paletteAt : Int32) (t_mapAt : Int32) (t_mapEnd : Int32) (t_channelsAt : Int32) (t_captureAt : Int32) (t_displayAt : Int32) (t_resolved : Int32) (f_t_file : Nat → Int32) (p1 : Int32) (hO : om_Mo_at t_size p1) (sz : Nat) : Ct l D cB cI cJ y_Mo_at b_Mo_at 2 (some .int) 1 21 0 0 [.ref h_t, .int p1] [(h_t, .inr (7, (.int t_thrown :: .int t_high :: .int t_wide :: .int t_components :: .ref h_t_bits :: .int t_unknown :: .int t_rights :: .int t_colours :: .int t_profiled :: .ref h_t_profile :: .int t_entries :: .int t_columns :: .ref h_t_columnBits :: .ref h_t_numbers :: .int t_maps :: .ref h_t_map :: .int t_lines :: .ref h_t_line :: .ref h_t_resolutions :: .ref h_t_file :: .int t_size :: .int t_scanned :: .int t_refusedAt :: .int t_cursor :: .int t_streamAt :: .int t_streamMany :: .int t_name :: .int t_from :: .int t_end :: .int t_sizeAt :: .int t_bitsAt :: .int t_colourAt :: .int t_colourEnd :: .int t_paletteAt :: .int t_mapAt :: .int t_mapEnd :: .int t_channelsAt :: .int t_captureAt :: .int t_displayAt :: .int t_resolved :: []))), (h_t_file, .inl (cI, 65536, .inl f_t_file))] (fun v w1 => ∃ (x : Int32 × Int32), x = m_Mo_at t_size f_t_file p1 ∧ v = some (.int x.1) ∧ w1 = [(h_t, .inr (7, (.int x.2 :: .int t_high :: .int t_wide :: .int t_components :: .ref h_t_bits :: .int t_unknown :: .int t_rights :: .int t_colours :: .int t_profiled :: .ref h_t_profile :: .int t_entries :: .int t_columns :: .ref h_t_columnBits :: .ref h_t_numbers :: .int t_maps :: .ref h_t_map :: .int t_lines :: .ref h_t_line :: .ref h_t_resolutions :: .ref h_t_file :: .int t_size :: .int t_scanned :: .int t_refusedAt :: .int t_cursor :: .int t_streamAt :: .int t_streamMany :: .int t_name :: .int t_from :: .int t_end :: .int t_sizeAt :: .int t_bitsAt :: .int t_colourAt :: .int t_colourEnd :: .int t_paletteAt :: .int t_mapAt :: .int t_mapEnd :: .int t_channelsAt :: .int t_captureAt :: .int t_displayAt :: .int t_resolved :: []))), (h_t_file, .inl (cI, 65536, .inl f_t_file))]) sz := by
  refine Ct.of (by decide) (Nat.le_of_ble_eq_true rfl) ?_
  intro p e R s m args below meth c A ls Q hx hb hr hlk hml hta hown hin hK hN hA hRf hRl hRc hRs hP hD hS hl hQ
  have hl : lv_has ls 2 [(0, .ref h_t), (1, .int p1)] := hl
  obtain ⟨RES, E0⟩ : ∃ R, m_Mo_at t_size f_t_file p1 = R := ⟨_, rfl⟩
  have E := E0
  have O := hO
  refine lv_aload_n hx hb d_Mo_at_0 rfl (lv_at hl 0 rfl) ?_
  refine lv_iload_n hx hb d_Mo_at_1 rfl (lv_at hl 1 rfl) ?_
  refine lv_iconst (v := (-1)) hx hb d_Mo_at_2 (by decide) ?_
  have J_19 : ∀ (j19_s1 : Int32), j_Mo_at_19 t_size f_t_file p1 j19_s1 = RES → oj_Mo_at_19 p1 j19_s1 → ∀ (H : Heap) (locs : List Loc), va_P D classes [(h_t, .inr (7, (.int t_thrown :: .int t_high :: .int t_wide :: .int t_components :: .ref h_t_bits :: .int t_unknown :: .int t_rights :: .int t_colours :: .int t_profiled :: .ref h_t_profile :: .int t_entries :: .int t_columns :: .ref h_t_columnBits :: .ref h_t_numbers :: .int t_maps :: .ref h_t_map :: .int t_lines :: .ref h_t_line :: .ref h_t_resolutions :: .ref h_t_file :: .int t_size :: .int t_scanned :: .int t_refusedAt :: .int t_cursor :: .int t_streamAt :: .int t_streamMany :: .int t_name :: .int t_from :: .int t_end :: .int t_sizeAt :: .int t_bitsAt :: .int t_colourAt :: .int t_colourEnd :: .int t_paletteAt :: .int t_mapAt :: .int t_mapEnd :: .int t_channelsAt :: .int t_captureAt :: .int t_displayAt :: .int t_resolved :: []))), (h_t_file, .inl (cI, 65536, .inl f_t_file))] H → va_D A [(h_t, .inr (7, (.int t_thrown :: .int t_high :: .int t_wide :: .int t_components :: .ref h_t_bits :: .int t_unknown :: .int t_rights :: .int t_colours :: .int t_profiled :: .ref h_t_profile :: .int t_entries :: .int t_columns :: .ref h_t_columnBits :: .ref h_t_numbers :: .int t_maps :: .ref h_t_map :: .int t_lines :: .ref h_t_line :: .ref h_t_resolutions :: .ref h_t_file :: .int t_size :: .int t_scanned :: .int t_refusedAt :: .int t_cursor :: .int t_streamAt :: .int t_streamMany :: .int t_name :: .int t_from :: .int t_end :: .int t_sizeAt :: .int t_bitsAt :: .int t_colourAt :: .int t_colourEnd :: .int t_paletteAt :: .int t_mapAt :: .int t_mapEnd :: .int t_channelsAt :: .int t_captureAt :: .int t_displayAt :: .int t_resolved :: []))), (h_t_file, .inl (cI, 65536, .inl f_t_file))] → va_S A s.heap H locs → ∀ ls : Array Slot, lv_has ls 2 [(0, .ref h_t), (1, .int p1)] → W p l e R s m args below meth c H locs 0 0 Q (F0 m 19 ls [.int j19_s1, .ref h_t]) := by
    intro j19_s1 E O H locs hP hD hS ls hl
    refine kc_V (As := [.int j19_s1]) (rest := []) (wr := [(h_t_file, .inl (cI, 65536, .inl f_t_file))]) [0] [1] ⟨hx, hb, hml, hown, hta⟩ hK hN hP hD hS hA (c_Mo_refuse l D cB cI cJ h_t h_t_bits h_t_profile h_t_columnBits h_t_numbers h_t_map h_t_line h_t_resolutions h_t_file t_thrown t_high t_wide t_components t_unknown t_rights t_colours t_profiled t_entries t_columns t_maps t_lines t_size t_scanned t_refusedAt t_cursor t_streamAt t_streamMany t_name t_from t_end t_sizeAt t_bitsAt t_colourAt t_colourEnd t_paletteAt t_mapAt t_mapEnd t_channelsAt t_captureAt t_displayAt t_resolved j19_s1 O.1 _) (hta _ lk_Mo_89) (hta _ ini_Mo) (hta _ code_Mo_refuse) code_Mo_refuse (hta _ inst_Mo_refuse) (hta _ sel_Mo_refuse) hd_Mo_refuse rfl ⟨by omega, by omega⟩ (ci := 7) 0 rfl rfl rfl rfl (by decide) (by decide) (by decide) rfl hl.1 (lv_room (Nat.le_of_ble_eq_true rfl)) d_Mo_at_19 ⟨by omega, by omega⟩ (fun v w1 H locs hw hP hD hS => ?_)
    obtain ⟨x19, hx19, rfl, rfl⟩ := hw
    have hP : va_P D classes [(h_t, .inr (7, (.int x19.2 :: .int t_high :: .int t_wide :: .int t_components :: .ref h_t_bits :: .int t_unknown :: .int t_rights :: .int t_colours :: .int t_profiled :: .ref h_t_profile :: .int t_entries :: .int t_columns :: .ref h_t_columnBits :: .ref h_t_numbers :: .int t_maps :: .ref h_t_map :: .int t_lines :: .ref h_t_line :: .ref h_t_resolutions :: .ref h_t_file :: .int t_size :: .int t_scanned :: .int t_refusedAt :: .int t_cursor :: .int t_streamAt :: .int t_streamMany :: .int t_name :: .int t_from :: .int t_end :: .int t_sizeAt :: .int t_bitsAt :: .int t_colourAt :: .int t_colourEnd :: .int t_paletteAt :: .int t_mapAt :: .int t_mapEnd :: .int t_channelsAt :: .int t_captureAt :: .int t_displayAt :: .int t_resolved :: []))), (h_t_file, .inl (cI, 65536, .inl f_t_file))] H := hP.sub [1, 0] rfl
    have hD : va_D A [(h_t, .inr (7, (.int x19.2 :: .int t_high :: .int t_wide :: .int t_components :: .ref h_t_bits :: .int t_unknown :: .int t_rights :: .int t_colours :: .int t_profiled :: .ref h_t_profile :: .int t_entries :: .int t_columns :: .ref h_t_columnBits :: .ref h_t_numbers :: .int t_maps :: .ref h_t_map :: .int t_lines :: .ref h_t_line :: .ref h_t_resolutions :: .ref h_t_file :: .int t_size :: .int t_scanned :: .int t_refusedAt :: .int t_cursor :: .int t_streamAt :: .int t_streamMany :: .int t_name :: .int t_from :: .int t_end :: .int t_sizeAt :: .int t_bitsAt :: .int t_colourAt :: .int t_colourEnd :: .int t_paletteAt :: .int t_mapAt :: .int t_mapEnd :: .int t_channelsAt :: .int t_captureAt :: .int t_displayAt :: .int t_resolved :: []))), (h_t_file, .inl (cI, 65536, .inl f_t_file))] := hD.sub [1, 0] (by decide) rfl
    refine W.eq (g2 := F0 m 22 ls [.int x19.1]) rfl ?_
    have O := O.2
    have E : k_Mo_at_19 t_size f_t_file p1 x19 = RES := (congrArg (k_Mo_at_19 t_size f_t_file p1) hx19).trans E
    have O : ok_Mo_at_19 p1 x19 := by rw [hx19]; exact O
    refine lv_if_eq (tgt := 27) hx hb d_Mo_at_22 (by decide) (fun c_22 => ?_) (fun c_22 => ?_)
    · have E := (if_pos c_22).symm.trans E
      have O := Eq.mp (if_pos c_22) O
      refine lv_iload_n hx hb d_Mo_at_27 rfl (lv_at hl 1 rfl) ?_
      refine lv_if_ge (tgt := 38) hx hb d_Mo_at_28 (by decide) (fun c_28 => ?_) (fun c_28 => ?_)
      · have E := (if_pos c_28).symm.trans E
        have O := Eq.mp (if_pos c_28) O
        refine lv_aload_n hx hb d_Mo_at_38 rfl (lv_at hl 0 rfl) ?_
        refine va_get (D := D) (v := .ref h_t_file) hx hb hta i_Mo hown hK hP 0 rfl rfl 19 (by decide) (hta _ lk_Mo_37) (fun _ h9 => h9) rfl d_Mo_at_39 ?_
        refine lv_iload_n hx hb d_Mo_at_42 rfl (lv_at hl 1 rfl) ?_
        refine va_iald hx hb hK hP 1 1 rfl rfl O.1 d_Mo_at_43 ?_
        have O := O.2
        exact kr_i hx hb hr hlk hQ hK hP hD hS ⟨((f_t_file p1.toNatClampNeg, x19.2) : Int32 × Int32), E.trans E0.symm, rfl, rfl⟩ (by omega) (by omega) d_Mo_at_44
      · have E := (if_neg c_28).symm.trans E
        have O := Eq.mp (if_neg c_28) O
        refine lv_aload_n hx hb d_Mo_at_31 rfl (lv_at hl 0 rfl) ?_
        refine va_get (D := D) (v := .int t_size) hx hb hta i_Mo hown hK hP 0 rfl rfl 20 (by decide) (hta _ lk_Mo_143) (fun _ h9 => h9) rfl d_Mo_at_32 ?_
        refine lv_goto (tgt := 44) hx hb d_Mo_at_35 (by decide) ?_
        exact kr_i hx hb hr hlk hQ hK hP hD hS ⟨((t_size, x19.2) : Int32 × Int32), E.trans E0.symm, rfl, rfl⟩ (by omega) (by omega) d_Mo_at_44
    · have E := (if_neg c_22).symm.trans E
      have O := Eq.mp (if_neg c_22) O
      refine lv_iconst (v := 0) hx hb d_Mo_at_25 (by decide) ?_
      exact kr_i hx hb hr hlk hQ hK hP hD hS ⟨((0, x19.2) : Int32 × Int32), E.trans E0.symm, rfl, rfl⟩ (by omega) (by omega) d_Mo_at_26
  have J_14 : j_Mo_at_14 t_size f_t_file p1 = RES → oj_Mo_at_14 p1 → ∀ (H : Heap) (locs : List Loc), va_P D classes [(h_t, .inr (7, (.int t_thrown :: .int t_high :: .int t_wide :: .int t_components :: .ref h_t_bits :: .int t_unknown :: .int t_rights :: .int t_colours :: .int t_profiled :: .ref h_t_profile :: .int t_entries :: .int t_columns :: .ref h_t_columnBits :: .ref h_t_numbers :: .int t_maps :: .ref h_t_map :: .int t_lines :: .ref h_t_line :: .ref h_t_resolutions :: .ref h_t_file :: .int t_size :: .int t_scanned :: .int t_refusedAt :: .int t_cursor :: .int t_streamAt :: .int t_streamMany :: .int t_name :: .int t_from :: .int t_end :: .int t_sizeAt :: .int t_bitsAt :: .int t_colourAt :: .int t_colourEnd :: .int t_paletteAt :: .int t_mapAt :: .int t_mapEnd :: .int t_channelsAt :: .int t_captureAt :: .int t_displayAt :: .int t_resolved :: []))), (h_t_file, .inl (cI, 65536, .inl f_t_file))] H → va_D A [(h_t, .inr (7, (.int t_thrown :: .int t_high :: .int t_wide :: .int t_components :: .ref h_t_bits :: .int t_unknown :: .int t_rights :: .int t_colours :: .int t_profiled :: .ref h_t_profile :: .int t_entries :: .int t_columns :: .ref h_t_columnBits :: .ref h_t_numbers :: .int t_maps :: .ref h_t_map :: .int t_lines :: .ref h_t_line :: .ref h_t_resolutions :: .ref h_t_file :: .int t_size :: .int t_scanned :: .int t_refusedAt :: .int t_cursor :: .int t_streamAt :: .int t_streamMany :: .int t_name :: .int t_from :: .int t_end :: .int t_sizeAt :: .int t_bitsAt :: .int t_colourAt :: .int t_colourEnd :: .int t_paletteAt :: .int t_mapAt :: .int t_mapEnd :: .int t_channelsAt :: .int t_captureAt :: .int t_displayAt :: .int t_resolved :: []))), (h_t_file, .inl (cI, 65536, .inl f_t_file))] → va_S A s.heap H locs → ∀ ls : Array Slot, lv_has ls 2 [(0, .ref h_t), (1, .int p1)] → W p l e R s m args below meth c H locs 0 0 Q (F0 m 14 ls [.ref h_t]) := by
    intro E O H locs hP hD hS ls hl
    refine lv_iconst (v := 1) hx hb d_Mo_at_14 (by decide) ?_
    refine lv_goto (tgt := 19) hx hb d_Mo_at_15 (by decide) ?_
    exact J_19 1 E O _ _ hP hD hS ls (lv_sub hl [0, 1] rfl)
  refine lv_icmp_lt (tgt := 14) hx hb d_Mo_at_3 (by decide) (fun c_3 => ?_) (fun c_3 => ?_)
  · have E := (if_pos c_3).symm.trans E
    have O := Eq.mp (if_pos c_3) O
    exact J_14  E O _ _ hP hD hS ls (lv_sub hl [0, 1] rfl)
  · have E := (if_neg c_3).symm.trans E
    have O := Eq.mp (if_neg c_3) O
    refine lv_iload_n hx hb d_Mo_at_6 rfl (lv_at hl 1 rfl) ?_
    refine lv_aload_n hx hb d_Mo_at_7 rfl (lv_at hl 0 rfl) ?_
    refine va_get (D := D) (v := .int t_size) hx hb hta i_Mo hown hK hP 0 rfl rfl 20 (by decide) (hta _ lk_Mo_143) (fun _ h9 => h9) rfl d_Mo_at_8 ?_
    refine lv_icmp_lt (tgt := 18) hx hb d_Mo_at_11 (by decide) (fun c_11 => ?_) (fun c_11 => ?_)
    · have E := (if_pos c_11).symm.trans E
      have O := Eq.mp (if_pos c_11) O
      refine lv_iconst (v := 0) hx hb d_Mo_at_18 (by decide) ?_
      exact J_19 0 E O _ _ hP hD hS ls (lv_sub hl [0, 1] rfl)
    · have E := (if_neg c_11).symm.trans E
      have O := Eq.mp (if_neg c_11) O
      exact J_14  E O _ _ hP hD hS ls (lv_sub hl [0, 1] rfl)
theorem d_Mo_spoil_0 : decode b_Mo_spoil 0 = .ok (.aload_n 0, 1) := by decide +kernel
theorem d_Mo_spoil_1 : decode b_Mo_spoil 1 = .ok (.iload_n 1, 1) := by decide +kernel
theorem d_Mo_spoil_2 : decode b_Mo_spoil 2 = .ok (.ifCond .lt 11, 3) := by decide +kernel
theorem d_Mo_spoil_5 : decode b_Mo_spoil 5 = .ok (.iload_n 1, 1) := by decide +kernel
theorem d_Mo_spoil_6 : decode b_Mo_spoil 6 = .ok (.aload_n 0, 1) := by decide +kernel
theorem d_Mo_spoil_7 : decode b_Mo_spoil 7 = .ok (.getfield 143, 3) := by decide +kernel
theorem d_Mo_spoil_10 : decode b_Mo_spoil 10 = .ok (.if_icmp .lt 7, 3) := by decide +kernel
theorem d_Mo_spoil_13 : decode b_Mo_spoil 13 = .ok (.iconst 1, 1) := by decide +kernel
theorem d_Mo_spoil_14 : decode b_Mo_spoil 14 = .ok (.goto 4, 3) := by decide +kernel
theorem d_Mo_spoil_17 : decode b_Mo_spoil 17 = .ok (.iconst 0, 1) := by decide +kernel
theorem d_Mo_spoil_18 : decode b_Mo_spoil 18 = .ok (.invokevirtual 89, 3) := by decide +kernel
theorem d_Mo_spoil_21 : decode b_Mo_spoil 21 = .ok (.ifCond .eq 4, 3) := by decide +kernel
theorem d_Mo_spoil_24 : decode b_Mo_spoil 24 = .ok (.return_, 1) := by decide +kernel
theorem d_Mo_spoil_25 : decode b_Mo_spoil 25 = .ok (.aload_n 0, 1) := by decide +kernel
theorem d_Mo_spoil_26 : decode b_Mo_spoil 26 = .ok (.getfield 37, 3) := by decide +kernel
theorem d_Mo_spoil_29 : decode b_Mo_spoil 29 = .ok (.iload_n 1, 1) := by decide +kernel
theorem d_Mo_spoil_30 : decode b_Mo_spoil 30 = .ok (.iload_n 2, 1) := by decide +kernel
theorem d_Mo_spoil_31 : decode b_Mo_spoil 31 = .ok (.sipush 255, 3) := by decide +kernel
theorem d_Mo_spoil_34 : decode b_Mo_spoil 34 = .ok (.iand, 1) := by decide +kernel
theorem d_Mo_spoil_35 : decode b_Mo_spoil 35 = .ok (.iastore, 1) := by decide +kernel
theorem d_Mo_spoil_36 : decode b_Mo_spoil 36 = .ok (.aload_n 0, 1) := by decide +kernel
theorem d_Mo_spoil_37 : decode b_Mo_spoil 37 = .ok (.iconst 0, 1) := by decide +kernel
theorem d_Mo_spoil_38 : decode b_Mo_spoil 38 = .ok (.putfield 146, 3) := by decide +kernel
theorem d_Mo_spoil_41 : decode b_Mo_spoil 41 = .ok (.return_, 1) := by decide +kernel
def k_Mo_spoil_18 (t_scanned : Int32) (f_t_file : Nat → Int32) (p1 : Int32) (p2 : Int32) (x18 : Int32 × Int32) : Int32 × Int32 × (Nat → Int32) :=
  if x18.1 = 0 then ((x18.2, 0, upd f_t_file p1.toNatClampNeg (p2 &&& 255))) else (x18.2, t_scanned, f_t_file)
def ok_Mo_spoil_18 (p1 : Int32) (x18 : Int32 × Int32) : Prop :=
  if x18.1 = 0 then (vp_in p1 65536 ∧ True) else True
def j_Mo_spoil_18 (t_scanned : Int32) (f_t_file : Nat → Int32) (p1 : Int32) (p2 : Int32) (j18_s1 : Int32) : Int32 × Int32 × (Nat → Int32) :=
  k_Mo_spoil_18 t_scanned f_t_file p1 p2 (m_Mo_refuse j18_s1)
def oj_Mo_spoil_18 (p1 : Int32) (j18_s1 : Int32) : Prop :=
  om_Mo_refuse j18_s1 ∧ (ok_Mo_spoil_18 p1 (m_Mo_refuse j18_s1))
def j_Mo_spoil_13 (t_scanned : Int32) (f_t_file : Nat → Int32) (p1 : Int32) (p2 : Int32) : Int32 × Int32 × (Nat → Int32) :=
  j_Mo_spoil_18 t_scanned f_t_file p1 p2 1
def oj_Mo_spoil_13 (p1 : Int32) : Prop :=
  oj_Mo_spoil_18 p1 1
def om_Mo_spoil (t_size : Int32) (p1 : Int32) : Prop :=
  if p1 < 0 then (oj_Mo_spoil_13 p1) else (if p1 < t_size then (oj_Mo_spoil_18 p1 0) else (oj_Mo_spoil_13 p1))
def m_Mo_spoil (t_size : Int32) (t_scanned : Int32) (f_t_file : Nat → Int32) (p1 : Int32) (p2 : Int32) : Int32 × Int32 × (Nat → Int32) :=
  if p1 < 0 then (j_Mo_spoil_13 t_scanned f_t_file p1 p2) else (if p1 < t_size then (j_Mo_spoil_18 t_scanned f_t_file p1 p2 0) else (j_Mo_spoil_13 t_scanned f_t_file p1 p2))
set_option maxHeartbeats 4000000 in
set_option maxRecDepth 100000 in
theorem c_Mo_spoil (l : Launch) (D : va_G) (cB cI cJ : ClassId) (h_t h_t_bits h_t_profile h_t_columnBits h_t_numbers h_t_map h_t_line h_t_resolutions h_t_file : Nat) (t_thrown : Int32) (t_high : Int32) (t_wide : Int32) (t_components : Int32) (t_unknown : Int32) (t_rights : Int32) (t_colours : Int32) (t_profiled : Int32) (t_entries : Int32) (t_columns : Int32) (t_maps : Int32) (t_lines : Int32) (t_size : Int32) (t_scanned : Int32) (t_refusedAt : Int32) (t_cursor : Int32) (t_streamAt : Int32) (t_streamMany : Int32) (t_name : Int32) (t_from : Int32) (t_end : Int32) (t_sizeAt : Int32) (t_bitsAt : Int32) (t_colourAt : Int32) (t_colourEnd : Int32) (t_paletteAt : Int32) (t_mapAt : Int32) (t_mapEnd : Int32) (t_channelsAt : Int32) (t_captureAt : Int32) (t_displayAt : Int32) (t_resolved : Int32) (f_t_file : Nat → Int32) (p1 : Int32) (p2 : Int32) (hO : om_Mo_spoil t_size p1) (sz : Nat) : Ct l D cB cI cJ y_Mo_spoil b_Mo_spoil 3 none 1 21 0 0 [.ref h_t, .int p1, .int p2] [(h_t, .inr (7, (.int t_thrown :: .int t_high :: .int t_wide :: .int t_components :: .ref h_t_bits :: .int t_unknown :: .int t_rights :: .int t_colours :: .int t_profiled :: .ref h_t_profile :: .int t_entries :: .int t_columns :: .ref h_t_columnBits :: .ref h_t_numbers :: .int t_maps :: .ref h_t_map :: .int t_lines :: .ref h_t_line :: .ref h_t_resolutions :: .ref h_t_file :: .int t_size :: .int t_scanned :: .int t_refusedAt :: .int t_cursor :: .int t_streamAt :: .int t_streamMany :: .int t_name :: .int t_from :: .int t_end :: .int t_sizeAt :: .int t_bitsAt :: .int t_colourAt :: .int t_colourEnd :: .int t_paletteAt :: .int t_mapAt :: .int t_mapEnd :: .int t_channelsAt :: .int t_captureAt :: .int t_displayAt :: .int t_resolved :: []))), (h_t_file, .inl (cI, 65536, .inl f_t_file))] (fun v w1 => ∃ (x : Int32 × Int32 × (Nat → Int32)), x = m_Mo_spoil t_size t_scanned f_t_file p1 p2 ∧ v = none ∧ w1 = [(h_t, .inr (7, (.int x.1 :: .int t_high :: .int t_wide :: .int t_components :: .ref h_t_bits :: .int t_unknown :: .int t_rights :: .int t_colours :: .int t_profiled :: .ref h_t_profile :: .int t_entries :: .int t_columns :: .ref h_t_columnBits :: .ref h_t_numbers :: .int t_maps :: .ref h_t_map :: .int t_lines :: .ref h_t_line :: .ref h_t_resolutions :: .ref h_t_file :: .int t_size :: .int x.2.1 :: .int t_refusedAt :: .int t_cursor :: .int t_streamAt :: .int t_streamMany :: .int t_name :: .int t_from :: .int t_end :: .int t_sizeAt :: .int t_bitsAt :: .int t_colourAt :: .int t_colourEnd :: .int t_paletteAt :: .int t_mapAt :: .int t_mapEnd :: .int t_channelsAt :: .int t_captureAt :: .int t_displayAt :: .int t_resolved :: []))), (h_t_file, .inl (cI, 65536, .inl x.2.2))]) sz := by
  refine Ct.of (by decide) (Nat.le_of_ble_eq_true rfl) ?_
  intro p e R s m args below meth c A ls Q hx hb hr hlk hml hta hown hin hK hN hA hRf hRl hRc hRs hP hD hS hl hQ
  have hl : lv_has ls 3 [(0, .ref h_t), (1, .int p1), (2, .int p2)] := hl
  obtain ⟨RES, E0⟩ : ∃ R, m_Mo_spoil t_size t_scanned f_t_file p1 p2 = R := ⟨_, rfl⟩
  have E := E0
  have O := hO
  refine lv_aload_n hx hb d_Mo_spoil_0 rfl (lv_at hl 0 rfl) ?_
  refine lv_iload_n hx hb d_Mo_spoil_1 rfl (lv_at hl 1 rfl) ?_
  have J_18 : ∀ (j18_s1 : Int32), j_Mo_spoil_18 t_scanned f_t_file p1 p2 j18_s1 = RES → oj_Mo_spoil_18 p1 j18_s1 → ∀ (H : Heap) (locs : List Loc), va_P D classes [(h_t, .inr (7, (.int t_thrown :: .int t_high :: .int t_wide :: .int t_components :: .ref h_t_bits :: .int t_unknown :: .int t_rights :: .int t_colours :: .int t_profiled :: .ref h_t_profile :: .int t_entries :: .int t_columns :: .ref h_t_columnBits :: .ref h_t_numbers :: .int t_maps :: .ref h_t_map :: .int t_lines :: .ref h_t_line :: .ref h_t_resolutions :: .ref h_t_file :: .int t_size :: .int t_scanned :: .int t_refusedAt :: .int t_cursor :: .int t_streamAt :: .int t_streamMany :: .int t_name :: .int t_from :: .int t_end :: .int t_sizeAt :: .int t_bitsAt :: .int t_colourAt :: .int t_colourEnd :: .int t_paletteAt :: .int t_mapAt :: .int t_mapEnd :: .int t_channelsAt :: .int t_captureAt :: .int t_displayAt :: .int t_resolved :: []))), (h_t_file, .inl (cI, 65536, .inl f_t_file))] H → va_D A [(h_t, .inr (7, (.int t_thrown :: .int t_high :: .int t_wide :: .int t_components :: .ref h_t_bits :: .int t_unknown :: .int t_rights :: .int t_colours :: .int t_profiled :: .ref h_t_profile :: .int t_entries :: .int t_columns :: .ref h_t_columnBits :: .ref h_t_numbers :: .int t_maps :: .ref h_t_map :: .int t_lines :: .ref h_t_line :: .ref h_t_resolutions :: .ref h_t_file :: .int t_size :: .int t_scanned :: .int t_refusedAt :: .int t_cursor :: .int t_streamAt :: .int t_streamMany :: .int t_name :: .int t_from :: .int t_end :: .int t_sizeAt :: .int t_bitsAt :: .int t_colourAt :: .int t_colourEnd :: .int t_paletteAt :: .int t_mapAt :: .int t_mapEnd :: .int t_channelsAt :: .int t_captureAt :: .int t_displayAt :: .int t_resolved :: []))), (h_t_file, .inl (cI, 65536, .inl f_t_file))] → va_S A s.heap H locs → ∀ ls : Array Slot, lv_has ls 3 [(0, .ref h_t), (1, .int p1), (2, .int p2)] → W p l e R s m args below meth c H locs 0 0 Q (F0 m 18 ls [.int j18_s1, .ref h_t]) := by
    intro j18_s1 E O H locs hP hD hS ls hl
    refine kc_V (As := [.int j18_s1]) (rest := []) (wr := [(h_t_file, .inl (cI, 65536, .inl f_t_file))]) [0] [1] ⟨hx, hb, hml, hown, hta⟩ hK hN hP hD hS hA (c_Mo_refuse l D cB cI cJ h_t h_t_bits h_t_profile h_t_columnBits h_t_numbers h_t_map h_t_line h_t_resolutions h_t_file t_thrown t_high t_wide t_components t_unknown t_rights t_colours t_profiled t_entries t_columns t_maps t_lines t_size t_scanned t_refusedAt t_cursor t_streamAt t_streamMany t_name t_from t_end t_sizeAt t_bitsAt t_colourAt t_colourEnd t_paletteAt t_mapAt t_mapEnd t_channelsAt t_captureAt t_displayAt t_resolved j18_s1 O.1 _) (hta _ lk_Mo_89) (hta _ ini_Mo) (hta _ code_Mo_refuse) code_Mo_refuse (hta _ inst_Mo_refuse) (hta _ sel_Mo_refuse) hd_Mo_refuse rfl ⟨by omega, by omega⟩ (ci := 7) 0 rfl rfl rfl rfl (by decide) (by decide) (by decide) rfl hl.1 (lv_room (Nat.le_of_ble_eq_true rfl)) d_Mo_spoil_18 ⟨by omega, by omega⟩ (fun v w1 H locs hw hP hD hS => ?_)
    obtain ⟨x18, hx18, rfl, rfl⟩ := hw
    have hP : va_P D classes [(h_t, .inr (7, (.int x18.2 :: .int t_high :: .int t_wide :: .int t_components :: .ref h_t_bits :: .int t_unknown :: .int t_rights :: .int t_colours :: .int t_profiled :: .ref h_t_profile :: .int t_entries :: .int t_columns :: .ref h_t_columnBits :: .ref h_t_numbers :: .int t_maps :: .ref h_t_map :: .int t_lines :: .ref h_t_line :: .ref h_t_resolutions :: .ref h_t_file :: .int t_size :: .int t_scanned :: .int t_refusedAt :: .int t_cursor :: .int t_streamAt :: .int t_streamMany :: .int t_name :: .int t_from :: .int t_end :: .int t_sizeAt :: .int t_bitsAt :: .int t_colourAt :: .int t_colourEnd :: .int t_paletteAt :: .int t_mapAt :: .int t_mapEnd :: .int t_channelsAt :: .int t_captureAt :: .int t_displayAt :: .int t_resolved :: []))), (h_t_file, .inl (cI, 65536, .inl f_t_file))] H := hP.sub [1, 0] rfl
    have hD : va_D A [(h_t, .inr (7, (.int x18.2 :: .int t_high :: .int t_wide :: .int t_components :: .ref h_t_bits :: .int t_unknown :: .int t_rights :: .int t_colours :: .int t_profiled :: .ref h_t_profile :: .int t_entries :: .int t_columns :: .ref h_t_columnBits :: .ref h_t_numbers :: .int t_maps :: .ref h_t_map :: .int t_lines :: .ref h_t_line :: .ref h_t_resolutions :: .ref h_t_file :: .int t_size :: .int t_scanned :: .int t_refusedAt :: .int t_cursor :: .int t_streamAt :: .int t_streamMany :: .int t_name :: .int t_from :: .int t_end :: .int t_sizeAt :: .int t_bitsAt :: .int t_colourAt :: .int t_colourEnd :: .int t_paletteAt :: .int t_mapAt :: .int t_mapEnd :: .int t_channelsAt :: .int t_captureAt :: .int t_displayAt :: .int t_resolved :: []))), (h_t_file, .inl (cI, 65536, .inl f_t_file))] := hD.sub [1, 0] (by decide) rfl
    refine W.eq (g2 := F0 m 21 ls [.int x18.1]) rfl ?_
    have O := O.2
    have E : k_Mo_spoil_18 t_scanned f_t_file p1 p2 x18 = RES := (congrArg (k_Mo_spoil_18 t_scanned f_t_file p1 p2) hx18).trans E
    have O : ok_Mo_spoil_18 p1 x18 := by rw [hx18]; exact O
    refine lv_if_eq (tgt := 25) hx hb d_Mo_spoil_21 (by decide) (fun c_21 => ?_) (fun c_21 => ?_)
    · have E := (if_pos c_21).symm.trans E
      have O := Eq.mp (if_pos c_21) O
      refine lv_aload_n hx hb d_Mo_spoil_25 rfl (lv_at hl 0 rfl) ?_
      refine va_get (D := D) (v := .ref h_t_file) hx hb hta i_Mo hown hK hP 0 rfl rfl 19 (by decide) (hta _ lk_Mo_37) (fun _ h9 => h9) rfl d_Mo_spoil_26 ?_
      refine lv_iload_n hx hb d_Mo_spoil_29 rfl (lv_at hl 1 rfl) ?_
      refine lv_iload_n hx hb d_Mo_spoil_30 rfl (lv_at hl 2 rfl) ?_
      refine lv_sipush (v := 255) hx hb d_Mo_spoil_31 (by decide) ?_
      refine lv_iand hx hb d_Mo_spoil_34 ?_
      refine va_iast hx hb hK hP hD hS 1 1 rfl rfl O.1 d_Mo_spoil_35 (fun H locs (hP : va_P D classes [(h_t, .inr (7, (.int x18.2 :: .int t_high :: .int t_wide :: .int t_components :: .ref h_t_bits :: .int t_unknown :: .int t_rights :: .int t_colours :: .int t_profiled :: .ref h_t_profile :: .int t_entries :: .int t_columns :: .ref h_t_columnBits :: .ref h_t_numbers :: .int t_maps :: .ref h_t_map :: .int t_lines :: .ref h_t_line :: .ref h_t_resolutions :: .ref h_t_file :: .int t_size :: .int t_scanned :: .int t_refusedAt :: .int t_cursor :: .int t_streamAt :: .int t_streamMany :: .int t_name :: .int t_from :: .int t_end :: .int t_sizeAt :: .int t_bitsAt :: .int t_colourAt :: .int t_colourEnd :: .int t_paletteAt :: .int t_mapAt :: .int t_mapEnd :: .int t_channelsAt :: .int t_captureAt :: .int t_displayAt :: .int t_resolved :: []))), (h_t_file, .inl (cI, 65536, .inl (upd f_t_file p1.toNatClampNeg (p2 &&& 255))))] H) (hD : va_D A [(h_t, .inr (7, (.int x18.2 :: .int t_high :: .int t_wide :: .int t_components :: .ref h_t_bits :: .int t_unknown :: .int t_rights :: .int t_colours :: .int t_profiled :: .ref h_t_profile :: .int t_entries :: .int t_columns :: .ref h_t_columnBits :: .ref h_t_numbers :: .int t_maps :: .ref h_t_map :: .int t_lines :: .ref h_t_line :: .ref h_t_resolutions :: .ref h_t_file :: .int t_size :: .int t_scanned :: .int t_refusedAt :: .int t_cursor :: .int t_streamAt :: .int t_streamMany :: .int t_name :: .int t_from :: .int t_end :: .int t_sizeAt :: .int t_bitsAt :: .int t_colourAt :: .int t_colourEnd :: .int t_paletteAt :: .int t_mapAt :: .int t_mapEnd :: .int t_channelsAt :: .int t_captureAt :: .int t_displayAt :: .int t_resolved :: []))), (h_t_file, .inl (cI, 65536, .inl (upd f_t_file p1.toNatClampNeg (p2 &&& 255))))]) hS => ?_)
      have O := O.2
      refine lv_aload_n hx hb d_Mo_spoil_36 rfl (lv_at hl 0 rfl) ?_
      refine lv_iconst (v := 0) hx hb d_Mo_spoil_37 (by decide) ?_
      refine va_put (D := D) (ty := .boolean) hx hb hta i_Mo t_Mo t_Mo_ok n_Mo hown hK hP hD hS 0 rfl rfl 21 (by decide) (hta _ lk_Mo_146) (fun _ h9 => h9) rfl (by decide +kernel) rfl rfl (Nat.le_of_ble_eq_true rfl) d_Mo_spoil_38 (fun H locs (hP : va_P D classes [(h_t, .inr (7, (.int x18.2 :: .int t_high :: .int t_wide :: .int t_components :: .ref h_t_bits :: .int t_unknown :: .int t_rights :: .int t_colours :: .int t_profiled :: .ref h_t_profile :: .int t_entries :: .int t_columns :: .ref h_t_columnBits :: .ref h_t_numbers :: .int t_maps :: .ref h_t_map :: .int t_lines :: .ref h_t_line :: .ref h_t_resolutions :: .ref h_t_file :: .int t_size :: .int 0 :: .int t_refusedAt :: .int t_cursor :: .int t_streamAt :: .int t_streamMany :: .int t_name :: .int t_from :: .int t_end :: .int t_sizeAt :: .int t_bitsAt :: .int t_colourAt :: .int t_colourEnd :: .int t_paletteAt :: .int t_mapAt :: .int t_mapEnd :: .int t_channelsAt :: .int t_captureAt :: .int t_displayAt :: .int t_resolved :: []))), (h_t_file, .inl (cI, 65536, .inl (upd f_t_file p1.toNatClampNeg (p2 &&& 255))))] H) (hD : va_D A [(h_t, .inr (7, (.int x18.2 :: .int t_high :: .int t_wide :: .int t_components :: .ref h_t_bits :: .int t_unknown :: .int t_rights :: .int t_colours :: .int t_profiled :: .ref h_t_profile :: .int t_entries :: .int t_columns :: .ref h_t_columnBits :: .ref h_t_numbers :: .int t_maps :: .ref h_t_map :: .int t_lines :: .ref h_t_line :: .ref h_t_resolutions :: .ref h_t_file :: .int t_size :: .int 0 :: .int t_refusedAt :: .int t_cursor :: .int t_streamAt :: .int t_streamMany :: .int t_name :: .int t_from :: .int t_end :: .int t_sizeAt :: .int t_bitsAt :: .int t_colourAt :: .int t_colourEnd :: .int t_paletteAt :: .int t_mapAt :: .int t_mapEnd :: .int t_channelsAt :: .int t_captureAt :: .int t_displayAt :: .int t_resolved :: []))), (h_t_file, .inl (cI, 65536, .inl (upd f_t_file p1.toNatClampNeg (p2 &&& 255))))]) hS => ?_)
      exact kr_v hx hb hr hlk hQ hK hP hD hS ⟨((x18.2, 0, upd f_t_file p1.toNatClampNeg (p2 &&& 255)) : Int32 × Int32 × (Nat → Int32)), E.trans E0.symm, rfl, rfl⟩ (by omega) (by omega) d_Mo_spoil_41
    · have E := (if_neg c_21).symm.trans E
      have O := Eq.mp (if_neg c_21) O
      exact kr_v hx hb hr hlk hQ hK hP hD hS ⟨((x18.2, t_scanned, f_t_file) : Int32 × Int32 × (Nat → Int32)), E.trans E0.symm, rfl, rfl⟩ (by omega) (by omega) d_Mo_spoil_24
  have J_13 : j_Mo_spoil_13 t_scanned f_t_file p1 p2 = RES → oj_Mo_spoil_13 p1 → ∀ (H : Heap) (locs : List Loc), va_P D classes [(h_t, .inr (7, (.int t_thrown :: .int t_high :: .int t_wide :: .int t_components :: .ref h_t_bits :: .int t_unknown :: .int t_rights :: .int t_colours :: .int t_profiled :: .ref h_t_profile :: .int t_entries :: .int t_columns :: .ref h_t_columnBits :: .ref h_t_numbers :: .int t_maps :: .ref h_t_map :: .int t_lines :: .ref h_t_line :: .ref h_t_resolutions :: .ref h_t_file :: .int t_size :: .int t_scanned :: .int t_refusedAt :: .int t_cursor :: .int t_streamAt :: .int t_streamMany :: .int t_name :: .int t_from :: .int t_end :: .int t_sizeAt :: .int t_bitsAt :: .int t_colourAt :: .int t_colourEnd :: .int t_paletteAt :: .int t_mapAt :: .int t_mapEnd :: .int t_channelsAt :: .int t_captureAt :: .int t_displayAt :: .int t_resolved :: []))), (h_t_file, .inl (cI, 65536, .inl f_t_file))] H → va_D A [(h_t, .inr (7, (.int t_thrown :: .int t_high :: .int t_wide :: .int t_components :: .ref h_t_bits :: .int t_unknown :: .int t_rights :: .int t_colours :: .int t_profiled :: .ref h_t_profile :: .int t_entries :: .int t_columns :: .ref h_t_columnBits :: .ref h_t_numbers :: .int t_maps :: .ref h_t_map :: .int t_lines :: .ref h_t_line :: .ref h_t_resolutions :: .ref h_t_file :: .int t_size :: .int t_scanned :: .int t_refusedAt :: .int t_cursor :: .int t_streamAt :: .int t_streamMany :: .int t_name :: .int t_from :: .int t_end :: .int t_sizeAt :: .int t_bitsAt :: .int t_colourAt :: .int t_colourEnd :: .int t_paletteAt :: .int t_mapAt :: .int t_mapEnd :: .int t_channelsAt :: .int t_captureAt :: .int t_displayAt :: .int t_resolved :: []))), (h_t_file, .inl (cI, 65536, .inl f_t_file))] → va_S A s.heap H locs → ∀ ls : Array Slot, lv_has ls 3 [(0, .ref h_t), (1, .int p1), (2, .int p2)] → W p l e R s m args below meth c H locs 0 0 Q (F0 m 13 ls [.ref h_t]) := by
    intro E O H locs hP hD hS ls hl
    refine lv_iconst (v := 1) hx hb d_Mo_spoil_13 (by decide) ?_
    refine lv_goto (tgt := 18) hx hb d_Mo_spoil_14 (by decide) ?_
    exact J_18 1 E O _ _ hP hD hS ls (lv_sub hl [0, 1, 2] rfl)
  refine lv_if_lt (tgt := 13) hx hb d_Mo_spoil_2 (by decide) (fun c_2 => ?_) (fun c_2 => ?_)
  · have E := (if_pos c_2).symm.trans E
    have O := Eq.mp (if_pos c_2) O
    exact J_13  E O _ _ hP hD hS ls (lv_sub hl [0, 1, 2] rfl)
  · have E := (if_neg c_2).symm.trans E
    have O := Eq.mp (if_neg c_2) O
    refine lv_iload_n hx hb d_Mo_spoil_5 rfl (lv_at hl 1 rfl) ?_
    refine lv_aload_n hx hb d_Mo_spoil_6 rfl (lv_at hl 0 rfl) ?_
    refine va_get (D := D) (v := .int t_size) hx hb hta i_Mo hown hK hP 0 rfl rfl 20 (by decide) (hta _ lk_Mo_143) (fun _ h9 => h9) rfl d_Mo_spoil_7 ?_
    refine lv_icmp_lt (tgt := 17) hx hb d_Mo_spoil_10 (by decide) (fun c_10 => ?_) (fun c_10 => ?_)
    · have E := (if_pos c_10).symm.trans E
      have O := Eq.mp (if_pos c_10) O
      refine lv_iconst (v := 0) hx hb d_Mo_spoil_17 (by decide) ?_
      exact J_18 0 E O _ _ hP hD hS ls (lv_sub hl [0, 1, 2] rfl)
    · have E := (if_neg c_10).symm.trans E
      have O := Eq.mp (if_neg c_10) O
      exact J_13  E O _ _ hP hD hS ls (lv_sub hl [0, 1, 2] rfl)
theorem d_Mo_place_0 : decode b_Mo_place 0 = .ok (.aload_n 0, 1) := by decide +kernel
theorem d_Mo_place_1 : decode b_Mo_place 1 = .ok (.iconst 0, 1) := by decide +kernel
theorem d_Mo_place_2 : decode b_Mo_place 2 = .ok (.putfield 43, 3) := by decide +kernel
theorem d_Mo_place_5 : decode b_Mo_place 5 = .ok (.aload_n 0, 1) := by decide +kernel
theorem d_Mo_place_6 : decode b_Mo_place 6 = .ok (.getfield 40, 3) := by decide +kernel
theorem d_Mo_place_9 : decode b_Mo_place 9 = .ok (.ireturn, 1) := by decide +kernel
def om_Mo_place : Prop :=
  True
def m_Mo_place (t_refusedAt : Int32) : Int32 :=
  t_refusedAt
set_option maxHeartbeats 4000000 in
set_option maxRecDepth 100000 in
theorem c_Mo_place (l : Launch) (D : va_G) (cB cI cJ : ClassId) (h_t h_t_bits h_t_profile h_t_columnBits h_t_numbers h_t_map h_t_line h_t_resolutions h_t_file : Nat) (t_thrown : Int32) (t_high : Int32) (t_wide : Int32) (t_components : Int32) (t_unknown : Int32) (t_rights : Int32) (t_colours : Int32) (t_profiled : Int32) (t_entries : Int32) (t_columns : Int32) (t_maps : Int32) (t_lines : Int32) (t_size : Int32) (t_scanned : Int32) (t_refusedAt : Int32) (t_cursor : Int32) (t_streamAt : Int32) (t_streamMany : Int32) (t_name : Int32) (t_from : Int32) (t_end : Int32) (t_sizeAt : Int32) (t_bitsAt : Int32) (t_colourAt : Int32) (t_colourEnd : Int32) (t_paletteAt : Int32) (t_mapAt : Int32) (t_mapEnd : Int32) (t_channelsAt : Int32) (t_captureAt : Int32) (t_displayAt : Int32) (t_resolved : Int32) (hO : om_Mo_place) (sz : Nat) : Ct l D cB cI cJ y_Mo_place b_Mo_place 1 (some .int) 0 0 0 0 [.ref h_t] [(h_t, .inr (7, (.int t_thrown :: .int t_high :: .int t_wide :: .int t_components :: .ref h_t_bits :: .int t_unknown :: .int t_rights :: .int t_colours :: .int t_profiled :: .ref h_t_profile :: .int t_entries :: .int t_columns :: .ref h_t_columnBits :: .ref h_t_numbers :: .int t_maps :: .ref h_t_map :: .int t_lines :: .ref h_t_line :: .ref h_t_resolutions :: .ref h_t_file :: .int t_size :: .int t_scanned :: .int t_refusedAt :: .int t_cursor :: .int t_streamAt :: .int t_streamMany :: .int t_name :: .int t_from :: .int t_end :: .int t_sizeAt :: .int t_bitsAt :: .int t_colourAt :: .int t_colourEnd :: .int t_paletteAt :: .int t_mapAt :: .int t_mapEnd :: .int t_channelsAt :: .int t_captureAt :: .int t_displayAt :: .int t_resolved :: [])))] (fun v w1 => ∃ (x : Int32), x = m_Mo_place t_refusedAt ∧ v = some (.int x) ∧ w1 = [(h_t, .inr (7, (.int 0 :: .int t_high :: .int t_wide :: .int t_components :: .ref h_t_bits :: .int t_unknown :: .int t_rights :: .int t_colours :: .int t_profiled :: .ref h_t_profile :: .int t_entries :: .int t_columns :: .ref h_t_columnBits :: .ref h_t_numbers :: .int t_maps :: .ref h_t_map :: .int t_lines :: .ref h_t_line :: .ref h_t_resolutions :: .ref h_t_file :: .int t_size :: .int t_scanned :: .int t_refusedAt :: .int t_cursor :: .int t_streamAt :: .int t_streamMany :: .int t_name :: .int t_from :: .int t_end :: .int t_sizeAt :: .int t_bitsAt :: .int t_colourAt :: .int t_colourEnd :: .int t_paletteAt :: .int t_mapAt :: .int t_mapEnd :: .int t_channelsAt :: .int t_captureAt :: .int t_displayAt :: .int t_resolved :: [])))]) sz := by
  refine Ct.of (by decide) (Nat.le_of_ble_eq_true rfl) ?_
  intro p e R s m args below meth c A ls Q hx hb hr hlk hml hta hown hin hK hN hA hRf hRl hRc hRs hP hD hS hl hQ
  have hl : lv_has ls 1 [(0, .ref h_t)] := hl
  obtain ⟨RES, E0⟩ : ∃ R, m_Mo_place t_refusedAt = R := ⟨_, rfl⟩
  have E := E0
  have O := hO
  refine lv_aload_n hx hb d_Mo_place_0 rfl (lv_at hl 0 rfl) ?_
  refine lv_iconst (v := 0) hx hb d_Mo_place_1 (by decide) ?_
  refine va_put (D := D) (ty := .int) hx hb hta i_Mo t_Mo t_Mo_ok n_Mo hown hK hP hD hS 0 rfl rfl 0 (by decide) (hta _ lk_Mo_43) (fun _ h9 => h9) rfl (by decide +kernel) rfl rfl (Nat.le_of_ble_eq_true rfl) d_Mo_place_2 (fun H locs (hP : va_P D classes [(h_t, .inr (7, (.int 0 :: .int t_high :: .int t_wide :: .int t_components :: .ref h_t_bits :: .int t_unknown :: .int t_rights :: .int t_colours :: .int t_profiled :: .ref h_t_profile :: .int t_entries :: .int t_columns :: .ref h_t_columnBits :: .ref h_t_numbers :: .int t_maps :: .ref h_t_map :: .int t_lines :: .ref h_t_line :: .ref h_t_resolutions :: .ref h_t_file :: .int t_size :: .int t_scanned :: .int t_refusedAt :: .int t_cursor :: .int t_streamAt :: .int t_streamMany :: .int t_name :: .int t_from :: .int t_end :: .int t_sizeAt :: .int t_bitsAt :: .int t_colourAt :: .int t_colourEnd :: .int t_paletteAt :: .int t_mapAt :: .int t_mapEnd :: .int t_channelsAt :: .int t_captureAt :: .int t_displayAt :: .int t_resolved :: [])))] H) (hD : va_D A [(h_t, .inr (7, (.int 0 :: .int t_high :: .int t_wide :: .int t_components :: .ref h_t_bits :: .int t_unknown :: .int t_rights :: .int t_colours :: .int t_profiled :: .ref h_t_profile :: .int t_entries :: .int t_columns :: .ref h_t_columnBits :: .ref h_t_numbers :: .int t_maps :: .ref h_t_map :: .int t_lines :: .ref h_t_line :: .ref h_t_resolutions :: .ref h_t_file :: .int t_size :: .int t_scanned :: .int t_refusedAt :: .int t_cursor :: .int t_streamAt :: .int t_streamMany :: .int t_name :: .int t_from :: .int t_end :: .int t_sizeAt :: .int t_bitsAt :: .int t_colourAt :: .int t_colourEnd :: .int t_paletteAt :: .int t_mapAt :: .int t_mapEnd :: .int t_channelsAt :: .int t_captureAt :: .int t_displayAt :: .int t_resolved :: [])))]) hS => ?_)
  refine lv_aload_n hx hb d_Mo_place_5 rfl (lv_at hl 0 rfl) ?_
  refine va_get (D := D) (v := .int t_refusedAt) hx hb hta i_Mo hown hK hP 0 rfl rfl 22 (by decide) (hta _ lk_Mo_40) (fun _ h9 => h9) rfl d_Mo_place_6 ?_
  exact kr_i hx hb hr hlk hQ hK hP hD hS ⟨(t_refusedAt : Int32), E.trans E0.symm, rfl, rfl⟩ (by omega) (by omega) d_Mo_place_9
theorem d_Mo_stream_0 : decode b_Mo_stream 0 = .ok (.aload_n 0, 1) := by decide +kernel
theorem d_Mo_stream_1 : decode b_Mo_stream 1 = .ok (.aload_n 0, 1) := by decide +kernel
theorem d_Mo_stream_2 : decode b_Mo_stream 2 = .ok (.getfield 146, 3) := by decide +kernel
theorem d_Mo_stream_5 : decode b_Mo_stream 5 = .ok (.ifCond .ne 7, 3) := by decide +kernel
theorem d_Mo_stream_8 : decode b_Mo_stream 8 = .ok (.iconst 1, 1) := by decide +kernel
theorem d_Mo_stream_9 : decode b_Mo_stream 9 = .ok (.goto 18, 3) := by decide +kernel
theorem d_Mo_stream_12 : decode b_Mo_stream 12 = .ok (.iload_n 1, 1) := by decide +kernel
theorem d_Mo_stream_13 : decode b_Mo_stream 13 = .ok (.i2l, 1) := by decide +kernel
theorem d_Mo_stream_14 : decode b_Mo_stream 14 = .ok (.lconst 0, 1) := by decide +kernel
theorem d_Mo_stream_15 : decode b_Mo_stream 15 = .ok (.lconst 1, 1) := by decide +kernel
theorem d_Mo_stream_16 : decode b_Mo_stream 16 = .ok (.invokestatic 81, 3) := by decide +kernel
theorem d_Mo_stream_19 : decode b_Mo_stream 19 = .ok (.ifCond .ne 7, 3) := by decide +kernel
theorem d_Mo_stream_22 : decode b_Mo_stream 22 = .ok (.iconst 2, 1) := by decide +kernel
theorem d_Mo_stream_23 : decode b_Mo_stream 23 = .ok (.goto 4, 3) := by decide +kernel
theorem d_Mo_stream_26 : decode b_Mo_stream 26 = .ok (.iconst 0, 1) := by decide +kernel
theorem d_Mo_stream_27 : decode b_Mo_stream 27 = .ok (.invokevirtual 89, 3) := by decide +kernel
theorem d_Mo_stream_30 : decode b_Mo_stream 30 = .ok (.ifCond .eq 5, 3) := by decide +kernel
theorem d_Mo_stream_33 : decode b_Mo_stream 33 = .ok (.iconst 0, 1) := by decide +kernel
theorem d_Mo_stream_34 : decode b_Mo_stream 34 = .ok (.ireturn, 1) := by decide +kernel
theorem d_Mo_stream_35 : decode b_Mo_stream 35 = .ok (.iload_n 1, 1) := by decide +kernel
theorem d_Mo_stream_36 : decode b_Mo_stream 36 = .ok (.ifCond .ne 10, 3) := by decide +kernel
theorem d_Mo_stream_39 : decode b_Mo_stream 39 = .ok (.aload_n 0, 1) := by decide +kernel
theorem d_Mo_stream_40 : decode b_Mo_stream 40 = .ok (.getfield 319, 3) := by decide +kernel
theorem d_Mo_stream_43 : decode b_Mo_stream 43 = .ok (.goto 7, 3) := by decide +kernel
theorem d_Mo_stream_46 : decode b_Mo_stream 46 = .ok (.aload_n 0, 1) := by decide +kernel
theorem d_Mo_stream_47 : decode b_Mo_stream 47 = .ok (.getfield 322, 3) := by decide +kernel
theorem d_Mo_stream_50 : decode b_Mo_stream 50 = .ok (.ireturn, 1) := by decide +kernel
def k_Mo_stream_27 (t_streamAt : Int32) (t_streamMany : Int32) (p1 : Int32) (x27 : Int32 × Int32) : Int32 × Int32 :=
  if x27.1 = 0 then (if p1 = 0 then (t_streamAt, x27.2) else (t_streamMany, x27.2)) else (0, x27.2)
def ok_Mo_stream_27 (p1 : Int32) (x27 : Int32 × Int32) : Prop :=
  if x27.1 = 0 then (if p1 = 0 then True else True) else True
def j_Mo_stream_27 (t_streamAt : Int32) (t_streamMany : Int32) (p1 : Int32) (j27_s1 : Int32) : Int32 × Int32 :=
  k_Mo_stream_27 t_streamAt t_streamMany p1 (m_Mo_refuse j27_s1)
def oj_Mo_stream_27 (p1 : Int32) (j27_s1 : Int32) : Prop :=
  om_Mo_refuse j27_s1 ∧ (ok_Mo_stream_27 p1 (m_Mo_refuse j27_s1))
def k_Mo_stream_16 (t_streamAt : Int32) (t_streamMany : Int32) (p1 : Int32) (x16 : Int32) : Int32 × Int32 :=
  if x16 = 0 then (j_Mo_stream_27 t_streamAt t_streamMany p1 2) else (j_Mo_stream_27 t_streamAt t_streamMany p1 0)
def ok_Mo_stream_16 (p1 : Int32) (x16 : Int32) : Prop :=
  if x16 = 0 then (oj_Mo_stream_27 p1 2) else (oj_Mo_stream_27 p1 0)
def om_Mo_stream (t_scanned : Int32) (p1 : Int32) : Prop :=
  if t_scanned = 0 then (oj_Mo_stream_27 p1 1) else (om_Mo_in ((p1 : Int32).toInt64) 0 1 ∧ (ok_Mo_stream_16 p1 (m_Mo_in ((p1 : Int32).toInt64) 0 1)))
def m_Mo_stream (t_scanned : Int32) (t_streamAt : Int32) (t_streamMany : Int32) (p1 : Int32) : Int32 × Int32 :=
  if t_scanned = 0 then (j_Mo_stream_27 t_streamAt t_streamMany p1 1) else (k_Mo_stream_16 t_streamAt t_streamMany p1 (m_Mo_in ((p1 : Int32).toInt64) 0 1))
set_option maxHeartbeats 4000000 in
set_option maxRecDepth 100000 in
theorem c_Mo_stream (l : Launch) (D : va_G) (cB cI cJ : ClassId) (h_t h_t_bits h_t_profile h_t_columnBits h_t_numbers h_t_map h_t_line h_t_resolutions h_t_file : Nat) (t_thrown : Int32) (t_high : Int32) (t_wide : Int32) (t_components : Int32) (t_unknown : Int32) (t_rights : Int32) (t_colours : Int32) (t_profiled : Int32) (t_entries : Int32) (t_columns : Int32) (t_maps : Int32) (t_lines : Int32) (t_size : Int32) (t_scanned : Int32) (t_refusedAt : Int32) (t_cursor : Int32) (t_streamAt : Int32) (t_streamMany : Int32) (t_name : Int32) (t_from : Int32) (t_end : Int32) (t_sizeAt : Int32) (t_bitsAt : Int32) (t_colourAt : Int32) (t_colourEnd : Int32) (t_paletteAt : Int32) (t_mapAt : Int32) (t_mapEnd : Int32) (t_channelsAt : Int32) (t_captureAt : Int32) (t_displayAt : Int32) (t_resolved : Int32) (p1 : Int32) (hO : om_Mo_stream t_scanned p1) (sz : Nat) : Ct l D cB cI cJ y_Mo_stream b_Mo_stream 2 (some .int) 1 25 0 0 [.ref h_t, .int p1] [(h_t, .inr (7, (.int t_thrown :: .int t_high :: .int t_wide :: .int t_components :: .ref h_t_bits :: .int t_unknown :: .int t_rights :: .int t_colours :: .int t_profiled :: .ref h_t_profile :: .int t_entries :: .int t_columns :: .ref h_t_columnBits :: .ref h_t_numbers :: .int t_maps :: .ref h_t_map :: .int t_lines :: .ref h_t_line :: .ref h_t_resolutions :: .ref h_t_file :: .int t_size :: .int t_scanned :: .int t_refusedAt :: .int t_cursor :: .int t_streamAt :: .int t_streamMany :: .int t_name :: .int t_from :: .int t_end :: .int t_sizeAt :: .int t_bitsAt :: .int t_colourAt :: .int t_colourEnd :: .int t_paletteAt :: .int t_mapAt :: .int t_mapEnd :: .int t_channelsAt :: .int t_captureAt :: .int t_displayAt :: .int t_resolved :: [])))] (fun v w1 => ∃ (x : Int32 × Int32), x = m_Mo_stream t_scanned t_streamAt t_streamMany p1 ∧ v = some (.int x.1) ∧ w1 = [(h_t, .inr (7, (.int x.2 :: .int t_high :: .int t_wide :: .int t_components :: .ref h_t_bits :: .int t_unknown :: .int t_rights :: .int t_colours :: .int t_profiled :: .ref h_t_profile :: .int t_entries :: .int t_columns :: .ref h_t_columnBits :: .ref h_t_numbers :: .int t_maps :: .ref h_t_map :: .int t_lines :: .ref h_t_line :: .ref h_t_resolutions :: .ref h_t_file :: .int t_size :: .int t_scanned :: .int t_refusedAt :: .int t_cursor :: .int t_streamAt :: .int t_streamMany :: .int t_name :: .int t_from :: .int t_end :: .int t_sizeAt :: .int t_bitsAt :: .int t_colourAt :: .int t_colourEnd :: .int t_paletteAt :: .int t_mapAt :: .int t_mapEnd :: .int t_channelsAt :: .int t_captureAt :: .int t_displayAt :: .int t_resolved :: [])))]) sz := by
  refine Ct.of (by decide) (Nat.le_of_ble_eq_true rfl) ?_
  intro p e R s m args below meth c A ls Q hx hb hr hlk hml hta hown hin hK hN hA hRf hRl hRc hRs hP hD hS hl hQ
  have hl : lv_has ls 2 [(0, .ref h_t), (1, .int p1)] := hl
  obtain ⟨RES, E0⟩ : ∃ R, m_Mo_stream t_scanned t_streamAt t_streamMany p1 = R := ⟨_, rfl⟩
  have E := E0
  have O := hO
  refine lv_aload_n hx hb d_Mo_stream_0 rfl (lv_at hl 0 rfl) ?_
  refine lv_aload_n hx hb d_Mo_stream_1 rfl (lv_at hl 0 rfl) ?_
  refine va_get (D := D) (v := .int t_scanned) hx hb hta i_Mo hown hK hP 0 rfl rfl 21 (by decide) (hta _ lk_Mo_146) (fun _ h9 => h9) rfl d_Mo_stream_2 ?_
  have J_27 : ∀ (j27_s1 : Int32), j_Mo_stream_27 t_streamAt t_streamMany p1 j27_s1 = RES → oj_Mo_stream_27 p1 j27_s1 → ∀ (H : Heap) (locs : List Loc), va_P D classes [(h_t, .inr (7, (.int t_thrown :: .int t_high :: .int t_wide :: .int t_components :: .ref h_t_bits :: .int t_unknown :: .int t_rights :: .int t_colours :: .int t_profiled :: .ref h_t_profile :: .int t_entries :: .int t_columns :: .ref h_t_columnBits :: .ref h_t_numbers :: .int t_maps :: .ref h_t_map :: .int t_lines :: .ref h_t_line :: .ref h_t_resolutions :: .ref h_t_file :: .int t_size :: .int t_scanned :: .int t_refusedAt :: .int t_cursor :: .int t_streamAt :: .int t_streamMany :: .int t_name :: .int t_from :: .int t_end :: .int t_sizeAt :: .int t_bitsAt :: .int t_colourAt :: .int t_colourEnd :: .int t_paletteAt :: .int t_mapAt :: .int t_mapEnd :: .int t_channelsAt :: .int t_captureAt :: .int t_displayAt :: .int t_resolved :: [])))] H → va_D A [(h_t, .inr (7, (.int t_thrown :: .int t_high :: .int t_wide :: .int t_components :: .ref h_t_bits :: .int t_unknown :: .int t_rights :: .int t_colours :: .int t_profiled :: .ref h_t_profile :: .int t_entries :: .int t_columns :: .ref h_t_columnBits :: .ref h_t_numbers :: .int t_maps :: .ref h_t_map :: .int t_lines :: .ref h_t_line :: .ref h_t_resolutions :: .ref h_t_file :: .int t_size :: .int t_scanned :: .int t_refusedAt :: .int t_cursor :: .int t_streamAt :: .int t_streamMany :: .int t_name :: .int t_from :: .int t_end :: .int t_sizeAt :: .int t_bitsAt :: .int t_colourAt :: .int t_colourEnd :: .int t_paletteAt :: .int t_mapAt :: .int t_mapEnd :: .int t_channelsAt :: .int t_captureAt :: .int t_displayAt :: .int t_resolved :: [])))] → va_S A s.heap H locs → ∀ ls : Array Slot, lv_has ls 2 [(0, .ref h_t), (1, .int p1)] → W p l e R s m args below meth c H locs 0 0 Q (F0 m 27 ls [.int j27_s1, .ref h_t]) := by
    intro j27_s1 E O H locs hP hD hS ls hl
    refine kc_V (As := [.int j27_s1]) (rest := []) (wr := []) [0] [] ⟨hx, hb, hml, hown, hta⟩ hK hN hP hD hS hA (c_Mo_refuse l D cB cI cJ h_t h_t_bits h_t_profile h_t_columnBits h_t_numbers h_t_map h_t_line h_t_resolutions h_t_file t_thrown t_high t_wide t_components t_unknown t_rights t_colours t_profiled t_entries t_columns t_maps t_lines t_size t_scanned t_refusedAt t_cursor t_streamAt t_streamMany t_name t_from t_end t_sizeAt t_bitsAt t_colourAt t_colourEnd t_paletteAt t_mapAt t_mapEnd t_channelsAt t_captureAt t_displayAt t_resolved j27_s1 O.1 _) (hta _ lk_Mo_89) (hta _ ini_Mo) (hta _ code_Mo_refuse) code_Mo_refuse (hta _ inst_Mo_refuse) (hta _ sel_Mo_refuse) hd_Mo_refuse rfl ⟨by omega, by omega⟩ (ci := 7) 0 rfl rfl rfl rfl (by decide) (by decide) (by decide) rfl hl.1 (lv_room (Nat.le_of_ble_eq_true rfl)) d_Mo_stream_27 ⟨by omega, by omega⟩ (fun v w1 H locs hw hP hD hS => ?_)
    obtain ⟨x27, hx27, rfl, rfl⟩ := hw
    have hP : va_P D classes [(h_t, .inr (7, (.int x27.2 :: .int t_high :: .int t_wide :: .int t_components :: .ref h_t_bits :: .int t_unknown :: .int t_rights :: .int t_colours :: .int t_profiled :: .ref h_t_profile :: .int t_entries :: .int t_columns :: .ref h_t_columnBits :: .ref h_t_numbers :: .int t_maps :: .ref h_t_map :: .int t_lines :: .ref h_t_line :: .ref h_t_resolutions :: .ref h_t_file :: .int t_size :: .int t_scanned :: .int t_refusedAt :: .int t_cursor :: .int t_streamAt :: .int t_streamMany :: .int t_name :: .int t_from :: .int t_end :: .int t_sizeAt :: .int t_bitsAt :: .int t_colourAt :: .int t_colourEnd :: .int t_paletteAt :: .int t_mapAt :: .int t_mapEnd :: .int t_channelsAt :: .int t_captureAt :: .int t_displayAt :: .int t_resolved :: [])))] H := hP.sub [0] rfl
    have hD : va_D A [(h_t, .inr (7, (.int x27.2 :: .int t_high :: .int t_wide :: .int t_components :: .ref h_t_bits :: .int t_unknown :: .int t_rights :: .int t_colours :: .int t_profiled :: .ref h_t_profile :: .int t_entries :: .int t_columns :: .ref h_t_columnBits :: .ref h_t_numbers :: .int t_maps :: .ref h_t_map :: .int t_lines :: .ref h_t_line :: .ref h_t_resolutions :: .ref h_t_file :: .int t_size :: .int t_scanned :: .int t_refusedAt :: .int t_cursor :: .int t_streamAt :: .int t_streamMany :: .int t_name :: .int t_from :: .int t_end :: .int t_sizeAt :: .int t_bitsAt :: .int t_colourAt :: .int t_colourEnd :: .int t_paletteAt :: .int t_mapAt :: .int t_mapEnd :: .int t_channelsAt :: .int t_captureAt :: .int t_displayAt :: .int t_resolved :: [])))] := hD.sub [0] (by decide) rfl
    refine W.eq (g2 := F0 m 30 ls [.int x27.1]) rfl ?_
    have O := O.2
    have E : k_Mo_stream_27 t_streamAt t_streamMany p1 x27 = RES := (congrArg (k_Mo_stream_27 t_streamAt t_streamMany p1) hx27).trans E
    have O : ok_Mo_stream_27 p1 x27 := by rw [hx27]; exact O
    refine lv_if_eq (tgt := 35) hx hb d_Mo_stream_30 (by decide) (fun c_30 => ?_) (fun c_30 => ?_)
    · have E := (if_pos c_30).symm.trans E
      have O := Eq.mp (if_pos c_30) O
      refine lv_iload_n hx hb d_Mo_stream_35 rfl (lv_at hl 1 rfl) ?_
      refine lv_if_ne (tgt := 46) hx hb d_Mo_stream_36 (by decide) (fun c_36 => ?_) (fun c_36 => ?_)
      · have E := (if_neg c_36).symm.trans E
        have O := Eq.mp (if_neg c_36) O
        refine lv_aload_n hx hb d_Mo_stream_46 rfl (lv_at hl 0 rfl) ?_
        refine va_get (D := D) (v := .int t_streamMany) hx hb hta i_Mo hown hK hP 0 rfl rfl 25 (by decide) (hta _ lk_Mo_322) (fun _ h9 => h9) rfl d_Mo_stream_47 ?_
        exact kr_i hx hb hr hlk hQ hK hP hD hS ⟨((t_streamMany, x27.2) : Int32 × Int32), E.trans E0.symm, rfl, rfl⟩ (by omega) (by omega) d_Mo_stream_50
      · have E := (if_pos c_36).symm.trans E
        have O := Eq.mp (if_pos c_36) O
        refine lv_aload_n hx hb d_Mo_stream_39 rfl (lv_at hl 0 rfl) ?_
        refine va_get (D := D) (v := .int t_streamAt) hx hb hta i_Mo hown hK hP 0 rfl rfl 24 (by decide) (hta _ lk_Mo_319) (fun _ h9 => h9) rfl d_Mo_stream_40 ?_
        refine lv_goto (tgt := 50) hx hb d_Mo_stream_43 (by decide) ?_
        exact kr_i hx hb hr hlk hQ hK hP hD hS ⟨((t_streamAt, x27.2) : Int32 × Int32), E.trans E0.symm, rfl, rfl⟩ (by omega) (by omega) d_Mo_stream_50
    · have E := (if_neg c_30).symm.trans E
      have O := Eq.mp (if_neg c_30) O
      refine lv_iconst (v := 0) hx hb d_Mo_stream_33 (by decide) ?_
      exact kr_i hx hb hr hlk hQ hK hP hD hS ⟨((0, x27.2) : Int32 × Int32), E.trans E0.symm, rfl, rfl⟩ (by omega) (by omega) d_Mo_stream_34
  refine lv_if_ne (tgt := 12) hx hb d_Mo_stream_5 (by decide) (fun c_5 => ?_) (fun c_5 => ?_)
  · have E := (if_neg c_5).symm.trans E
    have O := Eq.mp (if_neg c_5) O
    refine lv_iload_n hx hb d_Mo_stream_12 rfl (lv_at hl 1 rfl) ?_
    refine lv_i2l (v := (p1 : Int32).toInt64) hx hb d_Mo_stream_13 rfl ?_
    refine lv_lconst (v := 0) hx hb d_Mo_stream_14 (by decide) ?_
    refine lv_lconst (v := 1) hx hb d_Mo_stream_15 (by decide) ?_
    refine kc_S (As := [.long ((p1 : Int32).toInt64), .long 0, .long 1]) (rest := [.ref h_t]) (wr := [(h_t, .inr (7, (.int t_thrown :: .int t_high :: .int t_wide :: .int t_components :: .ref h_t_bits :: .int t_unknown :: .int t_rights :: .int t_colours :: .int t_profiled :: .ref h_t_profile :: .int t_entries :: .int t_columns :: .ref h_t_columnBits :: .ref h_t_numbers :: .int t_maps :: .ref h_t_map :: .int t_lines :: .ref h_t_line :: .ref h_t_resolutions :: .ref h_t_file :: .int t_size :: .int t_scanned :: .int t_refusedAt :: .int t_cursor :: .int t_streamAt :: .int t_streamMany :: .int t_name :: .int t_from :: .int t_end :: .int t_sizeAt :: .int t_bitsAt :: .int t_colourAt :: .int t_colourEnd :: .int t_paletteAt :: .int t_mapAt :: .int t_mapEnd :: .int t_channelsAt :: .int t_captureAt :: .int t_displayAt :: .int t_resolved :: [])))]) [] [0] ⟨hx, hb, hml, hown, hta⟩ hK hN hP hD hS hA (c_Mo_in l D cB cI cJ ((p1 : Int32).toInt64) 0 1 O.1 _) (hta _ lk_Mo_81) (hta _ ini_Mo) (hta _ code_Mo_in) code_Mo_in (hta _ stat_Mo_in) hd_Mo_in rfl ⟨by omega, by omega⟩ rfl rfl (by decide) (by decide) (by decide) rfl hl.1 (lv_room (Nat.le_of_ble_eq_true rfl)) d_Mo_stream_16 ⟨by omega, by omega⟩ (fun v w1 H locs hw hP hD hS => ?_)
    obtain ⟨x16, hx16, rfl, rfl⟩ := hw
    have hP : va_P D classes [(h_t, .inr (7, (.int t_thrown :: .int t_high :: .int t_wide :: .int t_components :: .ref h_t_bits :: .int t_unknown :: .int t_rights :: .int t_colours :: .int t_profiled :: .ref h_t_profile :: .int t_entries :: .int t_columns :: .ref h_t_columnBits :: .ref h_t_numbers :: .int t_maps :: .ref h_t_map :: .int t_lines :: .ref h_t_line :: .ref h_t_resolutions :: .ref h_t_file :: .int t_size :: .int t_scanned :: .int t_refusedAt :: .int t_cursor :: .int t_streamAt :: .int t_streamMany :: .int t_name :: .int t_from :: .int t_end :: .int t_sizeAt :: .int t_bitsAt :: .int t_colourAt :: .int t_colourEnd :: .int t_paletteAt :: .int t_mapAt :: .int t_mapEnd :: .int t_channelsAt :: .int t_captureAt :: .int t_displayAt :: .int t_resolved :: [])))] H := hP.sub [0] rfl
    have hD : va_D A [(h_t, .inr (7, (.int t_thrown :: .int t_high :: .int t_wide :: .int t_components :: .ref h_t_bits :: .int t_unknown :: .int t_rights :: .int t_colours :: .int t_profiled :: .ref h_t_profile :: .int t_entries :: .int t_columns :: .ref h_t_columnBits :: .ref h_t_numbers :: .int t_maps :: .ref h_t_map :: .int t_lines :: .ref h_t_line :: .ref h_t_resolutions :: .ref h_t_file :: .int t_size :: .int t_scanned :: .int t_refusedAt :: .int t_cursor :: .int t_streamAt :: .int t_streamMany :: .int t_name :: .int t_from :: .int t_end :: .int t_sizeAt :: .int t_bitsAt :: .int t_colourAt :: .int t_colourEnd :: .int t_paletteAt :: .int t_mapAt :: .int t_mapEnd :: .int t_channelsAt :: .int t_captureAt :: .int t_displayAt :: .int t_resolved :: [])))] := hD.sub [0] (by decide) rfl
    refine W.eq (g2 := F0 m 19 ls [.int x16, .ref h_t]) rfl ?_
    have O := O.2
    have E : k_Mo_stream_16 t_streamAt t_streamMany p1 x16 = RES := (congrArg (k_Mo_stream_16 t_streamAt t_streamMany p1) hx16).trans E
    have O : ok_Mo_stream_16 p1 x16 := by rw [hx16]; exact O
    refine lv_if_ne (tgt := 26) hx hb d_Mo_stream_19 (by decide) (fun c_19 => ?_) (fun c_19 => ?_)
    · have E := (if_neg c_19).symm.trans E
      have O := Eq.mp (if_neg c_19) O
      refine lv_iconst (v := 0) hx hb d_Mo_stream_26 (by decide) ?_
      exact J_27 0 E O _ _ hP hD hS ls (lv_sub hl [0, 1] rfl)
    · have E := (if_pos c_19).symm.trans E
      have O := Eq.mp (if_pos c_19) O
      refine lv_iconst (v := 2) hx hb d_Mo_stream_22 (by decide) ?_
      refine lv_goto (tgt := 27) hx hb d_Mo_stream_23 (by decide) ?_
      exact J_27 2 E O _ _ hP hD hS ls (lv_sub hl [0, 1] rfl)
  · have E := (if_pos c_5).symm.trans E
    have O := Eq.mp (if_pos c_5) O
    refine lv_iconst (v := 1) hx hb d_Mo_stream_8 (by decide) ?_
    refine lv_goto (tgt := 27) hx hb d_Mo_stream_9 (by decide) ?_
    exact J_27 1 E O _ _ hP hD hS ls (lv_sub hl [0, 1] rfl)
