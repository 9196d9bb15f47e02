theorem d_Mo_palette_0 : decode b_Mo_palette 0 = .ok (.aload_n 0, 1) := by decide +kernel
theorem d_Mo_palette_1 : decode b_Mo_palette 1 = .ok (.iload_n 1, 1) := by decide +kernel
theorem d_Mo_palette_2 : decode b_Mo_palette 2 = .ok (.i2l, 1) := by decide +kernel
theorem d_Mo_palette_3 : decode b_Mo_palette 3 = .ok (.lconst 0, 1) := by decide +kernel
theorem d_Mo_palette_4 : decode b_Mo_palette 4 = .ok (.ldc2_w 96, 3) := by decide +kernel
theorem d_Mo_palette_7 : decode b_Mo_palette 7 = .ok (.invokestatic 81, 3) := by decide +kernel
theorem d_Mo_palette_10 : decode b_Mo_palette 10 = .ok (.ifCond .eq 24, 3) := by decide +kernel
theorem d_Mo_palette_13 : decode b_Mo_palette 13 = .ok (.iload_n 2, 1) := by decide +kernel
theorem d_Mo_palette_14 : decode b_Mo_palette 14 = .ok (.i2l, 1) := by decide +kernel
theorem d_Mo_palette_15 : decode b_Mo_palette 15 = .ok (.lconst 1, 1) := by decide +kernel
theorem d_Mo_palette_16 : decode b_Mo_palette 16 = .ok (.ldc2_w 98, 3) := by decide +kernel
theorem d_Mo_palette_19 : decode b_Mo_palette 19 = .ok (.invokestatic 81, 3) := by decide +kernel
theorem d_Mo_palette_22 : decode b_Mo_palette 22 = .ok (.ifCond .eq 12, 3) := by decide +kernel
theorem d_Mo_palette_25 : decode b_Mo_palette 25 = .ok (.iload_n 1, 1) := by decide +kernel
theorem d_Mo_palette_26 : decode b_Mo_palette 26 = .ok (.iload_n 2, 1) := by decide +kernel
theorem d_Mo_palette_27 : decode b_Mo_palette 27 = .ok (.imul, 1) := by decide +kernel
theorem d_Mo_palette_28 : decode b_Mo_palette 28 = .ok (.sipush 4096, 3) := by decide +kernel
theorem d_Mo_palette_31 : decode b_Mo_palette 31 = .ok (.if_icmp .le 7, 3) := by decide +kernel
theorem d_Mo_palette_34 : decode b_Mo_palette 34 = .ok (.iconst 1, 1) := by decide +kernel
theorem d_Mo_palette_35 : decode b_Mo_palette 35 = .ok (.goto 4, 3) := by decide +kernel
theorem d_Mo_palette_38 : decode b_Mo_palette 38 = .ok (.iconst 0, 1) := by decide +kernel
theorem d_Mo_palette_39 : decode b_Mo_palette 39 = .ok (.invokevirtual 89, 3) := by decide +kernel
theorem d_Mo_palette_42 : decode b_Mo_palette 42 = .ok (.ifCond .eq 4, 3) := by decide +kernel
theorem d_Mo_palette_45 : decode b_Mo_palette 45 = .ok (.return_, 1) := by decide +kernel
theorem d_Mo_palette_46 : decode b_Mo_palette 46 = .ok (.aload_n 0, 1) := by decide +kernel
theorem d_Mo_palette_47 : decode b_Mo_palette 47 = .ok (.iload_n 1, 1) := by decide +kernel
theorem d_Mo_palette_48 : decode b_Mo_palette 48 = .ok (.putfield 67, 3) := by decide +kernel
theorem d_Mo_palette_51 : decode b_Mo_palette 51 = .ok (.aload_n 0, 1) := by decide +kernel
theorem d_Mo_palette_52 : decode b_Mo_palette 52 = .ok (.iload_n 1, 1) := by decide +kernel
theorem d_Mo_palette_53 : decode b_Mo_palette 53 = .ok (.ifCond .ne 7, 3) := by decide +kernel
theorem d_Mo_palette_56 : decode b_Mo_palette 56 = .ok (.iconst 0, 1) := by decide +kernel
theorem d_Mo_palette_57 : decode b_Mo_palette 57 = .ok (.goto 4, 3) := by decide +kernel
theorem d_Mo_palette_60 : decode b_Mo_palette 60 = .ok (.iload_n 2, 1) := by decide +kernel
theorem d_Mo_palette_61 : decode b_Mo_palette 61 = .ok (.putfield 70, 3) := by decide +kernel
theorem d_Mo_palette_64 : decode b_Mo_palette 64 = .ok (.aload_n 0, 1) := by decide +kernel
theorem d_Mo_palette_65 : decode b_Mo_palette 65 = .ok (.iconst 0, 1) := by decide +kernel
theorem d_Mo_palette_66 : decode b_Mo_palette 66 = .ok (.putfield 73, 3) := by decide +kernel
theorem d_Mo_palette_69 : decode b_Mo_palette 69 = .ok (.iconst 0, 1) := by decide +kernel
theorem d_Mo_palette_70 : decode b_Mo_palette 70 = .ok (.istore_n 3, 1) := by decide +kernel
theorem d_Mo_palette_71 : decode b_Mo_palette 71 = .ok (.iload_n 3, 1) := by decide +kernel
theorem d_Mo_palette_72 : decode b_Mo_palette 72 = .ok (.bipush 8, 2) := by decide +kernel
theorem d_Mo_palette_74 : decode b_Mo_palette 74 = .ok (.if_icmp .ge 17, 3) := by decide +kernel
theorem d_Mo_palette_77 : decode b_Mo_palette 77 = .ok (.aload_n 0, 1) := by decide +kernel
theorem d_Mo_palette_78 : decode b_Mo_palette 78 = .ok (.getfield 20, 3) := by decide +kernel
theorem d_Mo_palette_81 : decode b_Mo_palette 81 = .ok (.iload_n 3, 1) := by decide +kernel
theorem d_Mo_palette_82 : decode b_Mo_palette 82 = .ok (.bipush 7, 2) := by decide +kernel
theorem d_Mo_palette_84 : decode b_Mo_palette 84 = .ok (.iastore, 1) := by decide +kernel
theorem d_Mo_palette_85 : decode b_Mo_palette 85 = .ok (.iinc 3 1, 3) := by decide +kernel
theorem d_Mo_palette_88 : decode b_Mo_palette 88 = .ok (.goto (-17), 3) := by decide +kernel
theorem d_Mo_palette_91 : decode b_Mo_palette 91 = .ok (.iconst 0, 1) := by decide +kernel
theorem d_Mo_palette_92 : decode b_Mo_palette 92 = .ok (.istore_n 3, 1) := by decide +kernel
theorem d_Mo_palette_93 : decode b_Mo_palette 93 = .ok (.iload_n 3, 1) := by decide +kernel
theorem d_Mo_palette_94 : decode b_Mo_palette 94 = .ok (.sipush 4096, 3) := by decide +kernel
theorem d_Mo_palette_97 : decode b_Mo_palette 97 = .ok (.if_icmp .ge 16, 3) := by decide +kernel
theorem d_Mo_palette_100 : decode b_Mo_palette 100 = .ok (.aload_n 0, 1) := by decide +kernel
theorem d_Mo_palette_101 : decode b_Mo_palette 101 = .ok (.getfield 23, 3) := by decide +kernel
theorem d_Mo_palette_104 : decode b_Mo_palette 104 = .ok (.iload_n 3, 1) := by decide +kernel
theorem d_Mo_palette_105 : decode b_Mo_palette 105 = .ok (.lconst 0, 1) := by decide +kernel
theorem d_Mo_palette_106 : decode b_Mo_palette 106 = .ok (.lastore, 1) := by decide +kernel
theorem d_Mo_palette_107 : decode b_Mo_palette 107 = .ok (.iinc 3 1, 3) := by decide +kernel
theorem d_Mo_palette_110 : decode b_Mo_palette 110 = .ok (.goto (-17), 3) := by decide +kernel
theorem d_Mo_palette_113 : decode b_Mo_palette 113 = .ok (.return_, 1) := by decide +kernel
def lb_Mo_palette_93 (p1 : Int32) (x39 : Int32 × Int32) (j61_s1 : Int32) (v71_t_columnBits : Nat → Int32) (kk_93 : Int32 → (Nat → Int64) → Int32 × Int32 × Int32 × Int32 × (Nat → Int32) × (Nat → Int64)) (v93_3 : Int32) (v93_t_numbers : Nat → Int64) : Int32 × Int32 × Int32 × Int32 × (Nat → Int32) × (Nat → Int64) :=
  if 4096 ≤ v93_3 then (x39.2, p1, j61_s1, 0, v71_t_columnBits, v93_t_numbers) else (kk_93 (v93_3 + 1) (vp_updL v93_t_numbers v93_3.toNatClampNeg 0))
def lp_Mo_palette_93 (p1 : Int32) (x39 : Int32 × Int32) (j61_s1 : Int32) (v71_t_columnBits : Nat → Int32) : Nat → Int32 → (Nat → Int64) → Int32 × Int32 × Int32 × Int32 × (Nat → Int32) × (Nat → Int64)
  | 0, v93_3, v93_t_numbers => (x39.2, p1, j61_s1, 0, v71_t_columnBits, v93_t_numbers)
  | n + 1, v93_3, v93_t_numbers => lb_Mo_palette_93 p1 x39 j61_s1 v71_t_columnBits (lp_Mo_palette_93 p1 x39 j61_s1 v71_t_columnBits n) v93_3 v93_t_numbers
def olb_Mo_palette_93 (okk_93 : Int32 → (Nat → Int64) → Prop) (v93_3 : Int32) (v93_t_numbers : Nat → Int64) : Prop :=
  if 4096 ≤ v93_3 then True else (vp_in v93_3 4096 ∧ (okk_93 (v93_3 + 1) (vp_updL v93_t_numbers v93_3.toNatClampNeg 0)))
def olp_Mo_palette_93 : Nat → Int32 → (Nat → Int64) → Prop
  | 0, _, _ => True
  | n + 1, v93_3, v93_t_numbers => olb_Mo_palette_93 (olp_Mo_palette_93 n) v93_3 v93_t_numbers
def lb_Mo_palette_71 (f_t_numbers : Nat → Int64) (p1 : Int32) (x39 : Int32 × Int32) (j61_s1 : Int32) (kk_71 : Int32 → (Nat → Int32) → Int32 × Int32 × Int32 × Int32 × (Nat → Int32) × (Nat → Int64)) (v71_3 : Int32) (v71_t_columnBits : Nat → Int32) : Int32 × Int32 × Int32 × Int32 × (Nat → Int32) × (Nat → Int64) :=
  if 8 ≤ v71_3 then (lp_Mo_palette_93 p1 x39 j61_s1 v71_t_columnBits (((4096 : Int32).toInt - (0 : Int32).toInt).toNat + 1) 0 f_t_numbers) else (kk_71 (v71_3 + 1) (upd v71_t_columnBits v71_3.toNatClampNeg 7))
def lp_Mo_palette_71 (f_t_numbers : Nat → Int64) (p1 : Int32) (x39 : Int32 × Int32) (j61_s1 : Int32) : Nat → Int32 → (Nat → Int32) → Int32 × Int32 × Int32 × Int32 × (Nat → Int32) × (Nat → Int64)
  | 0, v71_3, v71_t_columnBits => (x39.2, p1, j61_s1, 0, v71_t_columnBits, f_t_numbers)
  | n + 1, v71_3, v71_t_columnBits => lb_Mo_palette_71 f_t_numbers p1 x39 j61_s1 (lp_Mo_palette_71 f_t_numbers p1 x39 j61_s1 n) v71_3 v71_t_columnBits
def olb_Mo_palette_71 (f_t_numbers : Nat → Int64) (okk_71 : Int32 → (Nat → Int32) → Prop) (v71_3 : Int32) (v71_t_columnBits : Nat → Int32) : Prop :=
  if 8 ≤ v71_3 then (olp_Mo_palette_93 (((4096 : Int32).toInt - (0 : Int32).toInt).toNat + 1) 0 f_t_numbers) else (vp_in v71_3 8 ∧ (okk_71 (v71_3 + 1) (upd v71_t_columnBits v71_3.toNatClampNeg 7)))
def olp_Mo_palette_71 (f_t_numbers : Nat → Int64) : Nat → Int32 → (Nat → Int32) → Prop
  | 0, _, _ => True
  | n + 1, v71_3, v71_t_columnBits => olb_Mo_palette_71 f_t_numbers (olp_Mo_palette_71 f_t_numbers n) v71_3 v71_t_columnBits
def j_Mo_palette_61 (f_t_columnBits : Nat → Int32) (f_t_numbers : Nat → Int64) (p1 : Int32) (x39 : Int32 × Int32) (j61_s1 : Int32) : Int32 × Int32 × Int32 × Int32 × (Nat → Int32) × (Nat → Int64) :=
  lp_Mo_palette_71 f_t_numbers p1 x39 j61_s1 (((8 : Int32).toInt - (0 : Int32).toInt).toNat + 1) 0 f_t_columnBits
def oj_Mo_palette_61 (f_t_columnBits : Nat → Int32) (f_t_numbers : Nat → Int64) (j61_s1 : Int32) : Prop :=
  olp_Mo_palette_71 f_t_numbers (((8 : Int32).toInt - (0 : Int32).toInt).toNat + 1) 0 f_t_columnBits
def k_Mo_palette_39 (t_entries : Int32) (t_columns : Int32) (t_maps : Int32) (f_t_columnBits : Nat → Int32) (f_t_numbers : Nat → Int64) (p1 : Int32) (p2 : Int32) (x39 : Int32 × Int32) : Int32 × Int32 × Int32 × Int32 × (Nat → Int32) × (Nat → Int64) :=
  if x39.1 = 0 then (if p1 = 0 then (j_Mo_palette_61 f_t_columnBits f_t_numbers p1 x39 0) else (j_Mo_palette_61 f_t_columnBits f_t_numbers p1 x39 p2)) else (x39.2, t_entries, t_columns, t_maps, f_t_columnBits, f_t_numbers)
def ok_Mo_palette_39 (f_t_columnBits : Nat → Int32) (f_t_numbers : Nat → Int64) (p1 : Int32) (p2 : Int32) (x39 : Int32 × Int32) : Prop :=
  if x39.1 = 0 then (if p1 = 0 then (oj_Mo_palette_61 f_t_columnBits f_t_numbers 0) else (oj_Mo_palette_61 f_t_columnBits f_t_numbers p2)) else True
def j_Mo_palette_39 (t_entries : Int32) (t_columns : Int32) (t_maps : Int32) (f_t_columnBits : Nat → Int32) (f_t_numbers : Nat → Int64) (p1 : Int32) (p2 : Int32) (j39_s1 : Int32) : Int32 × Int32 × Int32 × Int32 × (Nat → Int32) × (Nat → Int64) :=
  k_Mo_palette_39 t_entries t_columns t_maps f_t_columnBits f_t_numbers p1 p2 (m_Mo_refuse j39_s1)
def oj_Mo_palette_39 (f_t_columnBits : Nat → Int32) (f_t_numbers : Nat → Int64) (p1 : Int32) (p2 : Int32) (j39_s1 : Int32) : Prop :=
  om_Mo_refuse j39_s1 ∧ (ok_Mo_palette_39 f_t_columnBits f_t_numbers p1 p2 (m_Mo_refuse j39_s1))
def j_Mo_palette_34 (t_entries : Int32) (t_columns : Int32) (t_maps : Int32) (f_t_columnBits : Nat → Int32) (f_t_numbers : Nat → Int64) (p1 : Int32) (p2 : Int32) : Int32 × Int32 × Int32 × Int32 × (Nat → Int32) × (Nat → Int64) :=
  j_Mo_palette_39 t_entries t_columns t_maps f_t_columnBits f_t_numbers p1 p2 1
def oj_Mo_palette_34 (f_t_columnBits : Nat → Int32) (f_t_numbers : Nat → Int64) (p1 : Int32) (p2 : Int32) : Prop :=
  oj_Mo_palette_39 f_t_columnBits f_t_numbers p1 p2 1
def k_Mo_palette_19 (t_entries : Int32) (t_columns : Int32) (t_maps : Int32) (f_t_columnBits : Nat → Int32) (f_t_numbers : Nat → Int64) (p1 : Int32) (p2 : Int32) (x19 : Int32) : Int32 × Int32 × Int32 × Int32 × (Nat → Int32) × (Nat → Int64) :=
  if x19 = 0 then (j_Mo_palette_34 t_entries t_columns t_maps f_t_columnBits f_t_numbers p1 p2) else (if (p1 * p2) ≤ 4096 then (j_Mo_palette_39 t_entries t_columns t_maps f_t_columnBits f_t_numbers p1 p2 0) else (j_Mo_palette_34 t_entries t_columns t_maps f_t_columnBits f_t_numbers p1 p2))
def ok_Mo_palette_19 (f_t_columnBits : Nat → Int32) (f_t_numbers : Nat → Int64) (p1 : Int32) (p2 : Int32) (x19 : Int32) : Prop :=
  if x19 = 0 then (oj_Mo_palette_34 f_t_columnBits f_t_numbers p1 p2) else (if (p1 * p2) ≤ 4096 then (oj_Mo_palette_39 f_t_columnBits f_t_numbers p1 p2 0) else (oj_Mo_palette_34 f_t_columnBits f_t_numbers p1 p2))
def k_Mo_palette_7 (t_entries : Int32) (t_columns : Int32) (t_maps : Int32) (f_t_columnBits : Nat → Int32) (f_t_numbers : Nat → Int64) (p1 : Int32) (p2 : Int32) (x7 : Int32) : Int32 × Int32 × Int32 × Int32 × (Nat → Int32) × (Nat → Int64) :=
  if x7 = 0 then (j_Mo_palette_34 t_entries t_columns t_maps f_t_columnBits f_t_numbers p1 p2) else (k_Mo_palette_19 t_entries t_columns t_maps f_t_columnBits f_t_numbers p1 p2 (m_Mo_in ((p2 : Int32).toInt64) 1 8))
def ok_Mo_palette_7 (f_t_columnBits : Nat → Int32) (f_t_numbers : Nat → Int64) (p1 : Int32) (p2 : Int32) (x7 : Int32) : Prop :=
  if x7 = 0 then (oj_Mo_palette_34 f_t_columnBits f_t_numbers p1 p2) else (om_Mo_in ((p2 : Int32).toInt64) 1 8 ∧ (ok_Mo_palette_19 f_t_columnBits f_t_numbers p1 p2 (m_Mo_in ((p2 : Int32).toInt64) 1 8)))
def om_Mo_palette (f_t_columnBits : Nat → Int32) (f_t_numbers : Nat → Int64) (p1 : Int32) (p2 : Int32) : Prop :=
  om_Mo_in ((p1 : Int32).toInt64) 0 1024 ∧ (ok_Mo_palette_7 f_t_columnBits f_t_numbers p1 p2 (m_Mo_in ((p1 : Int32).toInt64) 0 1024))
def m_Mo_palette (t_entries : Int32) (t_columns : Int32) (t_maps : Int32) (f_t_columnBits : Nat → Int32) (f_t_numbers : Nat → Int64) (p1 : Int32) (p2 : Int32) : Int32 × Int32 × Int32 × Int32 × (Nat → Int32) × (Nat → Int64) :=
  k_Mo_palette_7 t_entries t_columns t_maps f_t_columnBits f_t_numbers p1 p2 (m_Mo_in ((p1 : Int32).toInt64) 0 1024)
set_option maxHeartbeats 4000000 in
set_option maxRecDepth 100000 in
theorem c_Mo_palette (l : Launch) (D : va_G) (cB cI cJ : ClassId) (h_t h_t_bits h_t_profile h_t_columnBits h_t_numbers h_t_map h_t_line h_t_resolutions h_t_file : Nat) (t_thrown : Int32) (t_high : Int32) (t_wide : Int32) (t_components : Int32) (t_unknown : Int32) (t_rights : Int32) (t_colours : Int32) (t_profiled : Int32) (t_entries : Int32) (t_columns : Int32) (t_maps : Int32) (t_lines : Int32) (t_size : Int32) (t_scanned : Int32) (t_refusedAt : Int32) (t_cursor : Int32) (t_streamAt : Int32) (t_streamMany : Int32) (t_name : Int32) (t_from : Int32) (t_end : Int32) (t_sizeAt : Int32) (t_bitsAt : Int32) (t_colourAt : Int32) (t_colourEnd : Int32) (t_paletteAt : Int32) (t_mapAt : Int32) (t_mapEnd : Int32) (t_channelsAt : Int32) (t_captureAt : Int32) (t_displayAt : Int32) (t_resolved : Int32) (f_t_columnBits : Nat → Int32) (f_t_numbers : Nat → Int64) (p1 : Int32) (p2 : Int32) (hO : om_Mo_palette f_t_columnBits f_t_numbers p1 p2) (sz : Nat) : Ct l D cB cI cJ y_Mo_palette b_Mo_palette 4 none 1 25 0 0 [.ref h_t, .int p1, .int p2] [(h_t, .inr (7, (.int t_thrown :: .int t_high :: .int t_wide :: .int t_components :: .ref h_t_bits :: .int t_unknown :: .int t_rights :: .int t_colours :: .int t_profiled :: .ref h_t_profile :: .int t_entries :: .int t_columns :: .ref h_t_columnBits :: .ref h_t_numbers :: .int t_maps :: .ref h_t_map :: .int t_lines :: .ref h_t_line :: .ref h_t_resolutions :: .ref h_t_file :: .int t_size :: .int t_scanned :: .int t_refusedAt :: .int t_cursor :: .int t_streamAt :: .int t_streamMany :: .int t_name :: .int t_from :: .int t_end :: .int t_sizeAt :: .int t_bitsAt :: .int t_colourAt :: .int t_colourEnd :: .int t_paletteAt :: .int t_mapAt :: .int t_mapEnd :: .int t_channelsAt :: .int t_captureAt :: .int t_displayAt :: .int t_resolved :: []))), (h_t_columnBits, .inl (cI, 8, .inl f_t_columnBits)), (h_t_numbers, .inl (cJ, 4096, .inr (.inl f_t_numbers)))] (fun v w1 => ∃ (x : Int32 × Int32 × Int32 × Int32 × (Nat → Int32) × (Nat → Int64)), x = m_Mo_palette t_entries t_columns t_maps f_t_columnBits f_t_numbers p1 p2 ∧ v = none ∧ w1 = [(h_t, .inr (7, (.int x.1 :: .int t_high :: .int t_wide :: .int t_components :: .ref h_t_bits :: .int t_unknown :: .int t_rights :: .int t_colours :: .int t_profiled :: .ref h_t_profile :: .int x.2.1 :: .int x.2.2.1 :: .ref h_t_columnBits :: .ref h_t_numbers :: .int x.2.2.2.1 :: .ref h_t_map :: .int t_lines :: .ref h_t_line :: .ref h_t_resolutions :: .ref h_t_file :: .int t_size :: .int t_scanned :: .int t_refusedAt :: .int t_cursor :: .int t_streamAt :: .int t_streamMany :: .int t_name :: .int t_from :: .int t_end :: .int t_sizeAt :: .int t_bitsAt :: .int t_colourAt :: .int t_colourEnd :: .int t_paletteAt :: .int t_mapAt :: .int t_mapEnd :: .int t_channelsAt :: .int t_captureAt :: .int t_displayAt :: .int t_resolved :: []))), (h_t_columnBits, .inl (cI, 8, .inl x.2.2.2.2.1)), (h_t_numbers, .inl (cJ, 4096, .inr (.inl x.2.2.2.2.2)))]) sz := by
  refine Ct.of (by decide) (Nat.le_of_ble_eq_true rfl) ?_
  intro p e R s m args below meth c A ls Q hx hb hr hlk hml hta hown hin hK hN hA hRf hRl hRc hRs hP hD hS hl hQ
  have hl : lv_has ls 4 [(0, .ref h_t), (1, .int p1), (2, .int p2)] := hl
  obtain ⟨RES, E0⟩ : ∃ R, m_Mo_palette t_entries t_columns t_maps f_t_columnBits f_t_numbers p1 p2 = R := ⟨_, rfl⟩
  have E := E0
  have O := hO
  refine lv_aload_n hx hb d_Mo_palette_0 rfl (lv_at hl 0 rfl) ?_
  refine lv_iload_n hx hb d_Mo_palette_1 rfl (lv_at hl 1 rfl) ?_
  refine lv_i2l (v := (p1 : Int32).toInt64) hx hb d_Mo_palette_2 rfl ?_
  refine lv_lconst (v := 0) hx hb d_Mo_palette_3 (by decide) ?_
  refine lv_ldc2 (v := 1024) hx hb hown (hta _ lk_Mo_96) d_Mo_palette_4 ?_
  refine kc_S (As := [.long ((p1 : Int32).toInt64), .long 0, .long 1024]) (rest := [.ref h_t]) (wr := [(h_t, .inr (7, (.int t_thrown :: .int t_high :: .int t_wide :: .int t_components :: .ref h_t_bits :: .int t_unknown :: .int t_rights :: .int t_colours :: .int t_profiled :: .ref h_t_profile :: .int t_entries :: .int t_columns :: .ref h_t_columnBits :: .ref h_t_numbers :: .int t_maps :: .ref h_t_map :: .int t_lines :: .ref h_t_line :: .ref h_t_resolutions :: .ref h_t_file :: .int t_size :: .int t_scanned :: .int t_refusedAt :: .int t_cursor :: .int t_streamAt :: .int t_streamMany :: .int t_name :: .int t_from :: .int t_end :: .int t_sizeAt :: .int t_bitsAt :: .int t_colourAt :: .int t_colourEnd :: .int t_paletteAt :: .int t_mapAt :: .int t_mapEnd :: .int t_channelsAt :: .int t_captureAt :: .int t_displayAt :: .int t_resolved :: []))), (h_t_columnBits, .inl (cI, 8, .inl f_t_columnBits)), (h_t_numbers, .inl (cJ, 4096, .inr (.inl f_t_numbers)))]) [] [0, 1, 2] ⟨hx, hb, hml, hown, hta⟩ hK hN hP hD hS hA (c_Mo_in l D cB cI cJ ((p1 : Int32).toInt64) 0 1024 O.1 _) (hta _ lk_Mo_81) (hta _ ini_Mo) (hta _ code_Mo_in) code_Mo_in (hta _ stat_Mo_in) hd_Mo_in rfl ⟨by omega, by omega⟩ rfl rfl (by decide) (by decide) (by decide) rfl hl.1 (lv_room (Nat.le_of_ble_eq_true rfl)) d_Mo_palette_7 ⟨by omega, by omega⟩ (fun v w1 H locs hw hP hD hS => ?_)
  obtain ⟨x7, hx7, rfl, rfl⟩ := hw
  have hP : va_P D classes [(h_t, .inr (7, (.int t_thrown :: .int t_high :: .int t_wide :: .int t_components :: .ref h_t_bits :: .int t_unknown :: .int t_rights :: .int t_colours :: .int t_profiled :: .ref h_t_profile :: .int t_entries :: .int t_columns :: .ref h_t_columnBits :: .ref h_t_numbers :: .int t_maps :: .ref h_t_map :: .int t_lines :: .ref h_t_line :: .ref h_t_resolutions :: .ref h_t_file :: .int t_size :: .int t_scanned :: .int t_refusedAt :: .int t_cursor :: .int t_streamAt :: .int t_streamMany :: .int t_name :: .int t_from :: .int t_end :: .int t_sizeAt :: .int t_bitsAt :: .int t_colourAt :: .int t_colourEnd :: .int t_paletteAt :: .int t_mapAt :: .int t_mapEnd :: .int t_channelsAt :: .int t_captureAt :: .int t_displayAt :: .int t_resolved :: []))), (h_t_columnBits, .inl (cI, 8, .inl f_t_columnBits)), (h_t_numbers, .inl (cJ, 4096, .inr (.inl f_t_numbers)))] H := hP.sub [0, 1, 2] rfl
  have hD : va_D A [(h_t, .inr (7, (.int t_thrown :: .int t_high :: .int t_wide :: .int t_components :: .ref h_t_bits :: .int t_unknown :: .int t_rights :: .int t_colours :: .int t_profiled :: .ref h_t_profile :: .int t_entries :: .int t_columns :: .ref h_t_columnBits :: .ref h_t_numbers :: .int t_maps :: .ref h_t_map :: .int t_lines :: .ref h_t_line :: .ref h_t_resolutions :: .ref h_t_file :: .int t_size :: .int t_scanned :: .int t_refusedAt :: .int t_cursor :: .int t_streamAt :: .int t_streamMany :: .int t_name :: .int t_from :: .int t_end :: .int t_sizeAt :: .int t_bitsAt :: .int t_colourAt :: .int t_colourEnd :: .int t_paletteAt :: .int t_mapAt :: .int t_mapEnd :: .int t_channelsAt :: .int t_captureAt :: .int t_displayAt :: .int t_resolved :: []))), (h_t_columnBits, .inl (cI, 8, .inl f_t_columnBits)), (h_t_numbers, .inl (cJ, 4096, .inr (.inl f_t_numbers)))] := hD.sub [0, 1, 2] (by decide) rfl
  refine W.eq (g2 := F0 m 10 ls [.int x7, .ref h_t]) rfl ?_
  have O := O.2
  have E : k_Mo_palette_7 t_entries t_columns t_maps f_t_columnBits f_t_numbers p1 p2 x7 = RES := (congrArg (k_Mo_palette_7 t_entries t_columns t_maps f_t_columnBits f_t_numbers p1 p2) hx7).trans E
  have O : ok_Mo_palette_7 f_t_columnBits f_t_numbers p1 p2 x7 := by rw [hx7]; exact O
  have J_39 : ∀ (j39_s1 : Int32), j_Mo_palette_39 t_entries t_columns t_maps f_t_columnBits f_t_numbers p1 p2 j39_s1 = RES → oj_Mo_palette_39 f_t_columnBits f_t_numbers p1 p2 j39_s1 → ∀ (H : Heap) (locs : List Loc), va_P D classes [(h_t, .inr (7, (.int t_thrown :: .int t_high :: .int t_wide :: .int t_components :: .ref h_t_bits :: .int t_unknown :: .int t_rights :: .int t_colours :: .int t_profiled :: .ref h_t_profile :: .int t_entries :: .int t_columns :: .ref h_t_columnBits :: .ref h_t_numbers :: .int t_maps :: .ref h_t_map :: .int t_lines :: .ref h_t_line :: .ref h_t_resolutions :: .ref h_t_file :: .int t_size :: .int t_scanned :: .int t_refusedAt :: .int t_cursor :: .int t_streamAt :: .int t_streamMany :: .int t_name :: .int t_from :: .int t_end :: .int t_sizeAt :: .int t_bitsAt :: .int t_colourAt :: .int t_colourEnd :: .int t_paletteAt :: .int t_mapAt :: .int t_mapEnd :: .int t_channelsAt :: .int t_captureAt :: .int t_displayAt :: .int t_resolved :: []))), (h_t_columnBits, .inl (cI, 8, .inl f_t_columnBits)), (h_t_numbers, .inl (cJ, 4096, .inr (.inl f_t_numbers)))] H → va_D A [(h_t, .inr (7, (.int t_thrown :: .int t_high :: .int t_wide :: .int t_components :: .ref h_t_bits :: .int t_unknown :: .int t_rights :: .int t_colours :: .int t_profiled :: .ref h_t_profile :: .int t_entries :: .int t_columns :: .ref h_t_columnBits :: .ref h_t_numbers :: .int t_maps :: .ref h_t_map :: .int t_lines :: .ref h_t_line :: .ref h_t_resolutions :: .ref h_t_file :: .int t_size :: .int t_scanned :: .int t_refusedAt :: .int t_cursor :: .int t_streamAt :: .int t_streamMany :: .int t_name :: .int t_from :: .int t_end :: .int t_sizeAt :: .int t_bitsAt :: .int t_colourAt :: .int t_colourEnd :: .int t_paletteAt :: .int t_mapAt :: .int t_mapEnd :: .int t_channelsAt :: .int t_captureAt :: .int t_displayAt :: .int t_resolved :: []))), (h_t_columnBits, .inl (cI, 8, .inl f_t_columnBits)), (h_t_numbers, .inl (cJ, 4096, .inr (.inl f_t_numbers)))] → va_S A s.heap H locs → ∀ ls : Array Slot, lv_has ls 4 [(0, .ref h_t), (1, .int p1), (2, .int p2)] → W p l e R s m args below meth c H locs 0 0 Q (F0 m 39 ls [.int j39_s1, .ref h_t]) := by
    intro j39_s1 E O H locs hP hD hS ls hl
    refine kc_V (As := [.int j39_s1]) (rest := []) (wr := [(h_t_columnBits, .inl (cI, 8, .inl f_t_columnBits)), (h_t_numbers, .inl (cJ, 4096, .inr (.inl f_t_numbers)))]) [0] [1, 2] ⟨hx, hb, hml, hown, hta⟩ hK hN hP hD hS hA (c_Mo_refuse l D cB cI cJ h_t h_t_bits h_t_profile h_t_columnBits h_t_numbers h_t_map h_t_line h_t_resolutions h_t_file t_thrown t_high t_wide t_components t_unknown t_rights t_colours t_profiled t_entries t_columns t_maps t_lines t_size t_scanned t_refusedAt t_cursor t_streamAt t_streamMany t_name t_from t_end t_sizeAt t_bitsAt t_colourAt t_colourEnd t_paletteAt t_mapAt t_mapEnd t_channelsAt t_captureAt t_displayAt t_resolved j39_s1 O.1 _) (hta _ lk_Mo_89) (hta _ ini_Mo) (hta _ code_Mo_refuse) code_Mo_refuse (hta _ inst_Mo_refuse) (hta _ sel_Mo_refuse) hd_Mo_refuse rfl ⟨by omega, by omega⟩ (ci := 7) 0 rfl rfl rfl rfl (by decide) (by decide) (by decide) rfl hl.1 (lv_room (Nat.le_of_ble_eq_true rfl)) d_Mo_palette_39 ⟨by omega, by omega⟩ (fun v w1 H locs hw hP hD hS => ?_)
    obtain ⟨x39, hx39, rfl, rfl⟩ := hw
    have hP : va_P D classes [(h_t, .inr (7, (.int x39.2 :: .int t_high :: .int t_wide :: .int t_components :: .ref h_t_bits :: .int t_unknown :: .int t_rights :: .int t_colours :: .int t_profiled :: .ref h_t_profile :: .int t_entries :: .int t_columns :: .ref h_t_columnBits :: .ref h_t_numbers :: .int t_maps :: .ref h_t_map :: .int t_lines :: .ref h_t_line :: .ref h_t_resolutions :: .ref h_t_file :: .int t_size :: .int t_scanned :: .int t_refusedAt :: .int t_cursor :: .int t_streamAt :: .int t_streamMany :: .int t_name :: .int t_from :: .int t_end :: .int t_sizeAt :: .int t_bitsAt :: .int t_colourAt :: .int t_colourEnd :: .int t_paletteAt :: .int t_mapAt :: .int t_mapEnd :: .int t_channelsAt :: .int t_captureAt :: .int t_displayAt :: .int t_resolved :: []))), (h_t_columnBits, .inl (cI, 8, .inl f_t_columnBits)), (h_t_numbers, .inl (cJ, 4096, .inr (.inl f_t_numbers)))] H := hP.sub [2, 0, 1] rfl
    have hD : va_D A [(h_t, .inr (7, (.int x39.2 :: .int t_high :: .int t_wide :: .int t_components :: .ref h_t_bits :: .int t_unknown :: .int t_rights :: .int t_colours :: .int t_profiled :: .ref h_t_profile :: .int t_entries :: .int t_columns :: .ref h_t_columnBits :: .ref h_t_numbers :: .int t_maps :: .ref h_t_map :: .int t_lines :: .ref h_t_line :: .ref h_t_resolutions :: .ref h_t_file :: .int t_size :: .int t_scanned :: .int t_refusedAt :: .int t_cursor :: .int t_streamAt :: .int t_streamMany :: .int t_name :: .int t_from :: .int t_end :: .int t_sizeAt :: .int t_bitsAt :: .int t_colourAt :: .int t_colourEnd :: .int t_paletteAt :: .int t_mapAt :: .int t_mapEnd :: .int t_channelsAt :: .int t_captureAt :: .int t_displayAt :: .int t_resolved :: []))), (h_t_columnBits, .inl (cI, 8, .inl f_t_columnBits)), (h_t_numbers, .inl (cJ, 4096, .inr (.inl f_t_numbers)))] := hD.sub [2, 0, 1] (by decide) rfl
    refine W.eq (g2 := F0 m 42 ls [.int x39.1]) rfl ?_
    have O := O.2
    have E : k_Mo_palette_39 t_entries t_columns t_maps f_t_columnBits f_t_numbers p1 p2 x39 = RES := (congrArg (k_Mo_palette_39 t_entries t_columns t_maps f_t_columnBits f_t_numbers p1 p2) hx39).trans E
    have O : ok_Mo_palette_39 f_t_columnBits f_t_numbers p1 p2 x39 := by rw [hx39]; exact O
    refine lv_if_eq (tgt := 46) hx hb d_Mo_palette_42 (by decide) (fun c_42 => ?_) (fun c_42 => ?_)
    · have E := (if_pos c_42).symm.trans E
      have O := Eq.mp (if_pos c_42) O
      refine lv_aload_n hx hb d_Mo_palette_46 rfl (lv_at hl 0 rfl) ?_
      refine lv_iload_n hx hb d_Mo_palette_47 rfl (lv_at hl 1 rfl) ?_
      refine va_put (D := D) (ty := .int) hx hb hta i_Mo t_Mo t_Mo_ok n_Mo hown hK hP hD hS 0 rfl rfl 10 (by decide) (hta _ lk_Mo_67) (fun _ h9 => h9) rfl (by decide +kernel) rfl rfl (Nat.le_of_ble_eq_true rfl) d_Mo_palette_48 (fun H locs (hP : va_P D classes [(h_t, .inr (7, (.int x39.2 :: .int t_high :: .int t_wide :: .int t_components :: .ref h_t_bits :: .int t_unknown :: .int t_rights :: .int t_colours :: .int t_profiled :: .ref h_t_profile :: .int p1 :: .int t_columns :: .ref h_t_columnBits :: .ref h_t_numbers :: .int t_maps :: .ref h_t_map :: .int t_lines :: .ref h_t_line :: .ref h_t_resolutions :: .ref h_t_file :: .int t_size :: .int t_scanned :: .int t_refusedAt :: .int t_cursor :: .int t_streamAt :: .int t_streamMany :: .int t_name :: .int t_from :: .int t_end :: .int t_sizeAt :: .int t_bitsAt :: .int t_colourAt :: .int t_colourEnd :: .int t_paletteAt :: .int t_mapAt :: .int t_mapEnd :: .int t_channelsAt :: .int t_captureAt :: .int t_displayAt :: .int t_resolved :: []))), (h_t_columnBits, .inl (cI, 8, .inl f_t_columnBits)), (h_t_numbers, .inl (cJ, 4096, .inr (.inl f_t_numbers)))] H) (hD : va_D A [(h_t, .inr (7, (.int x39.2 :: .int t_high :: .int t_wide :: .int t_components :: .ref h_t_bits :: .int t_unknown :: .int t_rights :: .int t_colours :: .int t_profiled :: .ref h_t_profile :: .int p1 :: .int t_columns :: .ref h_t_columnBits :: .ref h_t_numbers :: .int t_maps :: .ref h_t_map :: .int t_lines :: .ref h_t_line :: .ref h_t_resolutions :: .ref h_t_file :: .int t_size :: .int t_scanned :: .int t_refusedAt :: .int t_cursor :: .int t_streamAt :: .int t_streamMany :: .int t_name :: .int t_from :: .int t_end :: .int t_sizeAt :: .int t_bitsAt :: .int t_colourAt :: .int t_colourEnd :: .int t_paletteAt :: .int t_mapAt :: .int t_mapEnd :: .int t_channelsAt :: .int t_captureAt :: .int t_displayAt :: .int t_resolved :: []))), (h_t_columnBits, .inl (cI, 8, .inl f_t_columnBits)), (h_t_numbers, .inl (cJ, 4096, .inr (.inl f_t_numbers)))]) hS => ?_)
      refine lv_aload_n hx hb d_Mo_palette_51 rfl (lv_at hl 0 rfl) ?_
      refine lv_iload_n hx hb d_Mo_palette_52 rfl (lv_at hl 1 rfl) ?_
      have J_61 : ∀ (j61_s1 : Int32), j_Mo_palette_61 f_t_columnBits f_t_numbers p1 x39 j61_s1 = RES → oj_Mo_palette_61 f_t_columnBits f_t_numbers j61_s1 → ∀ (H : Heap) (locs : List Loc), va_P D classes [(h_t, .inr (7, (.int x39.2 :: .int t_high :: .int t_wide :: .int t_components :: .ref h_t_bits :: .int t_unknown :: .int t_rights :: .int t_colours :: .int t_profiled :: .ref h_t_profile :: .int p1 :: .int t_columns :: .ref h_t_columnBits :: .ref h_t_numbers :: .int t_maps :: .ref h_t_map :: .int t_lines :: .ref h_t_line :: .ref h_t_resolutions :: .ref h_t_file :: .int t_size :: .int t_scanned :: .int t_refusedAt :: .int t_cursor :: .int t_streamAt :: .int t_streamMany :: .int t_name :: .int t_from :: .int t_end :: .int t_sizeAt :: .int t_bitsAt :: .int t_colourAt :: .int t_colourEnd :: .int t_paletteAt :: .int t_mapAt :: .int t_mapEnd :: .int t_channelsAt :: .int t_captureAt :: .int t_displayAt :: .int t_resolved :: []))), (h_t_columnBits, .inl (cI, 8, .inl f_t_columnBits)), (h_t_numbers, .inl (cJ, 4096, .inr (.inl f_t_numbers)))] H → va_D A [(h_t, .inr (7, (.int x39.2 :: .int t_high :: .int t_wide :: .int t_components :: .ref h_t_bits :: .int t_unknown :: .int t_rights :: .int t_colours :: .int t_profiled :: .ref h_t_profile :: .int p1 :: .int t_columns :: .ref h_t_columnBits :: .ref h_t_numbers :: .int t_maps :: .ref h_t_map :: .int t_lines :: .ref h_t_line :: .ref h_t_resolutions :: .ref h_t_file :: .int t_size :: .int t_scanned :: .int t_refusedAt :: .int t_cursor :: .int t_streamAt :: .int t_streamMany :: .int t_name :: .int t_from :: .int t_end :: .int t_sizeAt :: .int t_bitsAt :: .int t_colourAt :: .int t_colourEnd :: .int t_paletteAt :: .int t_mapAt :: .int t_mapEnd :: .int t_channelsAt :: .int t_captureAt :: .int t_displayAt :: .int t_resolved :: []))), (h_t_columnBits, .inl (cI, 8, .inl f_t_columnBits)), (h_t_numbers, .inl (cJ, 4096, .inr (.inl f_t_numbers)))] → va_S A s.heap H locs → ∀ ls : Array Slot, lv_has ls 4 [(0, .ref h_t)] → W p l e R s m args below meth c H locs 0 0 Q (F0 m 61 ls [.int j61_s1, .ref h_t]) := by
        intro j61_s1 E O H locs hP hD hS ls hl
        refine va_put (D := D) (ty := .int) hx hb hta i_Mo t_Mo t_Mo_ok n_Mo hown hK hP hD hS 0 rfl rfl 11 (by decide) (hta _ lk_Mo_70) (fun _ h9 => h9) rfl (by decide +kernel) rfl rfl (Nat.le_of_ble_eq_true rfl) d_Mo_palette_61 (fun H locs (hP : va_P D classes [(h_t, .inr (7, (.int x39.2 :: .int t_high :: .int t_wide :: .int t_components :: .ref h_t_bits :: .int t_unknown :: .int t_rights :: .int t_colours :: .int t_profiled :: .ref h_t_profile :: .int p1 :: .int j61_s1 :: .ref h_t_columnBits :: .ref h_t_numbers :: .int t_maps :: .ref h_t_map :: .int t_lines :: .ref h_t_line :: .ref h_t_resolutions :: .ref h_t_file :: .int t_size :: .int t_scanned :: .int t_refusedAt :: .int t_cursor :: .int t_streamAt :: .int t_streamMany :: .int t_name :: .int t_from :: .int t_end :: .int t_sizeAt :: .int t_bitsAt :: .int t_colourAt :: .int t_colourEnd :: .int t_paletteAt :: .int t_mapAt :: .int t_mapEnd :: .int t_channelsAt :: .int t_captureAt :: .int t_displayAt :: .int t_resolved :: []))), (h_t_columnBits, .inl (cI, 8, .inl f_t_columnBits)), (h_t_numbers, .inl (cJ, 4096, .inr (.inl f_t_numbers)))] H) (hD : va_D A [(h_t, .inr (7, (.int x39.2 :: .int t_high :: .int t_wide :: .int t_components :: .ref h_t_bits :: .int t_unknown :: .int t_rights :: .int t_colours :: .int t_profiled :: .ref h_t_profile :: .int p1 :: .int j61_s1 :: .ref h_t_columnBits :: .ref h_t_numbers :: .int t_maps :: .ref h_t_map :: .int t_lines :: .ref h_t_line :: .ref h_t_resolutions :: .ref h_t_file :: .int t_size :: .int t_scanned :: .int t_refusedAt :: .int t_cursor :: .int t_streamAt :: .int t_streamMany :: .int t_name :: .int t_from :: .int t_end :: .int t_sizeAt :: .int t_bitsAt :: .int t_colourAt :: .int t_colourEnd :: .int t_paletteAt :: .int t_mapAt :: .int t_mapEnd :: .int t_channelsAt :: .int t_captureAt :: .int t_displayAt :: .int t_resolved :: []))), (h_t_columnBits, .inl (cI, 8, .inl f_t_columnBits)), (h_t_numbers, .inl (cJ, 4096, .inr (.inl f_t_numbers)))]) hS => ?_)
        refine lv_aload_n hx hb d_Mo_palette_64 rfl (lv_at hl 0 rfl) ?_
        refine lv_iconst (v := 0) hx hb d_Mo_palette_65 (by decide) ?_
        refine va_put (D := D) (ty := .int) hx hb hta i_Mo t_Mo t_Mo_ok n_Mo hown hK hP hD hS 0 rfl rfl 14 (by decide) (hta _ lk_Mo_73) (fun _ h9 => h9) rfl (by decide +kernel) rfl rfl (Nat.le_of_ble_eq_true rfl) d_Mo_palette_66 (fun H locs (hP : va_P D classes [(h_t, .inr (7, (.int x39.2 :: .int t_high :: .int t_wide :: .int t_components :: .ref h_t_bits :: .int t_unknown :: .int t_rights :: .int t_colours :: .int t_profiled :: .ref h_t_profile :: .int p1 :: .int j61_s1 :: .ref h_t_columnBits :: .ref h_t_numbers :: .int 0 :: .ref h_t_map :: .int t_lines :: .ref h_t_line :: .ref h_t_resolutions :: .ref h_t_file :: .int t_size :: .int t_scanned :: .int t_refusedAt :: .int t_cursor :: .int t_streamAt :: .int t_streamMany :: .int t_name :: .int t_from :: .int t_end :: .int t_sizeAt :: .int t_bitsAt :: .int t_colourAt :: .int t_colourEnd :: .int t_paletteAt :: .int t_mapAt :: .int t_mapEnd :: .int t_channelsAt :: .int t_captureAt :: .int t_displayAt :: .int t_resolved :: []))), (h_t_columnBits, .inl (cI, 8, .inl f_t_columnBits)), (h_t_numbers, .inl (cJ, 4096, .inr (.inl f_t_numbers)))] H) (hD : va_D A [(h_t, .inr (7, (.int x39.2 :: .int t_high :: .int t_wide :: .int t_components :: .ref h_t_bits :: .int t_unknown :: .int t_rights :: .int t_colours :: .int t_profiled :: .ref h_t_profile :: .int p1 :: .int j61_s1 :: .ref h_t_columnBits :: .ref h_t_numbers :: .int 0 :: .ref h_t_map :: .int t_lines :: .ref h_t_line :: .ref h_t_resolutions :: .ref h_t_file :: .int t_size :: .int t_scanned :: .int t_refusedAt :: .int t_cursor :: .int t_streamAt :: .int t_streamMany :: .int t_name :: .int t_from :: .int t_end :: .int t_sizeAt :: .int t_bitsAt :: .int t_colourAt :: .int t_colourEnd :: .int t_paletteAt :: .int t_mapAt :: .int t_mapEnd :: .int t_channelsAt :: .int t_captureAt :: .int t_displayAt :: .int t_resolved :: []))), (h_t_columnBits, .inl (cI, 8, .inl f_t_columnBits)), (h_t_numbers, .inl (cJ, 4096, .inr (.inl f_t_numbers)))]) hS => ?_)
        refine lv_iconst (v := 0) hx hb d_Mo_palette_69 (by decide) ?_
        refine lv_istore_n (lv' := [(3, .int 0), (0, .ref h_t)]) hx hb d_Mo_palette_70 rfl hl (by decide) rfl (fun ls hl => ?_)
        have L_71 : ∀ (n : Nat) (v71_3 : Int32) (v71_t_columnBits : Nat → Int32), ((8 : Int32).toInt - v71_3.toInt).toNat < n → lp_Mo_palette_71 f_t_numbers p1 x39 j61_s1 n v71_3 v71_t_columnBits = RES → olp_Mo_palette_71 f_t_numbers n v71_3 v71_t_columnBits → ∀ (H : Heap) (locs : List Loc), va_P D classes [(h_t, .inr (7, (.int x39.2 :: .int t_high :: .int t_wide :: .int t_components :: .ref h_t_bits :: .int t_unknown :: .int t_rights :: .int t_colours :: .int t_profiled :: .ref h_t_profile :: .int p1 :: .int j61_s1 :: .ref h_t_columnBits :: .ref h_t_numbers :: .int 0 :: .ref h_t_map :: .int t_lines :: .ref h_t_line :: .ref h_t_resolutions :: .ref h_t_file :: .int t_size :: .int t_scanned :: .int t_refusedAt :: .int t_cursor :: .int t_streamAt :: .int t_streamMany :: .int t_name :: .int t_from :: .int t_end :: .int t_sizeAt :: .int t_bitsAt :: .int t_colourAt :: .int t_colourEnd :: .int t_paletteAt :: .int t_mapAt :: .int t_mapEnd :: .int t_channelsAt :: .int t_captureAt :: .int t_displayAt :: .int t_resolved :: []))), (h_t_columnBits, .inl (cI, 8, .inl v71_t_columnBits)), (h_t_numbers, .inl (cJ, 4096, .inr (.inl f_t_numbers)))] H → va_D A [(h_t, .inr (7, (.int x39.2 :: .int t_high :: .int t_wide :: .int t_components :: .ref h_t_bits :: .int t_unknown :: .int t_rights :: .int t_colours :: .int t_profiled :: .ref h_t_profile :: .int p1 :: .int j61_s1 :: .ref h_t_columnBits :: .ref h_t_numbers :: .int 0 :: .ref h_t_map :: .int t_lines :: .ref h_t_line :: .ref h_t_resolutions :: .ref h_t_file :: .int t_size :: .int t_scanned :: .int t_refusedAt :: .int t_cursor :: .int t_streamAt :: .int t_streamMany :: .int t_name :: .int t_from :: .int t_end :: .int t_sizeAt :: .int t_bitsAt :: .int t_colourAt :: .int t_colourEnd :: .int t_paletteAt :: .int t_mapAt :: .int t_mapEnd :: .int t_channelsAt :: .int t_captureAt :: .int t_displayAt :: .int t_resolved :: []))), (h_t_columnBits, .inl (cI, 8, .inl v71_t_columnBits)), (h_t_numbers, .inl (cJ, 4096, .inr (.inl f_t_numbers)))] → va_S A s.heap H locs → ∀ ls : Array Slot, lv_has ls 4 [(3, .int v71_3), (0, .ref h_t)] → W p l e R s m args below meth c H locs 0 0 Q (F0 m 71 ls []) := by
          intro n
          induction n with
          | zero => intro v71_3 v71_t_columnBits hlt; exact absurd hlt (Nat.not_lt_zero _)
          | succ n ih =>
            intro v71_3 v71_t_columnBits hlt_71 E O H locs hP hD hS ls hl
            have E : lb_Mo_palette_71 f_t_numbers p1 x39 j61_s1 (lp_Mo_palette_71 f_t_numbers p1 x39 j61_s1 n) v71_3 v71_t_columnBits = RES := E
            have O : olb_Mo_palette_71 f_t_numbers (olp_Mo_palette_71 f_t_numbers n) v71_3 v71_t_columnBits := O
            generalize lp_Mo_palette_71 f_t_numbers p1 x39 j61_s1 n = kk_71 at ih E
            generalize olp_Mo_palette_71 f_t_numbers n = okk_71 at ih O
            have ih_71 := ih
            clear ih
            refine lv_iload_n hx hb d_Mo_palette_71 rfl (lv_at hl 0 rfl) ?_
            refine lv_bipush (v := 8) hx hb d_Mo_palette_72 (by decide) ?_
            refine lv_icmp_ge (tgt := 91) hx hb d_Mo_palette_74 (by decide) (fun c_74 => ?_) (fun c_74 => ?_)
            · have E := (if_pos c_74).symm.trans E
              have O := Eq.mp (if_pos c_74) O
              refine lv_iconst (v := 0) hx hb d_Mo_palette_91 (by decide) ?_
              refine lv_istore_n (lv' := [(3, .int 0), (0, .ref h_t)]) hx hb d_Mo_palette_92 rfl hl (by decide) rfl (fun ls hl => ?_)
              have L_93 : ∀ (n : Nat) (v93_3 : Int32) (v93_t_numbers : Nat → Int64), ((4096 : Int32).toInt - v93_3.toInt).toNat < n → lp_Mo_palette_93 p1 x39 j61_s1 v71_t_columnBits n v93_3 v93_t_numbers = RES → olp_Mo_palette_93 n v93_3 v93_t_numbers → ∀ (H : Heap) (locs : List Loc), va_P D classes [(h_t, .inr (7, (.int x39.2 :: .int t_high :: .int t_wide :: .int t_components :: .ref h_t_bits :: .int t_unknown :: .int t_rights :: .int t_colours :: .int t_profiled :: .ref h_t_profile :: .int p1 :: .int j61_s1 :: .ref h_t_columnBits :: .ref h_t_numbers :: .int 0 :: .ref h_t_map :: .int t_lines :: .ref h_t_line :: .ref h_t_resolutions :: .ref h_t_file :: .int t_size :: .int t_scanned :: .int t_refusedAt :: .int t_cursor :: .int t_streamAt :: .int t_streamMany :: .int t_name :: .int t_from :: .int t_end :: .int t_sizeAt :: .int t_bitsAt :: .int t_colourAt :: .int t_colourEnd :: .int t_paletteAt :: .int t_mapAt :: .int t_mapEnd :: .int t_channelsAt :: .int t_captureAt :: .int t_displayAt :: .int t_resolved :: []))), (h_t_columnBits, .inl (cI, 8, .inl v71_t_columnBits)), (h_t_numbers, .inl (cJ, 4096, .inr (.inl v93_t_numbers)))] H → va_D A [(h_t, .inr (7, (.int x39.2 :: .int t_high :: .int t_wide :: .int t_components :: .ref h_t_bits :: .int t_unknown :: .int t_rights :: .int t_colours :: .int t_profiled :: .ref h_t_profile :: .int p1 :: .int j61_s1 :: .ref h_t_columnBits :: .ref h_t_numbers :: .int 0 :: .ref h_t_map :: .int t_lines :: .ref h_t_line :: .ref h_t_resolutions :: .ref h_t_file :: .int t_size :: .int t_scanned :: .int t_refusedAt :: .int t_cursor :: .int t_streamAt :: .int t_streamMany :: .int t_name :: .int t_from :: .int t_end :: .int t_sizeAt :: .int t_bitsAt :: .int t_colourAt :: .int t_colourEnd :: .int t_paletteAt :: .int t_mapAt :: .int t_mapEnd :: .int t_channelsAt :: .int t_captureAt :: .int t_displayAt :: .int t_resolved :: []))), (h_t_columnBits, .inl (cI, 8, .inl v71_t_columnBits)), (h_t_numbers, .inl (cJ, 4096, .inr (.inl v93_t_numbers)))] → va_S A s.heap H locs → ∀ ls : Array Slot, lv_has ls 4 [(3, .int v93_3), (0, .ref h_t)] → W p l e R s m args below meth c H locs 0 0 Q (F0 m 93 ls []) := by
                intro n
                induction n with
                | zero => intro v93_3 v93_t_numbers hlt; exact absurd hlt (Nat.not_lt_zero _)
                | succ n ih =>
                  intro v93_3 v93_t_numbers hlt_93 E O H locs hP hD hS ls hl
                  have E : lb_Mo_palette_93 p1 x39 j61_s1 v71_t_columnBits (lp_Mo_palette_93 p1 x39 j61_s1 v71_t_columnBits n) v93_3 v93_t_numbers = RES := E
                  have O : olb_Mo_palette_93 (olp_Mo_palette_93 n) v93_3 v93_t_numbers := O
                  generalize lp_Mo_palette_93 p1 x39 j61_s1 v71_t_columnBits n = kk_93 at ih E
                  generalize olp_Mo_palette_93 n = okk_93 at ih O
                  have ih_93 := ih
                  clear ih
                  refine lv_iload_n hx hb d_Mo_palette_93 rfl (lv_at hl 0 rfl) ?_
                  refine lv_sipush (v := 4096) hx hb d_Mo_palette_94 (by decide) ?_
                  refine lv_icmp_ge (tgt := 113) hx hb d_Mo_palette_97 (by decide) (fun c_97 => ?_) (fun c_97 => ?_)
                  · have E := (if_pos c_97).symm.trans E
                    have O := Eq.mp (if_pos c_97) O
                    exact kr_v hx hb hr hlk hQ hK hP hD hS ⟨((x39.2, p1, j61_s1, 0, v71_t_columnBits, v93_t_numbers) : Int32 × Int32 × Int32 × Int32 × (Nat → Int32) × (Nat → Int64)), E.trans E0.symm, rfl, rfl⟩ (by omega) (by omega) d_Mo_palette_113
                  · have E := (if_neg c_97).symm.trans E
                    have O := Eq.mp (if_neg c_97) O
                    refine lv_aload_n hx hb d_Mo_palette_100 rfl (lv_at hl 1 rfl) ?_
                    refine va_get (D := D) (v := .ref h_t_numbers) hx hb hta i_Mo hown hK hP 0 rfl rfl 13 (by decide) (hta _ lk_Mo_23) (fun _ h9 => h9) rfl d_Mo_palette_101 ?_
                    refine lv_iload_n hx hb d_Mo_palette_104 rfl (lv_at hl 0 rfl) ?_
                    refine lv_lconst (v := 0) hx hb d_Mo_palette_105 (by decide) ?_
                    refine va_last hx hb hK hP hD hS 2 2 rfl rfl O.1 d_Mo_palette_106 (fun H locs (hP : va_P D classes [(h_t, .inr (7, (.int x39.2 :: .int t_high :: .int t_wide :: .int t_components :: .ref h_t_bits :: .int t_unknown :: .int t_rights :: .int t_colours :: .int t_profiled :: .ref h_t_profile :: .int p1 :: .int j61_s1 :: .ref h_t_columnBits :: .ref h_t_numbers :: .int 0 :: .ref h_t_map :: .int t_lines :: .ref h_t_line :: .ref h_t_resolutions :: .ref h_t_file :: .int t_size :: .int t_scanned :: .int t_refusedAt :: .int t_cursor :: .int t_streamAt :: .int t_streamMany :: .int t_name :: .int t_from :: .int t_end :: .int t_sizeAt :: .int t_bitsAt :: .int t_colourAt :: .int t_colourEnd :: .int t_paletteAt :: .int t_mapAt :: .int t_mapEnd :: .int t_channelsAt :: .int t_captureAt :: .int t_displayAt :: .int t_resolved :: []))), (h_t_columnBits, .inl (cI, 8, .inl v71_t_columnBits)), (h_t_numbers, .inl (cJ, 4096, .inr (.inl (vp_updL v93_t_numbers v93_3.toNatClampNeg 0))))] H) (hD : va_D A [(h_t, .inr (7, (.int x39.2 :: .int t_high :: .int t_wide :: .int t_components :: .ref h_t_bits :: .int t_unknown :: .int t_rights :: .int t_colours :: .int t_profiled :: .ref h_t_profile :: .int p1 :: .int j61_s1 :: .ref h_t_columnBits :: .ref h_t_numbers :: .int 0 :: .ref h_t_map :: .int t_lines :: .ref h_t_line :: .ref h_t_resolutions :: .ref h_t_file :: .int t_size :: .int t_scanned :: .int t_refusedAt :: .int t_cursor :: .int t_streamAt :: .int t_streamMany :: .int t_name :: .int t_from :: .int t_end :: .int t_sizeAt :: .int t_bitsAt :: .int t_colourAt :: .int t_colourEnd :: .int t_paletteAt :: .int t_mapAt :: .int t_mapEnd :: .int t_channelsAt :: .int t_captureAt :: .int t_displayAt :: .int t_resolved :: []))), (h_t_columnBits, .inl (cI, 8, .inl v71_t_columnBits)), (h_t_numbers, .inl (cJ, 4096, .inr (.inl (vp_updL v93_t_numbers v93_3.toNatClampNeg 0))))]) hS => ?_)
                    have O := O.2
                    refine lv_iinc (v := v93_3 + 1) (lv' := [(3, .int (v93_3 + 1)), (0, .ref h_t)]) hx hb d_Mo_palette_107 hl (k := 0) rfl rfl (by decide) rfl (fun ls hl => ?_)
                    refine lv_goto (tgt := 93) hx hb d_Mo_palette_110 (by decide) ?_
                    exact ih_93 (v93_3 + 1) (vp_updL v93_t_numbers v93_3.toNatClampNeg 0) (Nat.lt_of_lt_of_le (tm_up c_97) (Nat.le_of_lt_succ hlt_93)) E O _ _ hP hD hS ls (lv_sub hl [0, 1] rfl)
              exact L_93 _ 0 f_t_numbers (Nat.lt_succ_self _) E O _ _ hP hD hS ls (lv_sub hl [0, 1] rfl)
            · have E := (if_neg c_74).symm.trans E
              have O := Eq.mp (if_neg c_74) O
              refine lv_aload_n hx hb d_Mo_palette_77 rfl (lv_at hl 1 rfl) ?_
              refine va_get (D := D) (v := .ref h_t_columnBits) hx hb hta i_Mo hown hK hP 0 rfl rfl 12 (by decide) (hta _ lk_Mo_20) (fun _ h9 => h9) rfl d_Mo_palette_78 ?_
              refine lv_iload_n hx hb d_Mo_palette_81 rfl (lv_at hl 0 rfl) ?_
              refine lv_bipush (v := 7) hx hb d_Mo_palette_82 (by decide) ?_
              refine va_iast hx hb hK hP hD hS 1 1 rfl rfl O.1 d_Mo_palette_84 (fun H locs (hP : va_P D classes [(h_t, .inr (7, (.int x39.2 :: .int t_high :: .int t_wide :: .int t_components :: .ref h_t_bits :: .int t_unknown :: .int t_rights :: .int t_colours :: .int t_profiled :: .ref h_t_profile :: .int p1 :: .int j61_s1 :: .ref h_t_columnBits :: .ref h_t_numbers :: .int 0 :: .ref h_t_map :: .int t_lines :: .ref h_t_line :: .ref h_t_resolutions :: .ref h_t_file :: .int t_size :: .int t_scanned :: .int t_refusedAt :: .int t_cursor :: .int t_streamAt :: .int t_streamMany :: .int t_name :: .int t_from :: .int t_end :: .int t_sizeAt :: .int t_bitsAt :: .int t_colourAt :: .int t_colourEnd :: .int t_paletteAt :: .int t_mapAt :: .int t_mapEnd :: .int t_channelsAt :: .int t_captureAt :: .int t_displayAt :: .int t_resolved :: []))), (h_t_columnBits, .inl (cI, 8, .inl (upd v71_t_columnBits v71_3.toNatClampNeg 7))), (h_t_numbers, .inl (cJ, 4096, .inr (.inl f_t_numbers)))] H) (hD : va_D A [(h_t, .inr (7, (.int x39.2 :: .int t_high :: .int t_wide :: .int t_components :: .ref h_t_bits :: .int t_unknown :: .int t_rights :: .int t_colours :: .int t_profiled :: .ref h_t_profile :: .int p1 :: .int j61_s1 :: .ref h_t_columnBits :: .ref h_t_numbers :: .int 0 :: .ref h_t_map :: .int t_lines :: .ref h_t_line :: .ref h_t_resolutions :: .ref h_t_file :: .int t_size :: .int t_scanned :: .int t_refusedAt :: .int t_cursor :: .int t_streamAt :: .int t_streamMany :: .int t_name :: .int t_from :: .int t_end :: .int t_sizeAt :: .int t_bitsAt :: .int t_colourAt :: .int t_colourEnd :: .int t_paletteAt :: .int t_mapAt :: .int t_mapEnd :: .int t_channelsAt :: .int t_captureAt :: .int t_displayAt :: .int t_resolved :: []))), (h_t_columnBits, .inl (cI, 8, .inl (upd v71_t_columnBits v71_3.toNatClampNeg 7))), (h_t_numbers, .inl (cJ, 4096, .inr (.inl f_t_numbers)))]) hS => ?_)
              have O := O.2
              refine lv_iinc (v := v71_3 + 1) (lv' := [(3, .int (v71_3 + 1)), (0, .ref h_t)]) hx hb d_Mo_palette_85 hl (k := 0) rfl rfl (by decide) rfl (fun ls hl => ?_)
              refine lv_goto (tgt := 71) hx hb d_Mo_palette_88 (by decide) ?_
              exact ih_71 (v71_3 + 1) (upd v71_t_columnBits v71_3.toNatClampNeg 7) (Nat.lt_of_lt_of_le (tm_up c_74) (Nat.le_of_lt_succ hlt_71)) E O _ _ hP hD hS ls (lv_sub hl [0, 1] rfl)
        exact L_71 _ 0 f_t_columnBits (Nat.lt_succ_self _) E O _ _ hP hD hS ls (lv_sub hl [0, 1] rfl)
      refine lv_if_ne (tgt := 60) hx hb d_Mo_palette_53 (by decide) (fun c_53 => ?_) (fun c_53 => ?_)
      · have E := (if_neg c_53).symm.trans E
        have O := Eq.mp (if_neg c_53) O
        refine lv_iload_n hx hb d_Mo_palette_60 rfl (lv_at hl 2 rfl) ?_
        exact J_61 p2 E O _ _ hP hD hS ls (lv_sub hl [0] rfl)
      · have E := (if_pos c_53).symm.trans E
        have O := Eq.mp (if_pos c_53) O
        refine lv_iconst (v := 0) hx hb d_Mo_palette_56 (by decide) ?_
        refine lv_goto (tgt := 61) hx hb d_Mo_palette_57 (by decide) ?_
        exact J_61 0 E O _ _ hP hD hS ls (lv_sub hl [0] rfl)
    · have E := (if_neg c_42).symm.trans E
      have O := Eq.mp (if_neg c_42) O
      exact kr_v hx hb hr hlk hQ hK hP hD hS ⟨((x39.2, t_entries, t_columns, t_maps, f_t_columnBits, f_t_numbers) : Int32 × Int32 × Int32 × Int32 × (Nat → Int32) × (Nat → Int64)), E.trans E0.symm, rfl, rfl⟩ (by omega) (by omega) d_Mo_palette_45
  have J_34 : j_Mo_palette_34 t_entries t_columns t_maps f_t_columnBits f_t_numbers p1 p2 = RES → oj_Mo_palette_34 f_t_columnBits f_t_numbers p1 p2 → ∀ (H : Heap) (locs : List Loc), va_P D classes [(h_t, .inr (7, (.int t_thrown :: .int t_high :: .int t_wide :: .int t_components :: .ref h_t_bits :: .int t_unknown :: .int t_rights :: .int t_colours :: .int t_profiled :: .ref h_t_profile :: .int t_entries :: .int t_columns :: .ref h_t_columnBits :: .ref h_t_numbers :: .int t_maps :: .ref h_t_map :: .int t_lines :: .ref h_t_line :: .ref h_t_resolutions :: .ref h_t_file :: .int t_size :: .int t_scanned :: .int t_refusedAt :: .int t_cursor :: .int t_streamAt :: .int t_streamMany :: .int t_name :: .int t_from :: .int t_end :: .int t_sizeAt :: .int t_bitsAt :: .int t_colourAt :: .int t_colourEnd :: .int t_paletteAt :: .int t_mapAt :: .int t_mapEnd :: .int t_channelsAt :: .int t_captureAt :: .int t_displayAt :: .int t_resolved :: []))), (h_t_columnBits, .inl (cI, 8, .inl f_t_columnBits)), (h_t_numbers, .inl (cJ, 4096, .inr (.inl f_t_numbers)))] H → va_D A [(h_t, .inr (7, (.int t_thrown :: .int t_high :: .int t_wide :: .int t_components :: .ref h_t_bits :: .int t_unknown :: .int t_rights :: .int t_colours :: .int t_profiled :: .ref h_t_profile :: .int t_entries :: .int t_columns :: .ref h_t_columnBits :: .ref h_t_numbers :: .int t_maps :: .ref h_t_map :: .int t_lines :: .ref h_t_line :: .ref h_t_resolutions :: .ref h_t_file :: .int t_size :: .int t_scanned :: .int t_refusedAt :: .int t_cursor :: .int t_streamAt :: .int t_streamMany :: .int t_name :: .int t_from :: .int t_end :: .int t_sizeAt :: .int t_bitsAt :: .int t_colourAt :: .int t_colourEnd :: .int t_paletteAt :: .int t_mapAt :: .int t_mapEnd :: .int t_channelsAt :: .int t_captureAt :: .int t_displayAt :: .int t_resolved :: []))), (h_t_columnBits, .inl (cI, 8, .inl f_t_columnBits)), (h_t_numbers, .inl (cJ, 4096, .inr (.inl f_t_numbers)))] → va_S A s.heap H locs → ∀ ls : Array Slot, lv_has ls 4 [(0, .ref h_t), (1, .int p1), (2, .int p2)] → W p l e R s m args below meth c H locs 0 0 Q (F0 m 34 ls [.ref h_t]) := by
    intro E O H locs hP hD hS ls hl
    refine lv_iconst (v := 1) hx hb d_Mo_palette_34 (by decide) ?_
    refine lv_goto (tgt := 39) hx hb d_Mo_palette_35 (by decide) ?_
    exact J_39 1 E O _ _ hP hD hS ls (lv_sub hl [0, 1, 2] rfl)
  refine lv_if_eq (tgt := 34) hx hb d_Mo_palette_10 (by decide) (fun c_10 => ?_) (fun c_10 => ?_)
  · have E := (if_pos c_10).symm.trans E
    have O := Eq.mp (if_pos c_10) O
    exact J_34  E O _ _ hP hD hS ls (lv_sub hl [0, 1, 2] rfl)
  · have E := (if_neg c_10).symm.trans E
    have O := Eq.mp (if_neg c_10) O
    refine lv_iload_n hx hb d_Mo_palette_13 rfl (lv_at hl 2 rfl) ?_
    refine lv_i2l (v := (p2 : Int32).toInt64) hx hb d_Mo_palette_14 rfl ?_
    refine lv_lconst (v := 1) hx hb d_Mo_palette_15 (by decide) ?_
    refine lv_ldc2 (v := 8) hx hb hown (hta _ lk_Mo_98) d_Mo_palette_16 ?_
    refine kc_S (As := [.long ((p2 : Int32).toInt64), .long 1, .long 8]) (rest := [.ref h_t]) (wr := [(h_t, .inr (7, (.int t_thrown :: .int t_high :: .int t_wide :: .int t_components :: .ref h_t_bits :: .int t_unknown :: .int t_rights :: .int t_colours :: .int t_profiled :: .ref h_t_profile :: .int t_entries :: .int t_columns :: .ref h_t_columnBits :: .ref h_t_numbers :: .int t_maps :: .ref h_t_map :: .int t_lines :: .ref h_t_line :: .ref h_t_resolutions :: .ref h_t_file :: .int t_size :: .int t_scanned :: .int t_refusedAt :: .int t_cursor :: .int t_streamAt :: .int t_streamMany :: .int t_name :: .int t_from :: .int t_end :: .int t_sizeAt :: .int t_bitsAt :: .int t_colourAt :: .int t_colourEnd :: .int t_paletteAt :: .int t_mapAt :: .int t_mapEnd :: .int t_channelsAt :: .int t_captureAt :: .int t_displayAt :: .int t_resolved :: []))), (h_t_columnBits, .inl (cI, 8, .inl f_t_columnBits)), (h_t_numbers, .inl (cJ, 4096, .inr (.inl f_t_numbers)))]) [] [0, 1, 2] ⟨hx, hb, hml, hown, hta⟩ hK hN hP hD hS hA (c_Mo_in l D cB cI cJ ((p2 : Int32).toInt64) 1 8 O.1 _) (hta _ lk_Mo_81) (hta _ ini_Mo) (hta _ code_Mo_in) code_Mo_in (hta _ stat_Mo_in) hd_Mo_in rfl ⟨by omega, by omega⟩ rfl rfl (by decide) (by decide) (by decide) rfl hl.1 (lv_room (Nat.le_of_ble_eq_true rfl)) d_Mo_palette_19 ⟨by omega, by omega⟩ (fun v w1 H locs hw hP hD hS => ?_)
    obtain ⟨x19, hx19, rfl, rfl⟩ := hw
    have hP : va_P D classes [(h_t, .inr (7, (.int t_thrown :: .int t_high :: .int t_wide :: .int t_components :: .ref h_t_bits :: .int t_unknown :: .int t_rights :: .int t_colours :: .int t_profiled :: .ref h_t_profile :: .int t_entries :: .int t_columns :: .ref h_t_columnBits :: .ref h_t_numbers :: .int t_maps :: .ref h_t_map :: .int t_lines :: .ref h_t_line :: .ref h_t_resolutions :: .ref h_t_file :: .int t_size :: .int t_scanned :: .int t_refusedAt :: .int t_cursor :: .int t_streamAt :: .int t_streamMany :: .int t_name :: .int t_from :: .int t_end :: .int t_sizeAt :: .int t_bitsAt :: .int t_colourAt :: .int t_colourEnd :: .int t_paletteAt :: .int t_mapAt :: .int t_mapEnd :: .int t_channelsAt :: .int t_captureAt :: .int t_displayAt :: .int t_resolved :: []))), (h_t_columnBits, .inl (cI, 8, .inl f_t_columnBits)), (h_t_numbers, .inl (cJ, 4096, .inr (.inl f_t_numbers)))] H := hP.sub [0, 1, 2] rfl
    have hD : va_D A [(h_t, .inr (7, (.int t_thrown :: .int t_high :: .int t_wide :: .int t_components :: .ref h_t_bits :: .int t_unknown :: .int t_rights :: .int t_colours :: .int t_profiled :: .ref h_t_profile :: .int t_entries :: .int t_columns :: .ref h_t_columnBits :: .ref h_t_numbers :: .int t_maps :: .ref h_t_map :: .int t_lines :: .ref h_t_line :: .ref h_t_resolutions :: .ref h_t_file :: .int t_size :: .int t_scanned :: .int t_refusedAt :: .int t_cursor :: .int t_streamAt :: .int t_streamMany :: .int t_name :: .int t_from :: .int t_end :: .int t_sizeAt :: .int t_bitsAt :: .int t_colourAt :: .int t_colourEnd :: .int t_paletteAt :: .int t_mapAt :: .int t_mapEnd :: .int t_channelsAt :: .int t_captureAt :: .int t_displayAt :: .int t_resolved :: []))), (h_t_columnBits, .inl (cI, 8, .inl f_t_columnBits)), (h_t_numbers, .inl (cJ, 4096, .inr (.inl f_t_numbers)))] := hD.sub [0, 1, 2] (by decide) rfl
    refine W.eq (g2 := F0 m 22 ls [.int x19, .ref h_t]) rfl ?_
    have O := O.2
    have E : k_Mo_palette_19 t_entries t_columns t_maps f_t_columnBits f_t_numbers p1 p2 x19 = RES := (congrArg (k_Mo_palette_19 t_entries t_columns t_maps f_t_columnBits f_t_numbers p1 p2) hx19).trans E
    have O : ok_Mo_palette_19 f_t_columnBits f_t_numbers p1 p2 x19 := by rw [hx19]; exact O
    refine lv_if_eq (tgt := 34) hx hb d_Mo_palette_22 (by decide) (fun c_22 => ?_) (fun c_22 => ?_)
    · have E := (if_pos c_22).symm.trans E
      have O := Eq.mp (if_pos c_22) O
      exact J_34  E O _ _ hP hD hS ls (lv_sub hl [0, 1, 2] rfl)
    · have E := (if_neg c_22).symm.trans E
      have O := Eq.mp (if_neg c_22) O
      refine lv_iload_n hx hb d_Mo_palette_25 rfl (lv_at hl 1 rfl) ?_
      refine lv_iload_n hx hb d_Mo_palette_26 rfl (lv_at hl 2 rfl) ?_
      refine lv_imul hx hb d_Mo_palette_27 ?_
      refine lv_sipush (v := 4096) hx hb d_Mo_palette_28 (by decide) ?_
      refine lv_icmp_le (tgt := 38) hx hb d_Mo_palette_31 (by decide) (fun c_31 => ?_) (fun c_31 => ?_)
      · have E := (if_pos c_31).symm.trans E
        have O := Eq.mp (if_pos c_31) O
        refine lv_iconst (v := 0) hx hb d_Mo_palette_38 (by decide) ?_
        exact J_39 0 E O _ _ hP hD hS ls (lv_sub hl [0, 1, 2] rfl)
      · have E := (if_neg c_31).symm.trans E
        have O := Eq.mp (if_neg c_31) O
        exact J_34  E O _ _ hP hD hS ls (lv_sub hl [0, 1, 2] rfl)
theorem d_Mo_column_0 : decode b_Mo_column 0 = .ok (.aload_n 0, 1) := by decide +kernel
theorem d_Mo_column_1 : decode b_Mo_column 1 = .ok (.iload_n 1, 1) := by decide +kernel
theorem d_Mo_column_2 : decode b_Mo_column 2 = .ok (.ifCond .lt 11, 3) := by decide +kernel
theorem d_Mo_column_5 : decode b_Mo_column 5 = .ok (.iload_n 1, 1) := by decide +kernel
theorem d_Mo_column_6 : decode b_Mo_column 6 = .ok (.aload_n 0, 1) := by decide +kernel
theorem d_Mo_column_7 : decode b_Mo_column 7 = .ok (.getfield 70, 3) := by decide +kernel
theorem d_Mo_column_10 : decode b_Mo_column 10 = .ok (.if_icmp .lt 7, 3) := by decide +kernel
theorem d_Mo_column_13 : decode b_Mo_column 13 = .ok (.iconst 1, 1) := by decide +kernel
theorem d_Mo_column_14 : decode b_Mo_column 14 = .ok (.goto 15, 3) := by decide +kernel
theorem d_Mo_column_17 : decode b_Mo_column 17 = .ok (.iload_n 2, 1) := by decide +kernel
theorem d_Mo_column_18 : decode b_Mo_column 18 = .ok (.invokestatic 85, 3) := by decide +kernel
theorem d_Mo_column_21 : decode b_Mo_column 21 = .ok (.ifCond .ne 7, 3) := by decide +kernel
theorem d_Mo_column_24 : decode b_Mo_column 24 = .ok (.iconst 2, 1) := by decide +kernel
theorem d_Mo_column_25 : decode b_Mo_column 25 = .ok (.goto 4, 3) := by decide +kernel
theorem d_Mo_column_28 : decode b_Mo_column 28 = .ok (.iconst 0, 1) := by decide +kernel
theorem d_Mo_column_29 : decode b_Mo_column 29 = .ok (.invokevirtual 89, 3) := by decide +kernel
theorem d_Mo_column_32 : decode b_Mo_column 32 = .ok (.ifCond .eq 4, 3) := by decide +kernel
theorem d_Mo_column_35 : decode b_Mo_column 35 = .ok (.return_, 1) := by decide +kernel
theorem d_Mo_column_36 : decode b_Mo_column 36 = .ok (.aload_n 0, 1) := by decide +kernel
theorem d_Mo_column_37 : decode b_Mo_column 37 = .ok (.getfield 20, 3) := by decide +kernel
theorem d_Mo_column_40 : decode b_Mo_column 40 = .ok (.iload_n 1, 1) := by decide +kernel
theorem d_Mo_column_41 : decode b_Mo_column 41 = .ok (.iload_n 2, 1) := by decide +kernel
theorem d_Mo_column_42 : decode b_Mo_column 42 = .ok (.iastore, 1) := by decide +kernel
theorem d_Mo_column_43 : decode b_Mo_column 43 = .ok (.return_, 1) := by decide +kernel
def k_Mo_column_29 (f_t_columnBits : Nat → Int32) (p1 : Int32) (p2 : Int32) (x29 : Int32 × Int32) : Int32 × (Nat → Int32) :=
  if x29.1 = 0 then (x29.2, upd f_t_columnBits p1.toNatClampNeg p2) else (x29.2, f_t_columnBits)
def ok_Mo_column_29 (p1 : Int32) (x29 : Int32 × Int32) : Prop :=
  if x29.1 = 0 then (vp_in p1 8 ∧ True) else True
def j_Mo_column_29 (f_t_columnBits : Nat → Int32) (p1 : Int32) (p2 : Int32) (j29_s1 : Int32) : Int32 × (Nat → Int32) :=
  k_Mo_column_29 f_t_columnBits p1 p2 (m_Mo_refuse j29_s1)
def oj_Mo_column_29 (p1 : Int32) (j29_s1 : Int32) : Prop :=
  om_Mo_refuse j29_s1 ∧ (ok_Mo_column_29 p1 (m_Mo_refuse j29_s1))
def j_Mo_column_13 (f_t_columnBits : Nat → Int32) (p1 : Int32) (p2 : Int32) : Int32 × (Nat → Int32) :=
  j_Mo_column_29 f_t_columnBits p1 p2 1
def oj_Mo_column_13 (p1 : Int32) : Prop :=
  oj_Mo_column_29 p1 1
def k_Mo_column_18 (f_t_columnBits : Nat → Int32) (p1 : Int32) (p2 : Int32) (x18 : Int32) : Int32 × (Nat → Int32) :=
  if x18 = 0 then (j_Mo_column_29 f_t_columnBits p1 p2 2) else (j_Mo_column_29 f_t_columnBits p1 p2 0)
def ok_Mo_column_18 (p1 : Int32) (x18 : Int32) : Prop :=
  if x18 = 0 then (oj_Mo_column_29 p1 2) else (oj_Mo_column_29 p1 0)
def om_Mo_column (t_columns : Int32) (p1 : Int32) (p2 : Int32) : Prop :=
  if p1 < 0 then (oj_Mo_column_13 p1) else (if p1 < t_columns then (om_Mo_areBits p2 ∧ (ok_Mo_column_18 p1 (m_Mo_areBits p2))) else (oj_Mo_column_13 p1))
def m_Mo_column (t_columns : Int32) (f_t_columnBits : Nat → Int32) (p1 : Int32) (p2 : Int32) : Int32 × (Nat → Int32) :=
  if p1 < 0 then (j_Mo_column_13 f_t_columnBits p1 p2) else (if p1 < t_columns then (k_Mo_column_18 f_t_columnBits p1 p2 (m_Mo_areBits p2)) else (j_Mo_column_13 f_t_columnBits p1 p2))
set_option maxHeartbeats 4000000 in
set_option maxRecDepth 100000 in
theorem c_Mo_column (l : Launch) (D : va_G) (cB cI cJ : ClassId) (h_t h_t_bits h_t_profile h_t_columnBits h_t_numbers h_t_map h_t_line h_t_resolutions h_t_file : Nat) (t_thrown : Int32) (t_high : Int32) (t_wide : Int32) (t_components : Int32) (t_unknown : Int32) (t_rights : Int32) (t_colours : Int32) (t_profiled : Int32) (t_entries : Int32) (t_columns : Int32) (t_maps : Int32) (t_lines : Int32) (t_size : Int32) (t_scanned : Int32) (t_refusedAt : Int32) (t_cursor : Int32) (t_streamAt : Int32) (t_streamMany : Int32) (t_name : Int32) (t_from : Int32) (t_end : Int32) (t_sizeAt : Int32) (t_bitsAt : Int32) (t_colourAt : Int32) (t_colourEnd : Int32) (t_paletteAt : Int32) (t_mapAt : Int32) (t_mapEnd : Int32) (t_channelsAt : Int32) (t_captureAt : Int32) (t_displayAt : Int32) (t_resolved : Int32) (f_t_columnBits : Nat → Int32) (p1 : Int32) (p2 : Int32) (hO : om_Mo_column t_columns p1 p2) (sz : Nat) : Ct l D cB cI cJ y_Mo_column b_Mo_column 3 none 1 21 0 0 [.ref h_t, .int p1, .int p2] [(h_t, .inr (7, (.int t_thrown :: .int t_high :: .int t_wide :: .int t_components :: .ref h_t_bits :: .int t_unknown :: .int t_rights :: .int t_colours :: .int t_profiled :: .ref h_t_profile :: .int t_entries :: .int t_columns :: .ref h_t_columnBits :: .ref h_t_numbers :: .int t_maps :: .ref h_t_map :: .int t_lines :: .ref h_t_line :: .ref h_t_resolutions :: .ref h_t_file :: .int t_size :: .int t_scanned :: .int t_refusedAt :: .int t_cursor :: .int t_streamAt :: .int t_streamMany :: .int t_name :: .int t_from :: .int t_end :: .int t_sizeAt :: .int t_bitsAt :: .int t_colourAt :: .int t_colourEnd :: .int t_paletteAt :: .int t_mapAt :: .int t_mapEnd :: .int t_channelsAt :: .int t_captureAt :: .int t_displayAt :: .int t_resolved :: []))), (h_t_columnBits, .inl (cI, 8, .inl f_t_columnBits))] (fun v w1 => ∃ (x : Int32 × (Nat → Int32)), x = m_Mo_column t_columns f_t_columnBits p1 p2 ∧ v = none ∧ w1 = [(h_t, .inr (7, (.int x.1 :: .int t_high :: .int t_wide :: .int t_components :: .ref h_t_bits :: .int t_unknown :: .int t_rights :: .int t_colours :: .int t_profiled :: .ref h_t_profile :: .int t_entries :: .int t_columns :: .ref h_t_columnBits :: .ref h_t_numbers :: .int t_maps :: .ref h_t_map :: .int t_lines :: .ref h_t_line :: .ref h_t_resolutions :: .ref h_t_file :: .int t_size :: .int t_scanned :: .int t_refusedAt :: .int t_cursor :: .int t_streamAt :: .int t_streamMany :: .int t_name :: .int t_from :: .int t_end :: .int t_sizeAt :: .int t_bitsAt :: .int t_colourAt :: .int t_colourEnd :: .int t_paletteAt :: .int t_mapAt :: .int t_mapEnd :: .int t_channelsAt :: .int t_captureAt :: .int t_displayAt :: .int t_resolved :: []))), (h_t_columnBits, .inl (cI, 8, .inl x.2))]) sz := by
  refine Ct.of (by decide) (Nat.le_of_ble_eq_true rfl) ?_
  intro p e R s m args below meth c A ls Q hx hb hr hlk hml hta hown hin hK hN hA hRf hRl hRc hRs hP hD hS hl hQ
  have hl : lv_has ls 3 [(0, .ref h_t), (1, .int p1), (2, .int p2)] := hl
  obtain ⟨RES, E0⟩ : ∃ R, m_Mo_column t_columns f_t_columnBits p1 p2 = R := ⟨_, rfl⟩
  have E := E0
  have O := hO
  refine lv_aload_n hx hb d_Mo_column_0 rfl (lv_at hl 0 rfl) ?_
  refine lv_iload_n hx hb d_Mo_column_1 rfl (lv_at hl 1 rfl) ?_
  have J_29 : ∀ (j29_s1 : Int32), j_Mo_column_29 f_t_columnBits p1 p2 j29_s1 = RES → oj_Mo_column_29 p1 j29_s1 → ∀ (H : Heap) (locs : List Loc), va_P D classes [(h_t, .inr (7, (.int t_thrown :: .int t_high :: .int t_wide :: .int t_components :: .ref h_t_bits :: .int t_unknown :: .int t_rights :: .int t_colours :: .int t_profiled :: .ref h_t_profile :: .int t_entries :: .int t_columns :: .ref h_t_columnBits :: .ref h_t_numbers :: .int t_maps :: .ref h_t_map :: .int t_lines :: .ref h_t_line :: .ref h_t_resolutions :: .ref h_t_file :: .int t_size :: .int t_scanned :: .int t_refusedAt :: .int t_cursor :: .int t_streamAt :: .int t_streamMany :: .int t_name :: .int t_from :: .int t_end :: .int t_sizeAt :: .int t_bitsAt :: .int t_colourAt :: .int t_colourEnd :: .int t_paletteAt :: .int t_mapAt :: .int t_mapEnd :: .int t_channelsAt :: .int t_captureAt :: .int t_displayAt :: .int t_resolved :: []))), (h_t_columnBits, .inl (cI, 8, .inl f_t_columnBits))] H → va_D A [(h_t, .inr (7, (.int t_thrown :: .int t_high :: .int t_wide :: .int t_components :: .ref h_t_bits :: .int t_unknown :: .int t_rights :: .int t_colours :: .int t_profiled :: .ref h_t_profile :: .int t_entries :: .int t_columns :: .ref h_t_columnBits :: .ref h_t_numbers :: .int t_maps :: .ref h_t_map :: .int t_lines :: .ref h_t_line :: .ref h_t_resolutions :: .ref h_t_file :: .int t_size :: .int t_scanned :: .int t_refusedAt :: .int t_cursor :: .int t_streamAt :: .int t_streamMany :: .int t_name :: .int t_from :: .int t_end :: .int t_sizeAt :: .int t_bitsAt :: .int t_colourAt :: .int t_colourEnd :: .int t_paletteAt :: .int t_mapAt :: .int t_mapEnd :: .int t_channelsAt :: .int t_captureAt :: .int t_displayAt :: .int t_resolved :: []))), (h_t_columnBits, .inl (cI, 8, .inl f_t_columnBits))] → va_S A s.heap H locs → ∀ ls : Array Slot, lv_has ls 3 [(0, .ref h_t), (1, .int p1), (2, .int p2)] → W p l e R s m args below meth c H locs 0 0 Q (F0 m 29 ls [.int j29_s1, .ref h_t]) := by
    intro j29_s1 E O H locs hP hD hS ls hl
    refine kc_V (As := [.int j29_s1]) (rest := []) (wr := [(h_t_columnBits, .inl (cI, 8, .inl f_t_columnBits))]) [0] [1] ⟨hx, hb, hml, hown, hta⟩ hK hN hP hD hS hA (c_Mo_refuse l D cB cI cJ h_t h_t_bits h_t_profile h_t_columnBits h_t_numbers h_t_map h_t_line h_t_resolutions h_t_file t_thrown t_high t_wide t_components t_unknown t_rights t_colours t_profiled t_entries t_columns t_maps t_lines t_size t_scanned t_refusedAt t_cursor t_streamAt t_streamMany t_name t_from t_end t_sizeAt t_bitsAt t_colourAt t_colourEnd t_paletteAt t_mapAt t_mapEnd t_channelsAt t_captureAt t_displayAt t_resolved j29_s1 O.1 _) (hta _ lk_Mo_89) (hta _ ini_Mo) (hta _ code_Mo_refuse) code_Mo_refuse (hta _ inst_Mo_refuse) (hta _ sel_Mo_refuse) hd_Mo_refuse rfl ⟨by omega, by omega⟩ (ci := 7) 0 rfl rfl rfl rfl (by decide) (by decide) (by decide) rfl hl.1 (lv_room (Nat.le_of_ble_eq_true rfl)) d_Mo_column_29 ⟨by omega, by omega⟩ (fun v w1 H locs hw hP hD hS => ?_)
    obtain ⟨x29, hx29, rfl, rfl⟩ := hw
    have hP : va_P D classes [(h_t, .inr (7, (.int x29.2 :: .int t_high :: .int t_wide :: .int t_components :: .ref h_t_bits :: .int t_unknown :: .int t_rights :: .int t_colours :: .int t_profiled :: .ref h_t_profile :: .int t_entries :: .int t_columns :: .ref h_t_columnBits :: .ref h_t_numbers :: .int t_maps :: .ref h_t_map :: .int t_lines :: .ref h_t_line :: .ref h_t_resolutions :: .ref h_t_file :: .int t_size :: .int t_scanned :: .int t_refusedAt :: .int t_cursor :: .int t_streamAt :: .int t_streamMany :: .int t_name :: .int t_from :: .int t_end :: .int t_sizeAt :: .int t_bitsAt :: .int t_colourAt :: .int t_colourEnd :: .int t_paletteAt :: .int t_mapAt :: .int t_mapEnd :: .int t_channelsAt :: .int t_captureAt :: .int t_displayAt :: .int t_resolved :: []))), (h_t_columnBits, .inl (cI, 8, .inl f_t_columnBits))] H := hP.sub [1, 0] rfl
    have hD : va_D A [(h_t, .inr (7, (.int x29.2 :: .int t_high :: .int t_wide :: .int t_components :: .ref h_t_bits :: .int t_unknown :: .int t_rights :: .int t_colours :: .int t_profiled :: .ref h_t_profile :: .int t_entries :: .int t_columns :: .ref h_t_columnBits :: .ref h_t_numbers :: .int t_maps :: .ref h_t_map :: .int t_lines :: .ref h_t_line :: .ref h_t_resolutions :: .ref h_t_file :: .int t_size :: .int t_scanned :: .int t_refusedAt :: .int t_cursor :: .int t_streamAt :: .int t_streamMany :: .int t_name :: .int t_from :: .int t_end :: .int t_sizeAt :: .int t_bitsAt :: .int t_colourAt :: .int t_colourEnd :: .int t_paletteAt :: .int t_mapAt :: .int t_mapEnd :: .int t_channelsAt :: .int t_captureAt :: .int t_displayAt :: .int t_resolved :: []))), (h_t_columnBits, .inl (cI, 8, .inl f_t_columnBits))] := hD.sub [1, 0] (by decide) rfl
    refine W.eq (g2 := F0 m 32 ls [.int x29.1]) rfl ?_
    have O := O.2
    have E : k_Mo_column_29 f_t_columnBits p1 p2 x29 = RES := (congrArg (k_Mo_column_29 f_t_columnBits p1 p2) hx29).trans E
    have O : ok_Mo_column_29 p1 x29 := by rw [hx29]; exact O
    refine lv_if_eq (tgt := 36) hx hb d_Mo_column_32 (by decide) (fun c_32 => ?_) (fun c_32 => ?_)
    · have E := (if_pos c_32).symm.trans E
      have O := Eq.mp (if_pos c_32) O
      refine lv_aload_n hx hb d_Mo_column_36 rfl (lv_at hl 0 rfl) ?_
      refine va_get (D := D) (v := .ref h_t_columnBits) hx hb hta i_Mo hown hK hP 0 rfl rfl 12 (by decide) (hta _ lk_Mo_20) (fun _ h9 => h9) rfl d_Mo_column_37 ?_
      refine lv_iload_n hx hb d_Mo_column_40 rfl (lv_at hl 1 rfl) ?_
      refine lv_iload_n hx hb d_Mo_column_41 rfl (lv_at hl 2 rfl) ?_
      refine va_iast hx hb hK hP hD hS 1 1 rfl rfl O.1 d_Mo_column_42 (fun H locs (hP : va_P D classes [(h_t, .inr (7, (.int x29.2 :: .int t_high :: .int t_wide :: .int t_components :: .ref h_t_bits :: .int t_unknown :: .int t_rights :: .int t_colours :: .int t_profiled :: .ref h_t_profile :: .int t_entries :: .int t_columns :: .ref h_t_columnBits :: .ref h_t_numbers :: .int t_maps :: .ref h_t_map :: .int t_lines :: .ref h_t_line :: .ref h_t_resolutions :: .ref h_t_file :: .int t_size :: .int t_scanned :: .int t_refusedAt :: .int t_cursor :: .int t_streamAt :: .int t_streamMany :: .int t_name :: .int t_from :: .int t_end :: .int t_sizeAt :: .int t_bitsAt :: .int t_colourAt :: .int t_colourEnd :: .int t_paletteAt :: .int t_mapAt :: .int t_mapEnd :: .int t_channelsAt :: .int t_captureAt :: .int t_displayAt :: .int t_resolved :: []))), (h_t_columnBits, .inl (cI, 8, .inl (upd f_t_columnBits p1.toNatClampNeg p2)))] H) (hD : va_D A [(h_t, .inr (7, (.int x29.2 :: .int t_high :: .int t_wide :: .int t_components :: .ref h_t_bits :: .int t_unknown :: .int t_rights :: .int t_colours :: .int t_profiled :: .ref h_t_profile :: .int t_entries :: .int t_columns :: .ref h_t_columnBits :: .ref h_t_numbers :: .int t_maps :: .ref h_t_map :: .int t_lines :: .ref h_t_line :: .ref h_t_resolutions :: .ref h_t_file :: .int t_size :: .int t_scanned :: .int t_refusedAt :: .int t_cursor :: .int t_streamAt :: .int t_streamMany :: .int t_name :: .int t_from :: .int t_end :: .int t_sizeAt :: .int t_bitsAt :: .int t_colourAt :: .int t_colourEnd :: .int t_paletteAt :: .int t_mapAt :: .int t_mapEnd :: .int t_channelsAt :: .int t_captureAt :: .int t_displayAt :: .int t_resolved :: []))), (h_t_columnBits, .inl (cI, 8, .inl (upd f_t_columnBits p1.toNatClampNeg p2)))]) hS => ?_)
      have O := O.2
      exact kr_v hx hb hr hlk hQ hK hP hD hS ⟨((x29.2, upd f_t_columnBits p1.toNatClampNeg p2) : Int32 × (Nat → Int32)), E.trans E0.symm, rfl, rfl⟩ (by omega) (by omega) d_Mo_column_43
    · have E := (if_neg c_32).symm.trans E
      have O := Eq.mp (if_neg c_32) O
      exact kr_v hx hb hr hlk hQ hK hP hD hS ⟨((x29.2, f_t_columnBits) : Int32 × (Nat → Int32)), E.trans E0.symm, rfl, rfl⟩ (by omega) (by omega) d_Mo_column_35
  have J_13 : j_Mo_column_13 f_t_columnBits p1 p2 = RES → oj_Mo_column_13 p1 → ∀ (H : Heap) (locs : List Loc), va_P D classes [(h_t, .inr (7, (.int t_thrown :: .int t_high :: .int t_wide :: .int t_components :: .ref h_t_bits :: .int t_unknown :: .int t_rights :: .int t_colours :: .int t_profiled :: .ref h_t_profile :: .int t_entries :: .int t_columns :: .ref h_t_columnBits :: .ref h_t_numbers :: .int t_maps :: .ref h_t_map :: .int t_lines :: .ref h_t_line :: .ref h_t_resolutions :: .ref h_t_file :: .int t_size :: .int t_scanned :: .int t_refusedAt :: .int t_cursor :: .int t_streamAt :: .int t_streamMany :: .int t_name :: .int t_from :: .int t_end :: .int t_sizeAt :: .int t_bitsAt :: .int t_colourAt :: .int t_colourEnd :: .int t_paletteAt :: .int t_mapAt :: .int t_mapEnd :: .int t_channelsAt :: .int t_captureAt :: .int t_displayAt :: .int t_resolved :: []))), (h_t_columnBits, .inl (cI, 8, .inl f_t_columnBits))] H → va_D A [(h_t, .inr (7, (.int t_thrown :: .int t_high :: .int t_wide :: .int t_components :: .ref h_t_bits :: .int t_unknown :: .int t_rights :: .int t_colours :: .int t_profiled :: .ref h_t_profile :: .int t_entries :: .int t_columns :: .ref h_t_columnBits :: .ref h_t_numbers :: .int t_maps :: .ref h_t_map :: .int t_lines :: .ref h_t_line :: .ref h_t_resolutions :: .ref h_t_file :: .int t_size :: .int t_scanned :: .int t_refusedAt :: .int t_cursor :: .int t_streamAt :: .int t_streamMany :: .int t_name :: .int t_from :: .int t_end :: .int t_sizeAt :: .int t_bitsAt :: .int t_colourAt :: .int t_colourEnd :: .int t_paletteAt :: .int t_mapAt :: .int t_mapEnd :: .int t_channelsAt :: .int t_captureAt :: .int t_displayAt :: .int t_resolved :: []))), (h_t_columnBits, .inl (cI, 8, .inl f_t_columnBits))] → va_S A s.heap H locs → ∀ ls : Array Slot, lv_has ls 3 [(0, .ref h_t), (1, .int p1), (2, .int p2)] → W p l e R s m args below meth c H locs 0 0 Q (F0 m 13 ls [.ref h_t]) := by
    intro E O H locs hP hD hS ls hl
    refine lv_iconst (v := 1) hx hb d_Mo_column_13 (by decide) ?_
    refine lv_goto (tgt := 29) hx hb d_Mo_column_14 (by decide) ?_
    exact J_29 1 E O _ _ hP hD hS ls (lv_sub hl [0, 1, 2] rfl)
  refine lv_if_lt (tgt := 13) hx hb d_Mo_column_2 (by decide) (fun c_2 => ?_) (fun c_2 => ?_)
  · have E := (if_pos c_2).symm.trans E
    have O := Eq.mp (if_pos c_2) O
    exact J_13  E O _ _ hP hD hS ls (lv_sub hl [0, 1, 2] rfl)
  · have E := (if_neg c_2).symm.trans E
    have O := Eq.mp (if_neg c_2) O
    refine lv_iload_n hx hb d_Mo_column_5 rfl (lv_at hl 1 rfl) ?_
    refine lv_aload_n hx hb d_Mo_column_6 rfl (lv_at hl 0 rfl) ?_
    refine va_get (D := D) (v := .int t_columns) hx hb hta i_Mo hown hK hP 0 rfl rfl 11 (by decide) (hta _ lk_Mo_70) (fun _ h9 => h9) rfl d_Mo_column_7 ?_
    refine lv_icmp_lt (tgt := 17) hx hb d_Mo_column_10 (by decide) (fun c_10 => ?_) (fun c_10 => ?_)
    · have E := (if_pos c_10).symm.trans E
      have O := Eq.mp (if_pos c_10) O
      refine lv_iload_n hx hb d_Mo_column_17 rfl (lv_at hl 2 rfl) ?_
      refine kc_S (As := [.int p2]) (rest := [.ref h_t]) (wr := [(h_t, .inr (7, (.int t_thrown :: .int t_high :: .int t_wide :: .int t_components :: .ref h_t_bits :: .int t_unknown :: .int t_rights :: .int t_colours :: .int t_profiled :: .ref h_t_profile :: .int t_entries :: .int t_columns :: .ref h_t_columnBits :: .ref h_t_numbers :: .int t_maps :: .ref h_t_map :: .int t_lines :: .ref h_t_line :: .ref h_t_resolutions :: .ref h_t_file :: .int t_size :: .int t_scanned :: .int t_refusedAt :: .int t_cursor :: .int t_streamAt :: .int t_streamMany :: .int t_name :: .int t_from :: .int t_end :: .int t_sizeAt :: .int t_bitsAt :: .int t_colourAt :: .int t_colourEnd :: .int t_paletteAt :: .int t_mapAt :: .int t_mapEnd :: .int t_channelsAt :: .int t_captureAt :: .int t_displayAt :: .int t_resolved :: []))), (h_t_columnBits, .inl (cI, 8, .inl f_t_columnBits))]) [] [0, 1] ⟨hx, hb, hml, hown, hta⟩ hK hN hP hD hS hA (c_Mo_areBits l D cB cI cJ p2 O.1 _) (hta _ lk_Mo_85) (hta _ ini_Mo) (hta _ code_Mo_areBits) code_Mo_areBits (hta _ stat_Mo_areBits) hd_Mo_areBits rfl ⟨by omega, by omega⟩ rfl rfl (by decide) (by decide) (by decide) rfl hl.1 (lv_room (Nat.le_of_ble_eq_true rfl)) d_Mo_column_18 ⟨by omega, by omega⟩ (fun v w1 H locs hw hP hD hS => ?_)
      obtain ⟨x18, hx18, rfl, rfl⟩ := hw
      have hP : va_P D classes [(h_t, .inr (7, (.int t_thrown :: .int t_high :: .int t_wide :: .int t_components :: .ref h_t_bits :: .int t_unknown :: .int t_rights :: .int t_colours :: .int t_profiled :: .ref h_t_profile :: .int t_entries :: .int t_columns :: .ref h_t_columnBits :: .ref h_t_numbers :: .int t_maps :: .ref h_t_map :: .int t_lines :: .ref h_t_line :: .ref h_t_resolutions :: .ref h_t_file :: .int t_size :: .int t_scanned :: .int t_refusedAt :: .int t_cursor :: .int t_streamAt :: .int t_streamMany :: .int t_name :: .int t_from :: .int t_end :: .int t_sizeAt :: .int t_bitsAt :: .int t_colourAt :: .int t_colourEnd :: .int t_paletteAt :: .int t_mapAt :: .int t_mapEnd :: .int t_channelsAt :: .int t_captureAt :: .int t_displayAt :: .int t_resolved :: []))), (h_t_columnBits, .inl (cI, 8, .inl f_t_columnBits))] H := hP.sub [0, 1] rfl
      have hD : va_D A [(h_t, .inr (7, (.int t_thrown :: .int t_high :: .int t_wide :: .int t_components :: .ref h_t_bits :: .int t_unknown :: .int t_rights :: .int t_colours :: .int t_profiled :: .ref h_t_profile :: .int t_entries :: .int t_columns :: .ref h_t_columnBits :: .ref h_t_numbers :: .int t_maps :: .ref h_t_map :: .int t_lines :: .ref h_t_line :: .ref h_t_resolutions :: .ref h_t_file :: .int t_size :: .int t_scanned :: .int t_refusedAt :: .int t_cursor :: .int t_streamAt :: .int t_streamMany :: .int t_name :: .int t_from :: .int t_end :: .int t_sizeAt :: .int t_bitsAt :: .int t_colourAt :: .int t_colourEnd :: .int t_paletteAt :: .int t_mapAt :: .int t_mapEnd :: .int t_channelsAt :: .int t_captureAt :: .int t_displayAt :: .int t_resolved :: []))), (h_t_columnBits, .inl (cI, 8, .inl f_t_columnBits))] := hD.sub [0, 1] (by decide) rfl
      refine W.eq (g2 := F0 m 21 ls [.int x18, .ref h_t]) rfl ?_
      have O := O.2
      have E : k_Mo_column_18 f_t_columnBits p1 p2 x18 = RES := (congrArg (k_Mo_column_18 f_t_columnBits p1 p2) hx18).trans E
      have O : ok_Mo_column_18 p1 x18 := by rw [hx18]; exact O
      refine lv_if_ne (tgt := 28) hx hb d_Mo_column_21 (by decide) (fun c_21 => ?_) (fun c_21 => ?_)
      · have E := (if_neg c_21).symm.trans E
        have O := Eq.mp (if_neg c_21) O
        refine lv_iconst (v := 0) hx hb d_Mo_column_28 (by decide) ?_
        exact J_29 0 E O _ _ hP hD hS ls (lv_sub hl [0, 1, 2] rfl)
      · have E := (if_pos c_21).symm.trans E
        have O := Eq.mp (if_pos c_21) O
        refine lv_iconst (v := 2) hx hb d_Mo_column_24 (by decide) ?_
        refine lv_goto (tgt := 29) hx hb d_Mo_column_25 (by decide) ?_
        exact J_29 2 E O _ _ hP hD hS ls (lv_sub hl [0, 1, 2] rfl)
    · have E := (if_neg c_10).symm.trans E
      have O := Eq.mp (if_neg c_10) O
      exact J_13  E O _ _ hP hD hS ls (lv_sub hl [0, 1, 2] rfl)
theorem d_Mo_isNumber_0 : decode b_Mo_isNumber 0 = .ok (.iload_n 1, 1) := by decide +kernel
theorem d_Mo_isNumber_1 : decode b_Mo_isNumber 1 = .ok (.ifCond .lt 27, 3) := by decide +kernel
theorem d_Mo_isNumber_4 : decode b_Mo_isNumber 4 = .ok (.iload_n 1, 1) := by decide +kernel
theorem d_Mo_isNumber_5 : decode b_Mo_isNumber 5 = .ok (.aload_n 0, 1) := by decide +kernel
theorem d_Mo_isNumber_6 : decode b_Mo_isNumber 6 = .ok (.getfield 67, 3) := by decide +kernel
theorem d_Mo_isNumber_9 : decode b_Mo_isNumber 9 = .ok (.if_icmp .ge 19, 3) := by decide +kernel
theorem d_Mo_isNumber_12 : decode b_Mo_isNumber 12 = .ok (.iload_n 2, 1) := by decide +kernel
theorem d_Mo_isNumber_13 : decode b_Mo_isNumber 13 = .ok (.ifCond .lt 15, 3) := by decide +kernel
theorem d_Mo_isNumber_16 : decode b_Mo_isNumber 16 = .ok (.iload_n 2, 1) := by decide +kernel
theorem d_Mo_isNumber_17 : decode b_Mo_isNumber 17 = .ok (.aload_n 0, 1) := by decide +kernel
theorem d_Mo_isNumber_18 : decode b_Mo_isNumber 18 = .ok (.getfield 70, 3) := by decide +kernel
theorem d_Mo_isNumber_21 : decode b_Mo_isNumber 21 = .ok (.if_icmp .ge 7, 3) := by decide +kernel
theorem d_Mo_isNumber_24 : decode b_Mo_isNumber 24 = .ok (.iconst 1, 1) := by decide +kernel
theorem d_Mo_isNumber_25 : decode b_Mo_isNumber 25 = .ok (.goto 4, 3) := by decide +kernel
theorem d_Mo_isNumber_28 : decode b_Mo_isNumber 28 = .ok (.iconst 0, 1) := by decide +kernel
theorem d_Mo_isNumber_29 : decode b_Mo_isNumber 29 = .ok (.ireturn, 1) := by decide +kernel
def om_Mo_isNumber (t_entries : Int32) (t_columns : Int32) (p1 : Int32) (p2 : Int32) : Prop :=
  if p1 < 0 then True else (if t_entries ≤ p1 then True else (if p2 < 0 then True else (if t_columns ≤ p2 then True else True)))
def m_Mo_isNumber (t_entries : Int32) (t_columns : Int32) (p1 : Int32) (p2 : Int32) : Int32 :=
  if p1 < 0 then 0 else (if t_entries ≤ p1 then 0 else (if p2 < 0 then 0 else (if t_columns ≤ p2 then 0 else 1)))
set_option maxHeartbeats 4000000 in
set_option maxRecDepth 100000 in
theorem c_Mo_isNumber (l : Launch) (D : va_G) (cB cI cJ : ClassId) (h_t h_t_bits h_t_profile h_t_columnBits h_t_numbers h_t_map h_t_line h_t_resolutions h_t_file : Nat) (t_thrown : Int32) (t_high : Int32) (t_wide : Int32) (t_components : Int32) (t_unknown : Int32) (t_rights : Int32) (t_colours : Int32) (t_profiled : Int32) (t_entries : Int32) (t_columns : Int32) (t_maps : Int32) (t_lines : Int32) (t_size : Int32) (t_scanned : Int32) (t_refusedAt : Int32) (t_cursor : Int32) (t_streamAt : Int32) (t_streamMany : Int32) (t_name : Int32) (t_from : Int32) (t_end : Int32) (t_sizeAt : Int32) (t_bitsAt : Int32) (t_colourAt : Int32) (t_colourEnd : Int32) (t_paletteAt : Int32) (t_mapAt : Int32) (t_mapEnd : Int32) (t_channelsAt : Int32) (t_captureAt : Int32) (t_displayAt : Int32) (t_resolved : Int32) (p1 : Int32) (p2 : Int32) (hO : om_Mo_isNumber t_entries t_columns p1 p2) (sz : Nat) : Ct l D cB cI cJ y_Mo_isNumber b_Mo_isNumber 3 (some .boolean) 0 0 0 0 [.ref h_t, .int p1, .int p2] [(h_t, .inr (7, (.int t_thrown :: .int t_high :: .int t_wide :: .int t_components :: .ref h_t_bits :: .int t_unknown :: .int t_rights :: .int t_colours :: .int t_profiled :: .ref h_t_profile :: .int t_entries :: .int t_columns :: .ref h_t_columnBits :: .ref h_t_numbers :: .int t_maps :: .ref h_t_map :: .int t_lines :: .ref h_t_line :: .ref h_t_resolutions :: .ref h_t_file :: .int t_size :: .int t_scanned :: .int t_refusedAt :: .int t_cursor :: .int t_streamAt :: .int t_streamMany :: .int t_name :: .int t_from :: .int t_end :: .int t_sizeAt :: .int t_bitsAt :: .int t_colourAt :: .int t_colourEnd :: .int t_paletteAt :: .int t_mapAt :: .int t_mapEnd :: .int t_channelsAt :: .int t_captureAt :: .int t_displayAt :: .int t_resolved :: [])))] (fun v w1 => ∃ (x : Int32), x = m_Mo_isNumber t_entries t_columns p1 p2 ∧ v = some (.int x) ∧ w1 = [(h_t, .inr (7, (.int t_thrown :: .int t_high :: .int t_wide :: .int t_components :: .ref h_t_bits :: .int t_unknown :: .int t_rights :: .int t_colours :: .int t_profiled :: .ref h_t_profile :: .int t_entries :: .int t_columns :: .ref h_t_columnBits :: .ref h_t_numbers :: .int t_maps :: .ref h_t_map :: .int t_lines :: .ref h_t_line :: .ref h_t_resolutions :: .ref h_t_file :: .int t_size :: .int t_scanned :: .int t_refusedAt :: .int t_cursor :: .int t_streamAt :: .int t_streamMany :: .int t_name :: .int t_from :: .int t_end :: .int t_sizeAt :: .int t_bitsAt :: .int t_colourAt :: .int t_colourEnd :: .int t_paletteAt :: .int t_mapAt :: .int t_mapEnd :: .int t_channelsAt :: .int t_captureAt :: .int t_displayAt :: .int t_resolved :: [])))]) sz := by
  refine Ct.of (by decide) (Nat.le_of_ble_eq_true rfl) ?_
  intro p e R s m args below meth c A ls Q hx hb hr hlk hml hta hown hin hK hN hA hRf hRl hRc hRs hP hD hS hl hQ
  have hl : lv_has ls 3 [(0, .ref h_t), (1, .int p1), (2, .int p2)] := hl
  obtain ⟨RES, E0⟩ : ∃ R, m_Mo_isNumber t_entries t_columns p1 p2 = R := ⟨_, rfl⟩
  have E := E0
  have O := hO
  refine lv_iload_n hx hb d_Mo_isNumber_0 rfl (lv_at hl 1 rfl) ?_
  refine lv_if_lt (tgt := 28) hx hb d_Mo_isNumber_1 (by decide) (fun c_1 => ?_) (fun c_1 => ?_)
  · have E := (if_pos c_1).symm.trans E
    have O := Eq.mp (if_pos c_1) O
    refine lv_iconst (v := 0) hx hb d_Mo_isNumber_28 (by decide) ?_
    exact kr_z hx hb hr hlk hQ hK hP hD hS ⟨(0 : Int32), E.trans E0.symm, rfl, rfl⟩ (by omega) (by omega) rfl d_Mo_isNumber_29
  · have E := (if_neg c_1).symm.trans E
    have O := Eq.mp (if_neg c_1) O
    refine lv_iload_n hx hb d_Mo_isNumber_4 rfl (lv_at hl 1 rfl) ?_
    refine lv_aload_n hx hb d_Mo_isNumber_5 rfl (lv_at hl 0 rfl) ?_
    refine va_get (D := D) (v := .int t_entries) hx hb hta i_Mo hown hK hP 0 rfl rfl 10 (by decide) (hta _ lk_Mo_67) (fun _ h9 => h9) rfl d_Mo_isNumber_6 ?_
    refine lv_icmp_ge (tgt := 28) hx hb d_Mo_isNumber_9 (by decide) (fun c_9 => ?_) (fun c_9 => ?_)
    · have E := (if_pos c_9).symm.trans E
      have O := Eq.mp (if_pos c_9) O
      refine lv_iconst (v := 0) hx hb d_Mo_isNumber_28 (by decide) ?_
      exact kr_z hx hb hr hlk hQ hK hP hD hS ⟨(0 : Int32), E.trans E0.symm, rfl, rfl⟩ (by omega) (by omega) rfl d_Mo_isNumber_29
    · have E := (if_neg c_9).symm.trans E
      have O := Eq.mp (if_neg c_9) O
      refine lv_iload_n hx hb d_Mo_isNumber_12 rfl (lv_at hl 2 rfl) ?_
      refine lv_if_lt (tgt := 28) hx hb d_Mo_isNumber_13 (by decide) (fun c_13 => ?_) (fun c_13 => ?_)
      · have E := (if_pos c_13).symm.trans E
        have O := Eq.mp (if_pos c_13) O
        refine lv_iconst (v := 0) hx hb d_Mo_isNumber_28 (by decide) ?_
        exact kr_z hx hb hr hlk hQ hK hP hD hS ⟨(0 : Int32), E.trans E0.symm, rfl, rfl⟩ (by omega) (by omega) rfl d_Mo_isNumber_29
      · have E := (if_neg c_13).symm.trans E
        have O := Eq.mp (if_neg c_13) O
        refine lv_iload_n hx hb d_Mo_isNumber_16 rfl (lv_at hl 2 rfl) ?_
        refine lv_aload_n hx hb d_Mo_isNumber_17 rfl (lv_at hl 0 rfl) ?_
        refine va_get (D := D) (v := .int t_columns) hx hb hta i_Mo hown hK hP 0 rfl rfl 11 (by decide) (hta _ lk_Mo_70) (fun _ h9 => h9) rfl d_Mo_isNumber_18 ?_
        refine lv_icmp_ge (tgt := 28) hx hb d_Mo_isNumber_21 (by decide) (fun c_21 => ?_) (fun c_21 => ?_)
        · have E := (if_pos c_21).symm.trans E
          have O := Eq.mp (if_pos c_21) O
          refine lv_iconst (v := 0) hx hb d_Mo_isNumber_28 (by decide) ?_
          exact kr_z hx hb hr hlk hQ hK hP hD hS ⟨(0 : Int32), E.trans E0.symm, rfl, rfl⟩ (by omega) (by omega) rfl d_Mo_isNumber_29
        · have E := (if_neg c_21).symm.trans E
          have O := Eq.mp (if_neg c_21) O
          refine lv_iconst (v := 1) hx hb d_Mo_isNumber_24 (by decide) ?_
          refine lv_goto (tgt := 29) hx hb d_Mo_isNumber_25 (by decide) ?_
          exact kr_z hx hb hr hlk hQ hK hP hD hS ⟨(1 : Int32), E.trans E0.symm, rfl, rfl⟩ (by omega) (by omega) rfl d_Mo_isNumber_29
theorem d_Mo_entry_0 : decode b_Mo_entry 0 = .ok (.aload_n 0, 1) := by decide +kernel
theorem d_Mo_entry_1 : decode b_Mo_entry 1 = .ok (.iload_n 1, 1) := by decide +kernel
theorem d_Mo_entry_2 : decode b_Mo_entry 2 = .ok (.iload_n 2, 1) := by decide +kernel
theorem d_Mo_entry_3 : decode b_Mo_entry 3 = .ok (.invokevirtual 100, 3) := by decide +kernel
theorem d_Mo_entry_6 : decode b_Mo_entry 6 = .ok (.istore 5, 2) := by decide +kernel
theorem d_Mo_entry_8 : decode b_Mo_entry 8 = .ok (.iload 5, 2) := by decide +kernel
theorem d_Mo_entry_10 : decode b_Mo_entry 10 = .ok (.ifCond .eq 12, 3) := by decide +kernel
theorem d_Mo_entry_13 : decode b_Mo_entry 13 = .ok (.aload_n 0, 1) := by decide +kernel
theorem d_Mo_entry_14 : decode b_Mo_entry 14 = .ok (.getfield 20, 3) := by decide +kernel
theorem d_Mo_entry_17 : decode b_Mo_entry 17 = .ok (.iload_n 2, 1) := by decide +kernel
theorem d_Mo_entry_18 : decode b_Mo_entry 18 = .ok (.iaload, 1) := by decide +kernel
theorem d_Mo_entry_19 : decode b_Mo_entry 19 = .ok (.goto 4, 3) := by decide +kernel
theorem d_Mo_entry_22 : decode b_Mo_entry 22 = .ok (.iconst 0, 1) := by decide +kernel
theorem d_Mo_entry_23 : decode b_Mo_entry 23 = .ok (.istore 6, 2) := by decide +kernel
theorem d_Mo_entry_25 : decode b_Mo_entry 25 = .ok (.lconst 1, 1) := by decide +kernel
theorem d_Mo_entry_26 : decode b_Mo_entry 26 = .ok (.iload 6, 2) := by decide +kernel
theorem d_Mo_entry_28 : decode b_Mo_entry 28 = .ok (.bipush 127, 2) := by decide +kernel
theorem d_Mo_entry_30 : decode b_Mo_entry 30 = .ok (.iand, 1) := by decide +kernel
theorem d_Mo_entry_31 : decode b_Mo_entry 31 = .ok (.iload 6, 2) := by decide +kernel
theorem d_Mo_entry_33 : decode b_Mo_entry 33 = .ok (.bipush 127, 2) := by decide +kernel
theorem d_Mo_entry_35 : decode b_Mo_entry 35 = .ok (.if_icmp .le 7, 3) := by decide +kernel
theorem d_Mo_entry_38 : decode b_Mo_entry 38 = .ok (.iconst 0, 1) := by decide +kernel
theorem d_Mo_entry_39 : decode b_Mo_entry 39 = .ok (.goto 4, 3) := by decide +kernel
theorem d_Mo_entry_42 : decode b_Mo_entry 42 = .ok (.iconst 1, 1) := by decide +kernel
theorem d_Mo_entry_43 : decode b_Mo_entry 43 = .ok (.iadd, 1) := by decide +kernel
theorem d_Mo_entry_44 : decode b_Mo_entry 44 = .ok (.lshl, 1) := by decide +kernel
theorem d_Mo_entry_45 : decode b_Mo_entry 45 = .ok (.lstore 7, 2) := by decide +kernel
theorem d_Mo_entry_47 : decode b_Mo_entry 47 = .ok (.iload 6, 2) := by decide +kernel
theorem d_Mo_entry_49 : decode b_Mo_entry 49 = .ok (.bipush 127, 2) := by decide +kernel
theorem d_Mo_entry_51 : decode b_Mo_entry 51 = .ok (.if_icmp .le 26, 3) := by decide +kernel
theorem d_Mo_entry_54 : decode b_Mo_entry 54 = .ok (.lload_n 3, 1) := by decide +kernel
theorem d_Mo_entry_55 : decode b_Mo_entry 55 = .ok (.lload 7, 2) := by decide +kernel
theorem d_Mo_entry_57 : decode b_Mo_entry 57 = .ok (.lneg, 1) := by decide +kernel
theorem d_Mo_entry_58 : decode b_Mo_entry 58 = .ok (.lcmp, 1) := by decide +kernel
theorem d_Mo_entry_59 : decode b_Mo_entry 59 = .ok (.ifCond .lt 14, 3) := by decide +kernel
theorem d_Mo_entry_62 : decode b_Mo_entry 62 = .ok (.lload_n 3, 1) := by decide +kernel
theorem d_Mo_entry_63 : decode b_Mo_entry 63 = .ok (.lload 7, 2) := by decide +kernel
theorem d_Mo_entry_65 : decode b_Mo_entry 65 = .ok (.lcmp, 1) := by decide +kernel
theorem d_Mo_entry_66 : decode b_Mo_entry 66 = .ok (.ifCond .ge 7, 3) := by decide +kernel
theorem d_Mo_entry_69 : decode b_Mo_entry 69 = .ok (.iconst 1, 1) := by decide +kernel
theorem d_Mo_entry_70 : decode b_Mo_entry 70 = .ok (.goto 25, 3) := by decide +kernel
theorem d_Mo_entry_73 : decode b_Mo_entry 73 = .ok (.iconst 0, 1) := by decide +kernel
theorem d_Mo_entry_74 : decode b_Mo_entry 74 = .ok (.goto 21, 3) := by decide +kernel
theorem d_Mo_entry_77 : decode b_Mo_entry 77 = .ok (.lload_n 3, 1) := by decide +kernel
theorem d_Mo_entry_78 : decode b_Mo_entry 78 = .ok (.lconst 0, 1) := by decide +kernel
theorem d_Mo_entry_79 : decode b_Mo_entry 79 = .ok (.lcmp, 1) := by decide +kernel
theorem d_Mo_entry_80 : decode b_Mo_entry 80 = .ok (.ifCond .lt 14, 3) := by decide +kernel
theorem d_Mo_entry_83 : decode b_Mo_entry 83 = .ok (.lload_n 3, 1) := by decide +kernel
theorem d_Mo_entry_84 : decode b_Mo_entry 84 = .ok (.lload 7, 2) := by decide +kernel
theorem d_Mo_entry_86 : decode b_Mo_entry 86 = .ok (.lcmp, 1) := by decide +kernel
theorem d_Mo_entry_87 : decode b_Mo_entry 87 = .ok (.ifCond .ge 7, 3) := by decide +kernel
theorem d_Mo_entry_90 : decode b_Mo_entry 90 = .ok (.iconst 1, 1) := by decide +kernel
theorem d_Mo_entry_91 : decode b_Mo_entry 91 = .ok (.goto 4, 3) := by decide +kernel
theorem d_Mo_entry_94 : decode b_Mo_entry 94 = .ok (.iconst 0, 1) := by decide +kernel
theorem d_Mo_entry_95 : decode b_Mo_entry 95 = .ok (.istore 9, 2) := by decide +kernel
theorem d_Mo_entry_97 : decode b_Mo_entry 97 = .ok (.aload_n 0, 1) := by decide +kernel
theorem d_Mo_entry_98 : decode b_Mo_entry 98 = .ok (.iload 5, 2) := by decide +kernel
theorem d_Mo_entry_100 : decode b_Mo_entry 100 = .ok (.ifCond .ne 7, 3) := by decide +kernel
theorem d_Mo_entry_103 : decode b_Mo_entry 103 = .ok (.iconst 1, 1) := by decide +kernel
theorem d_Mo_entry_104 : decode b_Mo_entry 104 = .ok (.goto 13, 3) := by decide +kernel
theorem d_Mo_entry_107 : decode b_Mo_entry 107 = .ok (.iload 9, 2) := by decide +kernel
theorem d_Mo_entry_109 : decode b_Mo_entry 109 = .ok (.ifCond .ne 7, 3) := by decide +kernel
theorem d_Mo_entry_112 : decode b_Mo_entry 112 = .ok (.iconst 2, 1) := by decide +kernel
theorem d_Mo_entry_113 : decode b_Mo_entry 113 = .ok (.goto 4, 3) := by decide +kernel
theorem d_Mo_entry_116 : decode b_Mo_entry 116 = .ok (.iconst 0, 1) := by decide +kernel
theorem d_Mo_entry_117 : decode b_Mo_entry 117 = .ok (.invokevirtual 89, 3) := by decide +kernel
theorem d_Mo_entry_120 : decode b_Mo_entry 120 = .ok (.ifCond .eq 4, 3) := by decide +kernel
theorem d_Mo_entry_123 : decode b_Mo_entry 123 = .ok (.return_, 1) := by decide +kernel
theorem d_Mo_entry_124 : decode b_Mo_entry 124 = .ok (.aload_n 0, 1) := by decide +kernel
theorem d_Mo_entry_125 : decode b_Mo_entry 125 = .ok (.getfield 23, 3) := by decide +kernel
theorem d_Mo_entry_128 : decode b_Mo_entry 128 = .ok (.aload_n 0, 1) := by decide +kernel
theorem d_Mo_entry_129 : decode b_Mo_entry 129 = .ok (.getfield 70, 3) := by decide +kernel
theorem d_Mo_entry_132 : decode b_Mo_entry 132 = .ok (.iload_n 1, 1) := by decide +kernel
theorem d_Mo_entry_133 : decode b_Mo_entry 133 = .ok (.imul, 1) := by decide +kernel
theorem d_Mo_entry_134 : decode b_Mo_entry 134 = .ok (.iload_n 2, 1) := by decide +kernel
theorem d_Mo_entry_135 : decode b_Mo_entry 135 = .ok (.iadd, 1) := by decide +kernel
theorem d_Mo_entry_136 : decode b_Mo_entry 136 = .ok (.lload_n 3, 1) := by decide +kernel
theorem d_Mo_entry_137 : decode b_Mo_entry 137 = .ok (.lastore, 1) := by decide +kernel
theorem d_Mo_entry_138 : decode b_Mo_entry 138 = .ok (.return_, 1) := by decide +kernel
def k_Mo_entry_117 (t_columns : Int32) (f_t_numbers : Nat → Int64) (p1 : Int32) (p2 : Int32) (p3 : Int64) (x117 : Int32 × Int32) : Int32 × (Nat → Int64) :=
  if x117.1 = 0 then ((x117.2, vp_updL f_t_numbers ((t_columns * p1) + p2).toNatClampNeg p3)) else (x117.2, f_t_numbers)
def ok_Mo_entry_117 (t_columns : Int32) (p1 : Int32) (p2 : Int32) (x117 : Int32 × Int32) : Prop :=
  if x117.1 = 0 then (vp_in ((t_columns * p1) + p2) 4096 ∧ True) else True
def j_Mo_entry_117 (t_columns : Int32) (f_t_numbers : Nat → Int64) (p1 : Int32) (p2 : Int32) (p3 : Int64) (j117_s1 : Int32) : Int32 × (Nat → Int64) :=
  k_Mo_entry_117 t_columns f_t_numbers p1 p2 p3 (m_Mo_refuse j117_s1)
def oj_Mo_entry_117 (t_columns : Int32) (p1 : Int32) (p2 : Int32) (j117_s1 : Int32) : Prop :=
  om_Mo_refuse j117_s1 ∧ (ok_Mo_entry_117 t_columns p1 p2 (m_Mo_refuse j117_s1))
def j_Mo_entry_95 (t_columns : Int32) (f_t_numbers : Nat → Int64) (p1 : Int32) (p2 : Int32) (p3 : Int64) (x3 : Int32) (j95_s0 : Int32) : Int32 × (Nat → Int64) :=
  if x3 = 0 then (j_Mo_entry_117 t_columns f_t_numbers p1 p2 p3 1) else (if j95_s0 = 0 then (j_Mo_entry_117 t_columns f_t_numbers p1 p2 p3 2) else (j_Mo_entry_117 t_columns f_t_numbers p1 p2 p3 0))
def oj_Mo_entry_95 (t_columns : Int32) (p1 : Int32) (p2 : Int32) (x3 : Int32) (j95_s0 : Int32) : Prop :=
  if x3 = 0 then (oj_Mo_entry_117 t_columns p1 p2 1) else (if j95_s0 = 0 then (oj_Mo_entry_117 t_columns p1 p2 2) else (oj_Mo_entry_117 t_columns p1 p2 0))
def j_Mo_entry_94 (t_columns : Int32) (f_t_numbers : Nat → Int64) (p1 : Int32) (p2 : Int32) (p3 : Int64) (x3 : Int32) : Int32 × (Nat → Int64) :=
  j_Mo_entry_95 t_columns f_t_numbers p1 p2 p3 x3 0
def oj_Mo_entry_94 (t_columns : Int32) (p1 : Int32) (p2 : Int32) (x3 : Int32) : Prop :=
  oj_Mo_entry_95 t_columns p1 p2 x3 0
def j_Mo_entry_73 (t_columns : Int32) (f_t_numbers : Nat → Int64) (p1 : Int32) (p2 : Int32) (p3 : Int64) (x3 : Int32) : Int32 × (Nat → Int64) :=
  j_Mo_entry_95 t_columns f_t_numbers p1 p2 p3 x3 0
def oj_Mo_entry_73 (t_columns : Int32) (p1 : Int32) (p2 : Int32) (x3 : Int32) : Prop :=
  oj_Mo_entry_95 t_columns p1 p2 x3 0
def j_Mo_entry_43 (t_columns : Int32) (f_t_numbers : Nat → Int64) (p1 : Int32) (p2 : Int32) (p3 : Int64) (x3 : Int32) (j23_s0 : Int32) (j43_s0 : Int64) (j43_s1 : Int32) (j43_s2 : Int32) : Int32 × (Nat → Int64) :=
  if j23_s0 ≤ 127 then (if (lg_cmp p3 0) < 0 then (j_Mo_entry_94 t_columns f_t_numbers p1 p2 p3 x3) else (if 0 ≤ (lg_cmp p3 (j43_s0 <<< ((j43_s1 + j43_s2 : Int32).toInt64 &&& 63))) then (j_Mo_entry_94 t_columns f_t_numbers p1 p2 p3 x3) else (j_Mo_entry_95 t_columns f_t_numbers p1 p2 p3 x3 1))) else (if (lg_cmp p3 (-(j43_s0 <<< ((j43_s1 + j43_s2 : Int32).toInt64 &&& 63)))) < 0 then (j_Mo_entry_73 t_columns f_t_numbers p1 p2 p3 x3) else (if 0 ≤ (lg_cmp p3 (j43_s0 <<< ((j43_s1 + j43_s2 : Int32).toInt64 &&& 63))) then (j_Mo_entry_73 t_columns f_t_numbers p1 p2 p3 x3) else (j_Mo_entry_95 t_columns f_t_numbers p1 p2 p3 x3 1)))
def oj_Mo_entry_43 (t_columns : Int32) (p1 : Int32) (p2 : Int32) (p3 : Int64) (x3 : Int32) (j23_s0 : Int32) (j43_s0 : Int64) (j43_s1 : Int32) (j43_s2 : Int32) : Prop :=
  if j23_s0 ≤ 127 then (if (lg_cmp p3 0) < 0 then (oj_Mo_entry_94 t_columns p1 p2 x3) else (if 0 ≤ (lg_cmp p3 (j43_s0 <<< ((j43_s1 + j43_s2 : Int32).toInt64 &&& 63))) then (oj_Mo_entry_94 t_columns p1 p2 x3) else (oj_Mo_entry_95 t_columns p1 p2 x3 1))) else (if (lg_cmp p3 (-(j43_s0 <<< ((j43_s1 + j43_s2 : Int32).toInt64 &&& 63)))) < 0 then (oj_Mo_entry_73 t_columns p1 p2 x3) else (if 0 ≤ (lg_cmp p3 (j43_s0 <<< ((j43_s1 + j43_s2 : Int32).toInt64 &&& 63))) then (oj_Mo_entry_73 t_columns p1 p2 x3) else (oj_Mo_entry_95 t_columns p1 p2 x3 1)))
def j_Mo_entry_23 (t_columns : Int32) (f_t_numbers : Nat → Int64) (p1 : Int32) (p2 : Int32) (p3 : Int64) (x3 : Int32) (j23_s0 : Int32) : Int32 × (Nat → Int64) :=
  if j23_s0 ≤ 127 then (j_Mo_entry_43 t_columns f_t_numbers p1 p2 p3 x3 j23_s0 1 (j23_s0 &&& 127) 1) else (j_Mo_entry_43 t_columns f_t_numbers p1 p2 p3 x3 j23_s0 1 (j23_s0 &&& 127) 0)
def oj_Mo_entry_23 (t_columns : Int32) (p1 : Int32) (p2 : Int32) (p3 : Int64) (x3 : Int32) (j23_s0 : Int32) : Prop :=
  if j23_s0 ≤ 127 then (oj_Mo_entry_43 t_columns p1 p2 p3 x3 j23_s0 1 (j23_s0 &&& 127) 1) else (oj_Mo_entry_43 t_columns p1 p2 p3 x3 j23_s0 1 (j23_s0 &&& 127) 0)
def k_Mo_entry_3 (t_columns : Int32) (f_t_columnBits : Nat → Int32) (f_t_numbers : Nat → Int64) (p1 : Int32) (p2 : Int32) (p3 : Int64) (x3 : Int32) : Int32 × (Nat → Int64) :=
  if x3 = 0 then (j_Mo_entry_23 t_columns f_t_numbers p1 p2 p3 x3 0) else (j_Mo_entry_23 t_columns f_t_numbers p1 p2 p3 x3 (f_t_columnBits p2.toNatClampNeg))
def ok_Mo_entry_3 (t_columns : Int32) (f_t_columnBits : Nat → Int32) (p1 : Int32) (p2 : Int32) (p3 : Int64) (x3 : Int32) : Prop :=
  if x3 = 0 then (oj_Mo_entry_23 t_columns p1 p2 p3 x3 0) else (vp_in p2 8 ∧ (oj_Mo_entry_23 t_columns p1 p2 p3 x3 (f_t_columnBits p2.toNatClampNeg)))
def om_Mo_entry (t_entries : Int32) (t_columns : Int32) (f_t_columnBits : Nat → Int32) (p1 : Int32) (p2 : Int32) (p3 : Int64) : Prop :=
  om_Mo_isNumber t_entries t_columns p1 p2 ∧ (ok_Mo_entry_3 t_columns f_t_columnBits p1 p2 p3 (m_Mo_isNumber t_entries t_columns p1 p2))
def m_Mo_entry (t_entries : Int32) (t_columns : Int32) (f_t_columnBits : Nat → Int32) (f_t_numbers : Nat → Int64) (p1 : Int32) (p2 : Int32) (p3 : Int64) : Int32 × (Nat → Int64) :=
  k_Mo_entry_3 t_columns f_t_columnBits f_t_numbers p1 p2 p3 (m_Mo_isNumber t_entries t_columns p1 p2)
set_option maxHeartbeats 4000000 in
set_option maxRecDepth 100000 in
theorem c_Mo_entry (l : Launch) (D : va_G) (cB cI cJ : ClassId) (h_t h_t_bits h_t_profile h_t_columnBits h_t_numbers h_t_map h_t_line h_t_resolutions h_t_file : Nat) (t_thrown : Int32) (t_high : Int32) (t_wide : Int32) (t_components : Int32) (t_unknown : Int32) (t_rights : Int32) (t_colours : Int32) (t_profiled : Int32) (t_entries : Int32) (t_columns : Int32) (t_maps : Int32) (t_lines : Int32) (t_size : Int32) (t_scanned : Int32) (t_refusedAt : Int32) (t_cursor : Int32) (t_streamAt : Int32) (t_streamMany : Int32) (t_name : Int32) (t_from : Int32) (t_end : Int32) (t_sizeAt : Int32) (t_bitsAt : Int32) (t_colourAt : Int32) (t_colourEnd : Int32) (t_paletteAt : Int32) (t_mapAt : Int32) (t_mapEnd : Int32) (t_channelsAt : Int32) (t_captureAt : Int32) (t_displayAt : Int32) (t_resolved : Int32) (f_t_columnBits : Nat → Int32) (f_t_numbers : Nat → Int64) (p1 : Int32) (p2 : Int32) (p3 : Int64) (hO : om_Mo_entry t_entries t_columns f_t_columnBits p1 p2 p3) (sz : Nat) : Ct l D cB cI cJ y_Mo_entry b_Mo_entry 10 none 1 22 0 0 [.ref h_t, .int p1, .int p2, .long p3] [(h_t, .inr (7, (.int t_thrown :: .int t_high :: .int t_wide :: .int t_components :: .ref h_t_bits :: .int t_unknown :: .int t_rights :: .int t_colours :: .int t_profiled :: .ref h_t_profile :: .int t_entries :: .int t_columns :: .ref h_t_columnBits :: .ref h_t_numbers :: .int t_maps :: .ref h_t_map :: .int t_lines :: .ref h_t_line :: .ref h_t_resolutions :: .ref h_t_file :: .int t_size :: .int t_scanned :: .int t_refusedAt :: .int t_cursor :: .int t_streamAt :: .int t_streamMany :: .int t_name :: .int t_from :: .int t_end :: .int t_sizeAt :: .int t_bitsAt :: .int t_colourAt :: .int t_colourEnd :: .int t_paletteAt :: .int t_mapAt :: .int t_mapEnd :: .int t_channelsAt :: .int t_captureAt :: .int t_displayAt :: .int t_resolved :: []))), (h_t_columnBits, .inl (cI, 8, .inl f_t_columnBits)), (h_t_numbers, .inl (cJ, 4096, .inr (.inl f_t_numbers)))] (fun v w1 => ∃ (x : Int32 × (Nat → Int64)), x = m_Mo_entry t_entries t_columns f_t_columnBits f_t_numbers p1 p2 p3 ∧ v = none ∧ w1 = [(h_t, .inr (7, (.int x.1 :: .int t_high :: .int t_wide :: .int t_components :: .ref h_t_bits :: .int t_unknown :: .int t_rights :: .int t_colours :: .int t_profiled :: .ref h_t_profile :: .int t_entries :: .int t_columns :: .ref h_t_columnBits :: .ref h_t_numbers :: .int t_maps :: .ref h_t_map :: .int t_lines :: .ref h_t_line :: .ref h_t_resolutions :: .ref h_t_file :: .int t_size :: .int t_scanned :: .int t_refusedAt :: .int t_cursor :: .int t_streamAt :: .int t_streamMany :: .int t_name :: .int t_from :: .int t_end :: .int t_sizeAt :: .int t_bitsAt :: .int t_colourAt :: .int t_colourEnd :: .int t_paletteAt :: .int t_mapAt :: .int t_mapEnd :: .int t_channelsAt :: .int t_captureAt :: .int t_displayAt :: .int t_resolved :: []))), (h_t_columnBits, .inl (cI, 8, .inl f_t_columnBits)), (h_t_numbers, .inl (cJ, 4096, .inr (.inl x.2)))]) sz := by
  refine Ct.of (by decide) (Nat.le_of_ble_eq_true rfl) ?_
  intro p e R s m args below meth c A ls Q hx hb hr hlk hml hta hown hin hK hN hA hRf hRl hRc hRs hP hD hS hl hQ
  have hl : lv_has ls 10 [(0, .ref h_t), (1, .int p1), (2, .int p2), (3, .long p3)] := hl
  obtain ⟨RES, E0⟩ : ∃ R, m_Mo_entry t_entries t_columns f_t_columnBits f_t_numbers p1 p2 p3 = R := ⟨_, rfl⟩
  have E := E0
  have O := hO
  refine lv_aload_n hx hb d_Mo_entry_0 rfl (lv_at hl 0 rfl) ?_
  refine lv_iload_n hx hb d_Mo_entry_1 rfl (lv_at hl 1 rfl) ?_
  refine lv_iload_n hx hb d_Mo_entry_2 rfl (lv_at hl 2 rfl) ?_
  refine kc_V (As := [.int p1, .int p2]) (rest := []) (wr := [(h_t_columnBits, .inl (cI, 8, .inl f_t_columnBits)), (h_t_numbers, .inl (cJ, 4096, .inr (.inl f_t_numbers)))]) [0] [1, 2] ⟨hx, hb, hml, hown, hta⟩ hK hN hP hD hS hA (c_Mo_isNumber l D cB cI cJ h_t h_t_bits h_t_profile h_t_columnBits h_t_numbers h_t_map h_t_line h_t_resolutions h_t_file t_thrown t_high t_wide t_components t_unknown t_rights t_colours t_profiled t_entries t_columns t_maps t_lines t_size t_scanned t_refusedAt t_cursor t_streamAt t_streamMany t_name t_from t_end t_sizeAt t_bitsAt t_colourAt t_colourEnd t_paletteAt t_mapAt t_mapEnd t_channelsAt t_captureAt t_displayAt t_resolved p1 p2 O.1 _) (hta _ lk_Mo_100) (hta _ ini_Mo) (hta _ code_Mo_isNumber) code_Mo_isNumber (hta _ inst_Mo_isNumber) (hta _ sel_Mo_isNumber) hd_Mo_isNumber rfl ⟨by omega, by omega⟩ (ci := 7) 0 rfl rfl rfl rfl (by decide) (by decide) (by decide) rfl hl.1 (lv_room (Nat.le_of_ble_eq_true rfl)) d_Mo_entry_3 ⟨by omega, by omega⟩ (fun v w1 H locs hw hP hD hS => ?_)
  obtain ⟨x3, hx3, rfl, rfl⟩ := hw
  have hP : va_P D classes [(h_t, .inr (7, (.int t_thrown :: .int t_high :: .int t_wide :: .int t_components :: .ref h_t_bits :: .int t_unknown :: .int t_rights :: .int t_colours :: .int t_profiled :: .ref h_t_profile :: .int t_entries :: .int t_columns :: .ref h_t_columnBits :: .ref h_t_numbers :: .int t_maps :: .ref h_t_map :: .int t_lines :: .ref h_t_line :: .ref h_t_resolutions :: .ref h_t_file :: .int t_size :: .int t_scanned :: .int t_refusedAt :: .int t_cursor :: .int t_streamAt :: .int t_streamMany :: .int t_name :: .int t_from :: .int t_end :: .int t_sizeAt :: .int t_bitsAt :: .int t_colourAt :: .int t_colourEnd :: .int t_paletteAt :: .int t_mapAt :: .int t_mapEnd :: .int t_channelsAt :: .int t_captureAt :: .int t_displayAt :: .int t_resolved :: []))), (h_t_columnBits, .inl (cI, 8, .inl f_t_columnBits)), (h_t_numbers, .inl (cJ, 4096, .inr (.inl f_t_numbers)))] H := hP.sub [2, 0, 1] rfl
  have hD : va_D A [(h_t, .inr (7, (.int t_thrown :: .int t_high :: .int t_wide :: .int t_components :: .ref h_t_bits :: .int t_unknown :: .int t_rights :: .int t_colours :: .int t_profiled :: .ref h_t_profile :: .int t_entries :: .int t_columns :: .ref h_t_columnBits :: .ref h_t_numbers :: .int t_maps :: .ref h_t_map :: .int t_lines :: .ref h_t_line :: .ref h_t_resolutions :: .ref h_t_file :: .int t_size :: .int t_scanned :: .int t_refusedAt :: .int t_cursor :: .int t_streamAt :: .int t_streamMany :: .int t_name :: .int t_from :: .int t_end :: .int t_sizeAt :: .int t_bitsAt :: .int t_colourAt :: .int t_colourEnd :: .int t_paletteAt :: .int t_mapAt :: .int t_mapEnd :: .int t_channelsAt :: .int t_captureAt :: .int t_displayAt :: .int t_resolved :: []))), (h_t_columnBits, .inl (cI, 8, .inl f_t_columnBits)), (h_t_numbers, .inl (cJ, 4096, .inr (.inl f_t_numbers)))] := hD.sub [2, 0, 1] (by decide) rfl
  refine W.eq (g2 := F0 m 6 ls [.int x3]) rfl ?_
  have O := O.2
  have E : k_Mo_entry_3 t_columns f_t_columnBits f_t_numbers p1 p2 p3 x3 = RES := (congrArg (k_Mo_entry_3 t_columns f_t_columnBits f_t_numbers p1 p2 p3) hx3).trans E
  have O : ok_Mo_entry_3 t_columns f_t_columnBits p1 p2 p3 x3 := by rw [hx3]; exact O
  refine lv_istore (lv' := [(5, .int x3), (0, .ref h_t), (1, .int p1), (2, .int p2), (3, .long p3)]) hx hb d_Mo_entry_6 hl (by decide) rfl (fun ls hl => ?_)
  refine lv_iload hx hb d_Mo_entry_8 (lv_at hl 0 rfl) ?_
  have J_23 : ∀ (j23_s0 : Int32), j_Mo_entry_23 t_columns f_t_numbers p1 p2 p3 x3 j23_s0 = RES → oj_Mo_entry_23 t_columns p1 p2 p3 x3 j23_s0 → ∀ (H : Heap) (locs : List Loc), va_P D classes [(h_t, .inr (7, (.int t_thrown :: .int t_high :: .int t_wide :: .int t_components :: .ref h_t_bits :: .int t_unknown :: .int t_rights :: .int t_colours :: .int t_profiled :: .ref h_t_profile :: .int t_entries :: .int t_columns :: .ref h_t_columnBits :: .ref h_t_numbers :: .int t_maps :: .ref h_t_map :: .int t_lines :: .ref h_t_line :: .ref h_t_resolutions :: .ref h_t_file :: .int t_size :: .int t_scanned :: .int t_refusedAt :: .int t_cursor :: .int t_streamAt :: .int t_streamMany :: .int t_name :: .int t_from :: .int t_end :: .int t_sizeAt :: .int t_bitsAt :: .int t_colourAt :: .int t_colourEnd :: .int t_paletteAt :: .int t_mapAt :: .int t_mapEnd :: .int t_channelsAt :: .int t_captureAt :: .int t_displayAt :: .int t_resolved :: []))), (h_t_columnBits, .inl (cI, 8, .inl f_t_columnBits)), (h_t_numbers, .inl (cJ, 4096, .inr (.inl f_t_numbers)))] H → va_D A [(h_t, .inr (7, (.int t_thrown :: .int t_high :: .int t_wide :: .int t_components :: .ref h_t_bits :: .int t_unknown :: .int t_rights :: .int t_colours :: .int t_profiled :: .ref h_t_profile :: .int t_entries :: .int t_columns :: .ref h_t_columnBits :: .ref h_t_numbers :: .int t_maps :: .ref h_t_map :: .int t_lines :: .ref h_t_line :: .ref h_t_resolutions :: .ref h_t_file :: .int t_size :: .int t_scanned :: .int t_refusedAt :: .int t_cursor :: .int t_streamAt :: .int t_streamMany :: .int t_name :: .int t_from :: .int t_end :: .int t_sizeAt :: .int t_bitsAt :: .int t_colourAt :: .int t_colourEnd :: .int t_paletteAt :: .int t_mapAt :: .int t_mapEnd :: .int t_channelsAt :: .int t_captureAt :: .int t_displayAt :: .int t_resolved :: []))), (h_t_columnBits, .inl (cI, 8, .inl f_t_columnBits)), (h_t_numbers, .inl (cJ, 4096, .inr (.inl f_t_numbers)))] → va_S A s.heap H locs → ∀ ls : Array Slot, lv_has ls 10 [(5, .int x3), (0, .ref h_t), (1, .int p1), (2, .int p2), (3, .long p3)] → W p l e R s m args below meth c H locs 0 0 Q (F0 m 23 ls [.int j23_s0]) := by
    intro j23_s0 E O H locs hP hD hS ls hl
    refine lv_istore (lv' := [(6, .int j23_s0), (5, .int x3), (0, .ref h_t), (1, .int p1), (2, .int p2), (3, .long p3)]) hx hb d_Mo_entry_23 hl (by decide) rfl (fun ls hl => ?_)
    refine lv_lconst (v := 1) hx hb d_Mo_entry_25 (by decide) ?_
    refine lv_iload hx hb d_Mo_entry_26 (lv_at hl 0 rfl) ?_
    refine lv_bipush (v := 127) hx hb d_Mo_entry_28 (by decide) ?_
    refine lv_iand hx hb d_Mo_entry_30 ?_
    refine lv_iload hx hb d_Mo_entry_31 (lv_at hl 0 rfl) ?_
    refine lv_bipush (v := 127) hx hb d_Mo_entry_33 (by decide) ?_
    have J_43 : ∀ (j43_s0 : Int64) (j43_s1 : Int32) (j43_s2 : Int32), j_Mo_entry_43 t_columns f_t_numbers p1 p2 p3 x3 j23_s0 j43_s0 j43_s1 j43_s2 = RES → oj_Mo_entry_43 t_columns p1 p2 p3 x3 j23_s0 j43_s0 j43_s1 j43_s2 → ∀ (H : Heap) (locs : List Loc), va_P D classes [(h_t, .inr (7, (.int t_thrown :: .int t_high :: .int t_wide :: .int t_components :: .ref h_t_bits :: .int t_unknown :: .int t_rights :: .int t_colours :: .int t_profiled :: .ref h_t_profile :: .int t_entries :: .int t_columns :: .ref h_t_columnBits :: .ref h_t_numbers :: .int t_maps :: .ref h_t_map :: .int t_lines :: .ref h_t_line :: .ref h_t_resolutions :: .ref h_t_file :: .int t_size :: .int t_scanned :: .int t_refusedAt :: .int t_cursor :: .int t_streamAt :: .int t_streamMany :: .int t_name :: .int t_from :: .int t_end :: .int t_sizeAt :: .int t_bitsAt :: .int t_colourAt :: .int t_colourEnd :: .int t_paletteAt :: .int t_mapAt :: .int t_mapEnd :: .int t_channelsAt :: .int t_captureAt :: .int t_displayAt :: .int t_resolved :: []))), (h_t_columnBits, .inl (cI, 8, .inl f_t_columnBits)), (h_t_numbers, .inl (cJ, 4096, .inr (.inl f_t_numbers)))] H → va_D A [(h_t, .inr (7, (.int t_thrown :: .int t_high :: .int t_wide :: .int t_components :: .ref h_t_bits :: .int t_unknown :: .int t_rights :: .int t_colours :: .int t_profiled :: .ref h_t_profile :: .int t_entries :: .int t_columns :: .ref h_t_columnBits :: .ref h_t_numbers :: .int t_maps :: .ref h_t_map :: .int t_lines :: .ref h_t_line :: .ref h_t_resolutions :: .ref h_t_file :: .int t_size :: .int t_scanned :: .int t_refusedAt :: .int t_cursor :: .int t_streamAt :: .int t_streamMany :: .int t_name :: .int t_from :: .int t_end :: .int t_sizeAt :: .int t_bitsAt :: .int t_colourAt :: .int t_colourEnd :: .int t_paletteAt :: .int t_mapAt :: .int t_mapEnd :: .int t_channelsAt :: .int t_captureAt :: .int t_displayAt :: .int t_resolved :: []))), (h_t_columnBits, .inl (cI, 8, .inl f_t_columnBits)), (h_t_numbers, .inl (cJ, 4096, .inr (.inl f_t_numbers)))] → va_S A s.heap H locs → ∀ ls : Array Slot, lv_has ls 10 [(6, .int j23_s0), (5, .int x3), (0, .ref h_t), (1, .int p1), (2, .int p2), (3, .long p3)] → W p l e R s m args below meth c H locs 0 0 Q (F0 m 43 ls [.int j43_s2, .int j43_s1, .long j43_s0]) := by
      intro j43_s0 j43_s1 j43_s2 E O H locs hP hD hS ls hl
      refine lv_iadd hx hb d_Mo_entry_43 ?_
      refine lv_lshl (v := j43_s0 <<< ((j43_s1 + j43_s2 : Int32).toInt64 &&& 63)) hx hb d_Mo_entry_44 rfl ?_
      refine lv_lstore (lv' := [(7, .long (j43_s0 <<< ((j43_s1 + j43_s2 : Int32).toInt64 &&& 63))), (6, .int j23_s0), (5, .int x3), (0, .ref h_t), (1, .int p1), (2, .int p2), (3, .long p3)]) hx hb d_Mo_entry_45 hl (by decide) rfl (fun ls hl => ?_)
      refine lv_iload hx hb d_Mo_entry_47 (lv_at hl 1 rfl) ?_
      refine lv_bipush (v := 127) hx hb d_Mo_entry_49 (by decide) ?_
      have J_95 : ∀ (j95_s0 : Int32), j_Mo_entry_95 t_columns f_t_numbers p1 p2 p3 x3 j95_s0 = RES → oj_Mo_entry_95 t_columns p1 p2 x3 j95_s0 → ∀ (H : Heap) (locs : List Loc), va_P D classes [(h_t, .inr (7, (.int t_thrown :: .int t_high :: .int t_wide :: .int t_components :: .ref h_t_bits :: .int t_unknown :: .int t_rights :: .int t_colours :: .int t_profiled :: .ref h_t_profile :: .int t_entries :: .int t_columns :: .ref h_t_columnBits :: .ref h_t_numbers :: .int t_maps :: .ref h_t_map :: .int t_lines :: .ref h_t_line :: .ref h_t_resolutions :: .ref h_t_file :: .int t_size :: .int t_scanned :: .int t_refusedAt :: .int t_cursor :: .int t_streamAt :: .int t_streamMany :: .int t_name :: .int t_from :: .int t_end :: .int t_sizeAt :: .int t_bitsAt :: .int t_colourAt :: .int t_colourEnd :: .int t_paletteAt :: .int t_mapAt :: .int t_mapEnd :: .int t_channelsAt :: .int t_captureAt :: .int t_displayAt :: .int t_resolved :: []))), (h_t_columnBits, .inl (cI, 8, .inl f_t_columnBits)), (h_t_numbers, .inl (cJ, 4096, .inr (.inl f_t_numbers)))] H → va_D A [(h_t, .inr (7, (.int t_thrown :: .int t_high :: .int t_wide :: .int t_components :: .ref h_t_bits :: .int t_unknown :: .int t_rights :: .int t_colours :: .int t_profiled :: .ref h_t_profile :: .int t_entries :: .int t_columns :: .ref h_t_columnBits :: .ref h_t_numbers :: .int t_maps :: .ref h_t_map :: .int t_lines :: .ref h_t_line :: .ref h_t_resolutions :: .ref h_t_file :: .int t_size :: .int t_scanned :: .int t_refusedAt :: .int t_cursor :: .int t_streamAt :: .int t_streamMany :: .int t_name :: .int t_from :: .int t_end :: .int t_sizeAt :: .int t_bitsAt :: .int t_colourAt :: .int t_colourEnd :: .int t_paletteAt :: .int t_mapAt :: .int t_mapEnd :: .int t_channelsAt :: .int t_captureAt :: .int t_displayAt :: .int t_resolved :: []))), (h_t_columnBits, .inl (cI, 8, .inl f_t_columnBits)), (h_t_numbers, .inl (cJ, 4096, .inr (.inl f_t_numbers)))] → va_S A s.heap H locs → ∀ ls : Array Slot, lv_has ls 10 [(5, .int x3), (0, .ref h_t), (1, .int p1), (2, .int p2), (3, .long p3)] → W p l e R s m args below meth c H locs 0 0 Q (F0 m 95 ls [.int j95_s0]) := by
        intro j95_s0 E O H locs hP hD hS ls hl
        refine lv_istore (lv' := [(9, .int j95_s0), (5, .int x3), (0, .ref h_t), (1, .int p1), (2, .int p2), (3, .long p3)]) hx hb d_Mo_entry_95 hl (by decide) rfl (fun ls hl => ?_)
        refine lv_aload_n hx hb d_Mo_entry_97 rfl (lv_at hl 2 rfl) ?_
        refine lv_iload hx hb d_Mo_entry_98 (lv_at hl 1 rfl) ?_
        have J_117 : ∀ (j117_s1 : Int32), j_Mo_entry_117 t_columns f_t_numbers p1 p2 p3 j117_s1 = RES → oj_Mo_entry_117 t_columns p1 p2 j117_s1 → ∀ (H : Heap) (locs : List Loc), va_P D classes [(h_t, .inr (7, (.int t_thrown :: .int t_high :: .int t_wide :: .int t_components :: .ref h_t_bits :: .int t_unknown :: .int t_rights :: .int t_colours :: .int t_profiled :: .ref h_t_profile :: .int t_entries :: .int t_columns :: .ref h_t_columnBits :: .ref h_t_numbers :: .int t_maps :: .ref h_t_map :: .int t_lines :: .ref h_t_line :: .ref h_t_resolutions :: .ref h_t_file :: .int t_size :: .int t_scanned :: .int t_refusedAt :: .int t_cursor :: .int t_streamAt :: .int t_streamMany :: .int t_name :: .int t_from :: .int t_end :: .int t_sizeAt :: .int t_bitsAt :: .int t_colourAt :: .int t_colourEnd :: .int t_paletteAt :: .int t_mapAt :: .int t_mapEnd :: .int t_channelsAt :: .int t_captureAt :: .int t_displayAt :: .int t_resolved :: []))), (h_t_columnBits, .inl (cI, 8, .inl f_t_columnBits)), (h_t_numbers, .inl (cJ, 4096, .inr (.inl f_t_numbers)))] H → va_D A [(h_t, .inr (7, (.int t_thrown :: .int t_high :: .int t_wide :: .int t_components :: .ref h_t_bits :: .int t_unknown :: .int t_rights :: .int t_colours :: .int t_profiled :: .ref h_t_profile :: .int t_entries :: .int t_columns :: .ref h_t_columnBits :: .ref h_t_numbers :: .int t_maps :: .ref h_t_map :: .int t_lines :: .ref h_t_line :: .ref h_t_resolutions :: .ref h_t_file :: .int t_size :: .int t_scanned :: .int t_refusedAt :: .int t_cursor :: .int t_streamAt :: .int t_streamMany :: .int t_name :: .int t_from :: .int t_end :: .int t_sizeAt :: .int t_bitsAt :: .int t_colourAt :: .int t_colourEnd :: .int t_paletteAt :: .int t_mapAt :: .int t_mapEnd :: .int t_channelsAt :: .int t_captureAt :: .int t_displayAt :: .int t_resolved :: []))), (h_t_columnBits, .inl (cI, 8, .inl f_t_columnBits)), (h_t_numbers, .inl (cJ, 4096, .inr (.inl f_t_numbers)))] → va_S A s.heap H locs → ∀ ls : Array Slot, lv_has ls 10 [(0, .ref h_t), (1, .int p1), (2, .int p2), (3, .long p3)] → W p l e R s m args below meth c H locs 0 0 Q (F0 m 117 ls [.int j117_s1, .ref h_t]) := by
          intro j117_s1 E O H locs hP hD hS ls hl
          refine kc_V (As := [.int j117_s1]) (rest := []) (wr := [(h_t_columnBits, .inl (cI, 8, .inl f_t_columnBits)), (h_t_numbers, .inl (cJ, 4096, .inr (.inl f_t_numbers)))]) [0] [1, 2] ⟨hx, hb, hml, hown, hta⟩ hK hN hP hD hS hA (c_Mo_refuse l D cB cI cJ h_t h_t_bits h_t_profile h_t_columnBits h_t_numbers h_t_map h_t_line h_t_resolutions h_t_file t_thrown t_high t_wide t_components t_unknown t_rights t_colours t_profiled t_entries t_columns t_maps t_lines t_size t_scanned t_refusedAt t_cursor t_streamAt t_streamMany t_name t_from t_end t_sizeAt t_bitsAt t_colourAt t_colourEnd t_paletteAt t_mapAt t_mapEnd t_channelsAt t_captureAt t_displayAt t_resolved j117_s1 O.1 _) (hta _ lk_Mo_89) (hta _ ini_Mo) (hta _ code_Mo_refuse) code_Mo_refuse (hta _ inst_Mo_refuse) (hta _ sel_Mo_refuse) hd_Mo_refuse rfl ⟨by omega, by omega⟩ (ci := 7) 0 rfl rfl rfl rfl (by decide) (by decide) (by decide) rfl hl.1 (lv_room (Nat.le_of_ble_eq_true rfl)) d_Mo_entry_117 ⟨by omega, by omega⟩ (fun v w1 H locs hw hP hD hS => ?_)
          obtain ⟨x117, hx117, rfl, rfl⟩ := hw
          have hP : va_P D classes [(h_t, .inr (7, (.int x117.2 :: .int t_high :: .int t_wide :: .int t_components :: .ref h_t_bits :: .int t_unknown :: .int t_rights :: .int t_colours :: .int t_profiled :: .ref h_t_profile :: .int t_entries :: .int t_columns :: .ref h_t_columnBits :: .ref h_t_numbers :: .int t_maps :: .ref h_t_map :: .int t_lines :: .ref h_t_line :: .ref h_t_resolutions :: .ref h_t_file :: .int t_size :: .int t_scanned :: .int t_refusedAt :: .int t_cursor :: .int t_streamAt :: .int t_streamMany :: .int t_name :: .int t_from :: .int t_end :: .int t_sizeAt :: .int t_bitsAt :: .int t_colourAt :: .int t_colourEnd :: .int t_paletteAt :: .int t_mapAt :: .int t_mapEnd :: .int t_channelsAt :: .int t_captureAt :: .int t_displayAt :: .int t_resolved :: []))), (h_t_columnBits, .inl (cI, 8, .inl f_t_columnBits)), (h_t_numbers, .inl (cJ, 4096, .inr (.inl f_t_numbers)))] H := hP.sub [2, 0, 1] rfl
          have hD : va_D A [(h_t, .inr (7, (.int x117.2 :: .int t_high :: .int t_wide :: .int t_components :: .ref h_t_bits :: .int t_unknown :: .int t_rights :: .int t_colours :: .int t_profiled :: .ref h_t_profile :: .int t_entries :: .int t_columns :: .ref h_t_columnBits :: .ref h_t_numbers :: .int t_maps :: .ref h_t_map :: .int t_lines :: .ref h_t_line :: .ref h_t_resolutions :: .ref h_t_file :: .int t_size :: .int t_scanned :: .int t_refusedAt :: .int t_cursor :: .int t_streamAt :: .int t_streamMany :: .int t_name :: .int t_from :: .int t_end :: .int t_sizeAt :: .int t_bitsAt :: .int t_colourAt :: .int t_colourEnd :: .int t_paletteAt :: .int t_mapAt :: .int t_mapEnd :: .int t_channelsAt :: .int t_captureAt :: .int t_displayAt :: .int t_resolved :: []))), (h_t_columnBits, .inl (cI, 8, .inl f_t_columnBits)), (h_t_numbers, .inl (cJ, 4096, .inr (.inl f_t_numbers)))] := hD.sub [2, 0, 1] (by decide) rfl
          refine W.eq (g2 := F0 m 120 ls [.int x117.1]) rfl ?_
          have O := O.2
          have E : k_Mo_entry_117 t_columns f_t_numbers p1 p2 p3 x117 = RES := (congrArg (k_Mo_entry_117 t_columns f_t_numbers p1 p2 p3) hx117).trans E
          have O : ok_Mo_entry_117 t_columns p1 p2 x117 := by rw [hx117]; exact O
          refine lv_if_eq (tgt := 124) hx hb d_Mo_entry_120 (by decide) (fun c_120 => ?_) (fun c_120 => ?_)
          · have E := (if_pos c_120).symm.trans E
            have O := Eq.mp (if_pos c_120) O
            refine lv_aload_n hx hb d_Mo_entry_124 rfl (lv_at hl 0 rfl) ?_
            refine va_get (D := D) (v := .ref h_t_numbers) hx hb hta i_Mo hown hK hP 0 rfl rfl 13 (by decide) (hta _ lk_Mo_23) (fun _ h9 => h9) rfl d_Mo_entry_125 ?_
            refine lv_aload_n hx hb d_Mo_entry_128 rfl (lv_at hl 0 rfl) ?_
            refine va_get (D := D) (v := .int t_columns) hx hb hta i_Mo hown hK hP 0 rfl rfl 11 (by decide) (hta _ lk_Mo_70) (fun _ h9 => h9) rfl d_Mo_entry_129 ?_
            refine lv_iload_n hx hb d_Mo_entry_132 rfl (lv_at hl 1 rfl) ?_
            refine lv_imul hx hb d_Mo_entry_133 ?_
            refine lv_iload_n hx hb d_Mo_entry_134 rfl (lv_at hl 2 rfl) ?_
            refine lv_iadd hx hb d_Mo_entry_135 ?_
            refine lv_lload_n hx hb d_Mo_entry_136 rfl (lv_at hl 3 rfl) ?_
            refine va_last hx hb hK hP hD hS 2 2 rfl rfl O.1 d_Mo_entry_137 (fun H locs (hP : va_P D classes [(h_t, .inr (7, (.int x117.2 :: .int t_high :: .int t_wide :: .int t_components :: .ref h_t_bits :: .int t_unknown :: .int t_rights :: .int t_colours :: .int t_profiled :: .ref h_t_profile :: .int t_entries :: .int t_columns :: .ref h_t_columnBits :: .ref h_t_numbers :: .int t_maps :: .ref h_t_map :: .int t_lines :: .ref h_t_line :: .ref h_t_resolutions :: .ref h_t_file :: .int t_size :: .int t_scanned :: .int t_refusedAt :: .int t_cursor :: .int t_streamAt :: .int t_streamMany :: .int t_name :: .int t_from :: .int t_end :: .int t_sizeAt :: .int t_bitsAt :: .int t_colourAt :: .int t_colourEnd :: .int t_paletteAt :: .int t_mapAt :: .int t_mapEnd :: .int t_channelsAt :: .int t_captureAt :: .int t_displayAt :: .int t_resolved :: []))), (h_t_columnBits, .inl (cI, 8, .inl f_t_columnBits)), (h_t_numbers, .inl (cJ, 4096, .inr (.inl (vp_updL f_t_numbers ((t_columns * p1) + p2).toNatClampNeg p3))))] H) (hD : va_D A [(h_t, .inr (7, (.int x117.2 :: .int t_high :: .int t_wide :: .int t_components :: .ref h_t_bits :: .int t_unknown :: .int t_rights :: .int t_colours :: .int t_profiled :: .ref h_t_profile :: .int t_entries :: .int t_columns :: .ref h_t_columnBits :: .ref h_t_numbers :: .int t_maps :: .ref h_t_map :: .int t_lines :: .ref h_t_line :: .ref h_t_resolutions :: .ref h_t_file :: .int t_size :: .int t_scanned :: .int t_refusedAt :: .int t_cursor :: .int t_streamAt :: .int t_streamMany :: .int t_name :: .int t_from :: .int t_end :: .int t_sizeAt :: .int t_bitsAt :: .int t_colourAt :: .int t_colourEnd :: .int t_paletteAt :: .int t_mapAt :: .int t_mapEnd :: .int t_channelsAt :: .int t_captureAt :: .int t_displayAt :: .int t_resolved :: []))), (h_t_columnBits, .inl (cI, 8, .inl f_t_columnBits)), (h_t_numbers, .inl (cJ, 4096, .inr (.inl (vp_updL f_t_numbers ((t_columns * p1) + p2).toNatClampNeg p3))))]) hS => ?_)
            have O := O.2
            exact kr_v hx hb hr hlk hQ hK hP hD hS ⟨((x117.2, vp_updL f_t_numbers ((t_columns * p1) + p2).toNatClampNeg p3) : Int32 × (Nat → Int64)), E.trans E0.symm, rfl, rfl⟩ (by omega) (by omega) d_Mo_entry_138
          · have E := (if_neg c_120).symm.trans E
            have O := Eq.mp (if_neg c_120) O
            exact kr_v hx hb hr hlk hQ hK hP hD hS ⟨((x117.2, f_t_numbers) : Int32 × (Nat → Int64)), E.trans E0.symm, rfl, rfl⟩ (by omega) (by omega) d_Mo_entry_123
        refine lv_if_ne (tgt := 107) hx hb d_Mo_entry_100 (by decide) (fun c_100 => ?_) (fun c_100 => ?_)
        · have E := (if_neg c_100).symm.trans E
          have O := Eq.mp (if_neg c_100) O
          refine lv_iload hx hb d_Mo_entry_107 (lv_at hl 0 rfl) ?_
          refine lv_if_ne (tgt := 116) hx hb d_Mo_entry_109 (by decide) (fun c_109 => ?_) (fun c_109 => ?_)
          · have E := (if_neg c_109).symm.trans E
            have O := Eq.mp (if_neg c_109) O
            refine lv_iconst (v := 0) hx hb d_Mo_entry_116 (by decide) ?_
            exact J_117 0 E O _ _ hP hD hS ls (lv_sub hl [2, 3, 4, 5] rfl)
          · have E := (if_pos c_109).symm.trans E
            have O := Eq.mp (if_pos c_109) O
            refine lv_iconst (v := 2) hx hb d_Mo_entry_112 (by decide) ?_
            refine lv_goto (tgt := 117) hx hb d_Mo_entry_113 (by decide) ?_
            exact J_117 2 E O _ _ hP hD hS ls (lv_sub hl [2, 3, 4, 5] rfl)
        · have E := (if_pos c_100).symm.trans E
          have O := Eq.mp (if_pos c_100) O
          refine lv_iconst (v := 1) hx hb d_Mo_entry_103 (by decide) ?_
          refine lv_goto (tgt := 117) hx hb d_Mo_entry_104 (by decide) ?_
          exact J_117 1 E O _ _ hP hD hS ls (lv_sub hl [2, 3, 4, 5] rfl)
      refine lv_icmp_le (tgt := 77) hx hb d_Mo_entry_51 (by decide) (fun c_51 => ?_) (fun c_51 => ?_)
      · have E := (if_pos c_51).symm.trans E
        have O := Eq.mp (if_pos c_51) O
        refine lv_lload_n hx hb d_Mo_entry_77 rfl (lv_at hl 6 rfl) ?_
        refine lv_lconst (v := 0) hx hb d_Mo_entry_78 (by decide) ?_
        refine W.lcmp hx hb d_Mo_entry_79 ?_
        have J_94 : j_Mo_entry_94 t_columns f_t_numbers p1 p2 p3 x3 = RES → oj_Mo_entry_94 t_columns p1 p2 x3 → ∀ (H : Heap) (locs : List Loc), va_P D classes [(h_t, .inr (7, (.int t_thrown :: .int t_high :: .int t_wide :: .int t_components :: .ref h_t_bits :: .int t_unknown :: .int t_rights :: .int t_colours :: .int t_profiled :: .ref h_t_profile :: .int t_entries :: .int t_columns :: .ref h_t_columnBits :: .ref h_t_numbers :: .int t_maps :: .ref h_t_map :: .int t_lines :: .ref h_t_line :: .ref h_t_resolutions :: .ref h_t_file :: .int t_size :: .int t_scanned :: .int t_refusedAt :: .int t_cursor :: .int t_streamAt :: .int t_streamMany :: .int t_name :: .int t_from :: .int t_end :: .int t_sizeAt :: .int t_bitsAt :: .int t_colourAt :: .int t_colourEnd :: .int t_paletteAt :: .int t_mapAt :: .int t_mapEnd :: .int t_channelsAt :: .int t_captureAt :: .int t_displayAt :: .int t_resolved :: []))), (h_t_columnBits, .inl (cI, 8, .inl f_t_columnBits)), (h_t_numbers, .inl (cJ, 4096, .inr (.inl f_t_numbers)))] H → va_D A [(h_t, .inr (7, (.int t_thrown :: .int t_high :: .int t_wide :: .int t_components :: .ref h_t_bits :: .int t_unknown :: .int t_rights :: .int t_colours :: .int t_profiled :: .ref h_t_profile :: .int t_entries :: .int t_columns :: .ref h_t_columnBits :: .ref h_t_numbers :: .int t_maps :: .ref h_t_map :: .int t_lines :: .ref h_t_line :: .ref h_t_resolutions :: .ref h_t_file :: .int t_size :: .int t_scanned :: .int t_refusedAt :: .int t_cursor :: .int t_streamAt :: .int t_streamMany :: .int t_name :: .int t_from :: .int t_end :: .int t_sizeAt :: .int t_bitsAt :: .int t_colourAt :: .int t_colourEnd :: .int t_paletteAt :: .int t_mapAt :: .int t_mapEnd :: .int t_channelsAt :: .int t_captureAt :: .int t_displayAt :: .int t_resolved :: []))), (h_t_columnBits, .inl (cI, 8, .inl f_t_columnBits)), (h_t_numbers, .inl (cJ, 4096, .inr (.inl f_t_numbers)))] → va_S A s.heap H locs → ∀ ls : Array Slot, lv_has ls 10 [(5, .int x3), (0, .ref h_t), (1, .int p1), (2, .int p2), (3, .long p3)] → W p l e R s m args below meth c H locs 0 0 Q (F0 m 94 ls []) := by
          intro E O H locs hP hD hS ls hl
          refine lv_iconst (v := 0) hx hb d_Mo_entry_94 (by decide) ?_
          exact J_95 0 E O _ _ hP hD hS ls (lv_sub hl [0, 1, 2, 3, 4] rfl)
        refine lv_if_lt (tgt := 94) hx hb d_Mo_entry_80 (by decide) (fun c_80 => ?_) (fun c_80 => ?_)
        · have E := (if_pos c_80).symm.trans E
          have O := Eq.mp (if_pos c_80) O
          exact J_94  E O _ _ hP hD hS ls (lv_sub hl [2, 3, 4, 5, 6] rfl)
        · have E := (if_neg c_80).symm.trans E
          have O := Eq.mp (if_neg c_80) O
          refine lv_lload_n hx hb d_Mo_entry_83 rfl (lv_at hl 6 rfl) ?_
          refine lv_lload hx hb d_Mo_entry_84 (lv_at hl 0 rfl) ?_
          refine W.lcmp hx hb d_Mo_entry_86 ?_
          refine lv_if_ge (tgt := 94) hx hb d_Mo_entry_87 (by decide) (fun c_87 => ?_) (fun c_87 => ?_)
          · have E := (if_pos c_87).symm.trans E
            have O := Eq.mp (if_pos c_87) O
            exact J_94  E O _ _ hP hD hS ls (lv_sub hl [2, 3, 4, 5, 6] rfl)
          · have E := (if_neg c_87).symm.trans E
            have O := Eq.mp (if_neg c_87) O
            refine lv_iconst (v := 1) hx hb d_Mo_entry_90 (by decide) ?_
            refine lv_goto (tgt := 95) hx hb d_Mo_entry_91 (by decide) ?_
            exact J_95 1 E O _ _ hP hD hS ls (lv_sub hl [2, 3, 4, 5, 6] rfl)
      · have E := (if_neg c_51).symm.trans E
        have O := Eq.mp (if_neg c_51) O
        refine lv_lload_n hx hb d_Mo_entry_54 rfl (lv_at hl 6 rfl) ?_
        refine lv_lload hx hb d_Mo_entry_55 (lv_at hl 0 rfl) ?_
        refine lv_lneg hx hb d_Mo_entry_57 ?_
        refine W.lcmp hx hb d_Mo_entry_58 ?_
        have J_73 : j_Mo_entry_73 t_columns f_t_numbers p1 p2 p3 x3 = RES → oj_Mo_entry_73 t_columns p1 p2 x3 → ∀ (H : Heap) (locs : List Loc), va_P D classes [(h_t, .inr (7, (.int t_thrown :: .int t_high :: .int t_wide :: .int t_components :: .ref h_t_bits :: .int t_unknown :: .int t_rights :: .int t_colours :: .int t_profiled :: .ref h_t_profile :: .int t_entries :: .int t_columns :: .ref h_t_columnBits :: .ref h_t_numbers :: .int t_maps :: .ref h_t_map :: .int t_lines :: .ref h_t_line :: .ref h_t_resolutions :: .ref h_t_file :: .int t_size :: .int t_scanned :: .int t_refusedAt :: .int t_cursor :: .int t_streamAt :: .int t_streamMany :: .int t_name :: .int t_from :: .int t_end :: .int t_sizeAt :: .int t_bitsAt :: .int t_colourAt :: .int t_colourEnd :: .int t_paletteAt :: .int t_mapAt :: .int t_mapEnd :: .int t_channelsAt :: .int t_captureAt :: .int t_displayAt :: .int t_resolved :: []))), (h_t_columnBits, .inl (cI, 8, .inl f_t_columnBits)), (h_t_numbers, .inl (cJ, 4096, .inr (.inl f_t_numbers)))] H → va_D A [(h_t, .inr (7, (.int t_thrown :: .int t_high :: .int t_wide :: .int t_components :: .ref h_t_bits :: .int t_unknown :: .int t_rights :: .int t_colours :: .int t_profiled :: .ref h_t_profile :: .int t_entries :: .int t_columns :: .ref h_t_columnBits :: .ref h_t_numbers :: .int t_maps :: .ref h_t_map :: .int t_lines :: .ref h_t_line :: .ref h_t_resolutions :: .ref h_t_file :: .int t_size :: .int t_scanned :: .int t_refusedAt :: .int t_cursor :: .int t_streamAt :: .int t_streamMany :: .int t_name :: .int t_from :: .int t_end :: .int t_sizeAt :: .int t_bitsAt :: .int t_colourAt :: .int t_colourEnd :: .int t_paletteAt :: .int t_mapAt :: .int t_mapEnd :: .int t_channelsAt :: .int t_captureAt :: .int t_displayAt :: .int t_resolved :: []))), (h_t_columnBits, .inl (cI, 8, .inl f_t_columnBits)), (h_t_numbers, .inl (cJ, 4096, .inr (.inl f_t_numbers)))] → va_S A s.heap H locs → ∀ ls : Array Slot, lv_has ls 10 [(5, .int x3), (0, .ref h_t), (1, .int p1), (2, .int p2), (3, .long p3)] → W p l e R s m args below meth c H locs 0 0 Q (F0 m 73 ls []) := by
          intro E O H locs hP hD hS ls hl
          refine lv_iconst (v := 0) hx hb d_Mo_entry_73 (by decide) ?_
          refine lv_goto (tgt := 95) hx hb d_Mo_entry_74 (by decide) ?_
          exact J_95 0 E O _ _ hP hD hS ls (lv_sub hl [0, 1, 2, 3, 4] rfl)
        refine lv_if_lt (tgt := 73) hx hb d_Mo_entry_59 (by decide) (fun c_59 => ?_) (fun c_59 => ?_)
        · have E := (if_pos c_59).symm.trans E
          have O := Eq.mp (if_pos c_59) O
          exact J_73  E O _ _ hP hD hS ls (lv_sub hl [2, 3, 4, 5, 6] rfl)
        · have E := (if_neg c_59).symm.trans E
          have O := Eq.mp (if_neg c_59) O
          refine lv_lload_n hx hb d_Mo_entry_62 rfl (lv_at hl 6 rfl) ?_
          refine lv_lload hx hb d_Mo_entry_63 (lv_at hl 0 rfl) ?_
          refine W.lcmp hx hb d_Mo_entry_65 ?_
          refine lv_if_ge (tgt := 73) hx hb d_Mo_entry_66 (by decide) (fun c_66 => ?_) (fun c_66 => ?_)
          · have E := (if_pos c_66).symm.trans E
            have O := Eq.mp (if_pos c_66) O
            exact J_73  E O _ _ hP hD hS ls (lv_sub hl [2, 3, 4, 5, 6] rfl)
          · have E := (if_neg c_66).symm.trans E
            have O := Eq.mp (if_neg c_66) O
            refine lv_iconst (v := 1) hx hb d_Mo_entry_69 (by decide) ?_
            refine lv_goto (tgt := 95) hx hb d_Mo_entry_70 (by decide) ?_
            exact J_95 1 E O _ _ hP hD hS ls (lv_sub hl [2, 3, 4, 5, 6] rfl)
    refine lv_icmp_le (tgt := 42) hx hb d_Mo_entry_35 (by decide) (fun c_35 => ?_) (fun c_35 => ?_)
    · have E := (if_pos c_35).symm.trans E
      have O := Eq.mp (if_pos c_35) O
      refine lv_iconst (v := 1) hx hb d_Mo_entry_42 (by decide) ?_
      exact J_43 1 (j23_s0 &&& 127) 1 E O _ _ hP hD hS ls (lv_sub hl [0, 1, 2, 3, 4, 5] rfl)
    · have E := (if_neg c_35).symm.trans E
      have O := Eq.mp (if_neg c_35) O
      refine lv_iconst (v := 0) hx hb d_Mo_entry_38 (by decide) ?_
      refine lv_goto (tgt := 43) hx hb d_Mo_entry_39 (by decide) ?_
      exact J_43 1 (j23_s0 &&& 127) 0 E O _ _ hP hD hS ls (lv_sub hl [0, 1, 2, 3, 4, 5] rfl)
  refine lv_if_eq (tgt := 22) hx hb d_Mo_entry_10 (by decide) (fun c_10 => ?_) (fun c_10 => ?_)
  · have E := (if_pos c_10).symm.trans E
    have O := Eq.mp (if_pos c_10) O
    refine lv_iconst (v := 0) hx hb d_Mo_entry_22 (by decide) ?_
    exact J_23 0 E O _ _ hP hD hS ls (lv_sub hl [0, 1, 2, 3, 4] rfl)
  · have E := (if_neg c_10).symm.trans E
    have O := Eq.mp (if_neg c_10) O
    refine lv_aload_n hx hb d_Mo_entry_13 rfl (lv_at hl 1 rfl) ?_
    refine va_get (D := D) (v := .ref h_t_columnBits) hx hb hta i_Mo hown hK hP 0 rfl rfl 12 (by decide) (hta _ lk_Mo_20) (fun _ h9 => h9) rfl d_Mo_entry_14 ?_
    refine lv_iload_n hx hb d_Mo_entry_17 rfl (lv_at hl 3 rfl) ?_
    refine va_iald hx hb hK hP 1 1 rfl rfl O.1 d_Mo_entry_18 ?_
    have O := O.2
    refine lv_goto (tgt := 23) hx hb d_Mo_entry_19 (by decide) ?_
    exact J_23 (f_t_columnBits p2.toNatClampNeg) E O _ _ hP hD hS ls (lv_sub hl [0, 1, 2, 3, 4] rfl)
theorem d_Mo_map_0 : decode b_Mo_map 0 = .ok (.iload_n 1, 1) := by decide +kernel
theorem d_Mo_map_1 : decode b_Mo_map 1 = .ok (.i2l, 1) := by decide +kernel
theorem d_Mo_map_2 : decode b_Mo_map 2 = .ok (.lconst 0, 1) := by decide +kernel
theorem d_Mo_map_3 : decode b_Mo_map 3 = .ok (.ldc2_w 104, 3) := by decide +kernel
theorem d_Mo_map_6 : decode b_Mo_map 6 = .ok (.invokestatic 81, 3) := by decide +kernel
theorem d_Mo_map_9 : decode b_Mo_map 9 = .ok (.ifCond .eq 39, 3) := by decide +kernel
theorem d_Mo_map_12 : decode b_Mo_map 12 = .ok (.iload_n 2, 1) := by decide +kernel
theorem d_Mo_map_13 : decode b_Mo_map 13 = .ok (.iconst 1, 1) := by decide +kernel
theorem d_Mo_map_14 : decode b_Mo_map 14 = .ok (.if_icmp .ne 22, 3) := by decide +kernel
theorem d_Mo_map_17 : decode b_Mo_map 17 = .ok (.iload_n 3, 1) := by decide +kernel
theorem d_Mo_map_18 : decode b_Mo_map 18 = .ok (.i2l, 1) := by decide +kernel
theorem d_Mo_map_19 : decode b_Mo_map 19 = .ok (.lconst 0, 1) := by decide +kernel
theorem d_Mo_map_20 : decode b_Mo_map 20 = .ok (.aload_n 0, 1) := by decide +kernel
theorem d_Mo_map_21 : decode b_Mo_map 21 = .ok (.getfield 70, 3) := by decide +kernel
theorem d_Mo_map_24 : decode b_Mo_map 24 = .ok (.iconst 1, 1) := by decide +kernel
theorem d_Mo_map_25 : decode b_Mo_map 25 = .ok (.isub, 1) := by decide +kernel
theorem d_Mo_map_26 : decode b_Mo_map 26 = .ok (.i2l, 1) := by decide +kernel
theorem d_Mo_map_27 : decode b_Mo_map 27 = .ok (.invokestatic 81, 3) := by decide +kernel
theorem d_Mo_map_30 : decode b_Mo_map 30 = .ok (.ifCond .eq 18, 3) := by decide +kernel
theorem d_Mo_map_33 : decode b_Mo_map 33 = .ok (.goto 11, 3) := by decide +kernel
theorem d_Mo_map_36 : decode b_Mo_map 36 = .ok (.iload_n 2, 1) := by decide +kernel
theorem d_Mo_map_37 : decode b_Mo_map 37 = .ok (.ifCond .ne 11, 3) := by decide +kernel
theorem d_Mo_map_40 : decode b_Mo_map 40 = .ok (.iload_n 3, 1) := by decide +kernel
theorem d_Mo_map_41 : decode b_Mo_map 41 = .ok (.ifCond .ne 7, 3) := by decide +kernel
theorem d_Mo_map_44 : decode b_Mo_map 44 = .ok (.iconst 1, 1) := by decide +kernel
theorem d_Mo_map_45 : decode b_Mo_map 45 = .ok (.goto 4, 3) := by decide +kernel
theorem d_Mo_map_48 : decode b_Mo_map 48 = .ok (.iconst 0, 1) := by decide +kernel
theorem d_Mo_map_49 : decode b_Mo_map 49 = .ok (.istore 4, 2) := by decide +kernel
theorem d_Mo_map_51 : decode b_Mo_map 51 = .ok (.aload_n 0, 1) := by decide +kernel
theorem d_Mo_map_52 : decode b_Mo_map 52 = .ok (.aload_n 0, 1) := by decide +kernel
theorem d_Mo_map_53 : decode b_Mo_map 53 = .ok (.getfield 70, 3) := by decide +kernel
theorem d_Mo_map_56 : decode b_Mo_map 56 = .ok (.ifCond .eq 12, 3) := by decide +kernel
theorem d_Mo_map_59 : decode b_Mo_map 59 = .ok (.aload_n 0, 1) := by decide +kernel
theorem d_Mo_map_60 : decode b_Mo_map 60 = .ok (.getfield 73, 3) := by decide +kernel
theorem d_Mo_map_63 : decode b_Mo_map 63 = .ok (.bipush 16, 2) := by decide +kernel
theorem d_Mo_map_65 : decode b_Mo_map 65 = .ok (.if_icmp .ne 7, 3) := by decide +kernel
theorem d_Mo_map_68 : decode b_Mo_map 68 = .ok (.iconst 1, 1) := by decide +kernel
theorem d_Mo_map_69 : decode b_Mo_map 69 = .ok (.goto 13, 3) := by decide +kernel
theorem d_Mo_map_72 : decode b_Mo_map 72 = .ok (.iload 4, 2) := by decide +kernel
theorem d_Mo_map_74 : decode b_Mo_map 74 = .ok (.ifCond .ne 7, 3) := by decide +kernel
theorem d_Mo_map_77 : decode b_Mo_map 77 = .ok (.iconst 2, 1) := by decide +kernel
theorem d_Mo_map_78 : decode b_Mo_map 78 = .ok (.goto 4, 3) := by decide +kernel
theorem d_Mo_map_81 : decode b_Mo_map 81 = .ok (.iconst 0, 1) := by decide +kernel
theorem d_Mo_map_82 : decode b_Mo_map 82 = .ok (.invokevirtual 89, 3) := by decide +kernel
theorem d_Mo_map_85 : decode b_Mo_map 85 = .ok (.ifCond .eq 5, 3) := by decide +kernel
theorem d_Mo_map_88 : decode b_Mo_map 88 = .ok (.iconst 0, 1) := by decide +kernel
theorem d_Mo_map_89 : decode b_Mo_map 89 = .ok (.ireturn, 1) := by decide +kernel
theorem d_Mo_map_90 : decode b_Mo_map 90 = .ok (.aload_n 0, 1) := by decide +kernel
theorem d_Mo_map_91 : decode b_Mo_map 91 = .ok (.getfield 27, 3) := by decide +kernel
theorem d_Mo_map_94 : decode b_Mo_map 94 = .ok (.iconst 3, 1) := by decide +kernel
theorem d_Mo_map_95 : decode b_Mo_map 95 = .ok (.aload_n 0, 1) := by decide +kernel
theorem d_Mo_map_96 : decode b_Mo_map 96 = .ok (.getfield 73, 3) := by decide +kernel
theorem d_Mo_map_99 : decode b_Mo_map 99 = .ok (.imul, 1) := by decide +kernel
theorem d_Mo_map_100 : decode b_Mo_map 100 = .ok (.iload_n 1, 1) := by decide +kernel
theorem d_Mo_map_101 : decode b_Mo_map 101 = .ok (.iastore, 1) := by decide +kernel
theorem d_Mo_map_102 : decode b_Mo_map 102 = .ok (.aload_n 0, 1) := by decide +kernel
theorem d_Mo_map_103 : decode b_Mo_map 103 = .ok (.getfield 27, 3) := by decide +kernel
theorem d_Mo_map_106 : decode b_Mo_map 106 = .ok (.iconst 3, 1) := by decide +kernel
theorem d_Mo_map_107 : decode b_Mo_map 107 = .ok (.aload_n 0, 1) := by decide +kernel
theorem d_Mo_map_108 : decode b_Mo_map 108 = .ok (.getfield 73, 3) := by decide +kernel
theorem d_Mo_map_111 : decode b_Mo_map 111 = .ok (.imul, 1) := by decide +kernel
theorem d_Mo_map_112 : decode b_Mo_map 112 = .ok (.iconst 1, 1) := by decide +kernel
theorem d_Mo_map_113 : decode b_Mo_map 113 = .ok (.iadd, 1) := by decide +kernel
theorem d_Mo_map_114 : decode b_Mo_map 114 = .ok (.iload_n 2, 1) := by decide +kernel
theorem d_Mo_map_115 : decode b_Mo_map 115 = .ok (.iastore, 1) := by decide +kernel
theorem d_Mo_map_116 : decode b_Mo_map 116 = .ok (.aload_n 0, 1) := by decide +kernel
theorem d_Mo_map_117 : decode b_Mo_map 117 = .ok (.getfield 27, 3) := by decide +kernel
theorem d_Mo_map_120 : decode b_Mo_map 120 = .ok (.iconst 3, 1) := by decide +kernel
theorem d_Mo_map_121 : decode b_Mo_map 121 = .ok (.aload_n 0, 1) := by decide +kernel
theorem d_Mo_map_122 : decode b_Mo_map 122 = .ok (.getfield 73, 3) := by decide +kernel
theorem d_Mo_map_125 : decode b_Mo_map 125 = .ok (.imul, 1) := by decide +kernel
theorem d_Mo_map_126 : decode b_Mo_map 126 = .ok (.iconst 2, 1) := by decide +kernel
theorem d_Mo_map_127 : decode b_Mo_map 127 = .ok (.iadd, 1) := by decide +kernel
theorem d_Mo_map_128 : decode b_Mo_map 128 = .ok (.iload_n 3, 1) := by decide +kernel
theorem d_Mo_map_129 : decode b_Mo_map 129 = .ok (.iastore, 1) := by decide +kernel
theorem d_Mo_map_130 : decode b_Mo_map 130 = .ok (.aload_n 0, 1) := by decide +kernel
theorem d_Mo_map_131 : decode b_Mo_map 131 = .ok (.dup, 1) := by decide +kernel
theorem d_Mo_map_132 : decode b_Mo_map 132 = .ok (.getfield 73, 3) := by decide +kernel
theorem d_Mo_map_135 : decode b_Mo_map 135 = .ok (.iconst 1, 1) := by decide +kernel
theorem d_Mo_map_136 : decode b_Mo_map 136 = .ok (.iadd, 1) := by decide +kernel
theorem d_Mo_map_137 : decode b_Mo_map 137 = .ok (.putfield 73, 3) := by decide +kernel
theorem d_Mo_map_140 : decode b_Mo_map 140 = .ok (.aload_n 0, 1) := by decide +kernel
theorem d_Mo_map_141 : decode b_Mo_map 141 = .ok (.getfield 73, 3) := by decide +kernel
theorem d_Mo_map_144 : decode b_Mo_map 144 = .ok (.ireturn, 1) := by decide +kernel
def k_Mo_map_82 (t_maps : Int32) (f_t_map : Nat → Int32) (p1 : Int32) (p2 : Int32) (p3 : Int32) (x82 : Int32 × Int32) : Int32 × Int32 × Int32 × (Nat → Int32) :=
  if x82.1 = 0 then ((t_maps + 1, x82.2, t_maps + 1, upd (upd (upd f_t_map (3 * t_maps).toNatClampNeg p1) ((3 * t_maps) + 1).toNatClampNeg p2) ((3 * t_maps) + 2).toNatClampNeg p3)) else (0, x82.2, t_maps, f_t_map)
def ok_Mo_map_82 (t_maps : Int32) (x82 : Int32 × Int32) : Prop :=
  if x82.1 = 0 then (vp_in (3 * t_maps) 48 ∧ vp_in ((3 * t_maps) + 1) 48 ∧ vp_in ((3 * t_maps) + 2) 48 ∧ True) else True
def j_Mo_map_82 (t_maps : Int32) (f_t_map : Nat → Int32) (p1 : Int32) (p2 : Int32) (p3 : Int32) (j82_s1 : Int32) : Int32 × Int32 × Int32 × (Nat → Int32) :=
  k_Mo_map_82 t_maps f_t_map p1 p2 p3 (m_Mo_refuse j82_s1)
def oj_Mo_map_82 (t_maps : Int32) (j82_s1 : Int32) : Prop :=
  om_Mo_refuse j82_s1 ∧ (ok_Mo_map_82 t_maps (m_Mo_refuse j82_s1))
def j_Mo_map_68 (t_maps : Int32) (f_t_map : Nat → Int32) (p1 : Int32) (p2 : Int32) (p3 : Int32) : Int32 × Int32 × Int32 × (Nat → Int32) :=
  j_Mo_map_82 t_maps f_t_map p1 p2 p3 1
def oj_Mo_map_68 (t_maps : Int32) : Prop :=
  oj_Mo_map_82 t_maps 1
def j_Mo_map_49 (t_columns : Int32) (t_maps : Int32) (f_t_map : Nat → Int32) (p1 : Int32) (p2 : Int32) (p3 : Int32) (j49_s0 : Int32) : Int32 × Int32 × Int32 × (Nat → Int32) :=
  if t_columns = 0 then (j_Mo_map_68 t_maps f_t_map p1 p2 p3) else (if t_maps = 16 then (j_Mo_map_68 t_maps f_t_map p1 p2 p3) else (if j49_s0 = 0 then (j_Mo_map_82 t_maps f_t_map p1 p2 p3 2) else (j_Mo_map_82 t_maps f_t_map p1 p2 p3 0)))
def oj_Mo_map_49 (t_columns : Int32) (t_maps : Int32) (j49_s0 : Int32) : Prop :=
  if t_columns = 0 then (oj_Mo_map_68 t_maps) else (if t_maps = 16 then (oj_Mo_map_68 t_maps) else (if j49_s0 = 0 then (oj_Mo_map_82 t_maps 2) else (oj_Mo_map_82 t_maps 0)))
def j_Mo_map_48 (t_columns : Int32) (t_maps : Int32) (f_t_map : Nat → Int32) (p1 : Int32) (p2 : Int32) (p3 : Int32) : Int32 × Int32 × Int32 × (Nat → Int32) :=
  j_Mo_map_49 t_columns t_maps f_t_map p1 p2 p3 0
def oj_Mo_map_48 (t_columns : Int32) (t_maps : Int32) : Prop :=
  oj_Mo_map_49 t_columns t_maps 0
def j_Mo_map_44 (t_columns : Int32) (t_maps : Int32) (f_t_map : Nat → Int32) (p1 : Int32) (p2 : Int32) (p3 : Int32) : Int32 × Int32 × Int32 × (Nat → Int32) :=
  j_Mo_map_49 t_columns t_maps f_t_map p1 p2 p3 1
def oj_Mo_map_44 (t_columns : Int32) (t_maps : Int32) : Prop :=
  oj_Mo_map_49 t_columns t_maps 1
def k_Mo_map_27 (t_columns : Int32) (t_maps : Int32) (f_t_map : Nat → Int32) (p1 : Int32) (p2 : Int32) (p3 : Int32) (x27 : Int32) : Int32 × Int32 × Int32 × (Nat → Int32) :=
  if x27 = 0 then (j_Mo_map_48 t_columns t_maps f_t_map p1 p2 p3) else (j_Mo_map_44 t_columns t_maps f_t_map p1 p2 p3)
def ok_Mo_map_27 (t_columns : Int32) (t_maps : Int32) (x27 : Int32) : Prop :=
  if x27 = 0 then (oj_Mo_map_48 t_columns t_maps) else (oj_Mo_map_44 t_columns t_maps)
def k_Mo_map_6 (t_columns : Int32) (t_maps : Int32) (f_t_map : Nat → Int32) (p1 : Int32) (p2 : Int32) (p3 : Int32) (x6 : Int32) : Int32 × Int32 × Int32 × (Nat → Int32) :=
  if x6 = 0 then (j_Mo_map_48 t_columns t_maps f_t_map p1 p2 p3) else (if p2 = 1 then (k_Mo_map_27 t_columns t_maps f_t_map p1 p2 p3 (m_Mo_in ((p3 : Int32).toInt64) 0 ((t_columns - 1 : Int32).toInt64))) else (if p2 = 0 then (if p3 = 0 then (j_Mo_map_44 t_columns t_maps f_t_map p1 p2 p3) else (j_Mo_map_48 t_columns t_maps f_t_map p1 p2 p3)) else (j_Mo_map_48 t_columns t_maps f_t_map p1 p2 p3)))
def ok_Mo_map_6 (t_columns : Int32) (t_maps : Int32) (p2 : Int32) (p3 : Int32) (x6 : Int32) : Prop :=
  if x6 = 0 then (oj_Mo_map_48 t_columns t_maps) else (if p2 = 1 then (om_Mo_in ((p3 : Int32).toInt64) 0 ((t_columns - 1 : Int32).toInt64) ∧ (ok_Mo_map_27 t_columns t_maps (m_Mo_in ((p3 : Int32).toInt64) 0 ((t_columns - 1 : Int32).toInt64)))) else (if p2 = 0 then (if p3 = 0 then (oj_Mo_map_44 t_columns t_maps) else (oj_Mo_map_48 t_columns t_maps)) else (oj_Mo_map_48 t_columns t_maps)))
def om_Mo_map (t_columns : Int32) (t_maps : Int32) (p1 : Int32) (p2 : Int32) (p3 : Int32) : Prop :=
  om_Mo_in ((p1 : Int32).toInt64) 0 15 ∧ (ok_Mo_map_6 t_columns t_maps p2 p3 (m_Mo_in ((p1 : Int32).toInt64) 0 15))
def m_Mo_map (t_columns : Int32) (t_maps : Int32) (f_t_map : Nat → Int32) (p1 : Int32) (p2 : Int32) (p3 : Int32) : Int32 × Int32 × Int32 × (Nat → Int32) :=
  k_Mo_map_6 t_columns t_maps f_t_map p1 p2 p3 (m_Mo_in ((p1 : Int32).toInt64) 0 15)
set_option maxHeartbeats 4000000 in
set_option maxRecDepth 100000 in
theorem c_Mo_map (l : Launch) (D : va_G) (cB cI cJ : ClassId) (h_t h_t_bits h_t_profile h_t_columnBits h_t_numbers h_t_map h_t_line h_t_resolutions h_t_file : Nat) (t_thrown : Int32) (t_high : Int32) (t_wide : Int32) (t_components : Int32) (t_unknown : Int32) (t_rights : Int32) (t_colours : Int32) (t_profiled : Int32) (t_entries : Int32) (t_columns : Int32) (t_maps : Int32) (t_lines : Int32) (t_size : Int32) (t_scanned : Int32) (t_refusedAt : Int32) (t_cursor : Int32) (t_streamAt : Int32) (t_streamMany : Int32) (t_name : Int32) (t_from : Int32) (t_end : Int32) (t_sizeAt : Int32) (t_bitsAt : Int32) (t_colourAt : Int32) (t_colourEnd : Int32) (t_paletteAt : Int32) (t_mapAt : Int32) (t_mapEnd : Int32) (t_channelsAt : Int32) (t_captureAt : Int32) (t_displayAt : Int32) (t_resolved : Int32) (f_t_map : Nat → Int32) (p1 : Int32) (p2 : Int32) (p3 : Int32) (hO : om_Mo_map t_columns t_maps p1 p2 p3) (sz : Nat) : Ct l D cB cI cJ y_Mo_map b_Mo_map 5 (some .int) 1 25 0 0 [.ref h_t, .int p1, .int p2, .int p3] [(h_t, .inr (7, (.int t_thrown :: .int t_high :: .int t_wide :: .int t_components :: .ref h_t_bits :: .int t_unknown :: .int t_rights :: .int t_colours :: .int t_profiled :: .ref h_t_profile :: .int t_entries :: .int t_columns :: .ref h_t_columnBits :: .ref h_t_numbers :: .int t_maps :: .ref h_t_map :: .int t_lines :: .ref h_t_line :: .ref h_t_resolutions :: .ref h_t_file :: .int t_size :: .int t_scanned :: .int t_refusedAt :: .int t_cursor :: .int t_streamAt :: .int t_streamMany :: .int t_name :: .int t_from :: .int t_end :: .int t_sizeAt :: .int t_bitsAt :: .int t_colourAt :: .int t_colourEnd :: .int t_paletteAt :: .int t_mapAt :: .int t_mapEnd :: .int t_channelsAt :: .int t_captureAt :: .int t_displayAt :: .int t_resolved :: []))), (h_t_map, .inl (cI, 48, .inl f_t_map))] (fun v w1 => ∃ (x : Int32 × Int32 × Int32 × (Nat → Int32)), x = m_Mo_map t_columns t_maps f_t_map p1 p2 p3 ∧ v = some (.int x.1) ∧ w1 = [(h_t, .inr (7, (.int x.2.1 :: .int t_high :: .int t_wide :: .int t_components :: .ref h_t_bits :: .int t_unknown :: .int t_rights :: .int t_colours :: .int t_profiled :: .ref h_t_profile :: .int t_entries :: .int t_columns :: .ref h_t_columnBits :: .ref h_t_numbers :: .int x.2.2.1 :: .ref h_t_map :: .int t_lines :: .ref h_t_line :: .ref h_t_resolutions :: .ref h_t_file :: .int t_size :: .int t_scanned :: .int t_refusedAt :: .int t_cursor :: .int t_streamAt :: .int t_streamMany :: .int t_name :: .int t_from :: .int t_end :: .int t_sizeAt :: .int t_bitsAt :: .int t_colourAt :: .int t_colourEnd :: .int t_paletteAt :: .int t_mapAt :: .int t_mapEnd :: .int t_channelsAt :: .int t_captureAt :: .int t_displayAt :: .int t_resolved :: []))), (h_t_map, .inl (cI, 48, .inl x.2.2.2))]) sz := by
  refine Ct.of (by decide) (Nat.le_of_ble_eq_true rfl) ?_
  intro p e R s m args below meth c A ls Q hx hb hr hlk hml hta hown hin hK hN hA hRf hRl hRc hRs hP hD hS hl hQ
  have hl : lv_has ls 5 [(0, .ref h_t), (1, .int p1), (2, .int p2), (3, .int p3)] := hl
  obtain ⟨RES, E0⟩ : ∃ R, m_Mo_map t_columns t_maps f_t_map p1 p2 p3 = R := ⟨_, rfl⟩
  have E := E0
  have O := hO
  refine lv_iload_n hx hb d_Mo_map_0 rfl (lv_at hl 1 rfl) ?_
  refine lv_i2l (v := (p1 : Int32).toInt64) hx hb d_Mo_map_1 rfl ?_
  refine lv_lconst (v := 0) hx hb d_Mo_map_2 (by decide) ?_
  refine lv_ldc2 (v := 15) hx hb hown (hta _ lk_Mo_104) d_Mo_map_3 ?_
  refine kc_S (As := [.long ((p1 : Int32).toInt64), .long 0, .long 15]) (rest := []) (wr := [(h_t, .inr (7, (.int t_thrown :: .int t_high :: .int t_wide :: .int t_components :: .ref h_t_bits :: .int t_unknown :: .int t_rights :: .int t_colours :: .int t_profiled :: .ref h_t_profile :: .int t_entries :: .int t_columns :: .ref h_t_columnBits :: .ref h_t_numbers :: .int t_maps :: .ref h_t_map :: .int t_lines :: .ref h_t_line :: .ref h_t_resolutions :: .ref h_t_file :: .int t_size :: .int t_scanned :: .int t_refusedAt :: .int t_cursor :: .int t_streamAt :: .int t_streamMany :: .int t_name :: .int t_from :: .int t_end :: .int t_sizeAt :: .int t_bitsAt :: .int t_colourAt :: .int t_colourEnd :: .int t_paletteAt :: .int t_mapAt :: .int t_mapEnd :: .int t_channelsAt :: .int t_captureAt :: .int t_displayAt :: .int t_resolved :: []))), (h_t_map, .inl (cI, 48, .inl f_t_map))]) [] [0, 1] ⟨hx, hb, hml, hown, hta⟩ hK hN hP hD hS hA (c_Mo_in l D cB cI cJ ((p1 : Int32).toInt64) 0 15 O.1 _) (hta _ lk_Mo_81) (hta _ ini_Mo) (hta _ code_Mo_in) code_Mo_in (hta _ stat_Mo_in) hd_Mo_in rfl ⟨by omega, by omega⟩ rfl rfl (by decide) (by decide) (by decide) rfl hl.1 (lv_room (Nat.le_of_ble_eq_true rfl)) d_Mo_map_6 ⟨by omega, by omega⟩ (fun v w1 H locs hw hP hD hS => ?_)
  obtain ⟨x6, hx6, rfl, rfl⟩ := hw
  have hP : va_P D classes [(h_t, .inr (7, (.int t_thrown :: .int t_high :: .int t_wide :: .int t_components :: .ref h_t_bits :: .int t_unknown :: .int t_rights :: .int t_colours :: .int t_profiled :: .ref h_t_profile :: .int t_entries :: .int t_columns :: .ref h_t_columnBits :: .ref h_t_numbers :: .int t_maps :: .ref h_t_map :: .int t_lines :: .ref h_t_line :: .ref h_t_resolutions :: .ref h_t_file :: .int t_size :: .int t_scanned :: .int t_refusedAt :: .int t_cursor :: .int t_streamAt :: .int t_streamMany :: .int t_name :: .int t_from :: .int t_end :: .int t_sizeAt :: .int t_bitsAt :: .int t_colourAt :: .int t_colourEnd :: .int t_paletteAt :: .int t_mapAt :: .int t_mapEnd :: .int t_channelsAt :: .int t_captureAt :: .int t_displayAt :: .int t_resolved :: []))), (h_t_map, .inl (cI, 48, .inl f_t_map))] H := hP.sub [0, 1] rfl
  have hD : va_D A [(h_t, .inr (7, (.int t_thrown :: .int t_high :: .int t_wide :: .int t_components :: .ref h_t_bits :: .int t_unknown :: .int t_rights :: .int t_colours :: .int t_profiled :: .ref h_t_profile :: .int t_entries :: .int t_columns :: .ref h_t_columnBits :: .ref h_t_numbers :: .int t_maps :: .ref h_t_map :: .int t_lines :: .ref h_t_line :: .ref h_t_resolutions :: .ref h_t_file :: .int t_size :: .int t_scanned :: .int t_refusedAt :: .int t_cursor :: .int t_streamAt :: .int t_streamMany :: .int t_name :: .int t_from :: .int t_end :: .int t_sizeAt :: .int t_bitsAt :: .int t_colourAt :: .int t_colourEnd :: .int t_paletteAt :: .int t_mapAt :: .int t_mapEnd :: .int t_channelsAt :: .int t_captureAt :: .int t_displayAt :: .int t_resolved :: []))), (h_t_map, .inl (cI, 48, .inl f_t_map))] := hD.sub [0, 1] (by decide) rfl
  refine W.eq (g2 := F0 m 9 ls [.int x6]) rfl ?_
  have O := O.2
  have E : k_Mo_map_6 t_columns t_maps f_t_map p1 p2 p3 x6 = RES := (congrArg (k_Mo_map_6 t_columns t_maps f_t_map p1 p2 p3) hx6).trans E
  have O : ok_Mo_map_6 t_columns t_maps p2 p3 x6 := by rw [hx6]; exact O
  have J_49 : ∀ (j49_s0 : Int32), j_Mo_map_49 t_columns t_maps f_t_map p1 p2 p3 j49_s0 = RES → oj_Mo_map_49 t_columns t_maps j49_s0 → ∀ (H : Heap) (locs : List Loc), va_P D classes [(h_t, .inr (7, (.int t_thrown :: .int t_high :: .int t_wide :: .int t_components :: .ref h_t_bits :: .int t_unknown :: .int t_rights :: .int t_colours :: .int t_profiled :: .ref h_t_profile :: .int t_entries :: .int t_columns :: .ref h_t_columnBits :: .ref h_t_numbers :: .int t_maps :: .ref h_t_map :: .int t_lines :: .ref h_t_line :: .ref h_t_resolutions :: .ref h_t_file :: .int t_size :: .int t_scanned :: .int t_refusedAt :: .int t_cursor :: .int t_streamAt :: .int t_streamMany :: .int t_name :: .int t_from :: .int t_end :: .int t_sizeAt :: .int t_bitsAt :: .int t_colourAt :: .int t_colourEnd :: .int t_paletteAt :: .int t_mapAt :: .int t_mapEnd :: .int t_channelsAt :: .int t_captureAt :: .int t_displayAt :: .int t_resolved :: []))), (h_t_map, .inl (cI, 48, .inl f_t_map))] H → va_D A [(h_t, .inr (7, (.int t_thrown :: .int t_high :: .int t_wide :: .int t_components :: .ref h_t_bits :: .int t_unknown :: .int t_rights :: .int t_colours :: .int t_profiled :: .ref h_t_profile :: .int t_entries :: .int t_columns :: .ref h_t_columnBits :: .ref h_t_numbers :: .int t_maps :: .ref h_t_map :: .int t_lines :: .ref h_t_line :: .ref h_t_resolutions :: .ref h_t_file :: .int t_size :: .int t_scanned :: .int t_refusedAt :: .int t_cursor :: .int t_streamAt :: .int t_streamMany :: .int t_name :: .int t_from :: .int t_end :: .int t_sizeAt :: .int t_bitsAt :: .int t_colourAt :: .int t_colourEnd :: .int t_paletteAt :: .int t_mapAt :: .int t_mapEnd :: .int t_channelsAt :: .int t_captureAt :: .int t_displayAt :: .int t_resolved :: []))), (h_t_map, .inl (cI, 48, .inl f_t_map))] → va_S A s.heap H locs → ∀ ls : Array Slot, lv_has ls 5 [(0, .ref h_t), (1, .int p1), (2, .int p2), (3, .int p3)] → W p l e R s m args below meth c H locs 0 0 Q (F0 m 49 ls [.int j49_s0]) := by
    intro j49_s0 E O H locs hP hD hS ls hl
    refine lv_istore (lv' := [(4, .int j49_s0), (0, .ref h_t), (1, .int p1), (2, .int p2), (3, .int p3)]) hx hb d_Mo_map_49 hl (by decide) rfl (fun ls hl => ?_)
    refine lv_aload_n hx hb d_Mo_map_51 rfl (lv_at hl 1 rfl) ?_
    refine lv_aload_n hx hb d_Mo_map_52 rfl (lv_at hl 1 rfl) ?_
    refine va_get (D := D) (v := .int t_columns) hx hb hta i_Mo hown hK hP 0 rfl rfl 11 (by decide) (hta _ lk_Mo_70) (fun _ h9 => h9) rfl d_Mo_map_53 ?_
    have J_82 : ∀ (j82_s1 : Int32), j_Mo_map_82 t_maps f_t_map p1 p2 p3 j82_s1 = RES → oj_Mo_map_82 t_maps j82_s1 → ∀ (H : Heap) (locs : List Loc), va_P D classes [(h_t, .inr (7, (.int t_thrown :: .int t_high :: .int t_wide :: .int t_components :: .ref h_t_bits :: .int t_unknown :: .int t_rights :: .int t_colours :: .int t_profiled :: .ref h_t_profile :: .int t_entries :: .int t_columns :: .ref h_t_columnBits :: .ref h_t_numbers :: .int t_maps :: .ref h_t_map :: .int t_lines :: .ref h_t_line :: .ref h_t_resolutions :: .ref h_t_file :: .int t_size :: .int t_scanned :: .int t_refusedAt :: .int t_cursor :: .int t_streamAt :: .int t_streamMany :: .int t_name :: .int t_from :: .int t_end :: .int t_sizeAt :: .int t_bitsAt :: .int t_colourAt :: .int t_colourEnd :: .int t_paletteAt :: .int t_mapAt :: .int t_mapEnd :: .int t_channelsAt :: .int t_captureAt :: .int t_displayAt :: .int t_resolved :: []))), (h_t_map, .inl (cI, 48, .inl f_t_map))] H → va_D A [(h_t, .inr (7, (.int t_thrown :: .int t_high :: .int t_wide :: .int t_components :: .ref h_t_bits :: .int t_unknown :: .int t_rights :: .int t_colours :: .int t_profiled :: .ref h_t_profile :: .int t_entries :: .int t_columns :: .ref h_t_columnBits :: .ref h_t_numbers :: .int t_maps :: .ref h_t_map :: .int t_lines :: .ref h_t_line :: .ref h_t_resolutions :: .ref h_t_file :: .int t_size :: .int t_scanned :: .int t_refusedAt :: .int t_cursor :: .int t_streamAt :: .int t_streamMany :: .int t_name :: .int t_from :: .int t_end :: .int t_sizeAt :: .int t_bitsAt :: .int t_colourAt :: .int t_colourEnd :: .int t_paletteAt :: .int t_mapAt :: .int t_mapEnd :: .int t_channelsAt :: .int t_captureAt :: .int t_displayAt :: .int t_resolved :: []))), (h_t_map, .inl (cI, 48, .inl f_t_map))] → va_S A s.heap H locs → ∀ ls : Array Slot, lv_has ls 5 [(0, .ref h_t), (1, .int p1), (2, .int p2), (3, .int p3)] → W p l e R s m args below meth c H locs 0 0 Q (F0 m 82 ls [.int j82_s1, .ref h_t]) := by
      intro j82_s1 E O H locs hP hD hS ls hl
      refine kc_V (As := [.int j82_s1]) (rest := []) (wr := [(h_t_map, .inl (cI, 48, .inl f_t_map))]) [0] [1] ⟨hx, hb, hml, hown, hta⟩ hK hN hP hD hS hA (c_Mo_refuse l D cB cI cJ h_t h_t_bits h_t_profile h_t_columnBits h_t_numbers h_t_map h_t_line h_t_resolutions h_t_file t_thrown t_high t_wide t_components t_unknown t_rights t_colours t_profiled t_entries t_columns t_maps t_lines t_size t_scanned t_refusedAt t_cursor t_streamAt t_streamMany t_name t_from t_end t_sizeAt t_bitsAt t_colourAt t_colourEnd t_paletteAt t_mapAt t_mapEnd t_channelsAt t_captureAt t_displayAt t_resolved j82_s1 O.1 _) (hta _ lk_Mo_89) (hta _ ini_Mo) (hta _ code_Mo_refuse) code_Mo_refuse (hta _ inst_Mo_refuse) (hta _ sel_Mo_refuse) hd_Mo_refuse rfl ⟨by omega, by omega⟩ (ci := 7) 0 rfl rfl rfl rfl (by decide) (by decide) (by decide) rfl hl.1 (lv_room (Nat.le_of_ble_eq_true rfl)) d_Mo_map_82 ⟨by omega, by omega⟩ (fun v w1 H locs hw hP hD hS => ?_)
      obtain ⟨x82, hx82, rfl, rfl⟩ := hw
      have hP : va_P D classes [(h_t, .inr (7, (.int x82.2 :: .int t_high :: .int t_wide :: .int t_components :: .ref h_t_bits :: .int t_unknown :: .int t_rights :: .int t_colours :: .int t_profiled :: .ref h_t_profile :: .int t_entries :: .int t_columns :: .ref h_t_columnBits :: .ref h_t_numbers :: .int t_maps :: .ref h_t_map :: .int t_lines :: .ref h_t_line :: .ref h_t_resolutions :: .ref h_t_file :: .int t_size :: .int t_scanned :: .int t_refusedAt :: .int t_cursor :: .int t_streamAt :: .int t_streamMany :: .int t_name :: .int t_from :: .int t_end :: .int t_sizeAt :: .int t_bitsAt :: .int t_colourAt :: .int t_colourEnd :: .int t_paletteAt :: .int t_mapAt :: .int t_mapEnd :: .int t_channelsAt :: .int t_captureAt :: .int t_displayAt :: .int t_resolved :: []))), (h_t_map, .inl (cI, 48, .inl f_t_map))] H := hP.sub [1, 0] rfl
      have hD : va_D A [(h_t, .inr (7, (.int x82.2 :: .int t_high :: .int t_wide :: .int t_components :: .ref h_t_bits :: .int t_unknown :: .int t_rights :: .int t_colours :: .int t_profiled :: .ref h_t_profile :: .int t_entries :: .int t_columns :: .ref h_t_columnBits :: .ref h_t_numbers :: .int t_maps :: .ref h_t_map :: .int t_lines :: .ref h_t_line :: .ref h_t_resolutions :: .ref h_t_file :: .int t_size :: .int t_scanned :: .int t_refusedAt :: .int t_cursor :: .int t_streamAt :: .int t_streamMany :: .int t_name :: .int t_from :: .int t_end :: .int t_sizeAt :: .int t_bitsAt :: .int t_colourAt :: .int t_colourEnd :: .int t_paletteAt :: .int t_mapAt :: .int t_mapEnd :: .int t_channelsAt :: .int t_captureAt :: .int t_displayAt :: .int t_resolved :: []))), (h_t_map, .inl (cI, 48, .inl f_t_map))] := hD.sub [1, 0] (by decide) rfl
      refine W.eq (g2 := F0 m 85 ls [.int x82.1]) rfl ?_
      have O := O.2
      have E : k_Mo_map_82 t_maps f_t_map p1 p2 p3 x82 = RES := (congrArg (k_Mo_map_82 t_maps f_t_map p1 p2 p3) hx82).trans E
      have O : ok_Mo_map_82 t_maps x82 := by rw [hx82]; exact O
      refine lv_if_eq (tgt := 90) hx hb d_Mo_map_85 (by decide) (fun c_85 => ?_) (fun c_85 => ?_)
      · have E := (if_pos c_85).symm.trans E
        have O := Eq.mp (if_pos c_85) O
        refine lv_aload_n hx hb d_Mo_map_90 rfl (lv_at hl 0 rfl) ?_
        refine va_get (D := D) (v := .ref h_t_map) hx hb hta i_Mo hown hK hP 0 rfl rfl 15 (by decide) (hta _ lk_Mo_27) (fun _ h9 => h9) rfl d_Mo_map_91 ?_
        refine lv_iconst (v := 3) hx hb d_Mo_map_94 (by decide) ?_
        refine lv_aload_n hx hb d_Mo_map_95 rfl (lv_at hl 0 rfl) ?_
        refine va_get (D := D) (v := .int t_maps) hx hb hta i_Mo hown hK hP 0 rfl rfl 14 (by decide) (hta _ lk_Mo_73) (fun _ h9 => h9) rfl d_Mo_map_96 ?_
        refine lv_imul hx hb d_Mo_map_99 ?_
        refine lv_iload_n hx hb d_Mo_map_100 rfl (lv_at hl 1 rfl) ?_
        refine va_iast hx hb hK hP hD hS 1 1 rfl rfl O.1 d_Mo_map_101 (fun H locs (hP : va_P D classes [(h_t, .inr (7, (.int x82.2 :: .int t_high :: .int t_wide :: .int t_components :: .ref h_t_bits :: .int t_unknown :: .int t_rights :: .int t_colours :: .int t_profiled :: .ref h_t_profile :: .int t_entries :: .int t_columns :: .ref h_t_columnBits :: .ref h_t_numbers :: .int t_maps :: .ref h_t_map :: .int t_lines :: .ref h_t_line :: .ref h_t_resolutions :: .ref h_t_file :: .int t_size :: .int t_scanned :: .int t_refusedAt :: .int t_cursor :: .int t_streamAt :: .int t_streamMany :: .int t_name :: .int t_from :: .int t_end :: .int t_sizeAt :: .int t_bitsAt :: .int t_colourAt :: .int t_colourEnd :: .int t_paletteAt :: .int t_mapAt :: .int t_mapEnd :: .int t_channelsAt :: .int t_captureAt :: .int t_displayAt :: .int t_resolved :: []))), (h_t_map, .inl (cI, 48, .inl (upd f_t_map (3 * t_maps).toNatClampNeg p1)))] H) (hD : va_D A [(h_t, .inr (7, (.int x82.2 :: .int t_high :: .int t_wide :: .int t_components :: .ref h_t_bits :: .int t_unknown :: .int t_rights :: .int t_colours :: .int t_profiled :: .ref h_t_profile :: .int t_entries :: .int t_columns :: .ref h_t_columnBits :: .ref h_t_numbers :: .int t_maps :: .ref h_t_map :: .int t_lines :: .ref h_t_line :: .ref h_t_resolutions :: .ref h_t_file :: .int t_size :: .int t_scanned :: .int t_refusedAt :: .int t_cursor :: .int t_streamAt :: .int t_streamMany :: .int t_name :: .int t_from :: .int t_end :: .int t_sizeAt :: .int t_bitsAt :: .int t_colourAt :: .int t_colourEnd :: .int t_paletteAt :: .int t_mapAt :: .int t_mapEnd :: .int t_channelsAt :: .int t_captureAt :: .int t_displayAt :: .int t_resolved :: []))), (h_t_map, .inl (cI, 48, .inl (upd f_t_map (3 * t_maps).toNatClampNeg p1)))]) hS => ?_)
        have O := O.2
        refine lv_aload_n hx hb d_Mo_map_102 rfl (lv_at hl 0 rfl) ?_
        refine va_get (D := D) (v := .ref h_t_map) hx hb hta i_Mo hown hK hP 0 rfl rfl 15 (by decide) (hta _ lk_Mo_27) (fun _ h9 => h9) rfl d_Mo_map_103 ?_
        refine lv_iconst (v := 3) hx hb d_Mo_map_106 (by decide) ?_
        refine lv_aload_n hx hb d_Mo_map_107 rfl (lv_at hl 0 rfl) ?_
        refine va_get (D := D) (v := .int t_maps) hx hb hta i_Mo hown hK hP 0 rfl rfl 14 (by decide) (hta _ lk_Mo_73) (fun _ h9 => h9) rfl d_Mo_map_108 ?_
        refine lv_imul hx hb d_Mo_map_111 ?_
        refine lv_iconst (v := 1) hx hb d_Mo_map_112 (by decide) ?_
        refine lv_iadd hx hb d_Mo_map_113 ?_
        refine lv_iload_n hx hb d_Mo_map_114 rfl (lv_at hl 2 rfl) ?_
        refine va_iast hx hb hK hP hD hS 1 1 rfl rfl O.1 d_Mo_map_115 (fun H locs (hP : va_P D classes [(h_t, .inr (7, (.int x82.2 :: .int t_high :: .int t_wide :: .int t_components :: .ref h_t_bits :: .int t_unknown :: .int t_rights :: .int t_colours :: .int t_profiled :: .ref h_t_profile :: .int t_entries :: .int t_columns :: .ref h_t_columnBits :: .ref h_t_numbers :: .int t_maps :: .ref h_t_map :: .int t_lines :: .ref h_t_line :: .ref h_t_resolutions :: .ref h_t_file :: .int t_size :: .int t_scanned :: .int t_refusedAt :: .int t_cursor :: .int t_streamAt :: .int t_streamMany :: .int t_name :: .int t_from :: .int t_end :: .int t_sizeAt :: .int t_bitsAt :: .int t_colourAt :: .int t_colourEnd :: .int t_paletteAt :: .int t_mapAt :: .int t_mapEnd :: .int t_channelsAt :: .int t_captureAt :: .int t_displayAt :: .int t_resolved :: []))), (h_t_map, .inl (cI, 48, .inl (upd (upd f_t_map (3 * t_maps).toNatClampNeg p1) ((3 * t_maps) + 1).toNatClampNeg p2)))] H) (hD : va_D A [(h_t, .inr (7, (.int x82.2 :: .int t_high :: .int t_wide :: .int t_components :: .ref h_t_bits :: .int t_unknown :: .int t_rights :: .int t_colours :: .int t_profiled :: .ref h_t_profile :: .int t_entries :: .int t_columns :: .ref h_t_columnBits :: .ref h_t_numbers :: .int t_maps :: .ref h_t_map :: .int t_lines :: .ref h_t_line :: .ref h_t_resolutions :: .ref h_t_file :: .int t_size :: .int t_scanned :: .int t_refusedAt :: .int t_cursor :: .int t_streamAt :: .int t_streamMany :: .int t_name :: .int t_from :: .int t_end :: .int t_sizeAt :: .int t_bitsAt :: .int t_colourAt :: .int t_colourEnd :: .int t_paletteAt :: .int t_mapAt :: .int t_mapEnd :: .int t_channelsAt :: .int t_captureAt :: .int t_displayAt :: .int t_resolved :: []))), (h_t_map, .inl (cI, 48, .inl (upd (upd f_t_map (3 * t_maps).toNatClampNeg p1) ((3 * t_maps) + 1).toNatClampNeg p2)))]) hS => ?_)
        have O := O.2
        refine lv_aload_n hx hb d_Mo_map_116 rfl (lv_at hl 0 rfl) ?_
        refine va_get (D := D) (v := .ref h_t_map) hx hb hta i_Mo hown hK hP 0 rfl rfl 15 (by decide) (hta _ lk_Mo_27) (fun _ h9 => h9) rfl d_Mo_map_117 ?_
        refine lv_iconst (v := 3) hx hb d_Mo_map_120 (by decide) ?_
        refine lv_aload_n hx hb d_Mo_map_121 rfl (lv_at hl 0 rfl) ?_
        refine va_get (D := D) (v := .int t_maps) hx hb hta i_Mo hown hK hP 0 rfl rfl 14 (by decide) (hta _ lk_Mo_73) (fun _ h9 => h9) rfl d_Mo_map_122 ?_
        refine lv_imul hx hb d_Mo_map_125 ?_
        refine lv_iconst (v := 2) hx hb d_Mo_map_126 (by decide) ?_
        refine lv_iadd hx hb d_Mo_map_127 ?_
        refine lv_iload_n hx hb d_Mo_map_128 rfl (lv_at hl 3 rfl) ?_
        refine va_iast hx hb hK hP hD hS 1 1 rfl rfl O.1 d_Mo_map_129 (fun H locs (hP : va_P D classes [(h_t, .inr (7, (.int x82.2 :: .int t_high :: .int t_wide :: .int t_components :: .ref h_t_bits :: .int t_unknown :: .int t_rights :: .int t_colours :: .int t_profiled :: .ref h_t_profile :: .int t_entries :: .int t_columns :: .ref h_t_columnBits :: .ref h_t_numbers :: .int t_maps :: .ref h_t_map :: .int t_lines :: .ref h_t_line :: .ref h_t_resolutions :: .ref h_t_file :: .int t_size :: .int t_scanned :: .int t_refusedAt :: .int t_cursor :: .int t_streamAt :: .int t_streamMany :: .int t_name :: .int t_from :: .int t_end :: .int t_sizeAt :: .int t_bitsAt :: .int t_colourAt :: .int t_colourEnd :: .int t_paletteAt :: .int t_mapAt :: .int t_mapEnd :: .int t_channelsAt :: .int t_captureAt :: .int t_displayAt :: .int t_resolved :: []))), (h_t_map, .inl (cI, 48, .inl (upd (upd (upd f_t_map (3 * t_maps).toNatClampNeg p1) ((3 * t_maps) + 1).toNatClampNeg p2) ((3 * t_maps) + 2).toNatClampNeg p3)))] H) (hD : va_D A [(h_t, .inr (7, (.int x82.2 :: .int t_high :: .int t_wide :: .int t_components :: .ref h_t_bits :: .int t_unknown :: .int t_rights :: .int t_colours :: .int t_profiled :: .ref h_t_profile :: .int t_entries :: .int t_columns :: .ref h_t_columnBits :: .ref h_t_numbers :: .int t_maps :: .ref h_t_map :: .int t_lines :: .ref h_t_line :: .ref h_t_resolutions :: .ref h_t_file :: .int t_size :: .int t_scanned :: .int t_refusedAt :: .int t_cursor :: .int t_streamAt :: .int t_streamMany :: .int t_name :: .int t_from :: .int t_end :: .int t_sizeAt :: .int t_bitsAt :: .int t_colourAt :: .int t_colourEnd :: .int t_paletteAt :: .int t_mapAt :: .int t_mapEnd :: .int t_channelsAt :: .int t_captureAt :: .int t_displayAt :: .int t_resolved :: []))), (h_t_map, .inl (cI, 48, .inl (upd (upd (upd f_t_map (3 * t_maps).toNatClampNeg p1) ((3 * t_maps) + 1).toNatClampNeg p2) ((3 * t_maps) + 2).toNatClampNeg p3)))]) hS => ?_)
        have O := O.2
        refine lv_aload_n hx hb d_Mo_map_130 rfl (lv_at hl 0 rfl) ?_
        refine lv_dup hx hb d_Mo_map_131 rfl ?_
        refine va_get (D := D) (v := .int t_maps) hx hb hta i_Mo hown hK hP 0 rfl rfl 14 (by decide) (hta _ lk_Mo_73) (fun _ h9 => h9) rfl d_Mo_map_132 ?_
        refine lv_iconst (v := 1) hx hb d_Mo_map_135 (by decide) ?_
        refine lv_iadd hx hb d_Mo_map_136 ?_
        refine va_put (D := D) (ty := .int) hx hb hta i_Mo t_Mo t_Mo_ok n_Mo hown hK hP hD hS 0 rfl rfl 14 (by decide) (hta _ lk_Mo_73) (fun _ h9 => h9) rfl (by decide +kernel) rfl rfl (Nat.le_of_ble_eq_true rfl) d_Mo_map_137 (fun H locs (hP : va_P D classes [(h_t, .inr (7, (.int x82.2 :: .int t_high :: .int t_wide :: .int t_components :: .ref h_t_bits :: .int t_unknown :: .int t_rights :: .int t_colours :: .int t_profiled :: .ref h_t_profile :: .int t_entries :: .int t_columns :: .ref h_t_columnBits :: .ref h_t_numbers :: .int (t_maps + 1) :: .ref h_t_map :: .int t_lines :: .ref h_t_line :: .ref h_t_resolutions :: .ref h_t_file :: .int t_size :: .int t_scanned :: .int t_refusedAt :: .int t_cursor :: .int t_streamAt :: .int t_streamMany :: .int t_name :: .int t_from :: .int t_end :: .int t_sizeAt :: .int t_bitsAt :: .int t_colourAt :: .int t_colourEnd :: .int t_paletteAt :: .int t_mapAt :: .int t_mapEnd :: .int t_channelsAt :: .int t_captureAt :: .int t_displayAt :: .int t_resolved :: []))), (h_t_map, .inl (cI, 48, .inl (upd (upd (upd f_t_map (3 * t_maps).toNatClampNeg p1) ((3 * t_maps) + 1).toNatClampNeg p2) ((3 * t_maps) + 2).toNatClampNeg p3)))] H) (hD : va_D A [(h_t, .inr (7, (.int x82.2 :: .int t_high :: .int t_wide :: .int t_components :: .ref h_t_bits :: .int t_unknown :: .int t_rights :: .int t_colours :: .int t_profiled :: .ref h_t_profile :: .int t_entries :: .int t_columns :: .ref h_t_columnBits :: .ref h_t_numbers :: .int (t_maps + 1) :: .ref h_t_map :: .int t_lines :: .ref h_t_line :: .ref h_t_resolutions :: .ref h_t_file :: .int t_size :: .int t_scanned :: .int t_refusedAt :: .int t_cursor :: .int t_streamAt :: .int t_streamMany :: .int t_name :: .int t_from :: .int t_end :: .int t_sizeAt :: .int t_bitsAt :: .int t_colourAt :: .int t_colourEnd :: .int t_paletteAt :: .int t_mapAt :: .int t_mapEnd :: .int t_channelsAt :: .int t_captureAt :: .int t_displayAt :: .int t_resolved :: []))), (h_t_map, .inl (cI, 48, .inl (upd (upd (upd f_t_map (3 * t_maps).toNatClampNeg p1) ((3 * t_maps) + 1).toNatClampNeg p2) ((3 * t_maps) + 2).toNatClampNeg p3)))]) hS => ?_)
        refine lv_aload_n hx hb d_Mo_map_140 rfl (lv_at hl 0 rfl) ?_
        refine va_get (D := D) (v := .int (t_maps + 1)) hx hb hta i_Mo hown hK hP 0 rfl rfl 14 (by decide) (hta _ lk_Mo_73) (fun _ h9 => h9) rfl d_Mo_map_141 ?_
        exact kr_i hx hb hr hlk hQ hK hP hD hS ⟨((t_maps + 1, x82.2, t_maps + 1, upd (upd (upd f_t_map (3 * t_maps).toNatClampNeg p1) ((3 * t_maps) + 1).toNatClampNeg p2) ((3 * t_maps) + 2).toNatClampNeg p3) : Int32 × Int32 × Int32 × (Nat → Int32)), E.trans E0.symm, rfl, rfl⟩ (by omega) (by omega) d_Mo_map_144
      · have E := (if_neg c_85).symm.trans E
        have O := Eq.mp (if_neg c_85) O
        refine lv_iconst (v := 0) hx hb d_Mo_map_88 (by decide) ?_
        exact kr_i hx hb hr hlk hQ hK hP hD hS ⟨((0, x82.2, t_maps, f_t_map) : Int32 × Int32 × Int32 × (Nat → Int32)), E.trans E0.symm, rfl, rfl⟩ (by omega) (by omega) d_Mo_map_89
    have J_68 : j_Mo_map_68 t_maps f_t_map p1 p2 p3 = RES → oj_Mo_map_68 t_maps → ∀ (H : Heap) (locs : List Loc), va_P D classes [(h_t, .inr (7, (.int t_thrown :: .int t_high :: .int t_wide :: .int t_components :: .ref h_t_bits :: .int t_unknown :: .int t_rights :: .int t_colours :: .int t_profiled :: .ref h_t_profile :: .int t_entries :: .int t_columns :: .ref h_t_columnBits :: .ref h_t_numbers :: .int t_maps :: .ref h_t_map :: .int t_lines :: .ref h_t_line :: .ref h_t_resolutions :: .ref h_t_file :: .int t_size :: .int t_scanned :: .int t_refusedAt :: .int t_cursor :: .int t_streamAt :: .int t_streamMany :: .int t_name :: .int t_from :: .int t_end :: .int t_sizeAt :: .int t_bitsAt :: .int t_colourAt :: .int t_colourEnd :: .int t_paletteAt :: .int t_mapAt :: .int t_mapEnd :: .int t_channelsAt :: .int t_captureAt :: .int t_displayAt :: .int t_resolved :: []))), (h_t_map, .inl (cI, 48, .inl f_t_map))] H → va_D A [(h_t, .inr (7, (.int t_thrown :: .int t_high :: .int t_wide :: .int t_components :: .ref h_t_bits :: .int t_unknown :: .int t_rights :: .int t_colours :: .int t_profiled :: .ref h_t_profile :: .int t_entries :: .int t_columns :: .ref h_t_columnBits :: .ref h_t_numbers :: .int t_maps :: .ref h_t_map :: .int t_lines :: .ref h_t_line :: .ref h_t_resolutions :: .ref h_t_file :: .int t_size :: .int t_scanned :: .int t_refusedAt :: .int t_cursor :: .int t_streamAt :: .int t_streamMany :: .int t_name :: .int t_from :: .int t_end :: .int t_sizeAt :: .int t_bitsAt :: .int t_colourAt :: .int t_colourEnd :: .int t_paletteAt :: .int t_mapAt :: .int t_mapEnd :: .int t_channelsAt :: .int t_captureAt :: .int t_displayAt :: .int t_resolved :: []))), (h_t_map, .inl (cI, 48, .inl f_t_map))] → va_S A s.heap H locs → ∀ ls : Array Slot, lv_has ls 5 [(0, .ref h_t), (1, .int p1), (2, .int p2), (3, .int p3)] → W p l e R s m args below meth c H locs 0 0 Q (F0 m 68 ls [.ref h_t]) := by
      intro E O H locs hP hD hS ls hl
      refine lv_iconst (v := 1) hx hb d_Mo_map_68 (by decide) ?_
      refine lv_goto (tgt := 82) hx hb d_Mo_map_69 (by decide) ?_
      exact J_82 1 E O _ _ hP hD hS ls (lv_sub hl [0, 1, 2, 3] rfl)
    refine lv_if_eq (tgt := 68) hx hb d_Mo_map_56 (by decide) (fun c_56 => ?_) (fun c_56 => ?_)
    · have E := (if_pos c_56).symm.trans E
      have O := Eq.mp (if_pos c_56) O
      exact J_68  E O _ _ hP hD hS ls (lv_sub hl [1, 2, 3, 4] rfl)
    · have E := (if_neg c_56).symm.trans E
      have O := Eq.mp (if_neg c_56) O
      refine lv_aload_n hx hb d_Mo_map_59 rfl (lv_at hl 1 rfl) ?_
      refine va_get (D := D) (v := .int t_maps) hx hb hta i_Mo hown hK hP 0 rfl rfl 14 (by decide) (hta _ lk_Mo_73) (fun _ h9 => h9) rfl d_Mo_map_60 ?_
      refine lv_bipush (v := 16) hx hb d_Mo_map_63 (by decide) ?_
      refine lv_icmp_ne (tgt := 72) hx hb d_Mo_map_65 (by decide) (fun c_65 => ?_) (fun c_65 => ?_)
      · have E := (if_neg c_65).symm.trans E
        have O := Eq.mp (if_neg c_65) O
        refine lv_iload hx hb d_Mo_map_72 (lv_at hl 0 rfl) ?_
        refine lv_if_ne (tgt := 81) hx hb d_Mo_map_74 (by decide) (fun c_74 => ?_) (fun c_74 => ?_)
        · have E := (if_neg c_74).symm.trans E
          have O := Eq.mp (if_neg c_74) O
          refine lv_iconst (v := 0) hx hb d_Mo_map_81 (by decide) ?_
          exact J_82 0 E O _ _ hP hD hS ls (lv_sub hl [1, 2, 3, 4] rfl)
        · have E := (if_pos c_74).symm.trans E
          have O := Eq.mp (if_pos c_74) O
          refine lv_iconst (v := 2) hx hb d_Mo_map_77 (by decide) ?_
          refine lv_goto (tgt := 82) hx hb d_Mo_map_78 (by decide) ?_
          exact J_82 2 E O _ _ hP hD hS ls (lv_sub hl [1, 2, 3, 4] rfl)
      · have E := (if_pos c_65).symm.trans E
        have O := Eq.mp (if_pos c_65) O
        exact J_68  E O _ _ hP hD hS ls (lv_sub hl [1, 2, 3, 4] rfl)
  have J_48 : j_Mo_map_48 t_columns t_maps f_t_map p1 p2 p3 = RES → oj_Mo_map_48 t_columns t_maps → ∀ (H : Heap) (locs : List Loc), va_P D classes [(h_t, .inr (7, (.int t_thrown :: .int t_high :: .int t_wide :: .int t_components :: .ref h_t_bits :: .int t_unknown :: .int t_rights :: .int t_colours :: .int t_profiled :: .ref h_t_profile :: .int t_entries :: .int t_columns :: .ref h_t_columnBits :: .ref h_t_numbers :: .int t_maps :: .ref h_t_map :: .int t_lines :: .ref h_t_line :: .ref h_t_resolutions :: .ref h_t_file :: .int t_size :: .int t_scanned :: .int t_refusedAt :: .int t_cursor :: .int t_streamAt :: .int t_streamMany :: .int t_name :: .int t_from :: .int t_end :: .int t_sizeAt :: .int t_bitsAt :: .int t_colourAt :: .int t_colourEnd :: .int t_paletteAt :: .int t_mapAt :: .int t_mapEnd :: .int t_channelsAt :: .int t_captureAt :: .int t_displayAt :: .int t_resolved :: []))), (h_t_map, .inl (cI, 48, .inl f_t_map))] H → va_D A [(h_t, .inr (7, (.int t_thrown :: .int t_high :: .int t_wide :: .int t_components :: .ref h_t_bits :: .int t_unknown :: .int t_rights :: .int t_colours :: .int t_profiled :: .ref h_t_profile :: .int t_entries :: .int t_columns :: .ref h_t_columnBits :: .ref h_t_numbers :: .int t_maps :: .ref h_t_map :: .int t_lines :: .ref h_t_line :: .ref h_t_resolutions :: .ref h_t_file :: .int t_size :: .int t_scanned :: .int t_refusedAt :: .int t_cursor :: .int t_streamAt :: .int t_streamMany :: .int t_name :: .int t_from :: .int t_end :: .int t_sizeAt :: .int t_bitsAt :: .int t_colourAt :: .int t_colourEnd :: .int t_paletteAt :: .int t_mapAt :: .int t_mapEnd :: .int t_channelsAt :: .int t_captureAt :: .int t_displayAt :: .int t_resolved :: []))), (h_t_map, .inl (cI, 48, .inl f_t_map))] → va_S A s.heap H locs → ∀ ls : Array Slot, lv_has ls 5 [(0, .ref h_t), (1, .int p1), (2, .int p2), (3, .int p3)] → W p l e R s m args below meth c H locs 0 0 Q (F0 m 48 ls []) := by
    intro E O H locs hP hD hS ls hl
    refine lv_iconst (v := 0) hx hb d_Mo_map_48 (by decide) ?_
    exact J_49 0 E O _ _ hP hD hS ls (lv_sub hl [0, 1, 2, 3] rfl)
  refine lv_if_eq (tgt := 48) hx hb d_Mo_map_9 (by decide) (fun c_9 => ?_) (fun c_9 => ?_)
  · have E := (if_pos c_9).symm.trans E
    have O := Eq.mp (if_pos c_9) O
    exact J_48  E O _ _ hP hD hS ls (lv_sub hl [0, 1, 2, 3] rfl)
  · have E := (if_neg c_9).symm.trans E
    have O := Eq.mp (if_neg c_9) O
    refine lv_iload_n hx hb d_Mo_map_12 rfl (lv_at hl 2 rfl) ?_
    refine lv_iconst (v := 1) hx hb d_Mo_map_13 (by decide) ?_
    have J_44 : j_Mo_map_44 t_columns t_maps f_t_map p1 p2 p3 = RES → oj_Mo_map_44 t_columns t_maps → ∀ (H : Heap) (locs : List Loc), va_P D classes [(h_t, .inr (7, (.int t_thrown :: .int t_high :: .int t_wide :: .int t_components :: .ref h_t_bits :: .int t_unknown :: .int t_rights :: .int t_colours :: .int t_profiled :: .ref h_t_profile :: .int t_entries :: .int t_columns :: .ref h_t_columnBits :: .ref h_t_numbers :: .int t_maps :: .ref h_t_map :: .int t_lines :: .ref h_t_line :: .ref h_t_resolutions :: .ref h_t_file :: .int t_size :: .int t_scanned :: .int t_refusedAt :: .int t_cursor :: .int t_streamAt :: .int t_streamMany :: .int t_name :: .int t_from :: .int t_end :: .int t_sizeAt :: .int t_bitsAt :: .int t_colourAt :: .int t_colourEnd :: .int t_paletteAt :: .int t_mapAt :: .int t_mapEnd :: .int t_channelsAt :: .int t_captureAt :: .int t_displayAt :: .int t_resolved :: []))), (h_t_map, .inl (cI, 48, .inl f_t_map))] H → va_D A [(h_t, .inr (7, (.int t_thrown :: .int t_high :: .int t_wide :: .int t_components :: .ref h_t_bits :: .int t_unknown :: .int t_rights :: .int t_colours :: .int t_profiled :: .ref h_t_profile :: .int t_entries :: .int t_columns :: .ref h_t_columnBits :: .ref h_t_numbers :: .int t_maps :: .ref h_t_map :: .int t_lines :: .ref h_t_line :: .ref h_t_resolutions :: .ref h_t_file :: .int t_size :: .int t_scanned :: .int t_refusedAt :: .int t_cursor :: .int t_streamAt :: .int t_streamMany :: .int t_name :: .int t_from :: .int t_end :: .int t_sizeAt :: .int t_bitsAt :: .int t_colourAt :: .int t_colourEnd :: .int t_paletteAt :: .int t_mapAt :: .int t_mapEnd :: .int t_channelsAt :: .int t_captureAt :: .int t_displayAt :: .int t_resolved :: []))), (h_t_map, .inl (cI, 48, .inl f_t_map))] → va_S A s.heap H locs → ∀ ls : Array Slot, lv_has ls 5 [(0, .ref h_t), (1, .int p1), (2, .int p2), (3, .int p3)] → W p l e R s m args below meth c H locs 0 0 Q (F0 m 44 ls []) := by
      intro E O H locs hP hD hS ls hl
      refine lv_iconst (v := 1) hx hb d_Mo_map_44 (by decide) ?_
      refine lv_goto (tgt := 49) hx hb d_Mo_map_45 (by decide) ?_
      exact J_49 1 E O _ _ hP hD hS ls (lv_sub hl [0, 1, 2, 3] rfl)
    refine lv_icmp_ne (tgt := 36) hx hb d_Mo_map_14 (by decide) (fun c_14 => ?_) (fun c_14 => ?_)
    · have E := (if_neg c_14).symm.trans E
      have O := Eq.mp (if_neg c_14) O
      refine lv_iload_n hx hb d_Mo_map_36 rfl (lv_at hl 2 rfl) ?_
      refine lv_if_ne (tgt := 48) hx hb d_Mo_map_37 (by decide) (fun c_37 => ?_) (fun c_37 => ?_)
      · have E := (if_neg c_37).symm.trans E
        have O := Eq.mp (if_neg c_37) O
        exact J_48  E O _ _ hP hD hS ls (lv_sub hl [0, 1, 2, 3] rfl)
      · have E := (if_pos c_37).symm.trans E
        have O := Eq.mp (if_pos c_37) O
        refine lv_iload_n hx hb d_Mo_map_40 rfl (lv_at hl 3 rfl) ?_
        refine lv_if_ne (tgt := 48) hx hb d_Mo_map_41 (by decide) (fun c_41 => ?_) (fun c_41 => ?_)
        · have E := (if_neg c_41).symm.trans E
          have O := Eq.mp (if_neg c_41) O
          exact J_48  E O _ _ hP hD hS ls (lv_sub hl [0, 1, 2, 3] rfl)
        · have E := (if_pos c_41).symm.trans E
          have O := Eq.mp (if_pos c_41) O
          exact J_44  E O _ _ hP hD hS ls (lv_sub hl [0, 1, 2, 3] rfl)
    · have E := (if_pos c_14).symm.trans E
      have O := Eq.mp (if_pos c_14) O
      refine lv_iload_n hx hb d_Mo_map_17 rfl (lv_at hl 3 rfl) ?_
      refine lv_i2l (v := (p3 : Int32).toInt64) hx hb d_Mo_map_18 rfl ?_
      refine lv_lconst (v := 0) hx hb d_Mo_map_19 (by decide) ?_
      refine lv_aload_n hx hb d_Mo_map_20 rfl (lv_at hl 0 rfl) ?_
      refine va_get (D := D) (v := .int t_columns) hx hb hta i_Mo hown hK hP 0 rfl rfl 11 (by decide) (hta _ lk_Mo_70) (fun _ h9 => h9) rfl d_Mo_map_21 ?_
      refine lv_iconst (v := 1) hx hb d_Mo_map_24 (by decide) ?_
      refine lv_isub hx hb d_Mo_map_25 ?_
      refine lv_i2l (v := (t_columns - 1 : Int32).toInt64) hx hb d_Mo_map_26 rfl ?_
      refine kc_S (As := [.long ((p3 : Int32).toInt64), .long 0, .long ((t_columns - 1 : Int32).toInt64)]) (rest := []) (wr := [(h_t, .inr (7, (.int t_thrown :: .int t_high :: .int t_wide :: .int t_components :: .ref h_t_bits :: .int t_unknown :: .int t_rights :: .int t_colours :: .int t_profiled :: .ref h_t_profile :: .int t_entries :: .int t_columns :: .ref h_t_columnBits :: .ref h_t_numbers :: .int t_maps :: .ref h_t_map :: .int t_lines :: .ref h_t_line :: .ref h_t_resolutions :: .ref h_t_file :: .int t_size :: .int t_scanned :: .int t_refusedAt :: .int t_cursor :: .int t_streamAt :: .int t_streamMany :: .int t_name :: .int t_from :: .int t_end :: .int t_sizeAt :: .int t_bitsAt :: .int t_colourAt :: .int t_colourEnd :: .int t_paletteAt :: .int t_mapAt :: .int t_mapEnd :: .int t_channelsAt :: .int t_captureAt :: .int t_displayAt :: .int t_resolved :: []))), (h_t_map, .inl (cI, 48, .inl f_t_map))]) [] [0, 1] ⟨hx, hb, hml, hown, hta⟩ hK hN hP hD hS hA (c_Mo_in l D cB cI cJ ((p3 : Int32).toInt64) 0 ((t_columns - 1 : Int32).toInt64) O.1 _) (hta _ lk_Mo_81) (hta _ ini_Mo) (hta _ code_Mo_in) code_Mo_in (hta _ stat_Mo_in) hd_Mo_in rfl ⟨by omega, by omega⟩ rfl rfl (by decide) (by decide) (by decide) rfl hl.1 (lv_room (Nat.le_of_ble_eq_true rfl)) d_Mo_map_27 ⟨by omega, by omega⟩ (fun v w1 H locs hw hP hD hS => ?_)
      obtain ⟨x27, hx27, rfl, rfl⟩ := hw
      have hP : va_P D classes [(h_t, .inr (7, (.int t_thrown :: .int t_high :: .int t_wide :: .int t_components :: .ref h_t_bits :: .int t_unknown :: .int t_rights :: .int t_colours :: .int t_profiled :: .ref h_t_profile :: .int t_entries :: .int t_columns :: .ref h_t_columnBits :: .ref h_t_numbers :: .int t_maps :: .ref h_t_map :: .int t_lines :: .ref h_t_line :: .ref h_t_resolutions :: .ref h_t_file :: .int t_size :: .int t_scanned :: .int t_refusedAt :: .int t_cursor :: .int t_streamAt :: .int t_streamMany :: .int t_name :: .int t_from :: .int t_end :: .int t_sizeAt :: .int t_bitsAt :: .int t_colourAt :: .int t_colourEnd :: .int t_paletteAt :: .int t_mapAt :: .int t_mapEnd :: .int t_channelsAt :: .int t_captureAt :: .int t_displayAt :: .int t_resolved :: []))), (h_t_map, .inl (cI, 48, .inl f_t_map))] H := hP.sub [0, 1] rfl
      have hD : va_D A [(h_t, .inr (7, (.int t_thrown :: .int t_high :: .int t_wide :: .int t_components :: .ref h_t_bits :: .int t_unknown :: .int t_rights :: .int t_colours :: .int t_profiled :: .ref h_t_profile :: .int t_entries :: .int t_columns :: .ref h_t_columnBits :: .ref h_t_numbers :: .int t_maps :: .ref h_t_map :: .int t_lines :: .ref h_t_line :: .ref h_t_resolutions :: .ref h_t_file :: .int t_size :: .int t_scanned :: .int t_refusedAt :: .int t_cursor :: .int t_streamAt :: .int t_streamMany :: .int t_name :: .int t_from :: .int t_end :: .int t_sizeAt :: .int t_bitsAt :: .int t_colourAt :: .int t_colourEnd :: .int t_paletteAt :: .int t_mapAt :: .int t_mapEnd :: .int t_channelsAt :: .int t_captureAt :: .int t_displayAt :: .int t_resolved :: []))), (h_t_map, .inl (cI, 48, .inl f_t_map))] := hD.sub [0, 1] (by decide) rfl
      refine W.eq (g2 := F0 m 30 ls [.int x27]) rfl ?_
      have O := O.2
      have E : k_Mo_map_27 t_columns t_maps f_t_map p1 p2 p3 x27 = RES := (congrArg (k_Mo_map_27 t_columns t_maps f_t_map p1 p2 p3) hx27).trans E
      have O : ok_Mo_map_27 t_columns t_maps x27 := by rw [hx27]; exact O
      refine lv_if_eq (tgt := 48) hx hb d_Mo_map_30 (by decide) (fun c_30 => ?_) (fun c_30 => ?_)
      · have E := (if_pos c_30).symm.trans E
        have O := Eq.mp (if_pos c_30) O
        exact J_48  E O _ _ hP hD hS ls (lv_sub hl [0, 1, 2, 3] rfl)
      · have E := (if_neg c_30).symm.trans E
        have O := Eq.mp (if_neg c_30) O
        refine lv_goto (tgt := 44) hx hb d_Mo_map_33 (by decide) ?_
        exact J_44  E O _ _ hP hD hS ls (lv_sub hl [0, 1, 2, 3] rfl)
theorem d_Mo_isType_0 : decode b_Mo_isType 0 = .ok (.iload_n 0, 1) := by decide +kernel
theorem d_Mo_isType_1 : decode b_Mo_isType 1 = .ok (.i2l, 1) := by decide +kernel
theorem d_Mo_isType_2 : decode b_Mo_isType 2 = .ok (.lconst 0, 1) := by decide +kernel
theorem d_Mo_isType_3 : decode b_Mo_isType 3 = .ok (.ldc2_w 106, 3) := by decide +kernel
theorem d_Mo_isType_6 : decode b_Mo_isType 6 = .ok (.invokestatic 81, 3) := by decide +kernel
theorem d_Mo_isType_9 : decode b_Mo_isType 9 = .ok (.ifCond .ne 9, 3) := by decide +kernel
theorem d_Mo_isType_12 : decode b_Mo_isType 12 = .ok (.iload_n 0, 1) := by decide +kernel
theorem d_Mo_isType_13 : decode b_Mo_isType 13 = .ok (.ldc 108, 2) := by decide +kernel
theorem d_Mo_isType_15 : decode b_Mo_isType 15 = .ok (.if_icmp .ne 7, 3) := by decide +kernel
theorem d_Mo_isType_18 : decode b_Mo_isType 18 = .ok (.iconst 1, 1) := by decide +kernel
theorem d_Mo_isType_19 : decode b_Mo_isType 19 = .ok (.goto 4, 3) := by decide +kernel
theorem d_Mo_isType_22 : decode b_Mo_isType 22 = .ok (.iconst 0, 1) := by decide +kernel
theorem d_Mo_isType_23 : decode b_Mo_isType 23 = .ok (.ireturn, 1) := by decide +kernel
def k_Mo_isType_6 (p0 : Int32) (x6 : Int32) : Int32 :=
  if x6 = 0 then (if p0 = 65535 then 1 else 0) else 1
def ok_Mo_isType_6 (p0 : Int32) (x6 : Int32) : Prop :=
  if x6 = 0 then (if p0 = 65535 then True else True) else True
def om_Mo_isType (p0 : Int32) : Prop :=
  om_Mo_in ((p0 : Int32).toInt64) 0 2 ∧ (ok_Mo_isType_6 p0 (m_Mo_in ((p0 : Int32).toInt64) 0 2))
def m_Mo_isType (p0 : Int32) : Int32 :=
  k_Mo_isType_6 p0 (m_Mo_in ((p0 : Int32).toInt64) 0 2)
set_option maxHeartbeats 4000000 in
set_option maxRecDepth 100000 in
theorem c_Mo_isType (l : Launch) (D : va_G) (cB cI cJ : ClassId) (p0 : Int32) (hO : om_Mo_isType p0) (sz : Nat) : Ct l D cB cI cJ y_Mo_isType b_Mo_isType 1 (some .boolean) 1 25 0 0 [.int p0] [] (fun v w1 => ∃ (x : Int32), x = m_Mo_isType p0 ∧ v = some (.int x) ∧ w1 = []) sz := by
  refine Ct.of (by decide) (Nat.le_of_ble_eq_true rfl) ?_
  intro p e R s m args below meth c A ls Q hx hb hr hlk hml hta hown hin hK hN hA hRf hRl hRc hRs hP hD hS hl hQ
  have hl : lv_has ls 1 [(0, .int p0)] := hl
  obtain ⟨RES, E0⟩ : ∃ R, m_Mo_isType p0 = R := ⟨_, rfl⟩
  have E := E0
  have O := hO
  refine lv_iload_n hx hb d_Mo_isType_0 rfl (lv_at hl 0 rfl) ?_
  refine lv_i2l (v := (p0 : Int32).toInt64) hx hb d_Mo_isType_1 rfl ?_
  refine lv_lconst (v := 0) hx hb d_Mo_isType_2 (by decide) ?_
  refine lv_ldc2 (v := 2) hx hb hown (hta _ lk_Mo_106) d_Mo_isType_3 ?_
  refine kc_S (As := [.long ((p0 : Int32).toInt64), .long 0, .long 2]) (rest := []) (wr := []) [] [] ⟨hx, hb, hml, hown, hta⟩ hK hN hP hD hS hA (c_Mo_in l D cB cI cJ ((p0 : Int32).toInt64) 0 2 O.1 _) (hta _ lk_Mo_81) (hta _ ini_Mo) (hta _ code_Mo_in) code_Mo_in (hta _ stat_Mo_in) hd_Mo_in rfl ⟨by omega, by omega⟩ rfl rfl (by decide) (by decide) (by decide) rfl hl.1 (lv_room (Nat.le_of_ble_eq_true rfl)) d_Mo_isType_6 ⟨by omega, by omega⟩ (fun v w1 H locs hw hP hD hS => ?_)
  obtain ⟨x6, hx6, rfl, rfl⟩ := hw
  have hP : va_P D classes [] H := hP.sub [] rfl
  have hD : va_D A [] := hD.sub [] (by decide) rfl
  refine W.eq (g2 := F0 m 9 ls [.int x6]) rfl ?_
  have O := O.2
  have E : k_Mo_isType_6 p0 x6 = RES := (congrArg (k_Mo_isType_6 p0) hx6).trans E
  have O : ok_Mo_isType_6 p0 x6 := by rw [hx6]; exact O
  refine lv_if_ne (tgt := 18) hx hb d_Mo_isType_9 (by decide) (fun c_9 => ?_) (fun c_9 => ?_)
  · have E := (if_neg c_9).symm.trans E
    have O := Eq.mp (if_neg c_9) O
    refine lv_iconst (v := 1) hx hb d_Mo_isType_18 (by decide) ?_
    refine lv_goto (tgt := 23) hx hb d_Mo_isType_19 (by decide) ?_
    exact kr_z hx hb hr hlk hQ hK hP hD hS ⟨(1 : Int32), E.trans E0.symm, rfl, rfl⟩ (by omega) (by omega) rfl d_Mo_isType_23
  · have E := (if_pos c_9).symm.trans E
    have O := Eq.mp (if_pos c_9) O
    refine lv_iload_n hx hb d_Mo_isType_12 rfl (lv_at hl 0 rfl) ?_
    refine lv_ldc (v := 65535) hx hb hown (hta _ lk_Mo_108) d_Mo_isType_13 ?_
    refine lv_icmp_ne (tgt := 22) hx hb d_Mo_isType_15 (by decide) (fun c_15 => ?_) (fun c_15 => ?_)
    · have E := (if_neg c_15).symm.trans E
      have O := Eq.mp (if_neg c_15) O
      refine lv_iconst (v := 0) hx hb d_Mo_isType_22 (by decide) ?_
      exact kr_z hx hb hr hlk hQ hK hP hD hS ⟨(0 : Int32), E.trans E0.symm, rfl, rfl⟩ (by omega) (by omega) rfl d_Mo_isType_23
    · have E := (if_pos c_15).symm.trans E
      have O := Eq.mp (if_pos c_15) O
      refine lv_iconst (v := 1) hx hb d_Mo_isType_18 (by decide) ?_
      refine lv_goto (tgt := 23) hx hb d_Mo_isType_19 (by decide) ?_
      exact kr_z hx hb hr hlk hQ hK hP hD hS ⟨(1 : Int32), E.trans E0.symm, rfl, rfl⟩ (by omega) (by omega) rfl d_Mo_isType_23
theorem d_Mo_isTold_0 : decode b_Mo_isTold 0 = .ok (.iconst 0, 1) := by decide +kernel
theorem d_Mo_isTold_1 : decode b_Mo_isTold 1 = .ok (.istore_n 2, 1) := by decide +kernel
theorem d_Mo_isTold_2 : decode b_Mo_isTold 2 = .ok (.iconst 0, 1) := by decide +kernel
theorem d_Mo_isTold_3 : decode b_Mo_isTold 3 = .ok (.istore_n 3, 1) := by decide +kernel
theorem d_Mo_isTold_4 : decode b_Mo_isTold 4 = .ok (.iload_n 3, 1) := by decide +kernel
theorem d_Mo_isTold_5 : decode b_Mo_isTold 5 = .ok (.aload_n 0, 1) := by decide +kernel
theorem d_Mo_isTold_6 : decode b_Mo_isTold 6 = .ok (.getfield 76, 3) := by decide +kernel
theorem d_Mo_isTold_9 : decode b_Mo_isTold 9 = .ok (.if_icmp .ge 31, 3) := by decide +kernel
theorem d_Mo_isTold_12 : decode b_Mo_isTold 12 = .ok (.iload_n 2, 1) := by decide +kernel
theorem d_Mo_isTold_13 : decode b_Mo_isTold 13 = .ok (.ifCond .ne 15, 3) := by decide +kernel
theorem d_Mo_isTold_16 : decode b_Mo_isTold 16 = .ok (.aload_n 0, 1) := by decide +kernel
theorem d_Mo_isTold_17 : decode b_Mo_isTold 17 = .ok (.getfield 30, 3) := by decide +kernel
theorem d_Mo_isTold_20 : decode b_Mo_isTold 20 = .ok (.iconst 3, 1) := by decide +kernel
theorem d_Mo_isTold_21 : decode b_Mo_isTold 21 = .ok (.iload_n 3, 1) := by decide +kernel
theorem d_Mo_isTold_22 : decode b_Mo_isTold 22 = .ok (.imul, 1) := by decide +kernel
theorem d_Mo_isTold_23 : decode b_Mo_isTold 23 = .ok (.iaload, 1) := by decide +kernel
theorem d_Mo_isTold_24 : decode b_Mo_isTold 24 = .ok (.iload_n 1, 1) := by decide +kernel
theorem d_Mo_isTold_25 : decode b_Mo_isTold 25 = .ok (.if_icmp .ne 7, 3) := by decide +kernel
theorem d_Mo_isTold_28 : decode b_Mo_isTold 28 = .ok (.iconst 1, 1) := by decide +kernel
theorem d_Mo_isTold_29 : decode b_Mo_isTold 29 = .ok (.goto 4, 3) := by decide +kernel
theorem d_Mo_isTold_32 : decode b_Mo_isTold 32 = .ok (.iconst 0, 1) := by decide +kernel
theorem d_Mo_isTold_33 : decode b_Mo_isTold 33 = .ok (.istore_n 2, 1) := by decide +kernel
theorem d_Mo_isTold_34 : decode b_Mo_isTold 34 = .ok (.iinc 3 1, 3) := by decide +kernel
theorem d_Mo_isTold_37 : decode b_Mo_isTold 37 = .ok (.goto (-33), 3) := by decide +kernel
theorem d_Mo_isTold_40 : decode b_Mo_isTold 40 = .ok (.iload_n 2, 1) := by decide +kernel
theorem d_Mo_isTold_41 : decode b_Mo_isTold 41 = .ok (.ireturn, 1) := by decide +kernel
def j_Mo_isTold_28 (kk_4 : Int32 → Int32 → Int32) (v4_3 : Int32) : Int32 :=
  kk_4 (v4_3 + 1) 1
def oj_Mo_isTold_28 (okk_4 : Int32 → Int32 → Prop) (v4_3 : Int32) : Prop :=
  okk_4 (v4_3 + 1) 1
def lb_Mo_isTold_4 (t_lines : Int32) (f_t_line : Nat → Int32) (p1 : Int32) (kk_4 : Int32 → Int32 → Int32) (v4_3 : Int32) (v4_2 : Int32) : Int32 :=
  if t_lines ≤ v4_3 then v4_2 else (if v4_2 = 0 then (if (f_t_line (3 * v4_3).toNatClampNeg) = p1 then (j_Mo_isTold_28 kk_4 v4_3) else (kk_4 (v4_3 + 1) 0)) else (j_Mo_isTold_28 kk_4 v4_3))
def lp_Mo_isTold_4 (t_lines : Int32) (f_t_line : Nat → Int32) (p1 : Int32) : Nat → Int32 → Int32 → Int32
  | 0, v4_3, v4_2 => 0
  | n + 1, v4_3, v4_2 => lb_Mo_isTold_4 t_lines f_t_line p1 (lp_Mo_isTold_4 t_lines f_t_line p1 n) v4_3 v4_2
def olb_Mo_isTold_4 (t_lines : Int32) (f_t_line : Nat → Int32) (p1 : Int32) (okk_4 : Int32 → Int32 → Prop) (v4_3 : Int32) (v4_2 : Int32) : Prop :=
  if t_lines ≤ v4_3 then (narrow .boolean (.int v4_2) = .int v4_2 ∧ True) else (if v4_2 = 0 then (vp_in (3 * v4_3) 48 ∧ (if (f_t_line (3 * v4_3).toNatClampNeg) = p1 then (oj_Mo_isTold_28 okk_4 v4_3) else (okk_4 (v4_3 + 1) 0))) else (oj_Mo_isTold_28 okk_4 v4_3))
def olp_Mo_isTold_4 (t_lines : Int32) (f_t_line : Nat → Int32) (p1 : Int32) : Nat → Int32 → Int32 → Prop
  | 0, _, _ => True
  | n + 1, v4_3, v4_2 => olb_Mo_isTold_4 t_lines f_t_line p1 (olp_Mo_isTold_4 t_lines f_t_line p1 n) v4_3 v4_2
def om_Mo_isTold (t_lines : Int32) (f_t_line : Nat → Int32) (p1 : Int32) : Prop :=
  olp_Mo_isTold_4 t_lines f_t_line p1 ((t_lines.toInt - (0 : Int32).toInt).toNat + 1) 0 0
def m_Mo_isTold (t_lines : Int32) (f_t_line : Nat → Int32) (p1 : Int32) : Int32 :=
  lp_Mo_isTold_4 t_lines f_t_line p1 ((t_lines.toInt - (0 : Int32).toInt).toNat + 1) 0 0
set_option maxHeartbeats 4000000 in
set_option maxRecDepth 100000 in
theorem c_Mo_isTold (l : Launch) (D : va_G) (cB cI cJ : ClassId) (h_t h_t_bits h_t_profile h_t_columnBits h_t_numbers h_t_map h_t_line h_t_resolutions h_t_file : Nat) (t_thrown : Int32) (t_high : Int32) (t_wide : Int32) (t_components : Int32) (t_unknown : Int32) (t_rights : Int32) (t_colours : Int32) (t_profiled : Int32) (t_entries : Int32) (t_columns : Int32) (t_maps : Int32) (t_lines : Int32) (t_size : Int32) (t_scanned : Int32) (t_refusedAt : Int32) (t_cursor : Int32) (t_streamAt : Int32) (t_streamMany : Int32) (t_name : Int32) (t_from : Int32) (t_end : Int32) (t_sizeAt : Int32) (t_bitsAt : Int32) (t_colourAt : Int32) (t_colourEnd : Int32) (t_paletteAt : Int32) (t_mapAt : Int32) (t_mapEnd : Int32) (t_channelsAt : Int32) (t_captureAt : Int32) (t_displayAt : Int32) (t_resolved : Int32) (f_t_line : Nat → Int32) (p1 : Int32) (hO : om_Mo_isTold t_lines f_t_line p1) (sz : Nat) : Ct l D cB cI cJ y_Mo_isTold b_Mo_isTold 4 (some .boolean) 0 0 0 0 [.ref h_t, .int p1] [(h_t, .inr (7, (.int t_thrown :: .int t_high :: .int t_wide :: .int t_components :: .ref h_t_bits :: .int t_unknown :: .int t_rights :: .int t_colours :: .int t_profiled :: .ref h_t_profile :: .int t_entries :: .int t_columns :: .ref h_t_columnBits :: .ref h_t_numbers :: .int t_maps :: .ref h_t_map :: .int t_lines :: .ref h_t_line :: .ref h_t_resolutions :: .ref h_t_file :: .int t_size :: .int t_scanned :: .int t_refusedAt :: .int t_cursor :: .int t_streamAt :: .int t_streamMany :: .int t_name :: .int t_from :: .int t_end :: .int t_sizeAt :: .int t_bitsAt :: .int t_colourAt :: .int t_colourEnd :: .int t_paletteAt :: .int t_mapAt :: .int t_mapEnd :: .int t_channelsAt :: .int t_captureAt :: .int t_displayAt :: .int t_resolved :: []))), (h_t_line, .inl (cI, 48, .inl f_t_line))] (fun v w1 => ∃ (x : Int32), x = m_Mo_isTold t_lines f_t_line p1 ∧ v = some (.int x) ∧ w1 = [(h_t, .inr (7, (.int t_thrown :: .int t_high :: .int t_wide :: .int t_components :: .ref h_t_bits :: .int t_unknown :: .int t_rights :: .int t_colours :: .int t_profiled :: .ref h_t_profile :: .int t_entries :: .int t_columns :: .ref h_t_columnBits :: .ref h_t_numbers :: .int t_maps :: .ref h_t_map :: .int t_lines :: .ref h_t_line :: .ref h_t_resolutions :: .ref h_t_file :: .int t_size :: .int t_scanned :: .int t_refusedAt :: .int t_cursor :: .int t_streamAt :: .int t_streamMany :: .int t_name :: .int t_from :: .int t_end :: .int t_sizeAt :: .int t_bitsAt :: .int t_colourAt :: .int t_colourEnd :: .int t_paletteAt :: .int t_mapAt :: .int t_mapEnd :: .int t_channelsAt :: .int t_captureAt :: .int t_displayAt :: .int t_resolved :: []))), (h_t_line, .inl (cI, 48, .inl f_t_line))]) sz := by
  refine Ct.of (by decide) (Nat.le_of_ble_eq_true rfl) ?_
  intro p e R s m args below meth c A ls Q hx hb hr hlk hml hta hown hin hK hN hA hRf hRl hRc hRs hP hD hS hl hQ
  have hl : lv_has ls 4 [(0, .ref h_t), (1, .int p1)] := hl
  obtain ⟨RES, E0⟩ : ∃ R, m_Mo_isTold t_lines f_t_line p1 = R := ⟨_, rfl⟩
  have E := E0
  have O := hO
  refine lv_iconst (v := 0) hx hb d_Mo_isTold_0 (by decide) ?_
  refine lv_istore_n (lv' := [(2, .int 0), (0, .ref h_t), (1, .int p1)]) hx hb d_Mo_isTold_1 rfl hl (by decide) rfl (fun ls hl => ?_)
  refine lv_iconst (v := 0) hx hb d_Mo_isTold_2 (by decide) ?_
  refine lv_istore_n (lv' := [(3, .int 0), (2, .int 0), (0, .ref h_t), (1, .int p1)]) hx hb d_Mo_isTold_3 rfl hl (by decide) rfl (fun ls hl => ?_)
  have L_4 : ∀ (n : Nat) (v4_3 : Int32) (v4_2 : Int32), (t_lines.toInt - v4_3.toInt).toNat < n → lp_Mo_isTold_4 t_lines f_t_line p1 n v4_3 v4_2 = RES → olp_Mo_isTold_4 t_lines f_t_line p1 n v4_3 v4_2 → ∀ (H : Heap) (locs : List Loc), va_P D classes [(h_t, .inr (7, (.int t_thrown :: .int t_high :: .int t_wide :: .int t_components :: .ref h_t_bits :: .int t_unknown :: .int t_rights :: .int t_colours :: .int t_profiled :: .ref h_t_profile :: .int t_entries :: .int t_columns :: .ref h_t_columnBits :: .ref h_t_numbers :: .int t_maps :: .ref h_t_map :: .int t_lines :: .ref h_t_line :: .ref h_t_resolutions :: .ref h_t_file :: .int t_size :: .int t_scanned :: .int t_refusedAt :: .int t_cursor :: .int t_streamAt :: .int t_streamMany :: .int t_name :: .int t_from :: .int t_end :: .int t_sizeAt :: .int t_bitsAt :: .int t_colourAt :: .int t_colourEnd :: .int t_paletteAt :: .int t_mapAt :: .int t_mapEnd :: .int t_channelsAt :: .int t_captureAt :: .int t_displayAt :: .int t_resolved :: []))), (h_t_line, .inl (cI, 48, .inl f_t_line))] H → va_D A [(h_t, .inr (7, (.int t_thrown :: .int t_high :: .int t_wide :: .int t_components :: .ref h_t_bits :: .int t_unknown :: .int t_rights :: .int t_colours :: .int t_profiled :: .ref h_t_profile :: .int t_entries :: .int t_columns :: .ref h_t_columnBits :: .ref h_t_numbers :: .int t_maps :: .ref h_t_map :: .int t_lines :: .ref h_t_line :: .ref h_t_resolutions :: .ref h_t_file :: .int t_size :: .int t_scanned :: .int t_refusedAt :: .int t_cursor :: .int t_streamAt :: .int t_streamMany :: .int t_name :: .int t_from :: .int t_end :: .int t_sizeAt :: .int t_bitsAt :: .int t_colourAt :: .int t_colourEnd :: .int t_paletteAt :: .int t_mapAt :: .int t_mapEnd :: .int t_channelsAt :: .int t_captureAt :: .int t_displayAt :: .int t_resolved :: []))), (h_t_line, .inl (cI, 48, .inl f_t_line))] → va_S A s.heap H locs → ∀ ls : Array Slot, lv_has ls 4 [(3, .int v4_3), (2, .int v4_2), (0, .ref h_t), (1, .int p1)] → W p l e R s m args below meth c H locs 0 0 Q (F0 m 4 ls []) := by
    intro n
    induction n with
    | zero => intro v4_3 v4_2 hlt; exact absurd hlt (Nat.not_lt_zero _)
    | succ n ih =>
      intro v4_3 v4_2 hlt_4 E O H locs hP hD hS ls hl
      have E : lb_Mo_isTold_4 t_lines f_t_line p1 (lp_Mo_isTold_4 t_lines f_t_line p1 n) v4_3 v4_2 = RES := E
      have O : olb_Mo_isTold_4 t_lines f_t_line p1 (olp_Mo_isTold_4 t_lines f_t_line p1 n) v4_3 v4_2 := O
      generalize lp_Mo_isTold_4 t_lines f_t_line p1 n = kk_4 at ih E
      generalize olp_Mo_isTold_4 t_lines f_t_line p1 n = okk_4 at ih O
      have ih_4 := ih
      clear ih
      refine lv_iload_n hx hb d_Mo_isTold_4 rfl (lv_at hl 0 rfl) ?_
      refine lv_aload_n hx hb d_Mo_isTold_5 rfl (lv_at hl 2 rfl) ?_
      refine va_get (D := D) (v := .int t_lines) hx hb hta i_Mo hown hK hP 0 rfl rfl 16 (by decide) (hta _ lk_Mo_76) (fun _ h9 => h9) rfl d_Mo_isTold_6 ?_
      refine lv_icmp_ge (tgt := 40) hx hb d_Mo_isTold_9 (by decide) (fun c_9 => ?_) (fun c_9 => ?_)
      · have E := (if_pos c_9).symm.trans E
        have O := Eq.mp (if_pos c_9) O
        refine lv_iload_n hx hb d_Mo_isTold_40 rfl (lv_at hl 1 rfl) ?_
        exact kr_z hx hb hr hlk hQ hK hP hD hS ⟨(v4_2 : Int32), E.trans E0.symm, rfl, rfl⟩ (by omega) (by omega) O.1 d_Mo_isTold_41
      · have E := (if_neg c_9).symm.trans E
        have O := Eq.mp (if_neg c_9) O
        refine lv_iload_n hx hb d_Mo_isTold_12 rfl (lv_at hl 1 rfl) ?_
        have J_28 : j_Mo_isTold_28 kk_4 v4_3 = RES → oj_Mo_isTold_28 okk_4 v4_3 → ∀ (H : Heap) (locs : List Loc), va_P D classes [(h_t, .inr (7, (.int t_thrown :: .int t_high :: .int t_wide :: .int t_components :: .ref h_t_bits :: .int t_unknown :: .int t_rights :: .int t_colours :: .int t_profiled :: .ref h_t_profile :: .int t_entries :: .int t_columns :: .ref h_t_columnBits :: .ref h_t_numbers :: .int t_maps :: .ref h_t_map :: .int t_lines :: .ref h_t_line :: .ref h_t_resolutions :: .ref h_t_file :: .int t_size :: .int t_scanned :: .int t_refusedAt :: .int t_cursor :: .int t_streamAt :: .int t_streamMany :: .int t_name :: .int t_from :: .int t_end :: .int t_sizeAt :: .int t_bitsAt :: .int t_colourAt :: .int t_colourEnd :: .int t_paletteAt :: .int t_mapAt :: .int t_mapEnd :: .int t_channelsAt :: .int t_captureAt :: .int t_displayAt :: .int t_resolved :: []))), (h_t_line, .inl (cI, 48, .inl f_t_line))] H → va_D A [(h_t, .inr (7, (.int t_thrown :: .int t_high :: .int t_wide :: .int t_components :: .ref h_t_bits :: .int t_unknown :: .int t_rights :: .int t_colours :: .int t_profiled :: .ref h_t_profile :: .int t_entries :: .int t_columns :: .ref h_t_columnBits :: .ref h_t_numbers :: .int t_maps :: .ref h_t_map :: .int t_lines :: .ref h_t_line :: .ref h_t_resolutions :: .ref h_t_file :: .int t_size :: .int t_scanned :: .int t_refusedAt :: .int t_cursor :: .int t_streamAt :: .int t_streamMany :: .int t_name :: .int t_from :: .int t_end :: .int t_sizeAt :: .int t_bitsAt :: .int t_colourAt :: .int t_colourEnd :: .int t_paletteAt :: .int t_mapAt :: .int t_mapEnd :: .int t_channelsAt :: .int t_captureAt :: .int t_displayAt :: .int t_resolved :: []))), (h_t_line, .inl (cI, 48, .inl f_t_line))] → va_S A s.heap H locs → ∀ ls : Array Slot, lv_has ls 4 [(3, .int v4_3), (0, .ref h_t), (1, .int p1)] → W p l e R s m args below meth c H locs 0 0 Q (F0 m 28 ls []) := by
          intro E O H locs hP hD hS ls hl
          refine lv_iconst (v := 1) hx hb d_Mo_isTold_28 (by decide) ?_
          refine lv_goto (tgt := 33) hx hb d_Mo_isTold_29 (by decide) ?_
          refine lv_istore_n (lv' := [(2, .int 1), (3, .int v4_3), (0, .ref h_t), (1, .int p1)]) hx hb d_Mo_isTold_33 rfl hl (by decide) rfl (fun ls hl => ?_)
          refine lv_iinc (v := v4_3 + 1) (lv' := [(3, .int (v4_3 + 1)), (2, .int 1), (0, .ref h_t), (1, .int p1)]) hx hb d_Mo_isTold_34 hl (k := 1) rfl rfl (by decide) rfl (fun ls hl => ?_)
          refine lv_goto (tgt := 4) hx hb d_Mo_isTold_37 (by decide) ?_
          exact ih_4 (v4_3 + 1) 1 (Nat.lt_of_lt_of_le (tm_up c_9) (Nat.le_of_lt_succ hlt_4)) E O _ _ hP hD hS ls (lv_sub hl [0, 1, 2, 3] rfl)
        refine lv_if_ne (tgt := 28) hx hb d_Mo_isTold_13 (by decide) (fun c_13 => ?_) (fun c_13 => ?_)
        · have E := (if_neg c_13).symm.trans E
          have O := Eq.mp (if_neg c_13) O
          exact J_28  E O _ _ hP hD hS ls (lv_sub hl [0, 2, 3] rfl)
        · have E := (if_pos c_13).symm.trans E
          have O := Eq.mp (if_pos c_13) O
          refine lv_aload_n hx hb d_Mo_isTold_16 rfl (lv_at hl 2 rfl) ?_
          refine va_get (D := D) (v := .ref h_t_line) hx hb hta i_Mo hown hK hP 0 rfl rfl 17 (by decide) (hta _ lk_Mo_30) (fun _ h9 => h9) rfl d_Mo_isTold_17 ?_
          refine lv_iconst (v := 3) hx hb d_Mo_isTold_20 (by decide) ?_
          refine lv_iload_n hx hb d_Mo_isTold_21 rfl (lv_at hl 0 rfl) ?_
          refine lv_imul hx hb d_Mo_isTold_22 ?_
          refine va_iald hx hb hK hP 1 1 rfl rfl O.1 d_Mo_isTold_23 ?_
          have O := O.2
          refine lv_iload_n hx hb d_Mo_isTold_24 rfl (lv_at hl 3 rfl) ?_
          refine lv_icmp_ne (tgt := 32) hx hb d_Mo_isTold_25 (by decide) (fun c_25 => ?_) (fun c_25 => ?_)
          · have E := (if_neg c_25).symm.trans E
            have O := Eq.mp (if_neg c_25) O
            refine lv_iconst (v := 0) hx hb d_Mo_isTold_32 (by decide) ?_
            refine lv_istore_n (lv' := [(2, .int 0), (3, .int v4_3), (0, .ref h_t), (1, .int p1)]) hx hb d_Mo_isTold_33 rfl hl (by decide) rfl (fun ls hl => ?_)
            refine lv_iinc (v := v4_3 + 1) (lv' := [(3, .int (v4_3 + 1)), (2, .int 0), (0, .ref h_t), (1, .int p1)]) hx hb d_Mo_isTold_34 hl (k := 1) rfl rfl (by decide) rfl (fun ls hl => ?_)
            refine lv_goto (tgt := 4) hx hb d_Mo_isTold_37 (by decide) ?_
            exact ih_4 (v4_3 + 1) 0 (Nat.lt_of_lt_of_le (tm_up c_9) (Nat.le_of_lt_succ hlt_4)) E O _ _ hP hD hS ls (lv_sub hl [0, 1, 2, 3] rfl)
          · have E := (if_pos c_25).symm.trans E
            have O := Eq.mp (if_pos c_25) O
            exact J_28  E O _ _ hP hD hS ls (lv_sub hl [0, 2, 3] rfl)
  exact L_4 _ 0 0 (Nat.lt_succ_self _) E O _ _ hP hD hS ls (lv_sub hl [0, 1, 2, 3] rfl)
theorem d_Mo_tell_0 : decode b_Mo_tell 0 = .ok (.aload_n 0, 1) := by decide +kernel
theorem d_Mo_tell_1 : decode b_Mo_tell 1 = .ok (.getfield 30, 3) := by decide +kernel
theorem d_Mo_tell_4 : decode b_Mo_tell 4 = .ok (.iconst 3, 1) := by decide +kernel
theorem d_Mo_tell_5 : decode b_Mo_tell 5 = .ok (.aload_n 0, 1) := by decide +kernel
theorem d_Mo_tell_6 : decode b_Mo_tell 6 = .ok (.getfield 76, 3) := by decide +kernel
theorem d_Mo_tell_9 : decode b_Mo_tell 9 = .ok (.imul, 1) := by decide +kernel
theorem d_Mo_tell_10 : decode b_Mo_tell 10 = .ok (.iload_n 1, 1) := by decide +kernel
theorem d_Mo_tell_11 : decode b_Mo_tell 11 = .ok (.iastore, 1) := by decide +kernel
theorem d_Mo_tell_12 : decode b_Mo_tell 12 = .ok (.aload_n 0, 1) := by decide +kernel
theorem d_Mo_tell_13 : decode b_Mo_tell 13 = .ok (.getfield 30, 3) := by decide +kernel
theorem d_Mo_tell_16 : decode b_Mo_tell 16 = .ok (.iconst 3, 1) := by decide +kernel
theorem d_Mo_tell_17 : decode b_Mo_tell 17 = .ok (.aload_n 0, 1) := by decide +kernel
theorem d_Mo_tell_18 : decode b_Mo_tell 18 = .ok (.getfield 76, 3) := by decide +kernel
theorem d_Mo_tell_21 : decode b_Mo_tell 21 = .ok (.imul, 1) := by decide +kernel
theorem d_Mo_tell_22 : decode b_Mo_tell 22 = .ok (.iconst 1, 1) := by decide +kernel
theorem d_Mo_tell_23 : decode b_Mo_tell 23 = .ok (.iadd, 1) := by decide +kernel
theorem d_Mo_tell_24 : decode b_Mo_tell 24 = .ok (.iload_n 2, 1) := by decide +kernel
theorem d_Mo_tell_25 : decode b_Mo_tell 25 = .ok (.iastore, 1) := by decide +kernel
theorem d_Mo_tell_26 : decode b_Mo_tell 26 = .ok (.aload_n 0, 1) := by decide +kernel
theorem d_Mo_tell_27 : decode b_Mo_tell 27 = .ok (.getfield 30, 3) := by decide +kernel
theorem d_Mo_tell_30 : decode b_Mo_tell 30 = .ok (.iconst 3, 1) := by decide +kernel
theorem d_Mo_tell_31 : decode b_Mo_tell 31 = .ok (.aload_n 0, 1) := by decide +kernel
theorem d_Mo_tell_32 : decode b_Mo_tell 32 = .ok (.getfield 76, 3) := by decide +kernel
theorem d_Mo_tell_35 : decode b_Mo_tell 35 = .ok (.imul, 1) := by decide +kernel
theorem d_Mo_tell_36 : decode b_Mo_tell 36 = .ok (.iconst 2, 1) := by decide +kernel
theorem d_Mo_tell_37 : decode b_Mo_tell 37 = .ok (.iadd, 1) := by decide +kernel
theorem d_Mo_tell_38 : decode b_Mo_tell 38 = .ok (.iload_n 3, 1) := by decide +kernel
theorem d_Mo_tell_39 : decode b_Mo_tell 39 = .ok (.iastore, 1) := by decide +kernel
theorem d_Mo_tell_40 : decode b_Mo_tell 40 = .ok (.aload_n 0, 1) := by decide +kernel
theorem d_Mo_tell_41 : decode b_Mo_tell 41 = .ok (.dup, 1) := by decide +kernel
theorem d_Mo_tell_42 : decode b_Mo_tell 42 = .ok (.getfield 76, 3) := by decide +kernel
theorem d_Mo_tell_45 : decode b_Mo_tell 45 = .ok (.iconst 1, 1) := by decide +kernel
theorem d_Mo_tell_46 : decode b_Mo_tell 46 = .ok (.iadd, 1) := by decide +kernel
theorem d_Mo_tell_47 : decode b_Mo_tell 47 = .ok (.putfield 76, 3) := by decide +kernel
theorem d_Mo_tell_50 : decode b_Mo_tell 50 = .ok (.return_, 1) := by decide +kernel
def om_Mo_tell (t_lines : Int32) : Prop :=
  vp_in (3 * t_lines) 48 ∧ vp_in ((3 * t_lines) + 1) 48 ∧ vp_in ((3 * t_lines) + 2) 48 ∧ True
set_option maxHeartbeats 4000000 in
set_option maxRecDepth 100000 in
theorem c_Mo_tell (l : Launch) (D : va_G) (cB cI cJ : ClassId) (h_t h_t_bits h_t_profile h_t_columnBits h_t_numbers h_t_map h_t_line h_t_resolutions h_t_file : Nat) (t_thrown : Int32) (t_high : Int32) (t_wide : Int32) (t_components : Int32) (t_unknown : Int32) (t_rights : Int32) (t_colours : Int32) (t_profiled : Int32) (t_entries : Int32) (t_columns : Int32) (t_maps : Int32) (t_lines : Int32) (t_size : Int32) (t_scanned : Int32) (t_refusedAt : Int32) (t_cursor : Int32) (t_streamAt : Int32) (t_streamMany : Int32) (t_name : Int32) (t_from : Int32) (t_end : Int32) (t_sizeAt : Int32) (t_bitsAt : Int32) (t_colourAt : Int32) (t_colourEnd : Int32) (t_paletteAt : Int32) (t_mapAt : Int32) (t_mapEnd : Int32) (t_channelsAt : Int32) (t_captureAt : Int32) (t_displayAt : Int32) (t_resolved : Int32) (f_t_line : Nat → Int32) (p1 : Int32) (p2 : Int32) (p3 : Int32) (hO : om_Mo_tell t_lines) (sz : Nat) : Ct l D cB cI cJ y_Mo_tell b_Mo_tell 4 none 0 0 0 0 [.ref h_t, .int p1, .int p2, .int p3] [(h_t, .inr (7, (.int t_thrown :: .int t_high :: .int t_wide :: .int t_components :: .ref h_t_bits :: .int t_unknown :: .int t_rights :: .int t_colours :: .int t_profiled :: .ref h_t_profile :: .int t_entries :: .int t_columns :: .ref h_t_columnBits :: .ref h_t_numbers :: .int t_maps :: .ref h_t_map :: .int t_lines :: .ref h_t_line :: .ref h_t_resolutions :: .ref h_t_file :: .int t_size :: .int t_scanned :: .int t_refusedAt :: .int t_cursor :: .int t_streamAt :: .int t_streamMany :: .int t_name :: .int t_from :: .int t_end :: .int t_sizeAt :: .int t_bitsAt :: .int t_colourAt :: .int t_colourEnd :: .int t_paletteAt :: .int t_mapAt :: .int t_mapEnd :: .int t_channelsAt :: .int t_captureAt :: .int t_displayAt :: .int t_resolved :: []))), (h_t_line, .inl (cI, 48, .inl f_t_line))] (fun v w1 => v = none ∧ w1 = [(h_t, .inr (7, (.int t_thrown :: .int t_high :: .int t_wide :: .int t_components :: .ref h_t_bits :: .int t_unknown :: .int t_rights :: .int t_colours :: .int t_profiled :: .ref h_t_profile :: .int t_entries :: .int t_columns :: .ref h_t_columnBits :: .ref h_t_numbers :: .int t_maps :: .ref h_t_map :: .int (t_lines + 1) :: .ref h_t_line :: .ref h_t_resolutions :: .ref h_t_file :: .int t_size :: .int t_scanned :: .int t_refusedAt :: .int t_cursor :: .int t_streamAt :: .int t_streamMany :: .int t_name :: .int t_from :: .int t_end :: .int t_sizeAt :: .int t_bitsAt :: .int t_colourAt :: .int t_colourEnd :: .int t_paletteAt :: .int t_mapAt :: .int t_mapEnd :: .int t_channelsAt :: .int t_captureAt :: .int t_displayAt :: .int t_resolved :: []))), (h_t_line, .inl (cI, 48, .inl (upd (upd (upd f_t_line (3 * t_lines).toNatClampNeg p1) ((3 * t_lines) + 1).toNatClampNeg p2) ((3 * t_lines) + 2).toNatClampNeg p3)))]) sz := by
  refine Ct.of (by decide) (Nat.le_of_ble_eq_true rfl) ?_
  intro p e R s m args below meth c A ls Q hx hb hr hlk hml hta hown hin hK hN hA hRf hRl hRc hRs hP hD hS hl hQ
  have hl : lv_has ls 4 [(0, .ref h_t), (1, .int p1), (2, .int p2), (3, .int p3)] := hl
  have O := hO
  refine lv_aload_n hx hb d_Mo_tell_0 rfl (lv_at hl 0 rfl) ?_
  refine va_get (D := D) (v := .ref h_t_line) hx hb hta i_Mo hown hK hP 0 rfl rfl 17 (by decide) (hta _ lk_Mo_30) (fun _ h9 => h9) rfl d_Mo_tell_1 ?_
  refine lv_iconst (v := 3) hx hb d_Mo_tell_4 (by decide) ?_
  refine lv_aload_n hx hb d_Mo_tell_5 rfl (lv_at hl 0 rfl) ?_
  refine va_get (D := D) (v := .int t_lines) hx hb hta i_Mo hown hK hP 0 rfl rfl 16 (by decide) (hta _ lk_Mo_76) (fun _ h9 => h9) rfl d_Mo_tell_6 ?_
  refine lv_imul hx hb d_Mo_tell_9 ?_
  refine lv_iload_n hx hb d_Mo_tell_10 rfl (lv_at hl 1 rfl) ?_
  refine va_iast hx hb hK hP hD hS 1 1 rfl rfl O.1 d_Mo_tell_11 (fun H locs (hP : va_P D classes [(h_t, .inr (7, (.int t_thrown :: .int t_high :: .int t_wide :: .int t_components :: .ref h_t_bits :: .int t_unknown :: .int t_rights :: .int t_colours :: .int t_profiled :: .ref h_t_profile :: .int t_entries :: .int t_columns :: .ref h_t_columnBits :: .ref h_t_numbers :: .int t_maps :: .ref h_t_map :: .int t_lines :: .ref h_t_line :: .ref h_t_resolutions :: .ref h_t_file :: .int t_size :: .int t_scanned :: .int t_refusedAt :: .int t_cursor :: .int t_streamAt :: .int t_streamMany :: .int t_name :: .int t_from :: .int t_end :: .int t_sizeAt :: .int t_bitsAt :: .int t_colourAt :: .int t_colourEnd :: .int t_paletteAt :: .int t_mapAt :: .int t_mapEnd :: .int t_channelsAt :: .int t_captureAt :: .int t_displayAt :: .int t_resolved :: []))), (h_t_line, .inl (cI, 48, .inl (upd f_t_line (3 * t_lines).toNatClampNeg p1)))] H) (hD : va_D A [(h_t, .inr (7, (.int t_thrown :: .int t_high :: .int t_wide :: .int t_components :: .ref h_t_bits :: .int t_unknown :: .int t_rights :: .int t_colours :: .int t_profiled :: .ref h_t_profile :: .int t_entries :: .int t_columns :: .ref h_t_columnBits :: .ref h_t_numbers :: .int t_maps :: .ref h_t_map :: .int t_lines :: .ref h_t_line :: .ref h_t_resolutions :: .ref h_t_file :: .int t_size :: .int t_scanned :: .int t_refusedAt :: .int t_cursor :: .int t_streamAt :: .int t_streamMany :: .int t_name :: .int t_from :: .int t_end :: .int t_sizeAt :: .int t_bitsAt :: .int t_colourAt :: .int t_colourEnd :: .int t_paletteAt :: .int t_mapAt :: .int t_mapEnd :: .int t_channelsAt :: .int t_captureAt :: .int t_displayAt :: .int t_resolved :: []))), (h_t_line, .inl (cI, 48, .inl (upd f_t_line (3 * t_lines).toNatClampNeg p1)))]) hS => ?_)
  have O := O.2
  refine lv_aload_n hx hb d_Mo_tell_12 rfl (lv_at hl 0 rfl) ?_
  refine va_get (D := D) (v := .ref h_t_line) hx hb hta i_Mo hown hK hP 0 rfl rfl 17 (by decide) (hta _ lk_Mo_30) (fun _ h9 => h9) rfl d_Mo_tell_13 ?_
  refine lv_iconst (v := 3) hx hb d_Mo_tell_16 (by decide) ?_
  refine lv_aload_n hx hb d_Mo_tell_17 rfl (lv_at hl 0 rfl) ?_
  refine va_get (D := D) (v := .int t_lines) hx hb hta i_Mo hown hK hP 0 rfl rfl 16 (by decide) (hta _ lk_Mo_76) (fun _ h9 => h9) rfl d_Mo_tell_18 ?_
  refine lv_imul hx hb d_Mo_tell_21 ?_
  refine lv_iconst (v := 1) hx hb d_Mo_tell_22 (by decide) ?_
  refine lv_iadd hx hb d_Mo_tell_23 ?_
  refine lv_iload_n hx hb d_Mo_tell_24 rfl (lv_at hl 2 rfl) ?_
  refine va_iast hx hb hK hP hD hS 1 1 rfl rfl O.1 d_Mo_tell_25 (fun H locs (hP : va_P D classes [(h_t, .inr (7, (.int t_thrown :: .int t_high :: .int t_wide :: .int t_components :: .ref h_t_bits :: .int t_unknown :: .int t_rights :: .int t_colours :: .int t_profiled :: .ref h_t_profile :: .int t_entries :: .int t_columns :: .ref h_t_columnBits :: .ref h_t_numbers :: .int t_maps :: .ref h_t_map :: .int t_lines :: .ref h_t_line :: .ref h_t_resolutions :: .ref h_t_file :: .int t_size :: .int t_scanned :: .int t_refusedAt :: .int t_cursor :: .int t_streamAt :: .int t_streamMany :: .int t_name :: .int t_from :: .int t_end :: .int t_sizeAt :: .int t_bitsAt :: .int t_colourAt :: .int t_colourEnd :: .int t_paletteAt :: .int t_mapAt :: .int t_mapEnd :: .int t_channelsAt :: .int t_captureAt :: .int t_displayAt :: .int t_resolved :: []))), (h_t_line, .inl (cI, 48, .inl (upd (upd f_t_line (3 * t_lines).toNatClampNeg p1) ((3 * t_lines) + 1).toNatClampNeg p2)))] H) (hD : va_D A [(h_t, .inr (7, (.int t_thrown :: .int t_high :: .int t_wide :: .int t_components :: .ref h_t_bits :: .int t_unknown :: .int t_rights :: .int t_colours :: .int t_profiled :: .ref h_t_profile :: .int t_entries :: .int t_columns :: .ref h_t_columnBits :: .ref h_t_numbers :: .int t_maps :: .ref h_t_map :: .int t_lines :: .ref h_t_line :: .ref h_t_resolutions :: .ref h_t_file :: .int t_size :: .int t_scanned :: .int t_refusedAt :: .int t_cursor :: .int t_streamAt :: .int t_streamMany :: .int t_name :: .int t_from :: .int t_end :: .int t_sizeAt :: .int t_bitsAt :: .int t_colourAt :: .int t_colourEnd :: .int t_paletteAt :: .int t_mapAt :: .int t_mapEnd :: .int t_channelsAt :: .int t_captureAt :: .int t_displayAt :: .int t_resolved :: []))), (h_t_line, .inl (cI, 48, .inl (upd (upd f_t_line (3 * t_lines).toNatClampNeg p1) ((3 * t_lines) + 1).toNatClampNeg p2)))]) hS => ?_)
  have O := O.2
  refine lv_aload_n hx hb d_Mo_tell_26 rfl (lv_at hl 0 rfl) ?_
  refine va_get (D := D) (v := .ref h_t_line) hx hb hta i_Mo hown hK hP 0 rfl rfl 17 (by decide) (hta _ lk_Mo_30) (fun _ h9 => h9) rfl d_Mo_tell_27 ?_
  refine lv_iconst (v := 3) hx hb d_Mo_tell_30 (by decide) ?_
  refine lv_aload_n hx hb d_Mo_tell_31 rfl (lv_at hl 0 rfl) ?_
  refine va_get (D := D) (v := .int t_lines) hx hb hta i_Mo hown hK hP 0 rfl rfl 16 (by decide) (hta _ lk_Mo_76) (fun _ h9 => h9) rfl d_Mo_tell_32 ?_
  refine lv_imul hx hb d_Mo_tell_35 ?_
  refine lv_iconst (v := 2) hx hb d_Mo_tell_36 (by decide) ?_
  refine lv_iadd hx hb d_Mo_tell_37 ?_
  refine lv_iload_n hx hb d_Mo_tell_38 rfl (lv_at hl 3 rfl) ?_
  refine va_iast hx hb hK hP hD hS 1 1 rfl rfl O.1 d_Mo_tell_39 (fun H locs (hP : va_P D classes [(h_t, .inr (7, (.int t_thrown :: .int t_high :: .int t_wide :: .int t_components :: .ref h_t_bits :: .int t_unknown :: .int t_rights :: .int t_colours :: .int t_profiled :: .ref h_t_profile :: .int t_entries :: .int t_columns :: .ref h_t_columnBits :: .ref h_t_numbers :: .int t_maps :: .ref h_t_map :: .int t_lines :: .ref h_t_line :: .ref h_t_resolutions :: .ref h_t_file :: .int t_size :: .int t_scanned :: .int t_refusedAt :: .int t_cursor :: .int t_streamAt :: .int t_streamMany :: .int t_name :: .int t_from :: .int t_end :: .int t_sizeAt :: .int t_bitsAt :: .int t_colourAt :: .int t_colourEnd :: .int t_paletteAt :: .int t_mapAt :: .int t_mapEnd :: .int t_channelsAt :: .int t_captureAt :: .int t_displayAt :: .int t_resolved :: []))), (h_t_line, .inl (cI, 48, .inl (upd (upd (upd f_t_line (3 * t_lines).toNatClampNeg p1) ((3 * t_lines) + 1).toNatClampNeg p2) ((3 * t_lines) + 2).toNatClampNeg p3)))] H) (hD : va_D A [(h_t, .inr (7, (.int t_thrown :: .int t_high :: .int t_wide :: .int t_components :: .ref h_t_bits :: .int t_unknown :: .int t_rights :: .int t_colours :: .int t_profiled :: .ref h_t_profile :: .int t_entries :: .int t_columns :: .ref h_t_columnBits :: .ref h_t_numbers :: .int t_maps :: .ref h_t_map :: .int t_lines :: .ref h_t_line :: .ref h_t_resolutions :: .ref h_t_file :: .int t_size :: .int t_scanned :: .int t_refusedAt :: .int t_cursor :: .int t_streamAt :: .int t_streamMany :: .int t_name :: .int t_from :: .int t_end :: .int t_sizeAt :: .int t_bitsAt :: .int t_colourAt :: .int t_colourEnd :: .int t_paletteAt :: .int t_mapAt :: .int t_mapEnd :: .int t_channelsAt :: .int t_captureAt :: .int t_displayAt :: .int t_resolved :: []))), (h_t_line, .inl (cI, 48, .inl (upd (upd (upd f_t_line (3 * t_lines).toNatClampNeg p1) ((3 * t_lines) + 1).toNatClampNeg p2) ((3 * t_lines) + 2).toNatClampNeg p3)))]) hS => ?_)
  have O := O.2
  refine lv_aload_n hx hb d_Mo_tell_40 rfl (lv_at hl 0 rfl) ?_
  refine lv_dup hx hb d_Mo_tell_41 rfl ?_
  refine va_get (D := D) (v := .int t_lines) hx hb hta i_Mo hown hK hP 0 rfl rfl 16 (by decide) (hta _ lk_Mo_76) (fun _ h9 => h9) rfl d_Mo_tell_42 ?_
  refine lv_iconst (v := 1) hx hb d_Mo_tell_45 (by decide) ?_
  refine lv_iadd hx hb d_Mo_tell_46 ?_
  refine va_put (D := D) (ty := .int) hx hb hta i_Mo t_Mo t_Mo_ok n_Mo hown hK hP hD hS 0 rfl rfl 16 (by decide) (hta _ lk_Mo_76) (fun _ h9 => h9) rfl (by decide +kernel) rfl rfl (Nat.le_of_ble_eq_true rfl) d_Mo_tell_47 (fun H locs (hP : va_P D classes [(h_t, .inr (7, (.int t_thrown :: .int t_high :: .int t_wide :: .int t_components :: .ref h_t_bits :: .int t_unknown :: .int t_rights :: .int t_colours :: .int t_profiled :: .ref h_t_profile :: .int t_entries :: .int t_columns :: .ref h_t_columnBits :: .ref h_t_numbers :: .int t_maps :: .ref h_t_map :: .int (t_lines + 1) :: .ref h_t_line :: .ref h_t_resolutions :: .ref h_t_file :: .int t_size :: .int t_scanned :: .int t_refusedAt :: .int t_cursor :: .int t_streamAt :: .int t_streamMany :: .int t_name :: .int t_from :: .int t_end :: .int t_sizeAt :: .int t_bitsAt :: .int t_colourAt :: .int t_colourEnd :: .int t_paletteAt :: .int t_mapAt :: .int t_mapEnd :: .int t_channelsAt :: .int t_captureAt :: .int t_displayAt :: .int t_resolved :: []))), (h_t_line, .inl (cI, 48, .inl (upd (upd (upd f_t_line (3 * t_lines).toNatClampNeg p1) ((3 * t_lines) + 1).toNatClampNeg p2) ((3 * t_lines) + 2).toNatClampNeg p3)))] H) (hD : va_D A [(h_t, .inr (7, (.int t_thrown :: .int t_high :: .int t_wide :: .int t_components :: .ref h_t_bits :: .int t_unknown :: .int t_rights :: .int t_colours :: .int t_profiled :: .ref h_t_profile :: .int t_entries :: .int t_columns :: .ref h_t_columnBits :: .ref h_t_numbers :: .int t_maps :: .ref h_t_map :: .int (t_lines + 1) :: .ref h_t_line :: .ref h_t_resolutions :: .ref h_t_file :: .int t_size :: .int t_scanned :: .int t_refusedAt :: .int t_cursor :: .int t_streamAt :: .int t_streamMany :: .int t_name :: .int t_from :: .int t_end :: .int t_sizeAt :: .int t_bitsAt :: .int t_colourAt :: .int t_colourEnd :: .int t_paletteAt :: .int t_mapAt :: .int t_mapEnd :: .int t_channelsAt :: .int t_captureAt :: .int t_displayAt :: .int t_resolved :: []))), (h_t_line, .inl (cI, 48, .inl (upd (upd (upd f_t_line (3 * t_lines).toNatClampNeg p1) ((3 * t_lines) + 1).toNatClampNeg p2) ((3 * t_lines) + 2).toNatClampNeg p3)))]) hS => ?_)
  exact kr_v hx hb hr hlk hQ hK hP hD hS ⟨rfl, rfl⟩ (by omega) (by omega) d_Mo_tell_50
theorem d_Mo_channel_0 : decode b_Mo_channel 0 = .ok (.iload_n 1, 1) := by decide +kernel
theorem d_Mo_channel_1 : decode b_Mo_channel 1 = .ok (.i2l, 1) := by decide +kernel
theorem d_Mo_channel_2 : decode b_Mo_channel 2 = .ok (.lconst 0, 1) := by decide +kernel
theorem d_Mo_channel_3 : decode b_Mo_channel 3 = .ok (.ldc2_w 104, 3) := by decide +kernel
theorem d_Mo_channel_6 : decode b_Mo_channel 6 = .ok (.invokestatic 81, 3) := by decide +kernel
theorem d_Mo_channel_9 : decode b_Mo_channel 9 = .ok (.ifCond .eq 26, 3) := by decide +kernel
theorem d_Mo_channel_12 : decode b_Mo_channel 12 = .ok (.iload_n 2, 1) := by decide +kernel
theorem d_Mo_channel_13 : decode b_Mo_channel 13 = .ok (.invokestatic 109, 3) := by decide +kernel
theorem d_Mo_channel_16 : decode b_Mo_channel 16 = .ok (.ifCond .eq 19, 3) := by decide +kernel
theorem d_Mo_channel_19 : decode b_Mo_channel 19 = .ok (.iload_n 3, 1) := by decide +kernel
theorem d_Mo_channel_20 : decode b_Mo_channel 20 = .ok (.i2l, 1) := by decide +kernel
theorem d_Mo_channel_21 : decode b_Mo_channel 21 = .ok (.lconst 0, 1) := by decide +kernel
theorem d_Mo_channel_22 : decode b_Mo_channel 22 = .ok (.ldc2_w 112, 3) := by decide +kernel
theorem d_Mo_channel_25 : decode b_Mo_channel 25 = .ok (.invokestatic 81, 3) := by decide +kernel
theorem d_Mo_channel_28 : decode b_Mo_channel 28 = .ok (.ifCond .eq 7, 3) := by decide +kernel
theorem d_Mo_channel_31 : decode b_Mo_channel 31 = .ok (.iconst 1, 1) := by decide +kernel
theorem d_Mo_channel_32 : decode b_Mo_channel 32 = .ok (.goto 4, 3) := by decide +kernel
theorem d_Mo_channel_35 : decode b_Mo_channel 35 = .ok (.iconst 0, 1) := by decide +kernel
theorem d_Mo_channel_36 : decode b_Mo_channel 36 = .ok (.istore 4, 2) := by decide +kernel
theorem d_Mo_channel_38 : decode b_Mo_channel 38 = .ok (.aload_n 0, 1) := by decide +kernel
theorem d_Mo_channel_39 : decode b_Mo_channel 39 = .ok (.iload 4, 2) := by decide +kernel
theorem d_Mo_channel_41 : decode b_Mo_channel 41 = .ok (.ifCond .ne 7, 3) := by decide +kernel
theorem d_Mo_channel_44 : decode b_Mo_channel 44 = .ok (.iconst 1, 1) := by decide +kernel
theorem d_Mo_channel_45 : decode b_Mo_channel 45 = .ok (.goto 25, 3) := by decide +kernel
theorem d_Mo_channel_48 : decode b_Mo_channel 48 = .ok (.aload_n 0, 1) := by decide +kernel
theorem d_Mo_channel_49 : decode b_Mo_channel 49 = .ok (.getfield 76, 3) := by decide +kernel
theorem d_Mo_channel_52 : decode b_Mo_channel 52 = .ok (.bipush 16, 2) := by decide +kernel
theorem d_Mo_channel_54 : decode b_Mo_channel 54 = .ok (.if_icmp .eq 11, 3) := by decide +kernel
theorem d_Mo_channel_57 : decode b_Mo_channel 57 = .ok (.aload_n 0, 1) := by decide +kernel
theorem d_Mo_channel_58 : decode b_Mo_channel 58 = .ok (.iload_n 1, 1) := by decide +kernel
theorem d_Mo_channel_59 : decode b_Mo_channel 59 = .ok (.invokevirtual 114, 3) := by decide +kernel
theorem d_Mo_channel_62 : decode b_Mo_channel 62 = .ok (.ifCond .eq 7, 3) := by decide +kernel
theorem d_Mo_channel_65 : decode b_Mo_channel 65 = .ok (.iconst 2, 1) := by decide +kernel
theorem d_Mo_channel_66 : decode b_Mo_channel 66 = .ok (.goto 4, 3) := by decide +kernel
theorem d_Mo_channel_69 : decode b_Mo_channel 69 = .ok (.iconst 0, 1) := by decide +kernel
theorem d_Mo_channel_70 : decode b_Mo_channel 70 = .ok (.invokevirtual 89, 3) := by decide +kernel
theorem d_Mo_channel_73 : decode b_Mo_channel 73 = .ok (.ifCond .eq 5, 3) := by decide +kernel
theorem d_Mo_channel_76 : decode b_Mo_channel 76 = .ok (.iconst 0, 1) := by decide +kernel
theorem d_Mo_channel_77 : decode b_Mo_channel 77 = .ok (.ireturn, 1) := by decide +kernel
theorem d_Mo_channel_78 : decode b_Mo_channel 78 = .ok (.aload_n 0, 1) := by decide +kernel
theorem d_Mo_channel_79 : decode b_Mo_channel 79 = .ok (.iload_n 1, 1) := by decide +kernel
theorem d_Mo_channel_80 : decode b_Mo_channel 80 = .ok (.iload_n 2, 1) := by decide +kernel
theorem d_Mo_channel_81 : decode b_Mo_channel 81 = .ok (.iload_n 3, 1) := by decide +kernel
theorem d_Mo_channel_82 : decode b_Mo_channel 82 = .ok (.invokevirtual 117, 3) := by decide +kernel
theorem d_Mo_channel_85 : decode b_Mo_channel 85 = .ok (.aload_n 0, 1) := by decide +kernel
theorem d_Mo_channel_86 : decode b_Mo_channel 86 = .ok (.getfield 76, 3) := by decide +kernel
theorem d_Mo_channel_89 : decode b_Mo_channel 89 = .ok (.ireturn, 1) := by decide +kernel
def k_Mo_channel_70 (t_lines : Int32) (f_t_line : Nat → Int32) (p1 : Int32) (p2 : Int32) (p3 : Int32) (x70 : Int32 × Int32) : Int32 × Int32 × Int32 × (Nat → Int32) :=
  if x70.1 = 0 then ((t_lines + 1, x70.2, t_lines + 1, upd (upd (upd f_t_line (3 * t_lines).toNatClampNeg p1) ((3 * t_lines) + 1).toNatClampNeg p2) ((3 * t_lines) + 2).toNatClampNeg p3)) else (0, x70.2, t_lines, f_t_line)
def ok_Mo_channel_70 (t_lines : Int32) (x70 : Int32 × Int32) : Prop :=
  if x70.1 = 0 then (om_Mo_tell t_lines ∧ True) else True
def j_Mo_channel_70 (t_lines : Int32) (f_t_line : Nat → Int32) (p1 : Int32) (p2 : Int32) (p3 : Int32) (j70_s1 : Int32) : Int32 × Int32 × Int32 × (Nat → Int32) :=
  k_Mo_channel_70 t_lines f_t_line p1 p2 p3 (m_Mo_refuse j70_s1)
def oj_Mo_channel_70 (t_lines : Int32) (j70_s1 : Int32) : Prop :=
  om_Mo_refuse j70_s1 ∧ (ok_Mo_channel_70 t_lines (m_Mo_refuse j70_s1))
def j_Mo_channel_65 (t_lines : Int32) (f_t_line : Nat → Int32) (p1 : Int32) (p2 : Int32) (p3 : Int32) : Int32 × Int32 × Int32 × (Nat → Int32) :=
  j_Mo_channel_70 t_lines f_t_line p1 p2 p3 2
def oj_Mo_channel_65 (t_lines : Int32) : Prop :=
  oj_Mo_channel_70 t_lines 2
def k_Mo_channel_59 (t_lines : Int32) (f_t_line : Nat → Int32) (p1 : Int32) (p2 : Int32) (p3 : Int32) (x59 : Int32) : Int32 × Int32 × Int32 × (Nat → Int32) :=
  if x59 = 0 then (j_Mo_channel_70 t_lines f_t_line p1 p2 p3 0) else (j_Mo_channel_65 t_lines f_t_line p1 p2 p3)
def ok_Mo_channel_59 (t_lines : Int32) (x59 : Int32) : Prop :=
  if x59 = 0 then (oj_Mo_channel_70 t_lines 0) else (oj_Mo_channel_65 t_lines)
def j_Mo_channel_36 (t_lines : Int32) (f_t_line : Nat → Int32) (p1 : Int32) (p2 : Int32) (p3 : Int32) (j36_s0 : Int32) : Int32 × Int32 × Int32 × (Nat → Int32) :=
  if j36_s0 = 0 then (j_Mo_channel_70 t_lines f_t_line p1 p2 p3 1) else (if t_lines = 16 then (j_Mo_channel_65 t_lines f_t_line p1 p2 p3) else (k_Mo_channel_59 t_lines f_t_line p1 p2 p3 (m_Mo_isTold t_lines f_t_line p1)))
def oj_Mo_channel_36 (t_lines : Int32) (f_t_line : Nat → Int32) (p1 : Int32) (j36_s0 : Int32) : Prop :=
  if j36_s0 = 0 then (oj_Mo_channel_70 t_lines 1) else (if t_lines = 16 then (oj_Mo_channel_65 t_lines) else (om_Mo_isTold t_lines f_t_line p1 ∧ (ok_Mo_channel_59 t_lines (m_Mo_isTold t_lines f_t_line p1))))
def j_Mo_channel_35 (t_lines : Int32) (f_t_line : Nat → Int32) (p1 : Int32) (p2 : Int32) (p3 : Int32) : Int32 × Int32 × Int32 × (Nat → Int32) :=
  j_Mo_channel_36 t_lines f_t_line p1 p2 p3 0
def oj_Mo_channel_35 (t_lines : Int32) (f_t_line : Nat → Int32) (p1 : Int32) : Prop :=
  oj_Mo_channel_36 t_lines f_t_line p1 0
def k_Mo_channel_25 (t_lines : Int32) (f_t_line : Nat → Int32) (p1 : Int32) (p2 : Int32) (p3 : Int32) (x25 : Int32) : Int32 × Int32 × Int32 × (Nat → Int32) :=
  if x25 = 0 then (j_Mo_channel_35 t_lines f_t_line p1 p2 p3) else (j_Mo_channel_36 t_lines f_t_line p1 p2 p3 1)
def ok_Mo_channel_25 (t_lines : Int32) (f_t_line : Nat → Int32) (p1 : Int32) (x25 : Int32) : Prop :=
  if x25 = 0 then (oj_Mo_channel_35 t_lines f_t_line p1) else (oj_Mo_channel_36 t_lines f_t_line p1 1)
def k_Mo_channel_13 (t_lines : Int32) (f_t_line : Nat → Int32) (p1 : Int32) (p2 : Int32) (p3 : Int32) (x13 : Int32) : Int32 × Int32 × Int32 × (Nat → Int32) :=
  if x13 = 0 then (j_Mo_channel_35 t_lines f_t_line p1 p2 p3) else (k_Mo_channel_25 t_lines f_t_line p1 p2 p3 (m_Mo_in ((p3 : Int32).toInt64) 0 65535))
def ok_Mo_channel_13 (t_lines : Int32) (f_t_line : Nat → Int32) (p1 : Int32) (p3 : Int32) (x13 : Int32) : Prop :=
  if x13 = 0 then (oj_Mo_channel_35 t_lines f_t_line p1) else (om_Mo_in ((p3 : Int32).toInt64) 0 65535 ∧ (ok_Mo_channel_25 t_lines f_t_line p1 (m_Mo_in ((p3 : Int32).toInt64) 0 65535)))
def k_Mo_channel_6 (t_lines : Int32) (f_t_line : Nat → Int32) (p1 : Int32) (p2 : Int32) (p3 : Int32) (x6 : Int32) : Int32 × Int32 × Int32 × (Nat → Int32) :=
  if x6 = 0 then (j_Mo_channel_35 t_lines f_t_line p1 p2 p3) else (k_Mo_channel_13 t_lines f_t_line p1 p2 p3 (m_Mo_isType p2))
def ok_Mo_channel_6 (t_lines : Int32) (f_t_line : Nat → Int32) (p1 : Int32) (p2 : Int32) (p3 : Int32) (x6 : Int32) : Prop :=
  if x6 = 0 then (oj_Mo_channel_35 t_lines f_t_line p1) else (om_Mo_isType p2 ∧ (ok_Mo_channel_13 t_lines f_t_line p1 p3 (m_Mo_isType p2)))
def om_Mo_channel (t_lines : Int32) (f_t_line : Nat → Int32) (p1 : Int32) (p2 : Int32) (p3 : Int32) : Prop :=
  om_Mo_in ((p1 : Int32).toInt64) 0 15 ∧ (ok_Mo_channel_6 t_lines f_t_line p1 p2 p3 (m_Mo_in ((p1 : Int32).toInt64) 0 15))
def m_Mo_channel (t_lines : Int32) (f_t_line : Nat → Int32) (p1 : Int32) (p2 : Int32) (p3 : Int32) : Int32 × Int32 × Int32 × (Nat → Int32) :=
  k_Mo_channel_6 t_lines f_t_line p1 p2 p3 (m_Mo_in ((p1 : Int32).toInt64) 0 15)
set_option maxHeartbeats 4000000 in
set_option maxRecDepth 100000 in
theorem c_Mo_channel (l : Launch) (D : va_G) (cB cI cJ : ClassId) (h_t h_t_bits h_t_profile h_t_columnBits h_t_numbers h_t_map h_t_line h_t_resolutions h_t_file : Nat) (t_thrown : Int32) (t_high : Int32) (t_wide : Int32) (t_components : Int32) (t_unknown : Int32) (t_rights : Int32) (t_colours : Int32) (t_profiled : Int32) (t_entries : Int32) (t_columns : Int32) (t_maps : Int32) (t_lines : Int32) (t_size : Int32) (t_scanned : Int32) (t_refusedAt : Int32) (t_cursor : Int32) (t_streamAt : Int32) (t_streamMany : Int32) (t_name : Int32) (t_from : Int32) (t_end : Int32) (t_sizeAt : Int32) (t_bitsAt : Int32) (t_colourAt : Int32) (t_colourEnd : Int32) (t_paletteAt : Int32) (t_mapAt : Int32) (t_mapEnd : Int32) (t_channelsAt : Int32) (t_captureAt : Int32) (t_displayAt : Int32) (t_resolved : Int32) (f_t_line : Nat → Int32) (p1 : Int32) (p2 : Int32) (p3 : Int32) (hO : om_Mo_channel t_lines f_t_line p1 p2 p3) (sz : Nat) : Ct l D cB cI cJ y_Mo_channel b_Mo_channel 5 (some .int) 2 45 0 0 [.ref h_t, .int p1, .int p2, .int p3] [(h_t, .inr (7, (.int t_thrown :: .int t_high :: .int t_wide :: .int t_components :: .ref h_t_bits :: .int t_unknown :: .int t_rights :: .int t_colours :: .int t_profiled :: .ref h_t_profile :: .int t_entries :: .int t_columns :: .ref h_t_columnBits :: .ref h_t_numbers :: .int t_maps :: .ref h_t_map :: .int t_lines :: .ref h_t_line :: .ref h_t_resolutions :: .ref h_t_file :: .int t_size :: .int t_scanned :: .int t_refusedAt :: .int t_cursor :: .int t_streamAt :: .int t_streamMany :: .int t_name :: .int t_from :: .int t_end :: .int t_sizeAt :: .int t_bitsAt :: .int t_colourAt :: .int t_colourEnd :: .int t_paletteAt :: .int t_mapAt :: .int t_mapEnd :: .int t_channelsAt :: .int t_captureAt :: .int t_displayAt :: .int t_resolved :: []))), (h_t_line, .inl (cI, 48, .inl f_t_line))] (fun v w1 => ∃ (x : Int32 × Int32 × Int32 × (Nat → Int32)), x = m_Mo_channel t_lines f_t_line p1 p2 p3 ∧ v = some (.int x.1) ∧ w1 = [(h_t, .inr (7, (.int x.2.1 :: .int t_high :: .int t_wide :: .int t_components :: .ref h_t_bits :: .int t_unknown :: .int t_rights :: .int t_colours :: .int t_profiled :: .ref h_t_profile :: .int t_entries :: .int t_columns :: .ref h_t_columnBits :: .ref h_t_numbers :: .int t_maps :: .ref h_t_map :: .int x.2.2.1 :: .ref h_t_line :: .ref h_t_resolutions :: .ref h_t_file :: .int t_size :: .int t_scanned :: .int t_refusedAt :: .int t_cursor :: .int t_streamAt :: .int t_streamMany :: .int t_name :: .int t_from :: .int t_end :: .int t_sizeAt :: .int t_bitsAt :: .int t_colourAt :: .int t_colourEnd :: .int t_paletteAt :: .int t_mapAt :: .int t_mapEnd :: .int t_channelsAt :: .int t_captureAt :: .int t_displayAt :: .int t_resolved :: []))), (h_t_line, .inl (cI, 48, .inl x.2.2.2))]) sz := by
  refine Ct.of (by decide) (Nat.le_of_ble_eq_true rfl) ?_
  intro p e R s m args below meth c A ls Q hx hb hr hlk hml hta hown hin hK hN hA hRf hRl hRc hRs hP hD hS hl hQ
  have hl : lv_has ls 5 [(0, .ref h_t), (1, .int p1), (2, .int p2), (3, .int p3)] := hl
  obtain ⟨RES, E0⟩ : ∃ R, m_Mo_channel t_lines f_t_line p1 p2 p3 = R := ⟨_, rfl⟩
  have E := E0
  have O := hO
  refine lv_iload_n hx hb d_Mo_channel_0 rfl (lv_at hl 1 rfl) ?_
  refine lv_i2l (v := (p1 : Int32).toInt64) hx hb d_Mo_channel_1 rfl ?_
  refine lv_lconst (v := 0) hx hb d_Mo_channel_2 (by decide) ?_
  refine lv_ldc2 (v := 15) hx hb hown (hta _ lk_Mo_104) d_Mo_channel_3 ?_
  refine kc_S (As := [.long ((p1 : Int32).toInt64), .long 0, .long 15]) (rest := []) (wr := [(h_t, .inr (7, (.int t_thrown :: .int t_high :: .int t_wide :: .int t_components :: .ref h_t_bits :: .int t_unknown :: .int t_rights :: .int t_colours :: .int t_profiled :: .ref h_t_profile :: .int t_entries :: .int t_columns :: .ref h_t_columnBits :: .ref h_t_numbers :: .int t_maps :: .ref h_t_map :: .int t_lines :: .ref h_t_line :: .ref h_t_resolutions :: .ref h_t_file :: .int t_size :: .int t_scanned :: .int t_refusedAt :: .int t_cursor :: .int t_streamAt :: .int t_streamMany :: .int t_name :: .int t_from :: .int t_end :: .int t_sizeAt :: .int t_bitsAt :: .int t_colourAt :: .int t_colourEnd :: .int t_paletteAt :: .int t_mapAt :: .int t_mapEnd :: .int t_channelsAt :: .int t_captureAt :: .int t_displayAt :: .int t_resolved :: []))), (h_t_line, .inl (cI, 48, .inl f_t_line))]) [] [0, 1] ⟨hx, hb, hml, hown, hta⟩ hK hN hP hD hS hA (c_Mo_in l D cB cI cJ ((p1 : Int32).toInt64) 0 15 O.1 _) (hta _ lk_Mo_81) (hta _ ini_Mo) (hta _ code_Mo_in) code_Mo_in (hta _ stat_Mo_in) hd_Mo_in rfl ⟨by omega, by omega⟩ rfl rfl (by decide) (by decide) (by decide) rfl hl.1 (lv_room (Nat.le_of_ble_eq_true rfl)) d_Mo_channel_6 ⟨by omega, by omega⟩ (fun v w1 H locs hw hP hD hS => ?_)
  obtain ⟨x6, hx6, rfl, rfl⟩ := hw
  have hP : va_P D classes [(h_t, .inr (7, (.int t_thrown :: .int t_high :: .int t_wide :: .int t_components :: .ref h_t_bits :: .int t_unknown :: .int t_rights :: .int t_colours :: .int t_profiled :: .ref h_t_profile :: .int t_entries :: .int t_columns :: .ref h_t_columnBits :: .ref h_t_numbers :: .int t_maps :: .ref h_t_map :: .int t_lines :: .ref h_t_line :: .ref h_t_resolutions :: .ref h_t_file :: .int t_size :: .int t_scanned :: .int t_refusedAt :: .int t_cursor :: .int t_streamAt :: .int t_streamMany :: .int t_name :: .int t_from :: .int t_end :: .int t_sizeAt :: .int t_bitsAt :: .int t_colourAt :: .int t_colourEnd :: .int t_paletteAt :: .int t_mapAt :: .int t_mapEnd :: .int t_channelsAt :: .int t_captureAt :: .int t_displayAt :: .int t_resolved :: []))), (h_t_line, .inl (cI, 48, .inl f_t_line))] H := hP.sub [0, 1] rfl
  have hD : va_D A [(h_t, .inr (7, (.int t_thrown :: .int t_high :: .int t_wide :: .int t_components :: .ref h_t_bits :: .int t_unknown :: .int t_rights :: .int t_colours :: .int t_profiled :: .ref h_t_profile :: .int t_entries :: .int t_columns :: .ref h_t_columnBits :: .ref h_t_numbers :: .int t_maps :: .ref h_t_map :: .int t_lines :: .ref h_t_line :: .ref h_t_resolutions :: .ref h_t_file :: .int t_size :: .int t_scanned :: .int t_refusedAt :: .int t_cursor :: .int t_streamAt :: .int t_streamMany :: .int t_name :: .int t_from :: .int t_end :: .int t_sizeAt :: .int t_bitsAt :: .int t_colourAt :: .int t_colourEnd :: .int t_paletteAt :: .int t_mapAt :: .int t_mapEnd :: .int t_channelsAt :: .int t_captureAt :: .int t_displayAt :: .int t_resolved :: []))), (h_t_line, .inl (cI, 48, .inl f_t_line))] := hD.sub [0, 1] (by decide) rfl
  refine W.eq (g2 := F0 m 9 ls [.int x6]) rfl ?_
  have O := O.2
  have E : k_Mo_channel_6 t_lines f_t_line p1 p2 p3 x6 = RES := (congrArg (k_Mo_channel_6 t_lines f_t_line p1 p2 p3) hx6).trans E
  have O : ok_Mo_channel_6 t_lines f_t_line p1 p2 p3 x6 := by rw [hx6]; exact O
  have J_36 : ∀ (j36_s0 : Int32), j_Mo_channel_36 t_lines f_t_line p1 p2 p3 j36_s0 = RES → oj_Mo_channel_36 t_lines f_t_line p1 j36_s0 → ∀ (H : Heap) (locs : List Loc), va_P D classes [(h_t, .inr (7, (.int t_thrown :: .int t_high :: .int t_wide :: .int t_components :: .ref h_t_bits :: .int t_unknown :: .int t_rights :: .int t_colours :: .int t_profiled :: .ref h_t_profile :: .int t_entries :: .int t_columns :: .ref h_t_columnBits :: .ref h_t_numbers :: .int t_maps :: .ref h_t_map :: .int t_lines :: .ref h_t_line :: .ref h_t_resolutions :: .ref h_t_file :: .int t_size :: .int t_scanned :: .int t_refusedAt :: .int t_cursor :: .int t_streamAt :: .int t_streamMany :: .int t_name :: .int t_from :: .int t_end :: .int t_sizeAt :: .int t_bitsAt :: .int t_colourAt :: .int t_colourEnd :: .int t_paletteAt :: .int t_mapAt :: .int t_mapEnd :: .int t_channelsAt :: .int t_captureAt :: .int t_displayAt :: .int t_resolved :: []))), (h_t_line, .inl (cI, 48, .inl f_t_line))] H → va_D A [(h_t, .inr (7, (.int t_thrown :: .int t_high :: .int t_wide :: .int t_components :: .ref h_t_bits :: .int t_unknown :: .int t_rights :: .int t_colours :: .int t_profiled :: .ref h_t_profile :: .int t_entries :: .int t_columns :: .ref h_t_columnBits :: .ref h_t_numbers :: .int t_maps :: .ref h_t_map :: .int t_lines :: .ref h_t_line :: .ref h_t_resolutions :: .ref h_t_file :: .int t_size :: .int t_scanned :: .int t_refusedAt :: .int t_cursor :: .int t_streamAt :: .int t_streamMany :: .int t_name :: .int t_from :: .int t_end :: .int t_sizeAt :: .int t_bitsAt :: .int t_colourAt :: .int t_colourEnd :: .int t_paletteAt :: .int t_mapAt :: .int t_mapEnd :: .int t_channelsAt :: .int t_captureAt :: .int t_displayAt :: .int t_resolved :: []))), (h_t_line, .inl (cI, 48, .inl f_t_line))] → va_S A s.heap H locs → ∀ ls : Array Slot, lv_has ls 5 [(0, .ref h_t), (1, .int p1), (2, .int p2), (3, .int p3)] → W p l e R s m args below meth c H locs 0 0 Q (F0 m 36 ls [.int j36_s0]) := by
    intro j36_s0 E O H locs hP hD hS ls hl
    refine lv_istore (lv' := [(4, .int j36_s0), (0, .ref h_t), (1, .int p1), (2, .int p2), (3, .int p3)]) hx hb d_Mo_channel_36 hl (by decide) rfl (fun ls hl => ?_)
    refine lv_aload_n hx hb d_Mo_channel_38 rfl (lv_at hl 1 rfl) ?_
    refine lv_iload hx hb d_Mo_channel_39 (lv_at hl 0 rfl) ?_
    have J_70 : ∀ (j70_s1 : Int32), j_Mo_channel_70 t_lines f_t_line p1 p2 p3 j70_s1 = RES → oj_Mo_channel_70 t_lines j70_s1 → ∀ (H : Heap) (locs : List Loc), va_P D classes [(h_t, .inr (7, (.int t_thrown :: .int t_high :: .int t_wide :: .int t_components :: .ref h_t_bits :: .int t_unknown :: .int t_rights :: .int t_colours :: .int t_profiled :: .ref h_t_profile :: .int t_entries :: .int t_columns :: .ref h_t_columnBits :: .ref h_t_numbers :: .int t_maps :: .ref h_t_map :: .int t_lines :: .ref h_t_line :: .ref h_t_resolutions :: .ref h_t_file :: .int t_size :: .int t_scanned :: .int t_refusedAt :: .int t_cursor :: .int t_streamAt :: .int t_streamMany :: .int t_name :: .int t_from :: .int t_end :: .int t_sizeAt :: .int t_bitsAt :: .int t_colourAt :: .int t_colourEnd :: .int t_paletteAt :: .int t_mapAt :: .int t_mapEnd :: .int t_channelsAt :: .int t_captureAt :: .int t_displayAt :: .int t_resolved :: []))), (h_t_line, .inl (cI, 48, .inl f_t_line))] H → va_D A [(h_t, .inr (7, (.int t_thrown :: .int t_high :: .int t_wide :: .int t_components :: .ref h_t_bits :: .int t_unknown :: .int t_rights :: .int t_colours :: .int t_profiled :: .ref h_t_profile :: .int t_entries :: .int t_columns :: .ref h_t_columnBits :: .ref h_t_numbers :: .int t_maps :: .ref h_t_map :: .int t_lines :: .ref h_t_line :: .ref h_t_resolutions :: .ref h_t_file :: .int t_size :: .int t_scanned :: .int t_refusedAt :: .int t_cursor :: .int t_streamAt :: .int t_streamMany :: .int t_name :: .int t_from :: .int t_end :: .int t_sizeAt :: .int t_bitsAt :: .int t_colourAt :: .int t_colourEnd :: .int t_paletteAt :: .int t_mapAt :: .int t_mapEnd :: .int t_channelsAt :: .int t_captureAt :: .int t_displayAt :: .int t_resolved :: []))), (h_t_line, .inl (cI, 48, .inl f_t_line))] → va_S A s.heap H locs → ∀ ls : Array Slot, lv_has ls 5 [(0, .ref h_t), (1, .int p1), (2, .int p2), (3, .int p3)] → W p l e R s m args below meth c H locs 0 0 Q (F0 m 70 ls [.int j70_s1, .ref h_t]) := by
      intro j70_s1 E O H locs hP hD hS ls hl
      refine kc_V (As := [.int j70_s1]) (rest := []) (wr := [(h_t_line, .inl (cI, 48, .inl f_t_line))]) [0] [1] ⟨hx, hb, hml, hown, hta⟩ hK hN hP hD hS hA (c_Mo_refuse l D cB cI cJ h_t h_t_bits h_t_profile h_t_columnBits h_t_numbers h_t_map h_t_line h_t_resolutions h_t_file t_thrown t_high t_wide t_components t_unknown t_rights t_colours t_profiled t_entries t_columns t_maps t_lines t_size t_scanned t_refusedAt t_cursor t_streamAt t_streamMany t_name t_from t_end t_sizeAt t_bitsAt t_colourAt t_colourEnd t_paletteAt t_mapAt t_mapEnd t_channelsAt t_captureAt t_displayAt t_resolved j70_s1 O.1 _) (hta _ lk_Mo_89) (hta _ ini_Mo) (hta _ code_Mo_refuse) code_Mo_refuse (hta _ inst_Mo_refuse) (hta _ sel_Mo_refuse) hd_Mo_refuse rfl ⟨by omega, by omega⟩ (ci := 7) 0 rfl rfl rfl rfl (by decide) (by decide) (by decide) rfl hl.1 (lv_room (Nat.le_of_ble_eq_true rfl)) d_Mo_channel_70 ⟨by omega, by omega⟩ (fun v w1 H locs hw hP hD hS => ?_)
      obtain ⟨x70, hx70, rfl, rfl⟩ := hw
      have hP : va_P D classes [(h_t, .inr (7, (.int x70.2 :: .int t_high :: .int t_wide :: .int t_components :: .ref h_t_bits :: .int t_unknown :: .int t_rights :: .int t_colours :: .int t_profiled :: .ref h_t_profile :: .int t_entries :: .int t_columns :: .ref h_t_columnBits :: .ref h_t_numbers :: .int t_maps :: .ref h_t_map :: .int t_lines :: .ref h_t_line :: .ref h_t_resolutions :: .ref h_t_file :: .int t_size :: .int t_scanned :: .int t_refusedAt :: .int t_cursor :: .int t_streamAt :: .int t_streamMany :: .int t_name :: .int t_from :: .int t_end :: .int t_sizeAt :: .int t_bitsAt :: .int t_colourAt :: .int t_colourEnd :: .int t_paletteAt :: .int t_mapAt :: .int t_mapEnd :: .int t_channelsAt :: .int t_captureAt :: .int t_displayAt :: .int t_resolved :: []))), (h_t_line, .inl (cI, 48, .inl f_t_line))] H := hP.sub [1, 0] rfl
      have hD : va_D A [(h_t, .inr (7, (.int x70.2 :: .int t_high :: .int t_wide :: .int t_components :: .ref h_t_bits :: .int t_unknown :: .int t_rights :: .int t_colours :: .int t_profiled :: .ref h_t_profile :: .int t_entries :: .int t_columns :: .ref h_t_columnBits :: .ref h_t_numbers :: .int t_maps :: .ref h_t_map :: .int t_lines :: .ref h_t_line :: .ref h_t_resolutions :: .ref h_t_file :: .int t_size :: .int t_scanned :: .int t_refusedAt :: .int t_cursor :: .int t_streamAt :: .int t_streamMany :: .int t_name :: .int t_from :: .int t_end :: .int t_sizeAt :: .int t_bitsAt :: .int t_colourAt :: .int t_colourEnd :: .int t_paletteAt :: .int t_mapAt :: .int t_mapEnd :: .int t_channelsAt :: .int t_captureAt :: .int t_displayAt :: .int t_resolved :: []))), (h_t_line, .inl (cI, 48, .inl f_t_line))] := hD.sub [1, 0] (by decide) rfl
      refine W.eq (g2 := F0 m 73 ls [.int x70.1]) rfl ?_
      have O := O.2
      have E : k_Mo_channel_70 t_lines f_t_line p1 p2 p3 x70 = RES := (congrArg (k_Mo_channel_70 t_lines f_t_line p1 p2 p3) hx70).trans E
      have O : ok_Mo_channel_70 t_lines x70 := by rw [hx70]; exact O
      refine lv_if_eq (tgt := 78) hx hb d_Mo_channel_73 (by decide) (fun c_73 => ?_) (fun c_73 => ?_)
      · have E := (if_pos c_73).symm.trans E
        have O := Eq.mp (if_pos c_73) O
        refine lv_aload_n hx hb d_Mo_channel_78 rfl (lv_at hl 0 rfl) ?_
        refine lv_iload_n hx hb d_Mo_channel_79 rfl (lv_at hl 1 rfl) ?_
        refine lv_iload_n hx hb d_Mo_channel_80 rfl (lv_at hl 2 rfl) ?_
        refine lv_iload_n hx hb d_Mo_channel_81 rfl (lv_at hl 3 rfl) ?_
        refine kc_V (As := [.int p1, .int p2, .int p3]) (rest := []) (wr := []) [0, 1] [] ⟨hx, hb, hml, hown, hta⟩ hK hN hP hD hS hA (c_Mo_tell l D cB cI cJ h_t h_t_bits h_t_profile h_t_columnBits h_t_numbers h_t_map h_t_line h_t_resolutions h_t_file x70.2 t_high t_wide t_components t_unknown t_rights t_colours t_profiled t_entries t_columns t_maps t_lines t_size t_scanned t_refusedAt t_cursor t_streamAt t_streamMany t_name t_from t_end t_sizeAt t_bitsAt t_colourAt t_colourEnd t_paletteAt t_mapAt t_mapEnd t_channelsAt t_captureAt t_displayAt t_resolved f_t_line p1 p2 p3 O.1 _) (hta _ lk_Mo_117) (hta _ ini_Mo) (hta _ code_Mo_tell) code_Mo_tell (hta _ inst_Mo_tell) (hta _ sel_Mo_tell) hd_Mo_tell rfl ⟨by omega, by omega⟩ (ci := 7) 0 rfl rfl rfl rfl (by decide) (by decide) (by decide) rfl hl.1 (lv_room (Nat.le_of_ble_eq_true rfl)) d_Mo_channel_82 ⟨by omega, by omega⟩ (fun v w1 H locs hw hP hD hS => ?_)
        obtain ⟨rfl, rfl⟩ := hw
        have hP : va_P D classes [(h_t, .inr (7, (.int x70.2 :: .int t_high :: .int t_wide :: .int t_components :: .ref h_t_bits :: .int t_unknown :: .int t_rights :: .int t_colours :: .int t_profiled :: .ref h_t_profile :: .int t_entries :: .int t_columns :: .ref h_t_columnBits :: .ref h_t_numbers :: .int t_maps :: .ref h_t_map :: .int (t_lines + 1) :: .ref h_t_line :: .ref h_t_resolutions :: .ref h_t_file :: .int t_size :: .int t_scanned :: .int t_refusedAt :: .int t_cursor :: .int t_streamAt :: .int t_streamMany :: .int t_name :: .int t_from :: .int t_end :: .int t_sizeAt :: .int t_bitsAt :: .int t_colourAt :: .int t_colourEnd :: .int t_paletteAt :: .int t_mapAt :: .int t_mapEnd :: .int t_channelsAt :: .int t_captureAt :: .int t_displayAt :: .int t_resolved :: []))), (h_t_line, .inl (cI, 48, .inl (upd (upd (upd f_t_line (3 * t_lines).toNatClampNeg p1) ((3 * t_lines) + 1).toNatClampNeg p2) ((3 * t_lines) + 2).toNatClampNeg p3)))] H := hP.sub [0, 1] rfl
        have hD : va_D A [(h_t, .inr (7, (.int x70.2 :: .int t_high :: .int t_wide :: .int t_components :: .ref h_t_bits :: .int t_unknown :: .int t_rights :: .int t_colours :: .int t_profiled :: .ref h_t_profile :: .int t_entries :: .int t_columns :: .ref h_t_columnBits :: .ref h_t_numbers :: .int t_maps :: .ref h_t_map :: .int (t_lines + 1) :: .ref h_t_line :: .ref h_t_resolutions :: .ref h_t_file :: .int t_size :: .int t_scanned :: .int t_refusedAt :: .int t_cursor :: .int t_streamAt :: .int t_streamMany :: .int t_name :: .int t_from :: .int t_end :: .int t_sizeAt :: .int t_bitsAt :: .int t_colourAt :: .int t_colourEnd :: .int t_paletteAt :: .int t_mapAt :: .int t_mapEnd :: .int t_channelsAt :: .int t_captureAt :: .int t_displayAt :: .int t_resolved :: []))), (h_t_line, .inl (cI, 48, .inl (upd (upd (upd f_t_line (3 * t_lines).toNatClampNeg p1) ((3 * t_lines) + 1).toNatClampNeg p2) ((3 * t_lines) + 2).toNatClampNeg p3)))] := hD.sub [0, 1] (by decide) rfl
        refine W.eq (g2 := F0 m 85 ls []) rfl ?_
        have O := O.2
        refine lv_aload_n hx hb d_Mo_channel_85 rfl (lv_at hl 0 rfl) ?_
        refine va_get (D := D) (v := .int (t_lines + 1)) hx hb hta i_Mo hown hK hP 0 rfl rfl 16 (by decide) (hta _ lk_Mo_76) (fun _ h9 => h9) rfl d_Mo_channel_86 ?_
        exact kr_i hx hb hr hlk hQ hK hP hD hS ⟨((t_lines + 1, x70.2, t_lines + 1, upd (upd (upd f_t_line (3 * t_lines).toNatClampNeg p1) ((3 * t_lines) + 1).toNatClampNeg p2) ((3 * t_lines) + 2).toNatClampNeg p3) : Int32 × Int32 × Int32 × (Nat → Int32)), E.trans E0.symm, rfl, rfl⟩ (by omega) (by omega) d_Mo_channel_89
      · have E := (if_neg c_73).symm.trans E
        have O := Eq.mp (if_neg c_73) O
        refine lv_iconst (v := 0) hx hb d_Mo_channel_76 (by decide) ?_
        exact kr_i hx hb hr hlk hQ hK hP hD hS ⟨((0, x70.2, t_lines, f_t_line) : Int32 × Int32 × Int32 × (Nat → Int32)), E.trans E0.symm, rfl, rfl⟩ (by omega) (by omega) d_Mo_channel_77
    refine lv_if_ne (tgt := 48) hx hb d_Mo_channel_41 (by decide) (fun c_41 => ?_) (fun c_41 => ?_)
    · have E := (if_neg c_41).symm.trans E
      have O := Eq.mp (if_neg c_41) O
      refine lv_aload_n hx hb d_Mo_channel_48 rfl (lv_at hl 1 rfl) ?_
      refine va_get (D := D) (v := .int t_lines) hx hb hta i_Mo hown hK hP 0 rfl rfl 16 (by decide) (hta _ lk_Mo_76) (fun _ h9 => h9) rfl d_Mo_channel_49 ?_
      refine lv_bipush (v := 16) hx hb d_Mo_channel_52 (by decide) ?_
      have J_65 : j_Mo_channel_65 t_lines f_t_line p1 p2 p3 = RES → oj_Mo_channel_65 t_lines → ∀ (H : Heap) (locs : List Loc), va_P D classes [(h_t, .inr (7, (.int t_thrown :: .int t_high :: .int t_wide :: .int t_components :: .ref h_t_bits :: .int t_unknown :: .int t_rights :: .int t_colours :: .int t_profiled :: .ref h_t_profile :: .int t_entries :: .int t_columns :: .ref h_t_columnBits :: .ref h_t_numbers :: .int t_maps :: .ref h_t_map :: .int t_lines :: .ref h_t_line :: .ref h_t_resolutions :: .ref h_t_file :: .int t_size :: .int t_scanned :: .int t_refusedAt :: .int t_cursor :: .int t_streamAt :: .int t_streamMany :: .int t_name :: .int t_from :: .int t_end :: .int t_sizeAt :: .int t_bitsAt :: .int t_colourAt :: .int t_colourEnd :: .int t_paletteAt :: .int t_mapAt :: .int t_mapEnd :: .int t_channelsAt :: .int t_captureAt :: .int t_displayAt :: .int t_resolved :: []))), (h_t_line, .inl (cI, 48, .inl f_t_line))] H → va_D A [(h_t, .inr (7, (.int t_thrown :: .int t_high :: .int t_wide :: .int t_components :: .ref h_t_bits :: .int t_unknown :: .int t_rights :: .int t_colours :: .int t_profiled :: .ref h_t_profile :: .int t_entries :: .int t_columns :: .ref h_t_columnBits :: .ref h_t_numbers :: .int t_maps :: .ref h_t_map :: .int t_lines :: .ref h_t_line :: .ref h_t_resolutions :: .ref h_t_file :: .int t_size :: .int t_scanned :: .int t_refusedAt :: .int t_cursor :: .int t_streamAt :: .int t_streamMany :: .int t_name :: .int t_from :: .int t_end :: .int t_sizeAt :: .int t_bitsAt :: .int t_colourAt :: .int t_colourEnd :: .int t_paletteAt :: .int t_mapAt :: .int t_mapEnd :: .int t_channelsAt :: .int t_captureAt :: .int t_displayAt :: .int t_resolved :: []))), (h_t_line, .inl (cI, 48, .inl f_t_line))] → va_S A s.heap H locs → ∀ ls : Array Slot, lv_has ls 5 [(0, .ref h_t), (1, .int p1), (2, .int p2), (3, .int p3)] → W p l e R s m args below meth c H locs 0 0 Q (F0 m 65 ls [.ref h_t]) := by
        intro E O H locs hP hD hS ls hl
        refine lv_iconst (v := 2) hx hb d_Mo_channel_65 (by decide) ?_
        refine lv_goto (tgt := 70) hx hb d_Mo_channel_66 (by decide) ?_
        exact J_70 2 E O _ _ hP hD hS ls (lv_sub hl [0, 1, 2, 3] rfl)
      refine lv_icmp_eq (tgt := 65) hx hb d_Mo_channel_54 (by decide) (fun c_54 => ?_) (fun c_54 => ?_)
      · have E := (if_pos c_54).symm.trans E
        have O := Eq.mp (if_pos c_54) O
        exact J_65  E O _ _ hP hD hS ls (lv_sub hl [1, 2, 3, 4] rfl)
      · have E := (if_neg c_54).symm.trans E
        have O := Eq.mp (if_neg c_54) O
        refine lv_aload_n hx hb d_Mo_channel_57 rfl (lv_at hl 1 rfl) ?_
        refine lv_iload_n hx hb d_Mo_channel_58 rfl (lv_at hl 2 rfl) ?_
        refine kc_V (As := [.int p1]) (rest := [.ref h_t]) (wr := []) [0, 1] [] ⟨hx, hb, hml, hown, hta⟩ hK hN hP hD hS hA (c_Mo_isTold l D cB cI cJ h_t h_t_bits h_t_profile h_t_columnBits h_t_numbers h_t_map h_t_line h_t_resolutions h_t_file t_thrown t_high t_wide t_components t_unknown t_rights t_colours t_profiled t_entries t_columns t_maps t_lines t_size t_scanned t_refusedAt t_cursor t_streamAt t_streamMany t_name t_from t_end t_sizeAt t_bitsAt t_colourAt t_colourEnd t_paletteAt t_mapAt t_mapEnd t_channelsAt t_captureAt t_displayAt t_resolved f_t_line p1 O.1 _) (hta _ lk_Mo_114) (hta _ ini_Mo) (hta _ code_Mo_isTold) code_Mo_isTold (hta _ inst_Mo_isTold) (hta _ sel_Mo_isTold) hd_Mo_isTold rfl ⟨by omega, by omega⟩ (ci := 7) 0 rfl rfl rfl rfl (by decide) (by decide) (by decide) rfl hl.1 (lv_room (Nat.le_of_ble_eq_true rfl)) d_Mo_channel_59 ⟨by omega, by omega⟩ (fun v w1 H locs hw hP hD hS => ?_)
        obtain ⟨x59, hx59, rfl, rfl⟩ := hw
        have hP : va_P D classes [(h_t, .inr (7, (.int t_thrown :: .int t_high :: .int t_wide :: .int t_components :: .ref h_t_bits :: .int t_unknown :: .int t_rights :: .int t_colours :: .int t_profiled :: .ref h_t_profile :: .int t_entries :: .int t_columns :: .ref h_t_columnBits :: .ref h_t_numbers :: .int t_maps :: .ref h_t_map :: .int t_lines :: .ref h_t_line :: .ref h_t_resolutions :: .ref h_t_file :: .int t_size :: .int t_scanned :: .int t_refusedAt :: .int t_cursor :: .int t_streamAt :: .int t_streamMany :: .int t_name :: .int t_from :: .int t_end :: .int t_sizeAt :: .int t_bitsAt :: .int t_colourAt :: .int t_colourEnd :: .int t_paletteAt :: .int t_mapAt :: .int t_mapEnd :: .int t_channelsAt :: .int t_captureAt :: .int t_displayAt :: .int t_resolved :: []))), (h_t_line, .inl (cI, 48, .inl f_t_line))] H := hP.sub [0, 1] rfl
        have hD : va_D A [(h_t, .inr (7, (.int t_thrown :: .int t_high :: .int t_wide :: .int t_components :: .ref h_t_bits :: .int t_unknown :: .int t_rights :: .int t_colours :: .int t_profiled :: .ref h_t_profile :: .int t_entries :: .int t_columns :: .ref h_t_columnBits :: .ref h_t_numbers :: .int t_maps :: .ref h_t_map :: .int t_lines :: .ref h_t_line :: .ref h_t_resolutions :: .ref h_t_file :: .int t_size :: .int t_scanned :: .int t_refusedAt :: .int t_cursor :: .int t_streamAt :: .int t_streamMany :: .int t_name :: .int t_from :: .int t_end :: .int t_sizeAt :: .int t_bitsAt :: .int t_colourAt :: .int t_colourEnd :: .int t_paletteAt :: .int t_mapAt :: .int t_mapEnd :: .int t_channelsAt :: .int t_captureAt :: .int t_displayAt :: .int t_resolved :: []))), (h_t_line, .inl (cI, 48, .inl f_t_line))] := hD.sub [0, 1] (by decide) rfl
        refine W.eq (g2 := F0 m 62 ls [.int x59, .ref h_t]) rfl ?_
        have O := O.2
        have E : k_Mo_channel_59 t_lines f_t_line p1 p2 p3 x59 = RES := (congrArg (k_Mo_channel_59 t_lines f_t_line p1 p2 p3) hx59).trans E
        have O : ok_Mo_channel_59 t_lines x59 := by rw [hx59]; exact O
        refine lv_if_eq (tgt := 69) hx hb d_Mo_channel_62 (by decide) (fun c_62 => ?_) (fun c_62 => ?_)
        · have E := (if_pos c_62).symm.trans E
          have O := Eq.mp (if_pos c_62) O
          refine lv_iconst (v := 0) hx hb d_Mo_channel_69 (by decide) ?_
          exact J_70 0 E O _ _ hP hD hS ls (lv_sub hl [1, 2, 3, 4] rfl)
        · have E := (if_neg c_62).symm.trans E
          have O := Eq.mp (if_neg c_62) O
          exact J_65  E O _ _ hP hD hS ls (lv_sub hl [1, 2, 3, 4] rfl)
    · have E := (if_pos c_41).symm.trans E
      have O := Eq.mp (if_pos c_41) O
      refine lv_iconst (v := 1) hx hb d_Mo_channel_44 (by decide) ?_
      refine lv_goto (tgt := 70) hx hb d_Mo_channel_45 (by decide) ?_
      exact J_70 1 E O _ _ hP hD hS ls (lv_sub hl [1, 2, 3, 4] rfl)
  have J_35 : j_Mo_channel_35 t_lines f_t_line p1 p2 p3 = RES → oj_Mo_channel_35 t_lines f_t_line p1 → ∀ (H : Heap) (locs : List Loc), va_P D classes [(h_t, .inr (7, (.int t_thrown :: .int t_high :: .int t_wide :: .int t_components :: .ref h_t_bits :: .int t_unknown :: .int t_rights :: .int t_colours :: .int t_profiled :: .ref h_t_profile :: .int t_entries :: .int t_columns :: .ref h_t_columnBits :: .ref h_t_numbers :: .int t_maps :: .ref h_t_map :: .int t_lines :: .ref h_t_line :: .ref h_t_resolutions :: .ref h_t_file :: .int t_size :: .int t_scanned :: .int t_refusedAt :: .int t_cursor :: .int t_streamAt :: .int t_streamMany :: .int t_name :: .int t_from :: .int t_end :: .int t_sizeAt :: .int t_bitsAt :: .int t_colourAt :: .int t_colourEnd :: .int t_paletteAt :: .int t_mapAt :: .int t_mapEnd :: .int t_channelsAt :: .int t_captureAt :: .int t_displayAt :: .int t_resolved :: []))), (h_t_line, .inl (cI, 48, .inl f_t_line))] H → va_D A [(h_t, .inr (7, (.int t_thrown :: .int t_high :: .int t_wide :: .int t_components :: .ref h_t_bits :: .int t_unknown :: .int t_rights :: .int t_colours :: .int t_profiled :: .ref h_t_profile :: .int t_entries :: .int t_columns :: .ref h_t_columnBits :: .ref h_t_numbers :: .int t_maps :: .ref h_t_map :: .int t_lines :: .ref h_t_line :: .ref h_t_resolutions :: .ref h_t_file :: .int t_size :: .int t_scanned :: .int t_refusedAt :: .int t_cursor :: .int t_streamAt :: .int t_streamMany :: .int t_name :: .int t_from :: .int t_end :: .int t_sizeAt :: .int t_bitsAt :: .int t_colourAt :: .int t_colourEnd :: .int t_paletteAt :: .int t_mapAt :: .int t_mapEnd :: .int t_channelsAt :: .int t_captureAt :: .int t_displayAt :: .int t_resolved :: []))), (h_t_line, .inl (cI, 48, .inl f_t_line))] → va_S A s.heap H locs → ∀ ls : Array Slot, lv_has ls 5 [(0, .ref h_t), (1, .int p1), (2, .int p2), (3, .int p3)] → W p l e R s m args below meth c H locs 0 0 Q (F0 m 35 ls []) := by
    intro E O H locs hP hD hS ls hl
    refine lv_iconst (v := 0) hx hb d_Mo_channel_35 (by decide) ?_
    exact J_36 0 E O _ _ hP hD hS ls (lv_sub hl [0, 1, 2, 3] rfl)
  refine lv_if_eq (tgt := 35) hx hb d_Mo_channel_9 (by decide) (fun c_9 => ?_) (fun c_9 => ?_)
  · have E := (if_pos c_9).symm.trans E
    have O := Eq.mp (if_pos c_9) O
    exact J_35  E O _ _ hP hD hS ls (lv_sub hl [0, 1, 2, 3] rfl)
  · have E := (if_neg c_9).symm.trans E
    have O := Eq.mp (if_neg c_9) O
    refine lv_iload_n hx hb d_Mo_channel_12 rfl (lv_at hl 2 rfl) ?_
    refine kc_S (As := [.int p2]) (rest := []) (wr := [(h_t, .inr (7, (.int t_thrown :: .int t_high :: .int t_wide :: .int t_components :: .ref h_t_bits :: .int t_unknown :: .int t_rights :: .int t_colours :: .int t_profiled :: .ref h_t_profile :: .int t_entries :: .int t_columns :: .ref h_t_columnBits :: .ref h_t_numbers :: .int t_maps :: .ref h_t_map :: .int t_lines :: .ref h_t_line :: .ref h_t_resolutions :: .ref h_t_file :: .int t_size :: .int t_scanned :: .int t_refusedAt :: .int t_cursor :: .int t_streamAt :: .int t_streamMany :: .int t_name :: .int t_from :: .int t_end :: .int t_sizeAt :: .int t_bitsAt :: .int t_colourAt :: .int t_colourEnd :: .int t_paletteAt :: .int t_mapAt :: .int t_mapEnd :: .int t_channelsAt :: .int t_captureAt :: .int t_displayAt :: .int t_resolved :: []))), (h_t_line, .inl (cI, 48, .inl f_t_line))]) [] [0, 1] ⟨hx, hb, hml, hown, hta⟩ hK hN hP hD hS hA (c_Mo_isType l D cB cI cJ p2 O.1 _) (hta _ lk_Mo_109) (hta _ ini_Mo) (hta _ code_Mo_isType) code_Mo_isType (hta _ stat_Mo_isType) hd_Mo_isType rfl ⟨by omega, by omega⟩ rfl rfl (by decide) (by decide) (by decide) rfl hl.1 (lv_room (Nat.le_of_ble_eq_true rfl)) d_Mo_channel_13 ⟨by omega, by omega⟩ (fun v w1 H locs hw hP hD hS => ?_)
    obtain ⟨x13, hx13, rfl, rfl⟩ := hw
    have hP : va_P D classes [(h_t, .inr (7, (.int t_thrown :: .int t_high :: .int t_wide :: .int t_components :: .ref h_t_bits :: .int t_unknown :: .int t_rights :: .int t_colours :: .int t_profiled :: .ref h_t_profile :: .int t_entries :: .int t_columns :: .ref h_t_columnBits :: .ref h_t_numbers :: .int t_maps :: .ref h_t_map :: .int t_lines :: .ref h_t_line :: .ref h_t_resolutions :: .ref h_t_file :: .int t_size :: .int t_scanned :: .int t_refusedAt :: .int t_cursor :: .int t_streamAt :: .int t_streamMany :: .int t_name :: .int t_from :: .int t_end :: .int t_sizeAt :: .int t_bitsAt :: .int t_colourAt :: .int t_colourEnd :: .int t_paletteAt :: .int t_mapAt :: .int t_mapEnd :: .int t_channelsAt :: .int t_captureAt :: .int t_displayAt :: .int t_resolved :: []))), (h_t_line, .inl (cI, 48, .inl f_t_line))] H := hP.sub [0, 1] rfl
    have hD : va_D A [(h_t, .inr (7, (.int t_thrown :: .int t_high :: .int t_wide :: .int t_components :: .ref h_t_bits :: .int t_unknown :: .int t_rights :: .int t_colours :: .int t_profiled :: .ref h_t_profile :: .int t_entries :: .int t_columns :: .ref h_t_columnBits :: .ref h_t_numbers :: .int t_maps :: .ref h_t_map :: .int t_lines :: .ref h_t_line :: .ref h_t_resolutions :: .ref h_t_file :: .int t_size :: .int t_scanned :: .int t_refusedAt :: .int t_cursor :: .int t_streamAt :: .int t_streamMany :: .int t_name :: .int t_from :: .int t_end :: .int t_sizeAt :: .int t_bitsAt :: .int t_colourAt :: .int t_colourEnd :: .int t_paletteAt :: .int t_mapAt :: .int t_mapEnd :: .int t_channelsAt :: .int t_captureAt :: .int t_displayAt :: .int t_resolved :: []))), (h_t_line, .inl (cI, 48, .inl f_t_line))] := hD.sub [0, 1] (by decide) rfl
    refine W.eq (g2 := F0 m 16 ls [.int x13]) rfl ?_
    have O := O.2
    have E : k_Mo_channel_13 t_lines f_t_line p1 p2 p3 x13 = RES := (congrArg (k_Mo_channel_13 t_lines f_t_line p1 p2 p3) hx13).trans E
    have O : ok_Mo_channel_13 t_lines f_t_line p1 p3 x13 := by rw [hx13]; exact O
    refine lv_if_eq (tgt := 35) hx hb d_Mo_channel_16 (by decide) (fun c_16 => ?_) (fun c_16 => ?_)
    · have E := (if_pos c_16).symm.trans E
      have O := Eq.mp (if_pos c_16) O
      exact J_35  E O _ _ hP hD hS ls (lv_sub hl [0, 1, 2, 3] rfl)
    · have E := (if_neg c_16).symm.trans E
      have O := Eq.mp (if_neg c_16) O
      refine lv_iload_n hx hb d_Mo_channel_19 rfl (lv_at hl 3 rfl) ?_
      refine lv_i2l (v := (p3 : Int32).toInt64) hx hb d_Mo_channel_20 rfl ?_
      refine lv_lconst (v := 0) hx hb d_Mo_channel_21 (by decide) ?_
      refine lv_ldc2 (v := 65535) hx hb hown (hta _ lk_Mo_112) d_Mo_channel_22 ?_
      refine kc_S (As := [.long ((p3 : Int32).toInt64), .long 0, .long 65535]) (rest := []) (wr := [(h_t, .inr (7, (.int t_thrown :: .int t_high :: .int t_wide :: .int t_components :: .ref h_t_bits :: .int t_unknown :: .int t_rights :: .int t_colours :: .int t_profiled :: .ref h_t_profile :: .int t_entries :: .int t_columns :: .ref h_t_columnBits :: .ref h_t_numbers :: .int t_maps :: .ref h_t_map :: .int t_lines :: .ref h_t_line :: .ref h_t_resolutions :: .ref h_t_file :: .int t_size :: .int t_scanned :: .int t_refusedAt :: .int t_cursor :: .int t_streamAt :: .int t_streamMany :: .int t_name :: .int t_from :: .int t_end :: .int t_sizeAt :: .int t_bitsAt :: .int t_colourAt :: .int t_colourEnd :: .int t_paletteAt :: .int t_mapAt :: .int t_mapEnd :: .int t_channelsAt :: .int t_captureAt :: .int t_displayAt :: .int t_resolved :: []))), (h_t_line, .inl (cI, 48, .inl f_t_line))]) [] [0, 1] ⟨hx, hb, hml, hown, hta⟩ hK hN hP hD hS hA (c_Mo_in l D cB cI cJ ((p3 : Int32).toInt64) 0 65535 O.1 _) (hta _ lk_Mo_81) (hta _ ini_Mo) (hta _ code_Mo_in) code_Mo_in (hta _ stat_Mo_in) hd_Mo_in rfl ⟨by omega, by omega⟩ rfl rfl (by decide) (by decide) (by decide) rfl hl.1 (lv_room (Nat.le_of_ble_eq_true rfl)) d_Mo_channel_25 ⟨by omega, by omega⟩ (fun v w1 H locs hw hP hD hS => ?_)
      obtain ⟨x25, hx25, rfl, rfl⟩ := hw
      have hP : va_P D classes [(h_t, .inr (7, (.int t_thrown :: .int t_high :: .int t_wide :: .int t_components :: .ref h_t_bits :: .int t_unknown :: .int t_rights :: .int t_colours :: .int t_profiled :: .ref h_t_profile :: .int t_entries :: .int t_columns :: .ref h_t_columnBits :: .ref h_t_numbers :: .int t_maps :: .ref h_t_map :: .int t_lines :: .ref h_t_line :: .ref h_t_resolutions :: .ref h_t_file :: .int t_size :: .int t_scanned :: .int t_refusedAt :: .int t_cursor :: .int t_streamAt :: .int t_streamMany :: .int t_name :: .int t_from :: .int t_end :: .int t_sizeAt :: .int t_bitsAt :: .int t_colourAt :: .int t_colourEnd :: .int t_paletteAt :: .int t_mapAt :: .int t_mapEnd :: .int t_channelsAt :: .int t_captureAt :: .int t_displayAt :: .int t_resolved :: []))), (h_t_line, .inl (cI, 48, .inl f_t_line))] H := hP.sub [0, 1] rfl
      have hD : va_D A [(h_t, .inr (7, (.int t_thrown :: .int t_high :: .int t_wide :: .int t_components :: .ref h_t_bits :: .int t_unknown :: .int t_rights :: .int t_colours :: .int t_profiled :: .ref h_t_profile :: .int t_entries :: .int t_columns :: .ref h_t_columnBits :: .ref h_t_numbers :: .int t_maps :: .ref h_t_map :: .int t_lines :: .ref h_t_line :: .ref h_t_resolutions :: .ref h_t_file :: .int t_size :: .int t_scanned :: .int t_refusedAt :: .int t_cursor :: .int t_streamAt :: .int t_streamMany :: .int t_name :: .int t_from :: .int t_end :: .int t_sizeAt :: .int t_bitsAt :: .int t_colourAt :: .int t_colourEnd :: .int t_paletteAt :: .int t_mapAt :: .int t_mapEnd :: .int t_channelsAt :: .int t_captureAt :: .int t_displayAt :: .int t_resolved :: []))), (h_t_line, .inl (cI, 48, .inl f_t_line))] := hD.sub [0, 1] (by decide) rfl
      refine W.eq (g2 := F0 m 28 ls [.int x25]) rfl ?_
      have O := O.2
      have E : k_Mo_channel_25 t_lines f_t_line p1 p2 p3 x25 = RES := (congrArg (k_Mo_channel_25 t_lines f_t_line p1 p2 p3) hx25).trans E
      have O : ok_Mo_channel_25 t_lines f_t_line p1 x25 := by rw [hx25]; exact O
      refine lv_if_eq (tgt := 35) hx hb d_Mo_channel_28 (by decide) (fun c_28 => ?_) (fun c_28 => ?_)
      · have E := (if_pos c_28).symm.trans E
        have O := Eq.mp (if_pos c_28) O
        exact J_35  E O _ _ hP hD hS ls (lv_sub hl [0, 1, 2, 3] rfl)
      · have E := (if_neg c_28).symm.trans E
        have O := Eq.mp (if_neg c_28) O
        refine lv_iconst (v := 1) hx hb d_Mo_channel_31 (by decide) ?_
        refine lv_goto (tgt := 36) hx hb d_Mo_channel_32 (by decide) ?_
        exact J_36 1 E O _ _ hP hD hS ls (lv_sub hl [0, 1, 2, 3] rfl)
theorem d_Mo_resolution_0 : decode b_Mo_resolution 0 = .ok (.iload_n 2, 1) := by decide +kernel
theorem d_Mo_resolution_1 : decode b_Mo_resolution 1 = .ok (.ifCond .ne 31, 3) := by decide +kernel
theorem d_Mo_resolution_4 : decode b_Mo_resolution 4 = .ok (.iload_n 3, 1) := by decide +kernel
theorem d_Mo_resolution_5 : decode b_Mo_resolution 5 = .ok (.ifCond .ne 27, 3) := by decide +kernel
theorem d_Mo_resolution_8 : decode b_Mo_resolution 8 = .ok (.iload 4, 2) := by decide +kernel
theorem d_Mo_resolution_10 : decode b_Mo_resolution 10 = .ok (.ifCond .ne 22, 3) := by decide +kernel
theorem d_Mo_resolution_13 : decode b_Mo_resolution 13 = .ok (.iload 5, 2) := by decide +kernel
theorem d_Mo_resolution_15 : decode b_Mo_resolution 15 = .ok (.ifCond .ne 17, 3) := by decide +kernel
theorem d_Mo_resolution_18 : decode b_Mo_resolution 18 = .ok (.iload 6, 2) := by decide +kernel
theorem d_Mo_resolution_20 : decode b_Mo_resolution 20 = .ok (.ifCond .ne 12, 3) := by decide +kernel
theorem d_Mo_resolution_23 : decode b_Mo_resolution 23 = .ok (.iload 7, 2) := by decide +kernel
theorem d_Mo_resolution_25 : decode b_Mo_resolution 25 = .ok (.ifCond .ne 7, 3) := by decide +kernel
theorem d_Mo_resolution_28 : decode b_Mo_resolution 28 = .ok (.iconst 1, 1) := by decide +kernel
theorem d_Mo_resolution_29 : decode b_Mo_resolution 29 = .ok (.goto 4, 3) := by decide +kernel
theorem d_Mo_resolution_32 : decode b_Mo_resolution 32 = .ok (.iconst 0, 1) := by decide +kernel
theorem d_Mo_resolution_33 : decode b_Mo_resolution 33 = .ok (.istore 8, 2) := by decide +kernel
theorem d_Mo_resolution_35 : decode b_Mo_resolution 35 = .ok (.iload_n 2, 1) := by decide +kernel
theorem d_Mo_resolution_36 : decode b_Mo_resolution 36 = .ok (.i2l, 1) := by decide +kernel
theorem d_Mo_resolution_37 : decode b_Mo_resolution 37 = .ok (.lconst 1, 1) := by decide +kernel
theorem d_Mo_resolution_38 : decode b_Mo_resolution 38 = .ok (.ldc2_w 112, 3) := by decide +kernel
theorem d_Mo_resolution_41 : decode b_Mo_resolution 41 = .ok (.invokestatic 81, 3) := by decide +kernel
theorem d_Mo_resolution_44 : decode b_Mo_resolution 44 = .ok (.ifCond .eq 75, 3) := by decide +kernel
theorem d_Mo_resolution_47 : decode b_Mo_resolution 47 = .ok (.iload_n 3, 1) := by decide +kernel
theorem d_Mo_resolution_48 : decode b_Mo_resolution 48 = .ok (.i2l, 1) := by decide +kernel
theorem d_Mo_resolution_49 : decode b_Mo_resolution 49 = .ok (.lconst 1, 1) := by decide +kernel
theorem d_Mo_resolution_50 : decode b_Mo_resolution 50 = .ok (.ldc2_w 112, 3) := by decide +kernel
theorem d_Mo_resolution_53 : decode b_Mo_resolution 53 = .ok (.invokestatic 81, 3) := by decide +kernel
theorem d_Mo_resolution_56 : decode b_Mo_resolution 56 = .ok (.ifCond .eq 63, 3) := by decide +kernel
theorem d_Mo_resolution_59 : decode b_Mo_resolution 59 = .ok (.iload 4, 2) := by decide +kernel
theorem d_Mo_resolution_61 : decode b_Mo_resolution 61 = .ok (.i2l, 1) := by decide +kernel
theorem d_Mo_resolution_62 : decode b_Mo_resolution 62 = .ok (.lconst 1, 1) := by decide +kernel
theorem d_Mo_resolution_63 : decode b_Mo_resolution 63 = .ok (.ldc2_w 112, 3) := by decide +kernel
theorem d_Mo_resolution_66 : decode b_Mo_resolution 66 = .ok (.invokestatic 81, 3) := by decide +kernel
theorem d_Mo_resolution_69 : decode b_Mo_resolution 69 = .ok (.ifCond .eq 50, 3) := by decide +kernel
theorem d_Mo_resolution_72 : decode b_Mo_resolution 72 = .ok (.iload 5, 2) := by decide +kernel
theorem d_Mo_resolution_74 : decode b_Mo_resolution 74 = .ok (.i2l, 1) := by decide +kernel
theorem d_Mo_resolution_75 : decode b_Mo_resolution 75 = .ok (.lconst 1, 1) := by decide +kernel
theorem d_Mo_resolution_76 : decode b_Mo_resolution 76 = .ok (.ldc2_w 112, 3) := by decide +kernel
theorem d_Mo_resolution_79 : decode b_Mo_resolution 79 = .ok (.invokestatic 81, 3) := by decide +kernel
theorem d_Mo_resolution_82 : decode b_Mo_resolution 82 = .ok (.ifCond .eq 37, 3) := by decide +kernel
theorem d_Mo_resolution_85 : decode b_Mo_resolution 85 = .ok (.iload 6, 2) := by decide +kernel
theorem d_Mo_resolution_87 : decode b_Mo_resolution 87 = .ok (.i2l, 1) := by decide +kernel
theorem d_Mo_resolution_88 : decode b_Mo_resolution 88 = .ok (.ldc2_w 121, 3) := by decide +kernel
theorem d_Mo_resolution_91 : decode b_Mo_resolution 91 = .ok (.ldc2_w 123, 3) := by decide +kernel
theorem d_Mo_resolution_94 : decode b_Mo_resolution 94 = .ok (.invokestatic 81, 3) := by decide +kernel
theorem d_Mo_resolution_97 : decode b_Mo_resolution 97 = .ok (.ifCond .eq 22, 3) := by decide +kernel
theorem d_Mo_resolution_100 : decode b_Mo_resolution 100 = .ok (.iload 7, 2) := by decide +kernel
theorem d_Mo_resolution_102 : decode b_Mo_resolution 102 = .ok (.i2l, 1) := by decide +kernel
theorem d_Mo_resolution_103 : decode b_Mo_resolution 103 = .ok (.ldc2_w 121, 3) := by decide +kernel
theorem d_Mo_resolution_106 : decode b_Mo_resolution 106 = .ok (.ldc2_w 123, 3) := by decide +kernel
theorem d_Mo_resolution_109 : decode b_Mo_resolution 109 = .ok (.invokestatic 81, 3) := by decide +kernel
theorem d_Mo_resolution_112 : decode b_Mo_resolution 112 = .ok (.ifCond .eq 7, 3) := by decide +kernel
theorem d_Mo_resolution_115 : decode b_Mo_resolution 115 = .ok (.iconst 1, 1) := by decide +kernel
theorem d_Mo_resolution_116 : decode b_Mo_resolution 116 = .ok (.goto 4, 3) := by decide +kernel
theorem d_Mo_resolution_119 : decode b_Mo_resolution 119 = .ok (.iconst 0, 1) := by decide +kernel
theorem d_Mo_resolution_120 : decode b_Mo_resolution 120 = .ok (.istore 9, 2) := by decide +kernel
theorem d_Mo_resolution_122 : decode b_Mo_resolution 122 = .ok (.aload_n 0, 1) := by decide +kernel
theorem d_Mo_resolution_123 : decode b_Mo_resolution 123 = .ok (.iload 8, 2) := by decide +kernel
theorem d_Mo_resolution_125 : decode b_Mo_resolution 125 = .ok (.ifCond .ne 12, 3) := by decide +kernel
theorem d_Mo_resolution_128 : decode b_Mo_resolution 128 = .ok (.iload 9, 2) := by decide +kernel
theorem d_Mo_resolution_130 : decode b_Mo_resolution 130 = .ok (.ifCond .ne 7, 3) := by decide +kernel
theorem d_Mo_resolution_133 : decode b_Mo_resolution 133 = .ok (.iconst 1, 1) := by decide +kernel
theorem d_Mo_resolution_134 : decode b_Mo_resolution 134 = .ok (.goto 4, 3) := by decide +kernel
theorem d_Mo_resolution_137 : decode b_Mo_resolution 137 = .ok (.iconst 0, 1) := by decide +kernel
theorem d_Mo_resolution_138 : decode b_Mo_resolution 138 = .ok (.invokevirtual 89, 3) := by decide +kernel
theorem d_Mo_resolution_141 : decode b_Mo_resolution 141 = .ok (.ifCond .eq 4, 3) := by decide +kernel
theorem d_Mo_resolution_144 : decode b_Mo_resolution 144 = .ok (.return_, 1) := by decide +kernel
theorem d_Mo_resolution_145 : decode b_Mo_resolution 145 = .ok (.iload_n 1, 1) := by decide +kernel
theorem d_Mo_resolution_146 : decode b_Mo_resolution 146 = .ok (.ifCond .eq 8, 3) := by decide +kernel
theorem d_Mo_resolution_149 : decode b_Mo_resolution 149 = .ok (.bipush 6, 2) := by decide +kernel
theorem d_Mo_resolution_151 : decode b_Mo_resolution 151 = .ok (.goto 4, 3) := by decide +kernel
theorem d_Mo_resolution_154 : decode b_Mo_resolution 154 = .ok (.iconst 0, 1) := by decide +kernel
theorem d_Mo_resolution_155 : decode b_Mo_resolution 155 = .ok (.istore 10, 2) := by decide +kernel
theorem d_Mo_resolution_157 : decode b_Mo_resolution 157 = .ok (.aload_n 0, 1) := by decide +kernel
theorem d_Mo_resolution_158 : decode b_Mo_resolution 158 = .ok (.getfield 33, 3) := by decide +kernel
theorem d_Mo_resolution_161 : decode b_Mo_resolution 161 = .ok (.iload 10, 2) := by decide +kernel
theorem d_Mo_resolution_163 : decode b_Mo_resolution 163 = .ok (.iload_n 2, 1) := by decide +kernel
theorem d_Mo_resolution_164 : decode b_Mo_resolution 164 = .ok (.iastore, 1) := by decide +kernel
theorem d_Mo_resolution_165 : decode b_Mo_resolution 165 = .ok (.aload_n 0, 1) := by decide +kernel
theorem d_Mo_resolution_166 : decode b_Mo_resolution 166 = .ok (.getfield 33, 3) := by decide +kernel
theorem d_Mo_resolution_169 : decode b_Mo_resolution 169 = .ok (.iload 10, 2) := by decide +kernel
theorem d_Mo_resolution_171 : decode b_Mo_resolution 171 = .ok (.iconst 1, 1) := by decide +kernel
theorem d_Mo_resolution_172 : decode b_Mo_resolution 172 = .ok (.iadd, 1) := by decide +kernel
theorem d_Mo_resolution_173 : decode b_Mo_resolution 173 = .ok (.iload_n 3, 1) := by decide +kernel
theorem d_Mo_resolution_174 : decode b_Mo_resolution 174 = .ok (.iastore, 1) := by decide +kernel
theorem d_Mo_resolution_175 : decode b_Mo_resolution 175 = .ok (.aload_n 0, 1) := by decide +kernel
theorem d_Mo_resolution_176 : decode b_Mo_resolution 176 = .ok (.getfield 33, 3) := by decide +kernel
theorem d_Mo_resolution_179 : decode b_Mo_resolution 179 = .ok (.iload 10, 2) := by decide +kernel
theorem d_Mo_resolution_181 : decode b_Mo_resolution 181 = .ok (.iconst 2, 1) := by decide +kernel
theorem d_Mo_resolution_182 : decode b_Mo_resolution 182 = .ok (.iadd, 1) := by decide +kernel
theorem d_Mo_resolution_183 : decode b_Mo_resolution 183 = .ok (.iload 4, 2) := by decide +kernel
theorem d_Mo_resolution_185 : decode b_Mo_resolution 185 = .ok (.iastore, 1) := by decide +kernel
theorem d_Mo_resolution_186 : decode b_Mo_resolution 186 = .ok (.aload_n 0, 1) := by decide +kernel
theorem d_Mo_resolution_187 : decode b_Mo_resolution 187 = .ok (.getfield 33, 3) := by decide +kernel
theorem d_Mo_resolution_190 : decode b_Mo_resolution 190 = .ok (.iload 10, 2) := by decide +kernel
theorem d_Mo_resolution_192 : decode b_Mo_resolution 192 = .ok (.iconst 3, 1) := by decide +kernel
theorem d_Mo_resolution_193 : decode b_Mo_resolution 193 = .ok (.iadd, 1) := by decide +kernel
theorem d_Mo_resolution_194 : decode b_Mo_resolution 194 = .ok (.iload 5, 2) := by decide +kernel
theorem d_Mo_resolution_196 : decode b_Mo_resolution 196 = .ok (.iastore, 1) := by decide +kernel
theorem d_Mo_resolution_197 : decode b_Mo_resolution 197 = .ok (.aload_n 0, 1) := by decide +kernel
theorem d_Mo_resolution_198 : decode b_Mo_resolution 198 = .ok (.getfield 33, 3) := by decide +kernel
theorem d_Mo_resolution_201 : decode b_Mo_resolution 201 = .ok (.iload 10, 2) := by decide +kernel
theorem d_Mo_resolution_203 : decode b_Mo_resolution 203 = .ok (.iconst 4, 1) := by decide +kernel
theorem d_Mo_resolution_204 : decode b_Mo_resolution 204 = .ok (.iadd, 1) := by decide +kernel
theorem d_Mo_resolution_205 : decode b_Mo_resolution 205 = .ok (.iload 6, 2) := by decide +kernel
theorem d_Mo_resolution_207 : decode b_Mo_resolution 207 = .ok (.iastore, 1) := by decide +kernel
theorem d_Mo_resolution_208 : decode b_Mo_resolution 208 = .ok (.aload_n 0, 1) := by decide +kernel
theorem d_Mo_resolution_209 : decode b_Mo_resolution 209 = .ok (.getfield 33, 3) := by decide +kernel
theorem d_Mo_resolution_212 : decode b_Mo_resolution 212 = .ok (.iload 10, 2) := by decide +kernel
theorem d_Mo_resolution_214 : decode b_Mo_resolution 214 = .ok (.iconst 5, 1) := by decide +kernel
theorem d_Mo_resolution_215 : decode b_Mo_resolution 215 = .ok (.iadd, 1) := by decide +kernel
theorem d_Mo_resolution_216 : decode b_Mo_resolution 216 = .ok (.iload 7, 2) := by decide +kernel
theorem d_Mo_resolution_218 : decode b_Mo_resolution 218 = .ok (.iastore, 1) := by decide +kernel
theorem d_Mo_resolution_219 : decode b_Mo_resolution 219 = .ok (.return_, 1) := by decide +kernel
def j_Mo_resolution_155 (f_t_resolutions : Nat → Int32) (p2 : Int32) (p3 : Int32) (p4 : Int32) (p5 : Int32) (p6 : Int32) (p7 : Int32) (x138 : Int32 × Int32) (j155_s0 : Int32) : Int32 × (Nat → Int32) :=
  (x138.2, upd (upd (upd (upd (upd (upd f_t_resolutions j155_s0.toNatClampNeg p2) (j155_s0 + 1).toNatClampNeg p3) (j155_s0 + 2).toNatClampNeg p4) (j155_s0 + 3).toNatClampNeg p5) (j155_s0 + 4).toNatClampNeg p6) (j155_s0 + 5).toNatClampNeg p7)
def oj_Mo_resolution_155 (j155_s0 : Int32) : Prop :=
  vp_in j155_s0 12 ∧ vp_in (j155_s0 + 1) 12 ∧ vp_in (j155_s0 + 2) 12 ∧ vp_in (j155_s0 + 3) 12 ∧ vp_in (j155_s0 + 4) 12 ∧ vp_in (j155_s0 + 5) 12 ∧ True
def k_Mo_resolution_138 (f_t_resolutions : Nat → Int32) (p1 : Int32) (p2 : Int32) (p3 : Int32) (p4 : Int32) (p5 : Int32) (p6 : Int32) (p7 : Int32) (x138 : Int32 × Int32) : Int32 × (Nat → Int32) :=
  if x138.1 = 0 then (if p1 = 0 then (j_Mo_resolution_155 f_t_resolutions p2 p3 p4 p5 p6 p7 x138 0) else (j_Mo_resolution_155 f_t_resolutions p2 p3 p4 p5 p6 p7 x138 6)) else (x138.2, f_t_resolutions)
def ok_Mo_resolution_138 (p1 : Int32) (x138 : Int32 × Int32) : Prop :=
  if x138.1 = 0 then (if p1 = 0 then (oj_Mo_resolution_155 0) else (oj_Mo_resolution_155 6)) else True
def j_Mo_resolution_138 (f_t_resolutions : Nat → Int32) (p1 : Int32) (p2 : Int32) (p3 : Int32) (p4 : Int32) (p5 : Int32) (p6 : Int32) (p7 : Int32) (j138_s1 : Int32) : Int32 × (Nat → Int32) :=
  k_Mo_resolution_138 f_t_resolutions p1 p2 p3 p4 p5 p6 p7 (m_Mo_refuse j138_s1)
def oj_Mo_resolution_138 (p1 : Int32) (j138_s1 : Int32) : Prop :=
  om_Mo_refuse j138_s1 ∧ (ok_Mo_resolution_138 p1 (m_Mo_refuse j138_s1))
def j_Mo_resolution_137 (f_t_resolutions : Nat → Int32) (p1 : Int32) (p2 : Int32) (p3 : Int32) (p4 : Int32) (p5 : Int32) (p6 : Int32) (p7 : Int32) : Int32 × (Nat → Int32) :=
  j_Mo_resolution_138 f_t_resolutions p1 p2 p3 p4 p5 p6 p7 0
def oj_Mo_resolution_137 (p1 : Int32) : Prop :=
  oj_Mo_resolution_138 p1 0
def j_Mo_resolution_120 (f_t_resolutions : Nat → Int32) (p1 : Int32) (p2 : Int32) (p3 : Int32) (p4 : Int32) (p5 : Int32) (p6 : Int32) (p7 : Int32) (j33_s0 : Int32) (j120_s0 : Int32) : Int32 × (Nat → Int32) :=
  if j33_s0 = 0 then (if j120_s0 = 0 then (j_Mo_resolution_138 f_t_resolutions p1 p2 p3 p4 p5 p6 p7 1) else (j_Mo_resolution_137 f_t_resolutions p1 p2 p3 p4 p5 p6 p7)) else (j_Mo_resolution_137 f_t_resolutions p1 p2 p3 p4 p5 p6 p7)
def oj_Mo_resolution_120 (p1 : Int32) (j33_s0 : Int32) (j120_s0 : Int32) : Prop :=
  if j33_s0 = 0 then (if j120_s0 = 0 then (oj_Mo_resolution_138 p1 1) else (oj_Mo_resolution_137 p1)) else (oj_Mo_resolution_137 p1)
def j_Mo_resolution_119 (f_t_resolutions : Nat → Int32) (p1 : Int32) (p2 : Int32) (p3 : Int32) (p4 : Int32) (p5 : Int32) (p6 : Int32) (p7 : Int32) (j33_s0 : Int32) : Int32 × (Nat → Int32) :=
  j_Mo_resolution_120 f_t_resolutions p1 p2 p3 p4 p5 p6 p7 j33_s0 0
def oj_Mo_resolution_119 (p1 : Int32) (j33_s0 : Int32) : Prop :=
  oj_Mo_resolution_120 p1 j33_s0 0
def k_Mo_resolution_109 (f_t_resolutions : Nat → Int32) (p1 : Int32) (p2 : Int32) (p3 : Int32) (p4 : Int32) (p5 : Int32) (p6 : Int32) (p7 : Int32) (j33_s0 : Int32) (x109 : Int32) : Int32 × (Nat → Int32) :=
  if x109 = 0 then (j_Mo_resolution_119 f_t_resolutions p1 p2 p3 p4 p5 p6 p7 j33_s0) else (j_Mo_resolution_120 f_t_resolutions p1 p2 p3 p4 p5 p6 p7 j33_s0 1)
def ok_Mo_resolution_109 (p1 : Int32) (j33_s0 : Int32) (x109 : Int32) : Prop :=
  if x109 = 0 then (oj_Mo_resolution_119 p1 j33_s0) else (oj_Mo_resolution_120 p1 j33_s0 1)
def k_Mo_resolution_94 (f_t_resolutions : Nat → Int32) (p1 : Int32) (p2 : Int32) (p3 : Int32) (p4 : Int32) (p5 : Int32) (p6 : Int32) (p7 : Int32) (j33_s0 : Int32) (x94 : Int32) : Int32 × (Nat → Int32) :=
  if x94 = 0 then (j_Mo_resolution_119 f_t_resolutions p1 p2 p3 p4 p5 p6 p7 j33_s0) else (k_Mo_resolution_109 f_t_resolutions p1 p2 p3 p4 p5 p6 p7 j33_s0 (m_Mo_in ((p7 : Int32).toInt64) (-128) 127))
def ok_Mo_resolution_94 (p1 : Int32) (p7 : Int32) (j33_s0 : Int32) (x94 : Int32) : Prop :=
  if x94 = 0 then (oj_Mo_resolution_119 p1 j33_s0) else (om_Mo_in ((p7 : Int32).toInt64) (-128) 127 ∧ (ok_Mo_resolution_109 p1 j33_s0 (m_Mo_in ((p7 : Int32).toInt64) (-128) 127)))
def k_Mo_resolution_79 (f_t_resolutions : Nat → Int32) (p1 : Int32) (p2 : Int32) (p3 : Int32) (p4 : Int32) (p5 : Int32) (p6 : Int32) (p7 : Int32) (j33_s0 : Int32) (x79 : Int32) : Int32 × (Nat → Int32) :=
  if x79 = 0 then (j_Mo_resolution_119 f_t_resolutions p1 p2 p3 p4 p5 p6 p7 j33_s0) else (k_Mo_resolution_94 f_t_resolutions p1 p2 p3 p4 p5 p6 p7 j33_s0 (m_Mo_in ((p6 : Int32).toInt64) (-128) 127))
def ok_Mo_resolution_79 (p1 : Int32) (p6 : Int32) (p7 : Int32) (j33_s0 : Int32) (x79 : Int32) : Prop :=
  if x79 = 0 then (oj_Mo_resolution_119 p1 j33_s0) else (om_Mo_in ((p6 : Int32).toInt64) (-128) 127 ∧ (ok_Mo_resolution_94 p1 p7 j33_s0 (m_Mo_in ((p6 : Int32).toInt64) (-128) 127)))
def k_Mo_resolution_66 (f_t_resolutions : Nat → Int32) (p1 : Int32) (p2 : Int32) (p3 : Int32) (p4 : Int32) (p5 : Int32) (p6 : Int32) (p7 : Int32) (j33_s0 : Int32) (x66 : Int32) : Int32 × (Nat → Int32) :=
  if x66 = 0 then (j_Mo_resolution_119 f_t_resolutions p1 p2 p3 p4 p5 p6 p7 j33_s0) else (k_Mo_resolution_79 f_t_resolutions p1 p2 p3 p4 p5 p6 p7 j33_s0 (m_Mo_in ((p5 : Int32).toInt64) 1 65535))
def ok_Mo_resolution_66 (p1 : Int32) (p5 : Int32) (p6 : Int32) (p7 : Int32) (j33_s0 : Int32) (x66 : Int32) : Prop :=
  if x66 = 0 then (oj_Mo_resolution_119 p1 j33_s0) else (om_Mo_in ((p5 : Int32).toInt64) 1 65535 ∧ (ok_Mo_resolution_79 p1 p6 p7 j33_s0 (m_Mo_in ((p5 : Int32).toInt64) 1 65535)))
def k_Mo_resolution_53 (f_t_resolutions : Nat → Int32) (p1 : Int32) (p2 : Int32) (p3 : Int32) (p4 : Int32) (p5 : Int32) (p6 : Int32) (p7 : Int32) (j33_s0 : Int32) (x53 : Int32) : Int32 × (Nat → Int32) :=
  if x53 = 0 then (j_Mo_resolution_119 f_t_resolutions p1 p2 p3 p4 p5 p6 p7 j33_s0) else (k_Mo_resolution_66 f_t_resolutions p1 p2 p3 p4 p5 p6 p7 j33_s0 (m_Mo_in ((p4 : Int32).toInt64) 1 65535))
def ok_Mo_resolution_53 (p1 : Int32) (p4 : Int32) (p5 : Int32) (p6 : Int32) (p7 : Int32) (j33_s0 : Int32) (x53 : Int32) : Prop :=
  if x53 = 0 then (oj_Mo_resolution_119 p1 j33_s0) else (om_Mo_in ((p4 : Int32).toInt64) 1 65535 ∧ (ok_Mo_resolution_66 p1 p5 p6 p7 j33_s0 (m_Mo_in ((p4 : Int32).toInt64) 1 65535)))
def k_Mo_resolution_41 (f_t_resolutions : Nat → Int32) (p1 : Int32) (p2 : Int32) (p3 : Int32) (p4 : Int32) (p5 : Int32) (p6 : Int32) (p7 : Int32) (j33_s0 : Int32) (x41 : Int32) : Int32 × (Nat → Int32) :=
  if x41 = 0 then (j_Mo_resolution_119 f_t_resolutions p1 p2 p3 p4 p5 p6 p7 j33_s0) else (k_Mo_resolution_53 f_t_resolutions p1 p2 p3 p4 p5 p6 p7 j33_s0 (m_Mo_in ((p3 : Int32).toInt64) 1 65535))
def ok_Mo_resolution_41 (p1 : Int32) (p3 : Int32) (p4 : Int32) (p5 : Int32) (p6 : Int32) (p7 : Int32) (j33_s0 : Int32) (x41 : Int32) : Prop :=
  if x41 = 0 then (oj_Mo_resolution_119 p1 j33_s0) else (om_Mo_in ((p3 : Int32).toInt64) 1 65535 ∧ (ok_Mo_resolution_53 p1 p4 p5 p6 p7 j33_s0 (m_Mo_in ((p3 : Int32).toInt64) 1 65535)))
def j_Mo_resolution_33 (f_t_resolutions : Nat → Int32) (p1 : Int32) (p2 : Int32) (p3 : Int32) (p4 : Int32) (p5 : Int32) (p6 : Int32) (p7 : Int32) (j33_s0 : Int32) : Int32 × (Nat → Int32) :=
  k_Mo_resolution_41 f_t_resolutions p1 p2 p3 p4 p5 p6 p7 j33_s0 (m_Mo_in ((p2 : Int32).toInt64) 1 65535)
def oj_Mo_resolution_33 (p1 : Int32) (p2 : Int32) (p3 : Int32) (p4 : Int32) (p5 : Int32) (p6 : Int32) (p7 : Int32) (j33_s0 : Int32) : Prop :=
  om_Mo_in ((p2 : Int32).toInt64) 1 65535 ∧ (ok_Mo_resolution_41 p1 p3 p4 p5 p6 p7 j33_s0 (m_Mo_in ((p2 : Int32).toInt64) 1 65535))
def j_Mo_resolution_32 (f_t_resolutions : Nat → Int32) (p1 : Int32) (p2 : Int32) (p3 : Int32) (p4 : Int32) (p5 : Int32) (p6 : Int32) (p7 : Int32) : Int32 × (Nat → Int32) :=
  j_Mo_resolution_33 f_t_resolutions p1 p2 p3 p4 p5 p6 p7 0
def oj_Mo_resolution_32 (p1 : Int32) (p2 : Int32) (p3 : Int32) (p4 : Int32) (p5 : Int32) (p6 : Int32) (p7 : Int32) : Prop :=
  oj_Mo_resolution_33 p1 p2 p3 p4 p5 p6 p7 0
def om_Mo_resolution (p1 : Int32) (p2 : Int32) (p3 : Int32) (p4 : Int32) (p5 : Int32) (p6 : Int32) (p7 : Int32) : Prop :=
  if p2 = 0 then (if p3 = 0 then (if p4 = 0 then (if p5 = 0 then (if p6 = 0 then (if p7 = 0 then (oj_Mo_resolution_33 p1 p2 p3 p4 p5 p6 p7 1) else (oj_Mo_resolution_32 p1 p2 p3 p4 p5 p6 p7)) else (oj_Mo_resolution_32 p1 p2 p3 p4 p5 p6 p7)) else (oj_Mo_resolution_32 p1 p2 p3 p4 p5 p6 p7)) else (oj_Mo_resolution_32 p1 p2 p3 p4 p5 p6 p7)) else (oj_Mo_resolution_32 p1 p2 p3 p4 p5 p6 p7)) else (oj_Mo_resolution_32 p1 p2 p3 p4 p5 p6 p7)
def m_Mo_resolution (f_t_resolutions : Nat → Int32) (p1 : Int32) (p2 : Int32) (p3 : Int32) (p4 : Int32) (p5 : Int32) (p6 : Int32) (p7 : Int32) : Int32 × (Nat → Int32) :=
  if p2 = 0 then (if p3 = 0 then (if p4 = 0 then (if p5 = 0 then (if p6 = 0 then (if p7 = 0 then (j_Mo_resolution_33 f_t_resolutions p1 p2 p3 p4 p5 p6 p7 1) else (j_Mo_resolution_32 f_t_resolutions p1 p2 p3 p4 p5 p6 p7)) else (j_Mo_resolution_32 f_t_resolutions p1 p2 p3 p4 p5 p6 p7)) else (j_Mo_resolution_32 f_t_resolutions p1 p2 p3 p4 p5 p6 p7)) else (j_Mo_resolution_32 f_t_resolutions p1 p2 p3 p4 p5 p6 p7)) else (j_Mo_resolution_32 f_t_resolutions p1 p2 p3 p4 p5 p6 p7)) else (j_Mo_resolution_32 f_t_resolutions p1 p2 p3 p4 p5 p6 p7)
set_option maxHeartbeats 4000000 in
set_option maxRecDepth 100000 in
theorem c_Mo_resolution (l : Launch) (D : va_G) (cB cI cJ : ClassId) (h_t h_t_bits h_t_profile h_t_columnBits h_t_numbers h_t_map h_t_line h_t_resolutions h_t_file : Nat) (t_thrown : Int32) (t_high : Int32) (t_wide : Int32) (t_components : Int32) (t_unknown : Int32) (t_rights : Int32) (t_colours : Int32) (t_profiled : Int32) (t_entries : Int32) (t_columns : Int32) (t_maps : Int32) (t_lines : Int32) (t_size : Int32) (t_scanned : Int32) (t_refusedAt : Int32) (t_cursor : Int32) (t_streamAt : Int32) (t_streamMany : Int32) (t_name : Int32) (t_from : Int32) (t_end : Int32) (t_sizeAt : Int32) (t_bitsAt : Int32) (t_colourAt : Int32) (t_colourEnd : Int32) (t_paletteAt : Int32) (t_mapAt : Int32) (t_mapEnd : Int32) (t_channelsAt : Int32) (t_captureAt : Int32) (t_displayAt : Int32) (t_resolved : Int32) (f_t_resolutions : Nat → Int32) (p1 : Int32) (p2 : Int32) (p3 : Int32) (p4 : Int32) (p5 : Int32) (p6 : Int32) (p7 : Int32) (hO : om_Mo_resolution p1 p2 p3 p4 p5 p6 p7) (sz : Nat) : Ct l D cB cI cJ y_Mo_resolution b_Mo_resolution 11 none 1 25 0 0 [.ref h_t, .int p1, .int p2, .int p3, .int p4, .int p5, .int p6, .int p7] [(h_t, .inr (7, (.int t_thrown :: .int t_high :: .int t_wide :: .int t_components :: .ref h_t_bits :: .int t_unknown :: .int t_rights :: .int t_colours :: .int t_profiled :: .ref h_t_profile :: .int t_entries :: .int t_columns :: .ref h_t_columnBits :: .ref h_t_numbers :: .int t_maps :: .ref h_t_map :: .int t_lines :: .ref h_t_line :: .ref h_t_resolutions :: .ref h_t_file :: .int t_size :: .int t_scanned :: .int t_refusedAt :: .int t_cursor :: .int t_streamAt :: .int t_streamMany :: .int t_name :: .int t_from :: .int t_end :: .int t_sizeAt :: .int t_bitsAt :: .int t_colourAt :: .int t_colourEnd :: .int t_paletteAt :: .int t_mapAt :: .int t_mapEnd :: .int t_channelsAt :: .int t_captureAt :: .int t_displayAt :: .int t_resolved :: []))), (h_t_resolutions, .inl (cI, 12, .inl f_t_resolutions))] (fun v w1 => ∃ (x : Int32 × (Nat → Int32)), x = m_Mo_resolution f_t_resolutions p1 p2 p3 p4 p5 p6 p7 ∧ v = none ∧ w1 = [(h_t, .inr (7, (.int x.1 :: .int t_high :: .int t_wide :: .int t_components :: .ref h_t_bits :: .int t_unknown :: .int t_rights :: .int t_colours :: .int t_profiled :: .ref h_t_profile :: .int t_entries :: .int t_columns :: .ref h_t_columnBits :: .ref h_t_numbers :: .int t_maps :: .ref h_t_map :: .int t_lines :: .ref h_t_line :: .ref h_t_resolutions :: .ref h_t_file :: .int t_size :: .int t_scanned :: .int t_refusedAt :: .int t_cursor :: .int t_streamAt :: .int t_streamMany :: .int t_name :: .int t_from :: .int t_end :: .int t_sizeAt :: .int t_bitsAt :: .int t_colourAt :: .int t_colourEnd :: .int t_paletteAt :: .int t_mapAt :: .int t_mapEnd :: .int t_channelsAt :: .int t_captureAt :: .int t_displayAt :: .int t_resolved :: []))), (h_t_resolutions, .inl (cI, 12, .inl x.2))]) sz := by
  refine Ct.of (by decide) (Nat.le_of_ble_eq_true rfl) ?_
  intro p e R s m args below meth c A ls Q hx hb hr hlk hml hta hown hin hK hN hA hRf hRl hRc hRs hP hD hS hl hQ
  have hl : lv_has ls 11 [(0, .ref h_t), (1, .int p1), (2, .int p2), (3, .int p3), (4, .int p4), (5, .int p5), (6, .int p6), (7, .int p7)] := hl
  obtain ⟨RES, E0⟩ : ∃ R, m_Mo_resolution f_t_resolutions p1 p2 p3 p4 p5 p6 p7 = R := ⟨_, rfl⟩
  have E := E0
  have O := hO
  refine lv_iload_n hx hb d_Mo_resolution_0 rfl (lv_at hl 2 rfl) ?_
  have J_33 : ∀ (j33_s0 : Int32), j_Mo_resolution_33 f_t_resolutions p1 p2 p3 p4 p5 p6 p7 j33_s0 = RES → oj_Mo_resolution_33 p1 p2 p3 p4 p5 p6 p7 j33_s0 → ∀ (H : Heap) (locs : List Loc), va_P D classes [(h_t, .inr (7, (.int t_thrown :: .int t_high :: .int t_wide :: .int t_components :: .ref h_t_bits :: .int t_unknown :: .int t_rights :: .int t_colours :: .int t_profiled :: .ref h_t_profile :: .int t_entries :: .int t_columns :: .ref h_t_columnBits :: .ref h_t_numbers :: .int t_maps :: .ref h_t_map :: .int t_lines :: .ref h_t_line :: .ref h_t_resolutions :: .ref h_t_file :: .int t_size :: .int t_scanned :: .int t_refusedAt :: .int t_cursor :: .int t_streamAt :: .int t_streamMany :: .int t_name :: .int t_from :: .int t_end :: .int t_sizeAt :: .int t_bitsAt :: .int t_colourAt :: .int t_colourEnd :: .int t_paletteAt :: .int t_mapAt :: .int t_mapEnd :: .int t_channelsAt :: .int t_captureAt :: .int t_displayAt :: .int t_resolved :: []))), (h_t_resolutions, .inl (cI, 12, .inl f_t_resolutions))] H → va_D A [(h_t, .inr (7, (.int t_thrown :: .int t_high :: .int t_wide :: .int t_components :: .ref h_t_bits :: .int t_unknown :: .int t_rights :: .int t_colours :: .int t_profiled :: .ref h_t_profile :: .int t_entries :: .int t_columns :: .ref h_t_columnBits :: .ref h_t_numbers :: .int t_maps :: .ref h_t_map :: .int t_lines :: .ref h_t_line :: .ref h_t_resolutions :: .ref h_t_file :: .int t_size :: .int t_scanned :: .int t_refusedAt :: .int t_cursor :: .int t_streamAt :: .int t_streamMany :: .int t_name :: .int t_from :: .int t_end :: .int t_sizeAt :: .int t_bitsAt :: .int t_colourAt :: .int t_colourEnd :: .int t_paletteAt :: .int t_mapAt :: .int t_mapEnd :: .int t_channelsAt :: .int t_captureAt :: .int t_displayAt :: .int t_resolved :: []))), (h_t_resolutions, .inl (cI, 12, .inl f_t_resolutions))] → va_S A s.heap H locs → ∀ ls : Array Slot, lv_has ls 11 [(0, .ref h_t), (1, .int p1), (2, .int p2), (3, .int p3), (4, .int p4), (5, .int p5), (6, .int p6), (7, .int p7)] → W p l e R s m args below meth c H locs 0 0 Q (F0 m 33 ls [.int j33_s0]) := by
    intro j33_s0 E O H locs hP hD hS ls hl
    refine lv_istore (lv' := [(8, .int j33_s0), (0, .ref h_t), (1, .int p1), (2, .int p2), (3, .int p3), (4, .int p4), (5, .int p5), (6, .int p6), (7, .int p7)]) hx hb d_Mo_resolution_33 hl (by decide) rfl (fun ls hl => ?_)
    refine lv_iload_n hx hb d_Mo_resolution_35 rfl (lv_at hl 3 rfl) ?_
    refine lv_i2l (v := (p2 : Int32).toInt64) hx hb d_Mo_resolution_36 rfl ?_
    refine lv_lconst (v := 1) hx hb d_Mo_resolution_37 (by decide) ?_
    refine lv_ldc2 (v := 65535) hx hb hown (hta _ lk_Mo_112) d_Mo_resolution_38 ?_
    refine kc_S (As := [.long ((p2 : Int32).toInt64), .long 1, .long 65535]) (rest := []) (wr := [(h_t, .inr (7, (.int t_thrown :: .int t_high :: .int t_wide :: .int t_components :: .ref h_t_bits :: .int t_unknown :: .int t_rights :: .int t_colours :: .int t_profiled :: .ref h_t_profile :: .int t_entries :: .int t_columns :: .ref h_t_columnBits :: .ref h_t_numbers :: .int t_maps :: .ref h_t_map :: .int t_lines :: .ref h_t_line :: .ref h_t_resolutions :: .ref h_t_file :: .int t_size :: .int t_scanned :: .int t_refusedAt :: .int t_cursor :: .int t_streamAt :: .int t_streamMany :: .int t_name :: .int t_from :: .int t_end :: .int t_sizeAt :: .int t_bitsAt :: .int t_colourAt :: .int t_colourEnd :: .int t_paletteAt :: .int t_mapAt :: .int t_mapEnd :: .int t_channelsAt :: .int t_captureAt :: .int t_displayAt :: .int t_resolved :: []))), (h_t_resolutions, .inl (cI, 12, .inl f_t_resolutions))]) [] [0, 1] ⟨hx, hb, hml, hown, hta⟩ hK hN hP hD hS hA (c_Mo_in l D cB cI cJ ((p2 : Int32).toInt64) 1 65535 O.1 _) (hta _ lk_Mo_81) (hta _ ini_Mo) (hta _ code_Mo_in) code_Mo_in (hta _ stat_Mo_in) hd_Mo_in rfl ⟨by omega, by omega⟩ rfl rfl (by decide) (by decide) (by decide) rfl hl.1 (lv_room (Nat.le_of_ble_eq_true rfl)) d_Mo_resolution_41 ⟨by omega, by omega⟩ (fun v w1 H locs hw hP hD hS => ?_)
    obtain ⟨x41, hx41, rfl, rfl⟩ := hw
    have hP : va_P D classes [(h_t, .inr (7, (.int t_thrown :: .int t_high :: .int t_wide :: .int t_components :: .ref h_t_bits :: .int t_unknown :: .int t_rights :: .int t_colours :: .int t_profiled :: .ref h_t_profile :: .int t_entries :: .int t_columns :: .ref h_t_columnBits :: .ref h_t_numbers :: .int t_maps :: .ref h_t_map :: .int t_lines :: .ref h_t_line :: .ref h_t_resolutions :: .ref h_t_file :: .int t_size :: .int t_scanned :: .int t_refusedAt :: .int t_cursor :: .int t_streamAt :: .int t_streamMany :: .int t_name :: .int t_from :: .int t_end :: .int t_sizeAt :: .int t_bitsAt :: .int t_colourAt :: .int t_colourEnd :: .int t_paletteAt :: .int t_mapAt :: .int t_mapEnd :: .int t_channelsAt :: .int t_captureAt :: .int t_displayAt :: .int t_resolved :: []))), (h_t_resolutions, .inl (cI, 12, .inl f_t_resolutions))] H := hP.sub [0, 1] rfl
    have hD : va_D A [(h_t, .inr (7, (.int t_thrown :: .int t_high :: .int t_wide :: .int t_components :: .ref h_t_bits :: .int t_unknown :: .int t_rights :: .int t_colours :: .int t_profiled :: .ref h_t_profile :: .int t_entries :: .int t_columns :: .ref h_t_columnBits :: .ref h_t_numbers :: .int t_maps :: .ref h_t_map :: .int t_lines :: .ref h_t_line :: .ref h_t_resolutions :: .ref h_t_file :: .int t_size :: .int t_scanned :: .int t_refusedAt :: .int t_cursor :: .int t_streamAt :: .int t_streamMany :: .int t_name :: .int t_from :: .int t_end :: .int t_sizeAt :: .int t_bitsAt :: .int t_colourAt :: .int t_colourEnd :: .int t_paletteAt :: .int t_mapAt :: .int t_mapEnd :: .int t_channelsAt :: .int t_captureAt :: .int t_displayAt :: .int t_resolved :: []))), (h_t_resolutions, .inl (cI, 12, .inl f_t_resolutions))] := hD.sub [0, 1] (by decide) rfl
    refine W.eq (g2 := F0 m 44 ls [.int x41]) rfl ?_
    have O := O.2
    have E : k_Mo_resolution_41 f_t_resolutions p1 p2 p3 p4 p5 p6 p7 j33_s0 x41 = RES := (congrArg (k_Mo_resolution_41 f_t_resolutions p1 p2 p3 p4 p5 p6 p7 j33_s0) hx41).trans E
    have O : ok_Mo_resolution_41 p1 p3 p4 p5 p6 p7 j33_s0 x41 := by rw [hx41]; exact O
    have J_120 : ∀ (j120_s0 : Int32), j_Mo_resolution_120 f_t_resolutions p1 p2 p3 p4 p5 p6 p7 j33_s0 j120_s0 = RES → oj_Mo_resolution_120 p1 j33_s0 j120_s0 → ∀ (H : Heap) (locs : List Loc), va_P D classes [(h_t, .inr (7, (.int t_thrown :: .int t_high :: .int t_wide :: .int t_components :: .ref h_t_bits :: .int t_unknown :: .int t_rights :: .int t_colours :: .int t_profiled :: .ref h_t_profile :: .int t_entries :: .int t_columns :: .ref h_t_columnBits :: .ref h_t_numbers :: .int t_maps :: .ref h_t_map :: .int t_lines :: .ref h_t_line :: .ref h_t_resolutions :: .ref h_t_file :: .int t_size :: .int t_scanned :: .int t_refusedAt :: .int t_cursor :: .int t_streamAt :: .int t_streamMany :: .int t_name :: .int t_from :: .int t_end :: .int t_sizeAt :: .int t_bitsAt :: .int t_colourAt :: .int t_colourEnd :: .int t_paletteAt :: .int t_mapAt :: .int t_mapEnd :: .int t_channelsAt :: .int t_captureAt :: .int t_displayAt :: .int t_resolved :: []))), (h_t_resolutions, .inl (cI, 12, .inl f_t_resolutions))] H → va_D A [(h_t, .inr (7, (.int t_thrown :: .int t_high :: .int t_wide :: .int t_components :: .ref h_t_bits :: .int t_unknown :: .int t_rights :: .int t_colours :: .int t_profiled :: .ref h_t_profile :: .int t_entries :: .int t_columns :: .ref h_t_columnBits :: .ref h_t_numbers :: .int t_maps :: .ref h_t_map :: .int t_lines :: .ref h_t_line :: .ref h_t_resolutions :: .ref h_t_file :: .int t_size :: .int t_scanned :: .int t_refusedAt :: .int t_cursor :: .int t_streamAt :: .int t_streamMany :: .int t_name :: .int t_from :: .int t_end :: .int t_sizeAt :: .int t_bitsAt :: .int t_colourAt :: .int t_colourEnd :: .int t_paletteAt :: .int t_mapAt :: .int t_mapEnd :: .int t_channelsAt :: .int t_captureAt :: .int t_displayAt :: .int t_resolved :: []))), (h_t_resolutions, .inl (cI, 12, .inl f_t_resolutions))] → va_S A s.heap H locs → ∀ ls : Array Slot, lv_has ls 11 [(8, .int j33_s0), (0, .ref h_t), (1, .int p1), (2, .int p2), (3, .int p3), (4, .int p4), (5, .int p5), (6, .int p6), (7, .int p7)] → W p l e R s m args below meth c H locs 0 0 Q (F0 m 120 ls [.int j120_s0]) := by
      intro j120_s0 E O H locs hP hD hS ls hl
      refine lv_istore (lv' := [(9, .int j120_s0), (8, .int j33_s0), (0, .ref h_t), (1, .int p1), (2, .int p2), (3, .int p3), (4, .int p4), (5, .int p5), (6, .int p6), (7, .int p7)]) hx hb d_Mo_resolution_120 hl (by decide) rfl (fun ls hl => ?_)
      refine lv_aload_n hx hb d_Mo_resolution_122 rfl (lv_at hl 2 rfl) ?_
      refine lv_iload hx hb d_Mo_resolution_123 (lv_at hl 1 rfl) ?_
      have J_138 : ∀ (j138_s1 : Int32), j_Mo_resolution_138 f_t_resolutions p1 p2 p3 p4 p5 p6 p7 j138_s1 = RES → oj_Mo_resolution_138 p1 j138_s1 → ∀ (H : Heap) (locs : List Loc), va_P D classes [(h_t, .inr (7, (.int t_thrown :: .int t_high :: .int t_wide :: .int t_components :: .ref h_t_bits :: .int t_unknown :: .int t_rights :: .int t_colours :: .int t_profiled :: .ref h_t_profile :: .int t_entries :: .int t_columns :: .ref h_t_columnBits :: .ref h_t_numbers :: .int t_maps :: .ref h_t_map :: .int t_lines :: .ref h_t_line :: .ref h_t_resolutions :: .ref h_t_file :: .int t_size :: .int t_scanned :: .int t_refusedAt :: .int t_cursor :: .int t_streamAt :: .int t_streamMany :: .int t_name :: .int t_from :: .int t_end :: .int t_sizeAt :: .int t_bitsAt :: .int t_colourAt :: .int t_colourEnd :: .int t_paletteAt :: .int t_mapAt :: .int t_mapEnd :: .int t_channelsAt :: .int t_captureAt :: .int t_displayAt :: .int t_resolved :: []))), (h_t_resolutions, .inl (cI, 12, .inl f_t_resolutions))] H → va_D A [(h_t, .inr (7, (.int t_thrown :: .int t_high :: .int t_wide :: .int t_components :: .ref h_t_bits :: .int t_unknown :: .int t_rights :: .int t_colours :: .int t_profiled :: .ref h_t_profile :: .int t_entries :: .int t_columns :: .ref h_t_columnBits :: .ref h_t_numbers :: .int t_maps :: .ref h_t_map :: .int t_lines :: .ref h_t_line :: .ref h_t_resolutions :: .ref h_t_file :: .int t_size :: .int t_scanned :: .int t_refusedAt :: .int t_cursor :: .int t_streamAt :: .int t_streamMany :: .int t_name :: .int t_from :: .int t_end :: .int t_sizeAt :: .int t_bitsAt :: .int t_colourAt :: .int t_colourEnd :: .int t_paletteAt :: .int t_mapAt :: .int t_mapEnd :: .int t_channelsAt :: .int t_captureAt :: .int t_displayAt :: .int t_resolved :: []))), (h_t_resolutions, .inl (cI, 12, .inl f_t_resolutions))] → va_S A s.heap H locs → ∀ ls : Array Slot, lv_has ls 11 [(0, .ref h_t), (1, .int p1), (2, .int p2), (3, .int p3), (4, .int p4), (5, .int p5), (6, .int p6), (7, .int p7)] → W p l e R s m args below meth c H locs 0 0 Q (F0 m 138 ls [.int j138_s1, .ref h_t]) := by
        intro j138_s1 E O H locs hP hD hS ls hl
        refine kc_V (As := [.int j138_s1]) (rest := []) (wr := [(h_t_resolutions, .inl (cI, 12, .inl f_t_resolutions))]) [0] [1] ⟨hx, hb, hml, hown, hta⟩ hK hN hP hD hS hA (c_Mo_refuse l D cB cI cJ h_t h_t_bits h_t_profile h_t_columnBits h_t_numbers h_t_map h_t_line h_t_resolutions h_t_file t_thrown t_high t_wide t_components t_unknown t_rights t_colours t_profiled t_entries t_columns t_maps t_lines t_size t_scanned t_refusedAt t_cursor t_streamAt t_streamMany t_name t_from t_end t_sizeAt t_bitsAt t_colourAt t_colourEnd t_paletteAt t_mapAt t_mapEnd t_channelsAt t_captureAt t_displayAt t_resolved j138_s1 O.1 _) (hta _ lk_Mo_89) (hta _ ini_Mo) (hta _ code_Mo_refuse) code_Mo_refuse (hta _ inst_Mo_refuse) (hta _ sel_Mo_refuse) hd_Mo_refuse rfl ⟨by omega, by omega⟩ (ci := 7) 0 rfl rfl rfl rfl (by decide) (by decide) (by decide) rfl hl.1 (lv_room (Nat.le_of_ble_eq_true rfl)) d_Mo_resolution_138 ⟨by omega, by omega⟩ (fun v w1 H locs hw hP hD hS => ?_)
        obtain ⟨x138, hx138, rfl, rfl⟩ := hw
        have hP : va_P D classes [(h_t, .inr (7, (.int x138.2 :: .int t_high :: .int t_wide :: .int t_components :: .ref h_t_bits :: .int t_unknown :: .int t_rights :: .int t_colours :: .int t_profiled :: .ref h_t_profile :: .int t_entries :: .int t_columns :: .ref h_t_columnBits :: .ref h_t_numbers :: .int t_maps :: .ref h_t_map :: .int t_lines :: .ref h_t_line :: .ref h_t_resolutions :: .ref h_t_file :: .int t_size :: .int t_scanned :: .int t_refusedAt :: .int t_cursor :: .int t_streamAt :: .int t_streamMany :: .int t_name :: .int t_from :: .int t_end :: .int t_sizeAt :: .int t_bitsAt :: .int t_colourAt :: .int t_colourEnd :: .int t_paletteAt :: .int t_mapAt :: .int t_mapEnd :: .int t_channelsAt :: .int t_captureAt :: .int t_displayAt :: .int t_resolved :: []))), (h_t_resolutions, .inl (cI, 12, .inl f_t_resolutions))] H := hP.sub [1, 0] rfl
        have hD : va_D A [(h_t, .inr (7, (.int x138.2 :: .int t_high :: .int t_wide :: .int t_components :: .ref h_t_bits :: .int t_unknown :: .int t_rights :: .int t_colours :: .int t_profiled :: .ref h_t_profile :: .int t_entries :: .int t_columns :: .ref h_t_columnBits :: .ref h_t_numbers :: .int t_maps :: .ref h_t_map :: .int t_lines :: .ref h_t_line :: .ref h_t_resolutions :: .ref h_t_file :: .int t_size :: .int t_scanned :: .int t_refusedAt :: .int t_cursor :: .int t_streamAt :: .int t_streamMany :: .int t_name :: .int t_from :: .int t_end :: .int t_sizeAt :: .int t_bitsAt :: .int t_colourAt :: .int t_colourEnd :: .int t_paletteAt :: .int t_mapAt :: .int t_mapEnd :: .int t_channelsAt :: .int t_captureAt :: .int t_displayAt :: .int t_resolved :: []))), (h_t_resolutions, .inl (cI, 12, .inl f_t_resolutions))] := hD.sub [1, 0] (by decide) rfl
        refine W.eq (g2 := F0 m 141 ls [.int x138.1]) rfl ?_
        have O := O.2
        have E : k_Mo_resolution_138 f_t_resolutions p1 p2 p3 p4 p5 p6 p7 x138 = RES := (congrArg (k_Mo_resolution_138 f_t_resolutions p1 p2 p3 p4 p5 p6 p7) hx138).trans E
        have O : ok_Mo_resolution_138 p1 x138 := by rw [hx138]; exact O
        refine lv_if_eq (tgt := 145) hx hb d_Mo_resolution_141 (by decide) (fun c_141 => ?_) (fun c_141 => ?_)
        · have E := (if_pos c_141).symm.trans E
          have O := Eq.mp (if_pos c_141) O
          refine lv_iload_n hx hb d_Mo_resolution_145 rfl (lv_at hl 1 rfl) ?_
          have J_155 : ∀ (j155_s0 : Int32), j_Mo_resolution_155 f_t_resolutions p2 p3 p4 p5 p6 p7 x138 j155_s0 = RES → oj_Mo_resolution_155 j155_s0 → ∀ (H : Heap) (locs : List Loc), va_P D classes [(h_t, .inr (7, (.int x138.2 :: .int t_high :: .int t_wide :: .int t_components :: .ref h_t_bits :: .int t_unknown :: .int t_rights :: .int t_colours :: .int t_profiled :: .ref h_t_profile :: .int t_entries :: .int t_columns :: .ref h_t_columnBits :: .ref h_t_numbers :: .int t_maps :: .ref h_t_map :: .int t_lines :: .ref h_t_line :: .ref h_t_resolutions :: .ref h_t_file :: .int t_size :: .int t_scanned :: .int t_refusedAt :: .int t_cursor :: .int t_streamAt :: .int t_streamMany :: .int t_name :: .int t_from :: .int t_end :: .int t_sizeAt :: .int t_bitsAt :: .int t_colourAt :: .int t_colourEnd :: .int t_paletteAt :: .int t_mapAt :: .int t_mapEnd :: .int t_channelsAt :: .int t_captureAt :: .int t_displayAt :: .int t_resolved :: []))), (h_t_resolutions, .inl (cI, 12, .inl f_t_resolutions))] H → va_D A [(h_t, .inr (7, (.int x138.2 :: .int t_high :: .int t_wide :: .int t_components :: .ref h_t_bits :: .int t_unknown :: .int t_rights :: .int t_colours :: .int t_profiled :: .ref h_t_profile :: .int t_entries :: .int t_columns :: .ref h_t_columnBits :: .ref h_t_numbers :: .int t_maps :: .ref h_t_map :: .int t_lines :: .ref h_t_line :: .ref h_t_resolutions :: .ref h_t_file :: .int t_size :: .int t_scanned :: .int t_refusedAt :: .int t_cursor :: .int t_streamAt :: .int t_streamMany :: .int t_name :: .int t_from :: .int t_end :: .int t_sizeAt :: .int t_bitsAt :: .int t_colourAt :: .int t_colourEnd :: .int t_paletteAt :: .int t_mapAt :: .int t_mapEnd :: .int t_channelsAt :: .int t_captureAt :: .int t_displayAt :: .int t_resolved :: []))), (h_t_resolutions, .inl (cI, 12, .inl f_t_resolutions))] → va_S A s.heap H locs → ∀ ls : Array Slot, lv_has ls 11 [(0, .ref h_t), (2, .int p2), (3, .int p3), (4, .int p4), (5, .int p5), (6, .int p6), (7, .int p7)] → W p l e R s m args below meth c H locs 0 0 Q (F0 m 155 ls [.int j155_s0]) := by
            intro j155_s0 E O H locs hP hD hS ls hl
            refine lv_istore (lv' := [(10, .int j155_s0), (0, .ref h_t), (2, .int p2), (3, .int p3), (4, .int p4), (5, .int p5), (6, .int p6), (7, .int p7)]) hx hb d_Mo_resolution_155 hl (by decide) rfl (fun ls hl => ?_)
            refine lv_aload_n hx hb d_Mo_resolution_157 rfl (lv_at hl 1 rfl) ?_
            refine va_get (D := D) (v := .ref h_t_resolutions) hx hb hta i_Mo hown hK hP 0 rfl rfl 18 (by decide) (hta _ lk_Mo_33) (fun _ h9 => h9) rfl d_Mo_resolution_158 ?_
            refine lv_iload hx hb d_Mo_resolution_161 (lv_at hl 0 rfl) ?_
            refine lv_iload_n hx hb d_Mo_resolution_163 rfl (lv_at hl 2 rfl) ?_
            refine va_iast hx hb hK hP hD hS 1 1 rfl rfl O.1 d_Mo_resolution_164 (fun H locs (hP : va_P D classes [(h_t, .inr (7, (.int x138.2 :: .int t_high :: .int t_wide :: .int t_components :: .ref h_t_bits :: .int t_unknown :: .int t_rights :: .int t_colours :: .int t_profiled :: .ref h_t_profile :: .int t_entries :: .int t_columns :: .ref h_t_columnBits :: .ref h_t_numbers :: .int t_maps :: .ref h_t_map :: .int t_lines :: .ref h_t_line :: .ref h_t_resolutions :: .ref h_t_file :: .int t_size :: .int t_scanned :: .int t_refusedAt :: .int t_cursor :: .int t_streamAt :: .int t_streamMany :: .int t_name :: .int t_from :: .int t_end :: .int t_sizeAt :: .int t_bitsAt :: .int t_colourAt :: .int t_colourEnd :: .int t_paletteAt :: .int t_mapAt :: .int t_mapEnd :: .int t_channelsAt :: .int t_captureAt :: .int t_displayAt :: .int t_resolved :: []))), (h_t_resolutions, .inl (cI, 12, .inl (upd f_t_resolutions j155_s0.toNatClampNeg p2)))] H) (hD : va_D A [(h_t, .inr (7, (.int x138.2 :: .int t_high :: .int t_wide :: .int t_components :: .ref h_t_bits :: .int t_unknown :: .int t_rights :: .int t_colours :: .int t_profiled :: .ref h_t_profile :: .int t_entries :: .int t_columns :: .ref h_t_columnBits :: .ref h_t_numbers :: .int t_maps :: .ref h_t_map :: .int t_lines :: .ref h_t_line :: .ref h_t_resolutions :: .ref h_t_file :: .int t_size :: .int t_scanned :: .int t_refusedAt :: .int t_cursor :: .int t_streamAt :: .int t_streamMany :: .int t_name :: .int t_from :: .int t_end :: .int t_sizeAt :: .int t_bitsAt :: .int t_colourAt :: .int t_colourEnd :: .int t_paletteAt :: .int t_mapAt :: .int t_mapEnd :: .int t_channelsAt :: .int t_captureAt :: .int t_displayAt :: .int t_resolved :: []))), (h_t_resolutions, .inl (cI, 12, .inl (upd f_t_resolutions j155_s0.toNatClampNeg p2)))]) hS => ?_)
            have O := O.2
            refine lv_aload_n hx hb d_Mo_resolution_165 rfl (lv_at hl 1 rfl) ?_
            refine va_get (D := D) (v := .ref h_t_resolutions) hx hb hta i_Mo hown hK hP 0 rfl rfl 18 (by decide) (hta _ lk_Mo_33) (fun _ h9 => h9) rfl d_Mo_resolution_166 ?_
            refine lv_iload hx hb d_Mo_resolution_169 (lv_at hl 0 rfl) ?_
            refine lv_iconst (v := 1) hx hb d_Mo_resolution_171 (by decide) ?_
            refine lv_iadd hx hb d_Mo_resolution_172 ?_
            refine lv_iload_n hx hb d_Mo_resolution_173 rfl (lv_at hl 3 rfl) ?_
            refine va_iast hx hb hK hP hD hS 1 1 rfl rfl O.1 d_Mo_resolution_174 (fun H locs (hP : va_P D classes [(h_t, .inr (7, (.int x138.2 :: .int t_high :: .int t_wide :: .int t_components :: .ref h_t_bits :: .int t_unknown :: .int t_rights :: .int t_colours :: .int t_profiled :: .ref h_t_profile :: .int t_entries :: .int t_columns :: .ref h_t_columnBits :: .ref h_t_numbers :: .int t_maps :: .ref h_t_map :: .int t_lines :: .ref h_t_line :: .ref h_t_resolutions :: .ref h_t_file :: .int t_size :: .int t_scanned :: .int t_refusedAt :: .int t_cursor :: .int t_streamAt :: .int t_streamMany :: .int t_name :: .int t_from :: .int t_end :: .int t_sizeAt :: .int t_bitsAt :: .int t_colourAt :: .int t_colourEnd :: .int t_paletteAt :: .int t_mapAt :: .int t_mapEnd :: .int t_channelsAt :: .int t_captureAt :: .int t_displayAt :: .int t_resolved :: []))), (h_t_resolutions, .inl (cI, 12, .inl (upd (upd f_t_resolutions j155_s0.toNatClampNeg p2) (j155_s0 + 1).toNatClampNeg p3)))] H) (hD : va_D A [(h_t, .inr (7, (.int x138.2 :: .int t_high :: .int t_wide :: .int t_components :: .ref h_t_bits :: .int t_unknown :: .int t_rights :: .int t_colours :: .int t_profiled :: .ref h_t_profile :: .int t_entries :: .int t_columns :: .ref h_t_columnBits :: .ref h_t_numbers :: .int t_maps :: .ref h_t_map :: .int t_lines :: .ref h_t_line :: .ref h_t_resolutions :: .ref h_t_file :: .int t_size :: .int t_scanned :: .int t_refusedAt :: .int t_cursor :: .int t_streamAt :: .int t_streamMany :: .int t_name :: .int t_from :: .int t_end :: .int t_sizeAt :: .int t_bitsAt :: .int t_colourAt :: .int t_colourEnd :: .int t_paletteAt :: .int t_mapAt :: .int t_mapEnd :: .int t_channelsAt :: .int t_captureAt :: .int t_displayAt :: .int t_resolved :: []))), (h_t_resolutions, .inl (cI, 12, .inl (upd (upd f_t_resolutions j155_s0.toNatClampNeg p2) (j155_s0 + 1).toNatClampNeg p3)))]) hS => ?_)
            have O := O.2
            refine lv_aload_n hx hb d_Mo_resolution_175 rfl (lv_at hl 1 rfl) ?_
            refine va_get (D := D) (v := .ref h_t_resolutions) hx hb hta i_Mo hown hK hP 0 rfl rfl 18 (by decide) (hta _ lk_Mo_33) (fun _ h9 => h9) rfl d_Mo_resolution_176 ?_
            refine lv_iload hx hb d_Mo_resolution_179 (lv_at hl 0 rfl) ?_
            refine lv_iconst (v := 2) hx hb d_Mo_resolution_181 (by decide) ?_
            refine lv_iadd hx hb d_Mo_resolution_182 ?_
            refine lv_iload hx hb d_Mo_resolution_183 (lv_at hl 4 rfl) ?_
            refine va_iast hx hb hK hP hD hS 1 1 rfl rfl O.1 d_Mo_resolution_185 (fun H locs (hP : va_P D classes [(h_t, .inr (7, (.int x138.2 :: .int t_high :: .int t_wide :: .int t_components :: .ref h_t_bits :: .int t_unknown :: .int t_rights :: .int t_colours :: .int t_profiled :: .ref h_t_profile :: .int t_entries :: .int t_columns :: .ref h_t_columnBits :: .ref h_t_numbers :: .int t_maps :: .ref h_t_map :: .int t_lines :: .ref h_t_line :: .ref h_t_resolutions :: .ref h_t_file :: .int t_size :: .int t_scanned :: .int t_refusedAt :: .int t_cursor :: .int t_streamAt :: .int t_streamMany :: .int t_name :: .int t_from :: .int t_end :: .int t_sizeAt :: .int t_bitsAt :: .int t_colourAt :: .int t_colourEnd :: .int t_paletteAt :: .int t_mapAt :: .int t_mapEnd :: .int t_channelsAt :: .int t_captureAt :: .int t_displayAt :: .int t_resolved :: []))), (h_t_resolutions, .inl (cI, 12, .inl (upd (upd (upd f_t_resolutions j155_s0.toNatClampNeg p2) (j155_s0 + 1).toNatClampNeg p3) (j155_s0 + 2).toNatClampNeg p4)))] H) (hD : va_D A [(h_t, .inr (7, (.int x138.2 :: .int t_high :: .int t_wide :: .int t_components :: .ref h_t_bits :: .int t_unknown :: .int t_rights :: .int t_colours :: .int t_profiled :: .ref h_t_profile :: .int t_entries :: .int t_columns :: .ref h_t_columnBits :: .ref h_t_numbers :: .int t_maps :: .ref h_t_map :: .int t_lines :: .ref h_t_line :: .ref h_t_resolutions :: .ref h_t_file :: .int t_size :: .int t_scanned :: .int t_refusedAt :: .int t_cursor :: .int t_streamAt :: .int t_streamMany :: .int t_name :: .int t_from :: .int t_end :: .int t_sizeAt :: .int t_bitsAt :: .int t_colourAt :: .int t_colourEnd :: .int t_paletteAt :: .int t_mapAt :: .int t_mapEnd :: .int t_channelsAt :: .int t_captureAt :: .int t_displayAt :: .int t_resolved :: []))), (h_t_resolutions, .inl (cI, 12, .inl (upd (upd (upd f_t_resolutions j155_s0.toNatClampNeg p2) (j155_s0 + 1).toNatClampNeg p3) (j155_s0 + 2).toNatClampNeg p4)))]) hS => ?_)
            have O := O.2
            refine lv_aload_n hx hb d_Mo_resolution_186 rfl (lv_at hl 1 rfl) ?_
            refine va_get (D := D) (v := .ref h_t_resolutions) hx hb hta i_Mo hown hK hP 0 rfl rfl 18 (by decide) (hta _ lk_Mo_33) (fun _ h9 => h9) rfl d_Mo_resolution_187 ?_
            refine lv_iload hx hb d_Mo_resolution_190 (lv_at hl 0 rfl) ?_
            refine lv_iconst (v := 3) hx hb d_Mo_resolution_192 (by decide) ?_
            refine lv_iadd hx hb d_Mo_resolution_193 ?_
            refine lv_iload hx hb d_Mo_resolution_194 (lv_at hl 5 rfl) ?_
            refine va_iast hx hb hK hP hD hS 1 1 rfl rfl O.1 d_Mo_resolution_196 (fun H locs (hP : va_P D classes [(h_t, .inr (7, (.int x138.2 :: .int t_high :: .int t_wide :: .int t_components :: .ref h_t_bits :: .int t_unknown :: .int t_rights :: .int t_colours :: .int t_profiled :: .ref h_t_profile :: .int t_entries :: .int t_columns :: .ref h_t_columnBits :: .ref h_t_numbers :: .int t_maps :: .ref h_t_map :: .int t_lines :: .ref h_t_line :: .ref h_t_resolutions :: .ref h_t_file :: .int t_size :: .int t_scanned :: .int t_refusedAt :: .int t_cursor :: .int t_streamAt :: .int t_streamMany :: .int t_name :: .int t_from :: .int t_end :: .int t_sizeAt :: .int t_bitsAt :: .int t_colourAt :: .int t_colourEnd :: .int t_paletteAt :: .int t_mapAt :: .int t_mapEnd :: .int t_channelsAt :: .int t_captureAt :: .int t_displayAt :: .int t_resolved :: []))), (h_t_resolutions, .inl (cI, 12, .inl (upd (upd (upd (upd f_t_resolutions j155_s0.toNatClampNeg p2) (j155_s0 + 1).toNatClampNeg p3) (j155_s0 + 2).toNatClampNeg p4) (j155_s0 + 3).toNatClampNeg p5)))] H) (hD : va_D A [(h_t, .inr (7, (.int x138.2 :: .int t_high :: .int t_wide :: .int t_components :: .ref h_t_bits :: .int t_unknown :: .int t_rights :: .int t_colours :: .int t_profiled :: .ref h_t_profile :: .int t_entries :: .int t_columns :: .ref h_t_columnBits :: .ref h_t_numbers :: .int t_maps :: .ref h_t_map :: .int t_lines :: .ref h_t_line :: .ref h_t_resolutions :: .ref h_t_file :: .int t_size :: .int t_scanned :: .int t_refusedAt :: .int t_cursor :: .int t_streamAt :: .int t_streamMany :: .int t_name :: .int t_from :: .int t_end :: .int t_sizeAt :: .int t_bitsAt :: .int t_colourAt :: .int t_colourEnd :: .int t_paletteAt :: .int t_mapAt :: .int t_mapEnd :: .int t_channelsAt :: .int t_captureAt :: .int t_displayAt :: .int t_resolved :: []))), (h_t_resolutions, .inl (cI, 12, .inl (upd (upd (upd (upd f_t_resolutions j155_s0.toNatClampNeg p2) (j155_s0 + 1).toNatClampNeg p3) (j155_s0 + 2).toNatClampNeg p4) (j155_s0 + 3).toNatClampNeg p5)))]) hS => ?_)
            have O := O.2
            refine lv_aload_n hx hb d_Mo_resolution_197 rfl (lv_at hl 1 rfl) ?_
            refine va_get (D := D) (v := .ref h_t_resolutions) hx hb hta i_Mo hown hK hP 0 rfl rfl 18 (by decide) (hta _ lk_Mo_33) (fun _ h9 => h9) rfl d_Mo_resolution_198 ?_
            refine lv_iload hx hb d_Mo_resolution_201 (lv_at hl 0 rfl) ?_
            refine lv_iconst (v := 4) hx hb d_Mo_resolution_203 (by decide) ?_
            refine lv_iadd hx hb d_Mo_resolution_204 ?_
            refine lv_iload hx hb d_Mo_resolution_205 (lv_at hl 6 rfl) ?_
            refine va_iast hx hb hK hP hD hS 1 1 rfl rfl O.1 d_Mo_resolution_207 (fun H locs (hP : va_P D classes [(h_t, .inr (7, (.int x138.2 :: .int t_high :: .int t_wide :: .int t_components :: .ref h_t_bits :: .int t_unknown :: .int t_rights :: .int t_colours :: .int t_profiled :: .ref h_t_profile :: .int t_entries :: .int t_columns :: .ref h_t_columnBits :: .ref h_t_numbers :: .int t_maps :: .ref h_t_map :: .int t_lines :: .ref h_t_line :: .ref h_t_resolutions :: .ref h_t_file :: .int t_size :: .int t_scanned :: .int t_refusedAt :: .int t_cursor :: .int t_streamAt :: .int t_streamMany :: .int t_name :: .int t_from :: .int t_end :: .int t_sizeAt :: .int t_bitsAt :: .int t_colourAt :: .int t_colourEnd :: .int t_paletteAt :: .int t_mapAt :: .int t_mapEnd :: .int t_channelsAt :: .int t_captureAt :: .int t_displayAt :: .int t_resolved :: []))), (h_t_resolutions, .inl (cI, 12, .inl (upd (upd (upd (upd (upd f_t_resolutions j155_s0.toNatClampNeg p2) (j155_s0 + 1).toNatClampNeg p3) (j155_s0 + 2).toNatClampNeg p4) (j155_s0 + 3).toNatClampNeg p5) (j155_s0 + 4).toNatClampNeg p6)))] H) (hD : va_D A [(h_t, .inr (7, (.int x138.2 :: .int t_high :: .int t_wide :: .int t_components :: .ref h_t_bits :: .int t_unknown :: .int t_rights :: .int t_colours :: .int t_profiled :: .ref h_t_profile :: .int t_entries :: .int t_columns :: .ref h_t_columnBits :: .ref h_t_numbers :: .int t_maps :: .ref h_t_map :: .int t_lines :: .ref h_t_line :: .ref h_t_resolutions :: .ref h_t_file :: .int t_size :: .int t_scanned :: .int t_refusedAt :: .int t_cursor :: .int t_streamAt :: .int t_streamMany :: .int t_name :: .int t_from :: .int t_end :: .int t_sizeAt :: .int t_bitsAt :: .int t_colourAt :: .int t_colourEnd :: .int t_paletteAt :: .int t_mapAt :: .int t_mapEnd :: .int t_channelsAt :: .int t_captureAt :: .int t_displayAt :: .int t_resolved :: []))), (h_t_resolutions, .inl (cI, 12, .inl (upd (upd (upd (upd (upd f_t_resolutions j155_s0.toNatClampNeg p2) (j155_s0 + 1).toNatClampNeg p3) (j155_s0 + 2).toNatClampNeg p4) (j155_s0 + 3).toNatClampNeg p5) (j155_s0 + 4).toNatClampNeg p6)))]) hS => ?_)
            have O := O.2
            refine lv_aload_n hx hb d_Mo_resolution_208 rfl (lv_at hl 1 rfl) ?_
            refine va_get (D := D) (v := .ref h_t_resolutions) hx hb hta i_Mo hown hK hP 0 rfl rfl 18 (by decide) (hta _ lk_Mo_33) (fun _ h9 => h9) rfl d_Mo_resolution_209 ?_
            refine lv_iload hx hb d_Mo_resolution_212 (lv_at hl 0 rfl) ?_
            refine lv_iconst (v := 5) hx hb d_Mo_resolution_214 (by decide) ?_
            refine lv_iadd hx hb d_Mo_resolution_215 ?_
            refine lv_iload hx hb d_Mo_resolution_216 (lv_at hl 7 rfl) ?_
            refine va_iast hx hb hK hP hD hS 1 1 rfl rfl O.1 d_Mo_resolution_218 (fun H locs (hP : va_P D classes [(h_t, .inr (7, (.int x138.2 :: .int t_high :: .int t_wide :: .int t_components :: .ref h_t_bits :: .int t_unknown :: .int t_rights :: .int t_colours :: .int t_profiled :: .ref h_t_profile :: .int t_entries :: .int t_columns :: .ref h_t_columnBits :: .ref h_t_numbers :: .int t_maps :: .ref h_t_map :: .int t_lines :: .ref h_t_line :: .ref h_t_resolutions :: .ref h_t_file :: .int t_size :: .int t_scanned :: .int t_refusedAt :: .int t_cursor :: .int t_streamAt :: .int t_streamMany :: .int t_name :: .int t_from :: .int t_end :: .int t_sizeAt :: .int t_bitsAt :: .int t_colourAt :: .int t_colourEnd :: .int t_paletteAt :: .int t_mapAt :: .int t_mapEnd :: .int t_channelsAt :: .int t_captureAt :: .int t_displayAt :: .int t_resolved :: []))), (h_t_resolutions, .inl (cI, 12, .inl (upd (upd (upd (upd (upd (upd f_t_resolutions j155_s0.toNatClampNeg p2) (j155_s0 + 1).toNatClampNeg p3) (j155_s0 + 2).toNatClampNeg p4) (j155_s0 + 3).toNatClampNeg p5) (j155_s0 + 4).toNatClampNeg p6) (j155_s0 + 5).toNatClampNeg p7)))] H) (hD : va_D A [(h_t, .inr (7, (.int x138.2 :: .int t_high :: .int t_wide :: .int t_components :: .ref h_t_bits :: .int t_unknown :: .int t_rights :: .int t_colours :: .int t_profiled :: .ref h_t_profile :: .int t_entries :: .int t_columns :: .ref h_t_columnBits :: .ref h_t_numbers :: .int t_maps :: .ref h_t_map :: .int t_lines :: .ref h_t_line :: .ref h_t_resolutions :: .ref h_t_file :: .int t_size :: .int t_scanned :: .int t_refusedAt :: .int t_cursor :: .int t_streamAt :: .int t_streamMany :: .int t_name :: .int t_from :: .int t_end :: .int t_sizeAt :: .int t_bitsAt :: .int t_colourAt :: .int t_colourEnd :: .int t_paletteAt :: .int t_mapAt :: .int t_mapEnd :: .int t_channelsAt :: .int t_captureAt :: .int t_displayAt :: .int t_resolved :: []))), (h_t_resolutions, .inl (cI, 12, .inl (upd (upd (upd (upd (upd (upd f_t_resolutions j155_s0.toNatClampNeg p2) (j155_s0 + 1).toNatClampNeg p3) (j155_s0 + 2).toNatClampNeg p4) (j155_s0 + 3).toNatClampNeg p5) (j155_s0 + 4).toNatClampNeg p6) (j155_s0 + 5).toNatClampNeg p7)))]) hS => ?_)
            have O := O.2
            exact kr_v hx hb hr hlk hQ hK hP hD hS ⟨((x138.2, upd (upd (upd (upd (upd (upd f_t_resolutions j155_s0.toNatClampNeg p2) (j155_s0 + 1).toNatClampNeg p3) (j155_s0 + 2).toNatClampNeg p4) (j155_s0 + 3).toNatClampNeg p5) (j155_s0 + 4).toNatClampNeg p6) (j155_s0 + 5).toNatClampNeg p7) : Int32 × (Nat → Int32)), E.trans E0.symm, rfl, rfl⟩ (by omega) (by omega) d_Mo_resolution_219
          refine lv_if_eq (tgt := 154) hx hb d_Mo_resolution_146 (by decide) (fun c_146 => ?_) (fun c_146 => ?_)
          · have E := (if_pos c_146).symm.trans E
            have O := Eq.mp (if_pos c_146) O
            refine lv_iconst (v := 0) hx hb d_Mo_resolution_154 (by decide) ?_
            exact J_155 0 E O _ _ hP hD hS ls (lv_sub hl [0, 2, 3, 4, 5, 6, 7] rfl)
          · have E := (if_neg c_146).symm.trans E
            have O := Eq.mp (if_neg c_146) O
            refine lv_bipush (v := 6) hx hb d_Mo_resolution_149 (by decide) ?_
            refine lv_goto (tgt := 155) hx hb d_Mo_resolution_151 (by decide) ?_
            exact J_155 6 E O _ _ hP hD hS ls (lv_sub hl [0, 2, 3, 4, 5, 6, 7] rfl)
        · have E := (if_neg c_141).symm.trans E
          have O := Eq.mp (if_neg c_141) O
          exact kr_v hx hb hr hlk hQ hK hP hD hS ⟨((x138.2, f_t_resolutions) : Int32 × (Nat → Int32)), E.trans E0.symm, rfl, rfl⟩ (by omega) (by omega) d_Mo_resolution_144
      have J_137 : j_Mo_resolution_137 f_t_resolutions p1 p2 p3 p4 p5 p6 p7 = RES → oj_Mo_resolution_137 p1 → ∀ (H : Heap) (locs : List Loc), va_P D classes [(h_t, .inr (7, (.int t_thrown :: .int t_high :: .int t_wide :: .int t_components :: .ref h_t_bits :: .int t_unknown :: .int t_rights :: .int t_colours :: .int t_profiled :: .ref h_t_profile :: .int t_entries :: .int t_columns :: .ref h_t_columnBits :: .ref h_t_numbers :: .int t_maps :: .ref h_t_map :: .int t_lines :: .ref h_t_line :: .ref h_t_resolutions :: .ref h_t_file :: .int t_size :: .int t_scanned :: .int t_refusedAt :: .int t_cursor :: .int t_streamAt :: .int t_streamMany :: .int t_name :: .int t_from :: .int t_end :: .int t_sizeAt :: .int t_bitsAt :: .int t_colourAt :: .int t_colourEnd :: .int t_paletteAt :: .int t_mapAt :: .int t_mapEnd :: .int t_channelsAt :: .int t_captureAt :: .int t_displayAt :: .int t_resolved :: []))), (h_t_resolutions, .inl (cI, 12, .inl f_t_resolutions))] H → va_D A [(h_t, .inr (7, (.int t_thrown :: .int t_high :: .int t_wide :: .int t_components :: .ref h_t_bits :: .int t_unknown :: .int t_rights :: .int t_colours :: .int t_profiled :: .ref h_t_profile :: .int t_entries :: .int t_columns :: .ref h_t_columnBits :: .ref h_t_numbers :: .int t_maps :: .ref h_t_map :: .int t_lines :: .ref h_t_line :: .ref h_t_resolutions :: .ref h_t_file :: .int t_size :: .int t_scanned :: .int t_refusedAt :: .int t_cursor :: .int t_streamAt :: .int t_streamMany :: .int t_name :: .int t_from :: .int t_end :: .int t_sizeAt :: .int t_bitsAt :: .int t_colourAt :: .int t_colourEnd :: .int t_paletteAt :: .int t_mapAt :: .int t_mapEnd :: .int t_channelsAt :: .int t_captureAt :: .int t_displayAt :: .int t_resolved :: []))), (h_t_resolutions, .inl (cI, 12, .inl f_t_resolutions))] → va_S A s.heap H locs → ∀ ls : Array Slot, lv_has ls 11 [(0, .ref h_t), (1, .int p1), (2, .int p2), (3, .int p3), (4, .int p4), (5, .int p5), (6, .int p6), (7, .int p7)] → W p l e R s m args below meth c H locs 0 0 Q (F0 m 137 ls [.ref h_t]) := by
        intro E O H locs hP hD hS ls hl
        refine lv_iconst (v := 0) hx hb d_Mo_resolution_137 (by decide) ?_
        exact J_138 0 E O _ _ hP hD hS ls (lv_sub hl [0, 1, 2, 3, 4, 5, 6, 7] rfl)
      refine lv_if_ne (tgt := 137) hx hb d_Mo_resolution_125 (by decide) (fun c_125 => ?_) (fun c_125 => ?_)
      · have E := (if_neg c_125).symm.trans E
        have O := Eq.mp (if_neg c_125) O
        exact J_137  E O _ _ hP hD hS ls (lv_sub hl [2, 3, 4, 5, 6, 7, 8, 9] rfl)
      · have E := (if_pos c_125).symm.trans E
        have O := Eq.mp (if_pos c_125) O
        refine lv_iload hx hb d_Mo_resolution_128 (lv_at hl 0 rfl) ?_
        refine lv_if_ne (tgt := 137) hx hb d_Mo_resolution_130 (by decide) (fun c_130 => ?_) (fun c_130 => ?_)
        · have E := (if_neg c_130).symm.trans E
          have O := Eq.mp (if_neg c_130) O
          exact J_137  E O _ _ hP hD hS ls (lv_sub hl [2, 3, 4, 5, 6, 7, 8, 9] rfl)
        · have E := (if_pos c_130).symm.trans E
          have O := Eq.mp (if_pos c_130) O
          refine lv_iconst (v := 1) hx hb d_Mo_resolution_133 (by decide) ?_
          refine lv_goto (tgt := 138) hx hb d_Mo_resolution_134 (by decide) ?_
          exact J_138 1 E O _ _ hP hD hS ls (lv_sub hl [2, 3, 4, 5, 6, 7, 8, 9] rfl)
    have J_119 : j_Mo_resolution_119 f_t_resolutions p1 p2 p3 p4 p5 p6 p7 j33_s0 = RES → oj_Mo_resolution_119 p1 j33_s0 → ∀ (H : Heap) (locs : List Loc), va_P D classes [(h_t, .inr (7, (.int t_thrown :: .int t_high :: .int t_wide :: .int t_components :: .ref h_t_bits :: .int t_unknown :: .int t_rights :: .int t_colours :: .int t_profiled :: .ref h_t_profile :: .int t_entries :: .int t_columns :: .ref h_t_columnBits :: .ref h_t_numbers :: .int t_maps :: .ref h_t_map :: .int t_lines :: .ref h_t_line :: .ref h_t_resolutions :: .ref h_t_file :: .int t_size :: .int t_scanned :: .int t_refusedAt :: .int t_cursor :: .int t_streamAt :: .int t_streamMany :: .int t_name :: .int t_from :: .int t_end :: .int t_sizeAt :: .int t_bitsAt :: .int t_colourAt :: .int t_colourEnd :: .int t_paletteAt :: .int t_mapAt :: .int t_mapEnd :: .int t_channelsAt :: .int t_captureAt :: .int t_displayAt :: .int t_resolved :: []))), (h_t_resolutions, .inl (cI, 12, .inl f_t_resolutions))] H → va_D A [(h_t, .inr (7, (.int t_thrown :: .int t_high :: .int t_wide :: .int t_components :: .ref h_t_bits :: .int t_unknown :: .int t_rights :: .int t_colours :: .int t_profiled :: .ref h_t_profile :: .int t_entries :: .int t_columns :: .ref h_t_columnBits :: .ref h_t_numbers :: .int t_maps :: .ref h_t_map :: .int t_lines :: .ref h_t_line :: .ref h_t_resolutions :: .ref h_t_file :: .int t_size :: .int t_scanned :: .int t_refusedAt :: .int t_cursor :: .int t_streamAt :: .int t_streamMany :: .int t_name :: .int t_from :: .int t_end :: .int t_sizeAt :: .int t_bitsAt :: .int t_colourAt :: .int t_colourEnd :: .int t_paletteAt :: .int t_mapAt :: .int t_mapEnd :: .int t_channelsAt :: .int t_captureAt :: .int t_displayAt :: .int t_resolved :: []))), (h_t_resolutions, .inl (cI, 12, .inl f_t_resolutions))] → va_S A s.heap H locs → ∀ ls : Array Slot, lv_has ls 11 [(8, .int j33_s0), (0, .ref h_t), (1, .int p1), (2, .int p2), (3, .int p3), (4, .int p4), (5, .int p5), (6, .int p6), (7, .int p7)] → W p l e R s m args below meth c H locs 0 0 Q (F0 m 119 ls []) := by
      intro E O H locs hP hD hS ls hl
      refine lv_iconst (v := 0) hx hb d_Mo_resolution_119 (by decide) ?_
      exact J_120 0 E O _ _ hP hD hS ls (lv_sub hl [0, 1, 2, 3, 4, 5, 6, 7, 8] rfl)
    refine lv_if_eq (tgt := 119) hx hb d_Mo_resolution_44 (by decide) (fun c_44 => ?_) (fun c_44 => ?_)
    · have E := (if_pos c_44).symm.trans E
      have O := Eq.mp (if_pos c_44) O
      exact J_119  E O _ _ hP hD hS ls (lv_sub hl [0, 1, 2, 3, 4, 5, 6, 7, 8] rfl)
    · have E := (if_neg c_44).symm.trans E
      have O := Eq.mp (if_neg c_44) O
      refine lv_iload_n hx hb d_Mo_resolution_47 rfl (lv_at hl 4 rfl) ?_
      refine lv_i2l (v := (p3 : Int32).toInt64) hx hb d_Mo_resolution_48 rfl ?_
      refine lv_lconst (v := 1) hx hb d_Mo_resolution_49 (by decide) ?_
      refine lv_ldc2 (v := 65535) hx hb hown (hta _ lk_Mo_112) d_Mo_resolution_50 ?_
      refine kc_S (As := [.long ((p3 : Int32).toInt64), .long 1, .long 65535]) (rest := []) (wr := [(h_t, .inr (7, (.int t_thrown :: .int t_high :: .int t_wide :: .int t_components :: .ref h_t_bits :: .int t_unknown :: .int t_rights :: .int t_colours :: .int t_profiled :: .ref h_t_profile :: .int t_entries :: .int t_columns :: .ref h_t_columnBits :: .ref h_t_numbers :: .int t_maps :: .ref h_t_map :: .int t_lines :: .ref h_t_line :: .ref h_t_resolutions :: .ref h_t_file :: .int t_size :: .int t_scanned :: .int t_refusedAt :: .int t_cursor :: .int t_streamAt :: .int t_streamMany :: .int t_name :: .int t_from :: .int t_end :: .int t_sizeAt :: .int t_bitsAt :: .int t_colourAt :: .int t_colourEnd :: .int t_paletteAt :: .int t_mapAt :: .int t_mapEnd :: .int t_channelsAt :: .int t_captureAt :: .int t_displayAt :: .int t_resolved :: []))), (h_t_resolutions, .inl (cI, 12, .inl f_t_resolutions))]) [] [0, 1] ⟨hx, hb, hml, hown, hta⟩ hK hN hP hD hS hA (c_Mo_in l D cB cI cJ ((p3 : Int32).toInt64) 1 65535 O.1 _) (hta _ lk_Mo_81) (hta _ ini_Mo) (hta _ code_Mo_in) code_Mo_in (hta _ stat_Mo_in) hd_Mo_in rfl ⟨by omega, by omega⟩ rfl rfl (by decide) (by decide) (by decide) rfl hl.1 (lv_room (Nat.le_of_ble_eq_true rfl)) d_Mo_resolution_53 ⟨by omega, by omega⟩ (fun v w1 H locs hw hP hD hS => ?_)
      obtain ⟨x53, hx53, rfl, rfl⟩ := hw
      have hP : va_P D classes [(h_t, .inr (7, (.int t_thrown :: .int t_high :: .int t_wide :: .int t_components :: .ref h_t_bits :: .int t_unknown :: .int t_rights :: .int t_colours :: .int t_profiled :: .ref h_t_profile :: .int t_entries :: .int t_columns :: .ref h_t_columnBits :: .ref h_t_numbers :: .int t_maps :: .ref h_t_map :: .int t_lines :: .ref h_t_line :: .ref h_t_resolutions :: .ref h_t_file :: .int t_size :: .int t_scanned :: .int t_refusedAt :: .int t_cursor :: .int t_streamAt :: .int t_streamMany :: .int t_name :: .int t_from :: .int t_end :: .int t_sizeAt :: .int t_bitsAt :: .int t_colourAt :: .int t_colourEnd :: .int t_paletteAt :: .int t_mapAt :: .int t_mapEnd :: .int t_channelsAt :: .int t_captureAt :: .int t_displayAt :: .int t_resolved :: []))), (h_t_resolutions, .inl (cI, 12, .inl f_t_resolutions))] H := hP.sub [0, 1] rfl
      have hD : va_D A [(h_t, .inr (7, (.int t_thrown :: .int t_high :: .int t_wide :: .int t_components :: .ref h_t_bits :: .int t_unknown :: .int t_rights :: .int t_colours :: .int t_profiled :: .ref h_t_profile :: .int t_entries :: .int t_columns :: .ref h_t_columnBits :: .ref h_t_numbers :: .int t_maps :: .ref h_t_map :: .int t_lines :: .ref h_t_line :: .ref h_t_resolutions :: .ref h_t_file :: .int t_size :: .int t_scanned :: .int t_refusedAt :: .int t_cursor :: .int t_streamAt :: .int t_streamMany :: .int t_name :: .int t_from :: .int t_end :: .int t_sizeAt :: .int t_bitsAt :: .int t_colourAt :: .int t_colourEnd :: .int t_paletteAt :: .int t_mapAt :: .int t_mapEnd :: .int t_channelsAt :: .int t_captureAt :: .int t_displayAt :: .int t_resolved :: []))), (h_t_resolutions, .inl (cI, 12, .inl f_t_resolutions))] := hD.sub [0, 1] (by decide) rfl
      refine W.eq (g2 := F0 m 56 ls [.int x53]) rfl ?_
      have O := O.2
      have E : k_Mo_resolution_53 f_t_resolutions p1 p2 p3 p4 p5 p6 p7 j33_s0 x53 = RES := (congrArg (k_Mo_resolution_53 f_t_resolutions p1 p2 p3 p4 p5 p6 p7 j33_s0) hx53).trans E
      have O : ok_Mo_resolution_53 p1 p4 p5 p6 p7 j33_s0 x53 := by rw [hx53]; exact O
      refine lv_if_eq (tgt := 119) hx hb d_Mo_resolution_56 (by decide) (fun c_56 => ?_) (fun c_56 => ?_)
      · have E := (if_pos c_56).symm.trans E
        have O := Eq.mp (if_pos c_56) O
        exact J_119  E O _ _ hP hD hS ls (lv_sub hl [0, 1, 2, 3, 4, 5, 6, 7, 8] rfl)
      · have E := (if_neg c_56).symm.trans E
        have O := Eq.mp (if_neg c_56) O
        refine lv_iload hx hb d_Mo_resolution_59 (lv_at hl 5 rfl) ?_
        refine lv_i2l (v := (p4 : Int32).toInt64) hx hb d_Mo_resolution_61 rfl ?_
        refine lv_lconst (v := 1) hx hb d_Mo_resolution_62 (by decide) ?_
        refine lv_ldc2 (v := 65535) hx hb hown (hta _ lk_Mo_112) d_Mo_resolution_63 ?_
        refine kc_S (As := [.long ((p4 : Int32).toInt64), .long 1, .long 65535]) (rest := []) (wr := [(h_t, .inr (7, (.int t_thrown :: .int t_high :: .int t_wide :: .int t_components :: .ref h_t_bits :: .int t_unknown :: .int t_rights :: .int t_colours :: .int t_profiled :: .ref h_t_profile :: .int t_entries :: .int t_columns :: .ref h_t_columnBits :: .ref h_t_numbers :: .int t_maps :: .ref h_t_map :: .int t_lines :: .ref h_t_line :: .ref h_t_resolutions :: .ref h_t_file :: .int t_size :: .int t_scanned :: .int t_refusedAt :: .int t_cursor :: .int t_streamAt :: .int t_streamMany :: .int t_name :: .int t_from :: .int t_end :: .int t_sizeAt :: .int t_bitsAt :: .int t_colourAt :: .int t_colourEnd :: .int t_paletteAt :: .int t_mapAt :: .int t_mapEnd :: .int t_channelsAt :: .int t_captureAt :: .int t_displayAt :: .int t_resolved :: []))), (h_t_resolutions, .inl (cI, 12, .inl f_t_resolutions))]) [] [0, 1] ⟨hx, hb, hml, hown, hta⟩ hK hN hP hD hS hA (c_Mo_in l D cB cI cJ ((p4 : Int32).toInt64) 1 65535 O.1 _) (hta _ lk_Mo_81) (hta _ ini_Mo) (hta _ code_Mo_in) code_Mo_in (hta _ stat_Mo_in) hd_Mo_in rfl ⟨by omega, by omega⟩ rfl rfl (by decide) (by decide) (by decide) rfl hl.1 (lv_room (Nat.le_of_ble_eq_true rfl)) d_Mo_resolution_66 ⟨by omega, by omega⟩ (fun v w1 H locs hw hP hD hS => ?_)
        obtain ⟨x66, hx66, rfl, rfl⟩ := hw
        have hP : va_P D classes [(h_t, .inr (7, (.int t_thrown :: .int t_high :: .int t_wide :: .int t_components :: .ref h_t_bits :: .int t_unknown :: .int t_rights :: .int t_colours :: .int t_profiled :: .ref h_t_profile :: .int t_entries :: .int t_columns :: .ref h_t_columnBits :: .ref h_t_numbers :: .int t_maps :: .ref h_t_map :: .int t_lines :: .ref h_t_line :: .ref h_t_resolutions :: .ref h_t_file :: .int t_size :: .int t_scanned :: .int t_refusedAt :: .int t_cursor :: .int t_streamAt :: .int t_streamMany :: .int t_name :: .int t_from :: .int t_end :: .int t_sizeAt :: .int t_bitsAt :: .int t_colourAt :: .int t_colourEnd :: .int t_paletteAt :: .int t_mapAt :: .int t_mapEnd :: .int t_channelsAt :: .int t_captureAt :: .int t_displayAt :: .int t_resolved :: []))), (h_t_resolutions, .inl (cI, 12, .inl f_t_resolutions))] H := hP.sub [0, 1] rfl
        have hD : va_D A [(h_t, .inr (7, (.int t_thrown :: .int t_high :: .int t_wide :: .int t_components :: .ref h_t_bits :: .int t_unknown :: .int t_rights :: .int t_colours :: .int t_profiled :: .ref h_t_profile :: .int t_entries :: .int t_columns :: .ref h_t_columnBits :: .ref h_t_numbers :: .int t_maps :: .ref h_t_map :: .int t_lines :: .ref h_t_line :: .ref h_t_resolutions :: .ref h_t_file :: .int t_size :: .int t_scanned :: .int t_refusedAt :: .int t_cursor :: .int t_streamAt :: .int t_streamMany :: .int t_name :: .int t_from :: .int t_end :: .int t_sizeAt :: .int t_bitsAt :: .int t_colourAt :: .int t_colourEnd :: .int t_paletteAt :: .int t_mapAt :: .int t_mapEnd :: .int t_channelsAt :: .int t_captureAt :: .int t_displayAt :: .int t_resolved :: []))), (h_t_resolutions, .inl (cI, 12, .inl f_t_resolutions))] := hD.sub [0, 1] (by decide) rfl
        refine W.eq (g2 := F0 m 69 ls [.int x66]) rfl ?_
        have O := O.2
        have E : k_Mo_resolution_66 f_t_resolutions p1 p2 p3 p4 p5 p6 p7 j33_s0 x66 = RES := (congrArg (k_Mo_resolution_66 f_t_resolutions p1 p2 p3 p4 p5 p6 p7 j33_s0) hx66).trans E
        have O : ok_Mo_resolution_66 p1 p5 p6 p7 j33_s0 x66 := by rw [hx66]; exact O
        refine lv_if_eq (tgt := 119) hx hb d_Mo_resolution_69 (by decide) (fun c_69 => ?_) (fun c_69 => ?_)
        · have E := (if_pos c_69).symm.trans E
          have O := Eq.mp (if_pos c_69) O
          exact J_119  E O _ _ hP hD hS ls (lv_sub hl [0, 1, 2, 3, 4, 5, 6, 7, 8] rfl)
        · have E := (if_neg c_69).symm.trans E
          have O := Eq.mp (if_neg c_69) O
          refine lv_iload hx hb d_Mo_resolution_72 (lv_at hl 6 rfl) ?_
          refine lv_i2l (v := (p5 : Int32).toInt64) hx hb d_Mo_resolution_74 rfl ?_
          refine lv_lconst (v := 1) hx hb d_Mo_resolution_75 (by decide) ?_
          refine lv_ldc2 (v := 65535) hx hb hown (hta _ lk_Mo_112) d_Mo_resolution_76 ?_
          refine kc_S (As := [.long ((p5 : Int32).toInt64), .long 1, .long 65535]) (rest := []) (wr := [(h_t, .inr (7, (.int t_thrown :: .int t_high :: .int t_wide :: .int t_components :: .ref h_t_bits :: .int t_unknown :: .int t_rights :: .int t_colours :: .int t_profiled :: .ref h_t_profile :: .int t_entries :: .int t_columns :: .ref h_t_columnBits :: .ref h_t_numbers :: .int t_maps :: .ref h_t_map :: .int t_lines :: .ref h_t_line :: .ref h_t_resolutions :: .ref h_t_file :: .int t_size :: .int t_scanned :: .int t_refusedAt :: .int t_cursor :: .int t_streamAt :: .int t_streamMany :: .int t_name :: .int t_from :: .int t_end :: .int t_sizeAt :: .int t_bitsAt :: .int t_colourAt :: .int t_colourEnd :: .int t_paletteAt :: .int t_mapAt :: .int t_mapEnd :: .int t_channelsAt :: .int t_captureAt :: .int t_displayAt :: .int t_resolved :: []))), (h_t_resolutions, .inl (cI, 12, .inl f_t_resolutions))]) [] [0, 1] ⟨hx, hb, hml, hown, hta⟩ hK hN hP hD hS hA (c_Mo_in l D cB cI cJ ((p5 : Int32).toInt64) 1 65535 O.1 _) (hta _ lk_Mo_81) (hta _ ini_Mo) (hta _ code_Mo_in) code_Mo_in (hta _ stat_Mo_in) hd_Mo_in rfl ⟨by omega, by omega⟩ rfl rfl (by decide) (by decide) (by decide) rfl hl.1 (lv_room (Nat.le_of_ble_eq_true rfl)) d_Mo_resolution_79 ⟨by omega, by omega⟩ (fun v w1 H locs hw hP hD hS => ?_)
          obtain ⟨x79, hx79, rfl, rfl⟩ := hw
          have hP : va_P D classes [(h_t, .inr (7, (.int t_thrown :: .int t_high :: .int t_wide :: .int t_components :: .ref h_t_bits :: .int t_unknown :: .int t_rights :: .int t_colours :: .int t_profiled :: .ref h_t_profile :: .int t_entries :: .int t_columns :: .ref h_t_columnBits :: .ref h_t_numbers :: .int t_maps :: .ref h_t_map :: .int t_lines :: .ref h_t_line :: .ref h_t_resolutions :: .ref h_t_file :: .int t_size :: .int t_scanned :: .int t_refusedAt :: .int t_cursor :: .int t_streamAt :: .int t_streamMany :: .int t_name :: .int t_from :: .int t_end :: .int t_sizeAt :: .int t_bitsAt :: .int t_colourAt :: .int t_colourEnd :: .int t_paletteAt :: .int t_mapAt :: .int t_mapEnd :: .int t_channelsAt :: .int t_captureAt :: .int t_displayAt :: .int t_resolved :: []))), (h_t_resolutions, .inl (cI, 12, .inl f_t_resolutions))] H := hP.sub [0, 1] rfl
          have hD : va_D A [(h_t, .inr (7, (.int t_thrown :: .int t_high :: .int t_wide :: .int t_components :: .ref h_t_bits :: .int t_unknown :: .int t_rights :: .int t_colours :: .int t_profiled :: .ref h_t_profile :: .int t_entries :: .int t_columns :: .ref h_t_columnBits :: .ref h_t_numbers :: .int t_maps :: .ref h_t_map :: .int t_lines :: .ref h_t_line :: .ref h_t_resolutions :: .ref h_t_file :: .int t_size :: .int t_scanned :: .int t_refusedAt :: .int t_cursor :: .int t_streamAt :: .int t_streamMany :: .int t_name :: .int t_from :: .int t_end :: .int t_sizeAt :: .int t_bitsAt :: .int t_colourAt :: .int t_colourEnd :: .int t_paletteAt :: .int t_mapAt :: .int t_mapEnd :: .int t_channelsAt :: .int t_captureAt :: .int t_displayAt :: .int t_resolved :: []))), (h_t_resolutions, .inl (cI, 12, .inl f_t_resolutions))] := hD.sub [0, 1] (by decide) rfl
          refine W.eq (g2 := F0 m 82 ls [.int x79]) rfl ?_
          have O := O.2
          have E : k_Mo_resolution_79 f_t_resolutions p1 p2 p3 p4 p5 p6 p7 j33_s0 x79 = RES := (congrArg (k_Mo_resolution_79 f_t_resolutions p1 p2 p3 p4 p5 p6 p7 j33_s0) hx79).trans E
          have O : ok_Mo_resolution_79 p1 p6 p7 j33_s0 x79 := by rw [hx79]; exact O
          refine lv_if_eq (tgt := 119) hx hb d_Mo_resolution_82 (by decide) (fun c_82 => ?_) (fun c_82 => ?_)
          · have E := (if_pos c_82).symm.trans E
            have O := Eq.mp (if_pos c_82) O
            exact J_119  E O _ _ hP hD hS ls (lv_sub hl [0, 1, 2, 3, 4, 5, 6, 7, 8] rfl)
          · have E := (if_neg c_82).symm.trans E
            have O := Eq.mp (if_neg c_82) O
            refine lv_iload hx hb d_Mo_resolution_85 (lv_at hl 7 rfl) ?_
            refine lv_i2l (v := (p6 : Int32).toInt64) hx hb d_Mo_resolution_87 rfl ?_
            refine lv_ldc2 (v := (-128)) hx hb hown (hta _ lk_Mo_121) d_Mo_resolution_88 ?_
            refine lv_ldc2 (v := 127) hx hb hown (hta _ lk_Mo_123) d_Mo_resolution_91 ?_
            refine kc_S (As := [.long ((p6 : Int32).toInt64), .long (-128), .long 127]) (rest := []) (wr := [(h_t, .inr (7, (.int t_thrown :: .int t_high :: .int t_wide :: .int t_components :: .ref h_t_bits :: .int t_unknown :: .int t_rights :: .int t_colours :: .int t_profiled :: .ref h_t_profile :: .int t_entries :: .int t_columns :: .ref h_t_columnBits :: .ref h_t_numbers :: .int t_maps :: .ref h_t_map :: .int t_lines :: .ref h_t_line :: .ref h_t_resolutions :: .ref h_t_file :: .int t_size :: .int t_scanned :: .int t_refusedAt :: .int t_cursor :: .int t_streamAt :: .int t_streamMany :: .int t_name :: .int t_from :: .int t_end :: .int t_sizeAt :: .int t_bitsAt :: .int t_colourAt :: .int t_colourEnd :: .int t_paletteAt :: .int t_mapAt :: .int t_mapEnd :: .int t_channelsAt :: .int t_captureAt :: .int t_displayAt :: .int t_resolved :: []))), (h_t_resolutions, .inl (cI, 12, .inl f_t_resolutions))]) [] [0, 1] ⟨hx, hb, hml, hown, hta⟩ hK hN hP hD hS hA (c_Mo_in l D cB cI cJ ((p6 : Int32).toInt64) (-128) 127 O.1 _) (hta _ lk_Mo_81) (hta _ ini_Mo) (hta _ code_Mo_in) code_Mo_in (hta _ stat_Mo_in) hd_Mo_in rfl ⟨by omega, by omega⟩ rfl rfl (by decide) (by decide) (by decide) rfl hl.1 (lv_room (Nat.le_of_ble_eq_true rfl)) d_Mo_resolution_94 ⟨by omega, by omega⟩ (fun v w1 H locs hw hP hD hS => ?_)
            obtain ⟨x94, hx94, rfl, rfl⟩ := hw
            have hP : va_P D classes [(h_t, .inr (7, (.int t_thrown :: .int t_high :: .int t_wide :: .int t_components :: .ref h_t_bits :: .int t_unknown :: .int t_rights :: .int t_colours :: .int t_profiled :: .ref h_t_profile :: .int t_entries :: .int t_columns :: .ref h_t_columnBits :: .ref h_t_numbers :: .int t_maps :: .ref h_t_map :: .int t_lines :: .ref h_t_line :: .ref h_t_resolutions :: .ref h_t_file :: .int t_size :: .int t_scanned :: .int t_refusedAt :: .int t_cursor :: .int t_streamAt :: .int t_streamMany :: .int t_name :: .int t_from :: .int t_end :: .int t_sizeAt :: .int t_bitsAt :: .int t_colourAt :: .int t_colourEnd :: .int t_paletteAt :: .int t_mapAt :: .int t_mapEnd :: .int t_channelsAt :: .int t_captureAt :: .int t_displayAt :: .int t_resolved :: []))), (h_t_resolutions, .inl (cI, 12, .inl f_t_resolutions))] H := hP.sub [0, 1] rfl
            have hD : va_D A [(h_t, .inr (7, (.int t_thrown :: .int t_high :: .int t_wide :: .int t_components :: .ref h_t_bits :: .int t_unknown :: .int t_rights :: .int t_colours :: .int t_profiled :: .ref h_t_profile :: .int t_entries :: .int t_columns :: .ref h_t_columnBits :: .ref h_t_numbers :: .int t_maps :: .ref h_t_map :: .int t_lines :: .ref h_t_line :: .ref h_t_resolutions :: .ref h_t_file :: .int t_size :: .int t_scanned :: .int t_refusedAt :: .int t_cursor :: .int t_streamAt :: .int t_streamMany :: .int t_name :: .int t_from :: .int t_end :: .int t_sizeAt :: .int t_bitsAt :: .int t_colourAt :: .int t_colourEnd :: .int t_paletteAt :: .int t_mapAt :: .int t_mapEnd :: .int t_channelsAt :: .int t_captureAt :: .int t_displayAt :: .int t_resolved :: []))), (h_t_resolutions, .inl (cI, 12, .inl f_t_resolutions))] := hD.sub [0, 1] (by decide) rfl
            refine W.eq (g2 := F0 m 97 ls [.int x94]) rfl ?_
            have O := O.2
            have E : k_Mo_resolution_94 f_t_resolutions p1 p2 p3 p4 p5 p6 p7 j33_s0 x94 = RES := (congrArg (k_Mo_resolution_94 f_t_resolutions p1 p2 p3 p4 p5 p6 p7 j33_s0) hx94).trans E
            have O : ok_Mo_resolution_94 p1 p7 j33_s0 x94 := by rw [hx94]; exact O
            refine lv_if_eq (tgt := 119) hx hb d_Mo_resolution_97 (by decide) (fun c_97 => ?_) (fun c_97 => ?_)
            · have E := (if_pos c_97).symm.trans E
              have O := Eq.mp (if_pos c_97) O
              exact J_119  E O _ _ hP hD hS ls (lv_sub hl [0, 1, 2, 3, 4, 5, 6, 7, 8] rfl)
            · have E := (if_neg c_97).symm.trans E
              have O := Eq.mp (if_neg c_97) O
              refine lv_iload hx hb d_Mo_resolution_100 (lv_at hl 8 rfl) ?_
              refine lv_i2l (v := (p7 : Int32).toInt64) hx hb d_Mo_resolution_102 rfl ?_
              refine lv_ldc2 (v := (-128)) hx hb hown (hta _ lk_Mo_121) d_Mo_resolution_103 ?_
              refine lv_ldc2 (v := 127) hx hb hown (hta _ lk_Mo_123) d_Mo_resolution_106 ?_
              refine kc_S (As := [.long ((p7 : Int32).toInt64), .long (-128), .long 127]) (rest := []) (wr := [(h_t, .inr (7, (.int t_thrown :: .int t_high :: .int t_wide :: .int t_components :: .ref h_t_bits :: .int t_unknown :: .int t_rights :: .int t_colours :: .int t_profiled :: .ref h_t_profile :: .int t_entries :: .int t_columns :: .ref h_t_columnBits :: .ref h_t_numbers :: .int t_maps :: .ref h_t_map :: .int t_lines :: .ref h_t_line :: .ref h_t_resolutions :: .ref h_t_file :: .int t_size :: .int t_scanned :: .int t_refusedAt :: .int t_cursor :: .int t_streamAt :: .int t_streamMany :: .int t_name :: .int t_from :: .int t_end :: .int t_sizeAt :: .int t_bitsAt :: .int t_colourAt :: .int t_colourEnd :: .int t_paletteAt :: .int t_mapAt :: .int t_mapEnd :: .int t_channelsAt :: .int t_captureAt :: .int t_displayAt :: .int t_resolved :: []))), (h_t_resolutions, .inl (cI, 12, .inl f_t_resolutions))]) [] [0, 1] ⟨hx, hb, hml, hown, hta⟩ hK hN hP hD hS hA (c_Mo_in l D cB cI cJ ((p7 : Int32).toInt64) (-128) 127 O.1 _) (hta _ lk_Mo_81) (hta _ ini_Mo) (hta _ code_Mo_in) code_Mo_in (hta _ stat_Mo_in) hd_Mo_in rfl ⟨by omega, by omega⟩ rfl rfl (by decide) (by decide) (by decide) rfl hl.1 (lv_room (Nat.le_of_ble_eq_true rfl)) d_Mo_resolution_109 ⟨by omega, by omega⟩ (fun v w1 H locs hw hP hD hS => ?_)
              obtain ⟨x109, hx109, rfl, rfl⟩ := hw
              have hP : va_P D classes [(h_t, .inr (7, (.int t_thrown :: .int t_high :: .int t_wide :: .int t_components :: .ref h_t_bits :: .int t_unknown :: .int t_rights :: .int t_colours :: .int t_profiled :: .ref h_t_profile :: .int t_entries :: .int t_columns :: .ref h_t_columnBits :: .ref h_t_numbers :: .int t_maps :: .ref h_t_map :: .int t_lines :: .ref h_t_line :: .ref h_t_resolutions :: .ref h_t_file :: .int t_size :: .int t_scanned :: .int t_refusedAt :: .int t_cursor :: .int t_streamAt :: .int t_streamMany :: .int t_name :: .int t_from :: .int t_end :: .int t_sizeAt :: .int t_bitsAt :: .int t_colourAt :: .int t_colourEnd :: .int t_paletteAt :: .int t_mapAt :: .int t_mapEnd :: .int t_channelsAt :: .int t_captureAt :: .int t_displayAt :: .int t_resolved :: []))), (h_t_resolutions, .inl (cI, 12, .inl f_t_resolutions))] H := hP.sub [0, 1] rfl
              have hD : va_D A [(h_t, .inr (7, (.int t_thrown :: .int t_high :: .int t_wide :: .int t_components :: .ref h_t_bits :: .int t_unknown :: .int t_rights :: .int t_colours :: .int t_profiled :: .ref h_t_profile :: .int t_entries :: .int t_columns :: .ref h_t_columnBits :: .ref h_t_numbers :: .int t_maps :: .ref h_t_map :: .int t_lines :: .ref h_t_line :: .ref h_t_resolutions :: .ref h_t_file :: .int t_size :: .int t_scanned :: .int t_refusedAt :: .int t_cursor :: .int t_streamAt :: .int t_streamMany :: .int t_name :: .int t_from :: .int t_end :: .int t_sizeAt :: .int t_bitsAt :: .int t_colourAt :: .int t_colourEnd :: .int t_paletteAt :: .int t_mapAt :: .int t_mapEnd :: .int t_channelsAt :: .int t_captureAt :: .int t_displayAt :: .int t_resolved :: []))), (h_t_resolutions, .inl (cI, 12, .inl f_t_resolutions))] := hD.sub [0, 1] (by decide) rfl
              refine W.eq (g2 := F0 m 112 ls [.int x109]) rfl ?_
              have O := O.2
              have E : k_Mo_resolution_109 f_t_resolutions p1 p2 p3 p4 p5 p6 p7 j33_s0 x109 = RES := (congrArg (k_Mo_resolution_109 f_t_resolutions p1 p2 p3 p4 p5 p6 p7 j33_s0) hx109).trans E
              have O : ok_Mo_resolution_109 p1 j33_s0 x109 := by rw [hx109]; exact O
              refine lv_if_eq (tgt := 119) hx hb d_Mo_resolution_112 (by decide) (fun c_112 => ?_) (fun c_112 => ?_)
              · have E := (if_pos c_112).symm.trans E
                have O := Eq.mp (if_pos c_112) O
                exact J_119  E O _ _ hP hD hS ls (lv_sub hl [0, 1, 2, 3, 4, 5, 6, 7, 8] rfl)
              · have E := (if_neg c_112).symm.trans E
                have O := Eq.mp (if_neg c_112) O
                refine lv_iconst (v := 1) hx hb d_Mo_resolution_115 (by decide) ?_
                refine lv_goto (tgt := 120) hx hb d_Mo_resolution_116 (by decide) ?_
                exact J_120 1 E O _ _ hP hD hS ls (lv_sub hl [0, 1, 2, 3, 4, 5, 6, 7, 8] rfl)
  have J_32 : j_Mo_resolution_32 f_t_resolutions p1 p2 p3 p4 p5 p6 p7 = RES → oj_Mo_resolution_32 p1 p2 p3 p4 p5 p6 p7 → ∀ (H : Heap) (locs : List Loc), va_P D classes [(h_t, .inr (7, (.int t_thrown :: .int t_high :: .int t_wide :: .int t_components :: .ref h_t_bits :: .int t_unknown :: .int t_rights :: .int t_colours :: .int t_profiled :: .ref h_t_profile :: .int t_entries :: .int t_columns :: .ref h_t_columnBits :: .ref h_t_numbers :: .int t_maps :: .ref h_t_map :: .int t_lines :: .ref h_t_line :: .ref h_t_resolutions :: .ref h_t_file :: .int t_size :: .int t_scanned :: .int t_refusedAt :: .int t_cursor :: .int t_streamAt :: .int t_streamMany :: .int t_name :: .int t_from :: .int t_end :: .int t_sizeAt :: .int t_bitsAt :: .int t_colourAt :: .int t_colourEnd :: .int t_paletteAt :: .int t_mapAt :: .int t_mapEnd :: .int t_channelsAt :: .int t_captureAt :: .int t_displayAt :: .int t_resolved :: []))), (h_t_resolutions, .inl (cI, 12, .inl f_t_resolutions))] H → va_D A [(h_t, .inr (7, (.int t_thrown :: .int t_high :: .int t_wide :: .int t_components :: .ref h_t_bits :: .int t_unknown :: .int t_rights :: .int t_colours :: .int t_profiled :: .ref h_t_profile :: .int t_entries :: .int t_columns :: .ref h_t_columnBits :: .ref h_t_numbers :: .int t_maps :: .ref h_t_map :: .int t_lines :: .ref h_t_line :: .ref h_t_resolutions :: .ref h_t_file :: .int t_size :: .int t_scanned :: .int t_refusedAt :: .int t_cursor :: .int t_streamAt :: .int t_streamMany :: .int t_name :: .int t_from :: .int t_end :: .int t_sizeAt :: .int t_bitsAt :: .int t_colourAt :: .int t_colourEnd :: .int t_paletteAt :: .int t_mapAt :: .int t_mapEnd :: .int t_channelsAt :: .int t_captureAt :: .int t_displayAt :: .int t_resolved :: []))), (h_t_resolutions, .inl (cI, 12, .inl f_t_resolutions))] → va_S A s.heap H locs → ∀ ls : Array Slot, lv_has ls 11 [(0, .ref h_t), (1, .int p1), (2, .int p2), (3, .int p3), (4, .int p4), (5, .int p5), (6, .int p6), (7, .int p7)] → W p l e R s m args below meth c H locs 0 0 Q (F0 m 32 ls []) := by
    intro E O H locs hP hD hS ls hl
    refine lv_iconst (v := 0) hx hb d_Mo_resolution_32 (by decide) ?_
    exact J_33 0 E O _ _ hP hD hS ls (lv_sub hl [0, 1, 2, 3, 4, 5, 6, 7] rfl)
  refine lv_if_ne (tgt := 32) hx hb d_Mo_resolution_1 (by decide) (fun c_1 => ?_) (fun c_1 => ?_)
  · have E := (if_neg c_1).symm.trans E
    have O := Eq.mp (if_neg c_1) O
    exact J_32  E O _ _ hP hD hS ls (lv_sub hl [0, 1, 2, 3, 4, 5, 6, 7] rfl)
  · have E := (if_pos c_1).symm.trans E
    have O := Eq.mp (if_pos c_1) O
    refine lv_iload_n hx hb d_Mo_resolution_4 rfl (lv_at hl 3 rfl) ?_
    refine lv_if_ne (tgt := 32) hx hb d_Mo_resolution_5 (by decide) (fun c_5 => ?_) (fun c_5 => ?_)
    · have E := (if_neg c_5).symm.trans E
      have O := Eq.mp (if_neg c_5) O
      exact J_32  E O _ _ hP hD hS ls (lv_sub hl [0, 1, 2, 3, 4, 5, 6, 7] rfl)
    · have E := (if_pos c_5).symm.trans E
      have O := Eq.mp (if_pos c_5) O
      refine lv_iload hx hb d_Mo_resolution_8 (lv_at hl 4 rfl) ?_
      refine lv_if_ne (tgt := 32) hx hb d_Mo_resolution_10 (by decide) (fun c_10 => ?_) (fun c_10 => ?_)
      · have E := (if_neg c_10).symm.trans E
        have O := Eq.mp (if_neg c_10) O
        exact J_32  E O _ _ hP hD hS ls (lv_sub hl [0, 1, 2, 3, 4, 5, 6, 7] rfl)
      · have E := (if_pos c_10).symm.trans E
        have O := Eq.mp (if_pos c_10) O
        refine lv_iload hx hb d_Mo_resolution_13 (lv_at hl 5 rfl) ?_
        refine lv_if_ne (tgt := 32) hx hb d_Mo_resolution_15 (by decide) (fun c_15 => ?_) (fun c_15 => ?_)
        · have E := (if_neg c_15).symm.trans E
          have O := Eq.mp (if_neg c_15) O
          exact J_32  E O _ _ hP hD hS ls (lv_sub hl [0, 1, 2, 3, 4, 5, 6, 7] rfl)
        · have E := (if_pos c_15).symm.trans E
          have O := Eq.mp (if_pos c_15) O
          refine lv_iload hx hb d_Mo_resolution_18 (lv_at hl 6 rfl) ?_
          refine lv_if_ne (tgt := 32) hx hb d_Mo_resolution_20 (by decide) (fun c_20 => ?_) (fun c_20 => ?_)
          · have E := (if_neg c_20).symm.trans E
            have O := Eq.mp (if_neg c_20) O
            exact J_32  E O _ _ hP hD hS ls (lv_sub hl [0, 1, 2, 3, 4, 5, 6, 7] rfl)
          · have E := (if_pos c_20).symm.trans E
            have O := Eq.mp (if_pos c_20) O
            refine lv_iload hx hb d_Mo_resolution_23 (lv_at hl 7 rfl) ?_
            refine lv_if_ne (tgt := 32) hx hb d_Mo_resolution_25 (by decide) (fun c_25 => ?_) (fun c_25 => ?_)
            · have E := (if_neg c_25).symm.trans E
              have O := Eq.mp (if_neg c_25) O
              exact J_32  E O _ _ hP hD hS ls (lv_sub hl [0, 1, 2, 3, 4, 5, 6, 7] rfl)
            · have E := (if_pos c_25).symm.trans E
              have O := Eq.mp (if_pos c_25) O
              refine lv_iconst (v := 1) hx hb d_Mo_resolution_28 (by decide) ?_
              refine lv_goto (tgt := 33) hx hb d_Mo_resolution_29 (by decide) ?_
              exact J_33 1 E O _ _ hP hD hS ls (lv_sub hl [0, 1, 2, 3, 4, 5, 6, 7] rfl)
