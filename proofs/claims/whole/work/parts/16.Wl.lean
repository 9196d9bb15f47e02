theorem d_Wr_init_0 : decode b_Wr_init 0 = .ok (.aload_n 0, 1) := by decide +kernel
theorem d_Wr_init_1 : decode b_Wr_init 1 = .ok (.invokespecial 3, 3) := by decide +kernel
theorem d_Wr_init_4 : decode b_Wr_init 4 = .ok (.aload_n 0, 1) := by decide +kernel
theorem d_Wr_init_5 : decode b_Wr_init 5 = .ok (.aload_n 1, 1) := by decide +kernel
theorem d_Wr_init_6 : decode b_Wr_init 6 = .ok (.putfield 9, 3) := by decide +kernel
theorem d_Wr_init_9 : decode b_Wr_init 9 = .ok (.return_, 1) := by decide +kernel

set_option maxHeartbeats 4000000 in
set_option maxRecDepth 100000 in
theorem c_Wr_init (l : Launch) (D : va_G) (cB cI cJ : ClassId) (h_t h_a1 : Nat) (sz : Nat) : Ct l D cB cI cJ y_Wr_init b_Wr_init 2 none 1 20 0 0 [.ref h_t, .ref h_a1] [(h_t, .inr (4, [.null]))] (fun v w1 => v = none ∧ w1 = [(h_t, .inr (4, [.ref h_a1]))]) sz := by
  refine Ct.of (by decide) (Nat.le_of_ble_eq_true rfl) ?_
  intro p e R s m args below meth c A ls Q hx hb hr hlk hml hta hown hin hK hN hA hRf hRl hRc hRs hP hD hS hl hQ
  have hl : lv_has ls 2 [(0, .ref h_t), (1, .ref h_a1)] := hl
  refine lv_aload_n hx hb d_Wr_init_0 rfl (lv_at hl 0 rfl) ?_
  refine W.objInit hx hb hown (hta _ lk_Wr_3) (hta _ inst_Object_init) (hta _ code_Object_init) rfl (by rw [hml]; exact hl.1) rfl d_Wr_init_1 (by omega) (by first | omega | (simp only [List.map, List.sum_cons, List.sum_nil, F0, JFrame.monitorRoom]; omega)) ?_
  refine lv_aload_n hx hb d_Wr_init_4 rfl (lv_at hl 0 rfl) ?_
  refine lv_aload_n hx hb d_Wr_init_5 rfl (lv_at hl 1 rfl) ?_
  refine va_putF (D := D) (ty := .object "FileBoxes$Bytes") hx hb hta i_Wr t_Wr t_Wr_ok n_Wr hown hK hP hD hS 0 rfl rfl 0 (by decide) (hta _ lk_Wr_9) (fun _ h9 => h9) rfl hin rfl (by decide +kernel) rfl rfl (Nat.le_of_ble_eq_true rfl) d_Wr_init_6 (fun H locs (hP : va_P D classes [(h_t, .inr (4, [.ref h_a1]))] H) (hD : va_D A [(h_t, .inr (4, [.ref h_a1]))]) hS => ?_)
  exact kr_v hx hb hr hlk hQ hK hP hD hS ⟨rfl, rfl⟩ (by omega) (by omega) d_Wr_init_9
theorem d_Wr_lengthOfBits_0 : decode b_Wr_lengthOfBits 0 = .ok (.aload_n 0, 1) := by decide +kernel
theorem d_Wr_lengthOfBits_1 : decode b_Wr_lengthOfBits 1 = .ok (.invokevirtual 37, 3) := by decide +kernel
theorem d_Wr_lengthOfBits_4 : decode b_Wr_lengthOfBits 4 = .ok (.ifCond .eq 7, 3) := by decide +kernel
theorem d_Wr_lengthOfBits_7 : decode b_Wr_lengthOfBits 7 = .ok (.iconst 0, 1) := by decide +kernel
theorem d_Wr_lengthOfBits_8 : decode b_Wr_lengthOfBits 8 = .ok (.goto 10, 3) := by decide +kernel
theorem d_Wr_lengthOfBits_11 : decode b_Wr_lengthOfBits 11 = .ok (.bipush 8, 2) := by decide +kernel
theorem d_Wr_lengthOfBits_13 : decode b_Wr_lengthOfBits 13 = .ok (.aload_n 0, 1) := by decide +kernel
theorem d_Wr_lengthOfBits_14 : decode b_Wr_lengthOfBits 14 = .ok (.getfield 43, 3) := by decide +kernel
theorem d_Wr_lengthOfBits_17 : decode b_Wr_lengthOfBits 17 = .ok (.iadd, 1) := by decide +kernel
theorem d_Wr_lengthOfBits_18 : decode b_Wr_lengthOfBits 18 = .ok (.ireturn, 1) := by decide +kernel
def k_Wr_lengthOfBits_1 (a0_components : Int32) (x1 : Int32) : Int32 :=
  if x1 = 0 then (8 + a0_components) else 0
def m_Wr_lengthOfBits (a0_components : Int32) (n_a0_bits : Nat) (f_a0_bits : Nat → Int32) : Int32 :=
  k_Wr_lengthOfBits_1 a0_components (m_Pl_bitsAreAlike a0_components n_a0_bits f_a0_bits)
set_option maxHeartbeats 4000000 in
set_option maxRecDepth 100000 in
theorem c_Wr_lengthOfBits (l : Launch) (D : va_G) (cB cI cJ : ClassId) (h_a0 h_a0_bits h_a0_profile h_a0_palette h_a0_map h_a0_meanings h_a0_capture h_a0_display : Nat) (a0_high : Int32) (a0_wide : Int32) (a0_components : Int32) (a0_unknown : Int32) (a0_rights : Int32) (a0_colours : Int32) (a0_hasProfile : Int32) (n_a0_bits : Nat) (f_a0_bits : Nat → Int32) (hn_a0_bits : n_a0_bits < 2147483648) (sz : Nat) : Ct l D cB cI cJ y_Wr_lengthOfBits b_Wr_lengthOfBits 1 (some .int) 2 42 0 0 [.ref h_a0] [(h_a0, .inr (3, [.int a0_high, .int a0_wide, .int a0_components, .int a0_unknown, .int a0_rights, .ref h_a0_bits, .int a0_colours, .int a0_hasProfile, .ref h_a0_profile, .ref h_a0_palette, .ref h_a0_map, .ref h_a0_meanings, .ref h_a0_capture, .ref h_a0_display])), (h_a0_bits, .inl (cI, n_a0_bits, .inl f_a0_bits))] (fun v w1 => ∃ (x : Int32), x = m_Wr_lengthOfBits a0_components n_a0_bits f_a0_bits ∧ v = some (.int x) ∧ w1 = [(h_a0, .inr (3, [.int a0_high, .int a0_wide, .int a0_components, .int a0_unknown, .int a0_rights, .ref h_a0_bits, .int a0_colours, .int a0_hasProfile, .ref h_a0_profile, .ref h_a0_palette, .ref h_a0_map, .ref h_a0_meanings, .ref h_a0_capture, .ref h_a0_display])), (h_a0_bits, .inl (cI, n_a0_bits, .inl f_a0_bits))]) sz := by
  refine Ct.of (by decide) (Nat.le_of_ble_eq_true rfl) ?_
  intro p e R s m args below meth c A ls Q hx hb hr hlk hml hta hown hin hK hN hA hRf hRl hRc hRs hP hD hS hl hQ
  have hl : lv_has ls 1 [(0, .ref h_a0)] := hl
  obtain ⟨RES, E0⟩ : ∃ R, m_Wr_lengthOfBits a0_components n_a0_bits f_a0_bits = R := ⟨_, rfl⟩
  have E := E0
  refine lv_aload_n hx hb d_Wr_lengthOfBits_0 rfl (lv_at hl 0 rfl) ?_
  refine kc_V (As := []) (rest := []) (wr := []) [0, 1] [] ⟨hx, hb, hml, hown, hta⟩ hK hN hP hD hS hA (c_Pl_bitsAreAlike l D cB cI cJ h_a0 h_a0_bits h_a0_profile h_a0_palette h_a0_map h_a0_meanings h_a0_capture h_a0_display a0_high a0_wide a0_components a0_unknown a0_rights a0_colours a0_hasProfile n_a0_bits f_a0_bits hn_a0_bits _) (hta _ lk_Wr_37) (hta _ ini_Pl) (hta _ code_Pl_bitsAreAlike) code_Pl_bitsAreAlike (hta _ inst_Pl_bitsAreAlike) (hta _ sel_Pl_bitsAreAlike) hd_Pl_bitsAreAlike rfl ⟨by omega, by omega⟩ (ci := 3) 0 rfl rfl rfl rfl (by decide) (by decide) (by decide) rfl hl.1 (lv_room (Nat.le_of_ble_eq_true rfl)) d_Wr_lengthOfBits_1 ⟨by omega, by omega⟩ (fun v w1 H locs hw hP hD hS => ?_)
  obtain ⟨x1, hx1, rfl, rfl⟩ := hw
  have hP : va_P D classes [(h_a0, .inr (3, [.int a0_high, .int a0_wide, .int a0_components, .int a0_unknown, .int a0_rights, .ref h_a0_bits, .int a0_colours, .int a0_hasProfile, .ref h_a0_profile, .ref h_a0_palette, .ref h_a0_map, .ref h_a0_meanings, .ref h_a0_capture, .ref h_a0_display])), (h_a0_bits, .inl (cI, n_a0_bits, .inl f_a0_bits))] H := hP.sub [0, 1] rfl
  have hD : va_D A [(h_a0, .inr (3, [.int a0_high, .int a0_wide, .int a0_components, .int a0_unknown, .int a0_rights, .ref h_a0_bits, .int a0_colours, .int a0_hasProfile, .ref h_a0_profile, .ref h_a0_palette, .ref h_a0_map, .ref h_a0_meanings, .ref h_a0_capture, .ref h_a0_display])), (h_a0_bits, .inl (cI, n_a0_bits, .inl f_a0_bits))] := hD.sub [0, 1] (by decide) rfl
  refine W.eq (g2 := F0 m 4 ls [.int x1]) rfl ?_
  have E : k_Wr_lengthOfBits_1 a0_components x1 = RES := (congrArg (k_Wr_lengthOfBits_1 a0_components) hx1).trans E
  refine lv_if_eq (tgt := 11) hx hb d_Wr_lengthOfBits_4 (by decide) (fun c_4 => ?_) (fun c_4 => ?_)
  · have E := (if_pos c_4).symm.trans E
    refine lv_bipush (v := 8) hx hb d_Wr_lengthOfBits_11 (by decide) ?_
    refine lv_aload_n hx hb d_Wr_lengthOfBits_13 rfl (lv_at hl 0 rfl) ?_
    refine va_get (D := D) (v := .int a0_components) hx hb hta i_Pl hown hK hP 0 rfl rfl 2 (by decide) (hta _ lk_Wr_43) (fun _ h9 => h9) rfl d_Wr_lengthOfBits_14 ?_
    refine lv_iadd hx hb d_Wr_lengthOfBits_17 ?_
    exact kr_i hx hb hr hlk hQ hK hP hD hS ⟨(8 + a0_components : Int32), E.trans E0.symm, rfl, rfl⟩ (by omega) (by omega) d_Wr_lengthOfBits_18
  · have E := (if_neg c_4).symm.trans E
    refine lv_iconst (v := 0) hx hb d_Wr_lengthOfBits_7 (by decide) ?_
    refine lv_goto (tgt := 18) hx hb d_Wr_lengthOfBits_8 (by decide) ?_
    exact kr_i hx hb hr hlk hQ hK hP hD hS ⟨(0 : Int32), E.trans E0.symm, rfl, rfl⟩ (by omega) (by omega) d_Wr_lengthOfBits_18
theorem d_Wr_lengthOfColour_0 : decode b_Wr_lengthOfColour 0 = .ok (.bipush 11, 2) := by decide +kernel
theorem d_Wr_lengthOfColour_2 : decode b_Wr_lengthOfColour 2 = .ok (.aload_n 0, 1) := by decide +kernel
theorem d_Wr_lengthOfColour_3 : decode b_Wr_lengthOfColour 3 = .ok (.getfield 47, 3) := by decide +kernel
theorem d_Wr_lengthOfColour_6 : decode b_Wr_lengthOfColour 6 = .ok (.ifCond .eq 13, 3) := by decide +kernel
theorem d_Wr_lengthOfColour_9 : decode b_Wr_lengthOfColour 9 = .ok (.aload_n 0, 1) := by decide +kernel
theorem d_Wr_lengthOfColour_10 : decode b_Wr_lengthOfColour 10 = .ok (.getfield 51, 3) := by decide +kernel
theorem d_Wr_lengthOfColour_13 : decode b_Wr_lengthOfColour 13 = .ok (.getfield 54, 3) := by decide +kernel
theorem d_Wr_lengthOfColour_16 : decode b_Wr_lengthOfColour 16 = .ok (.goto 4, 3) := by decide +kernel
theorem d_Wr_lengthOfColour_19 : decode b_Wr_lengthOfColour 19 = .ok (.iconst 4, 1) := by decide +kernel
theorem d_Wr_lengthOfColour_20 : decode b_Wr_lengthOfColour 20 = .ok (.iadd, 1) := by decide +kernel
theorem d_Wr_lengthOfColour_21 : decode b_Wr_lengthOfColour 21 = .ok (.ireturn, 1) := by decide +kernel
def m_Wr_lengthOfColour (a0_hasProfile : Int32) (a0_profile_count : Int32) : Int32 :=
  if a0_hasProfile = 0 then (11 + 4) else (11 + a0_profile_count)
set_option maxHeartbeats 4000000 in
set_option maxRecDepth 100000 in
theorem c_Wr_lengthOfColour (l : Launch) (D : va_G) (cB cI cJ : ClassId) (h_a0 h_a0_bits h_a0_profile h_a0_palette h_a0_map h_a0_meanings h_a0_capture h_a0_display h_a0_profile_row : Nat) (a0_high : Int32) (a0_wide : Int32) (a0_components : Int32) (a0_unknown : Int32) (a0_rights : Int32) (a0_colours : Int32) (a0_hasProfile : Int32) (a0_profile_most : Int32) (a0_profile_count : Int32) (sz : Nat) : Ct l D cB cI cJ y_Wr_lengthOfColour b_Wr_lengthOfColour 1 (some .int) 0 0 0 0 [.ref h_a0] [(h_a0, .inr (3, [.int a0_high, .int a0_wide, .int a0_components, .int a0_unknown, .int a0_rights, .ref h_a0_bits, .int a0_colours, .int a0_hasProfile, .ref h_a0_profile, .ref h_a0_palette, .ref h_a0_map, .ref h_a0_meanings, .ref h_a0_capture, .ref h_a0_display])), (h_a0_profile, .inr (0, [.int a0_profile_most, .ref h_a0_profile_row, .int a0_profile_count]))] (fun v w1 => ∃ (x : Int32), x = m_Wr_lengthOfColour a0_hasProfile a0_profile_count ∧ v = some (.int x) ∧ w1 = [(h_a0, .inr (3, [.int a0_high, .int a0_wide, .int a0_components, .int a0_unknown, .int a0_rights, .ref h_a0_bits, .int a0_colours, .int a0_hasProfile, .ref h_a0_profile, .ref h_a0_palette, .ref h_a0_map, .ref h_a0_meanings, .ref h_a0_capture, .ref h_a0_display])), (h_a0_profile, .inr (0, [.int a0_profile_most, .ref h_a0_profile_row, .int a0_profile_count]))]) sz := by
  refine Ct.of (by decide) (Nat.le_of_ble_eq_true rfl) ?_
  intro p e R s m args below meth c A ls Q hx hb hr hlk hml hta hown hin hK hN hA hRf hRl hRc hRs hP hD hS hl hQ
  have hl : lv_has ls 1 [(0, .ref h_a0)] := hl
  obtain ⟨RES, E0⟩ : ∃ R, m_Wr_lengthOfColour a0_hasProfile a0_profile_count = R := ⟨_, rfl⟩
  have E := E0
  refine lv_bipush (v := 11) hx hb d_Wr_lengthOfColour_0 (by decide) ?_
  refine lv_aload_n hx hb d_Wr_lengthOfColour_2 rfl (lv_at hl 0 rfl) ?_
  refine va_get (D := D) (v := .int a0_hasProfile) hx hb hta i_Pl hown hK hP 0 rfl rfl 7 (by decide) (hta _ lk_Wr_47) (fun _ h9 => h9) rfl d_Wr_lengthOfColour_3 ?_
  refine lv_if_eq (tgt := 19) hx hb d_Wr_lengthOfColour_6 (by decide) (fun c_6 => ?_) (fun c_6 => ?_)
  · have E := (if_pos c_6).symm.trans E
    refine lv_iconst (v := 4) hx hb d_Wr_lengthOfColour_19 (by decide) ?_
    refine lv_iadd hx hb d_Wr_lengthOfColour_20 ?_
    exact kr_i hx hb hr hlk hQ hK hP hD hS ⟨(11 + 4 : Int32), E.trans E0.symm, rfl, rfl⟩ (by omega) (by omega) d_Wr_lengthOfColour_21
  · have E := (if_neg c_6).symm.trans E
    refine lv_aload_n hx hb d_Wr_lengthOfColour_9 rfl (lv_at hl 0 rfl) ?_
    refine va_get (D := D) (v := .ref h_a0_profile) hx hb hta i_Pl hown hK hP 0 rfl rfl 8 (by decide) (hta _ lk_Wr_51) (fun _ h9 => h9) rfl d_Wr_lengthOfColour_10 ?_
    refine va_get (D := D) (v := .int a0_profile_count) hx hb hta i_By hown hK hP 1 rfl rfl 2 (by decide) (hta _ lk_Wr_54) (fun _ h9 => h9) rfl d_Wr_lengthOfColour_13 ?_
    refine lv_goto (tgt := 20) hx hb d_Wr_lengthOfColour_16 (by decide) ?_
    refine lv_iadd hx hb d_Wr_lengthOfColour_20 ?_
    exact kr_i hx hb hr hlk hQ hK hP hD hS ⟨(11 + a0_profile_count : Int32), E.trans E0.symm, rfl, rfl⟩ (by omega) (by omega) d_Wr_lengthOfColour_21
theorem d_Wr_lengthOfPalette_0 : decode b_Wr_lengthOfPalette 0 = .ok (.aload_n 0, 1) := by decide +kernel
theorem d_Wr_lengthOfPalette_1 : decode b_Wr_lengthOfPalette 1 = .ok (.getfield 59, 3) := by decide +kernel
theorem d_Wr_lengthOfPalette_4 : decode b_Wr_lengthOfPalette 4 = .ok (.astore_n 1, 1) := by decide +kernel
theorem d_Wr_lengthOfPalette_5 : decode b_Wr_lengthOfPalette 5 = .ok (.aload_n 1, 1) := by decide +kernel
theorem d_Wr_lengthOfPalette_6 : decode b_Wr_lengthOfPalette 6 = .ok (.getfield 63, 3) := by decide +kernel
theorem d_Wr_lengthOfPalette_9 : decode b_Wr_lengthOfPalette 9 = .ok (.ifCond .ne 7, 3) := by decide +kernel
theorem d_Wr_lengthOfPalette_12 : decode b_Wr_lengthOfPalette 12 = .ok (.iconst 0, 1) := by decide +kernel
theorem d_Wr_lengthOfPalette_13 : decode b_Wr_lengthOfPalette 13 = .ok (.goto 20, 3) := by decide +kernel
theorem d_Wr_lengthOfPalette_16 : decode b_Wr_lengthOfPalette 16 = .ok (.bipush 11, 2) := by decide +kernel
theorem d_Wr_lengthOfPalette_18 : decode b_Wr_lengthOfPalette 18 = .ok (.aload_n 1, 1) := by decide +kernel
theorem d_Wr_lengthOfPalette_19 : decode b_Wr_lengthOfPalette 19 = .ok (.getfield 68, 3) := by decide +kernel
theorem d_Wr_lengthOfPalette_22 : decode b_Wr_lengthOfPalette 22 = .ok (.iadd, 1) := by decide +kernel
theorem d_Wr_lengthOfPalette_23 : decode b_Wr_lengthOfPalette 23 = .ok (.aload_n 1, 1) := by decide +kernel
theorem d_Wr_lengthOfPalette_24 : decode b_Wr_lengthOfPalette 24 = .ok (.getfield 63, 3) := by decide +kernel
theorem d_Wr_lengthOfPalette_27 : decode b_Wr_lengthOfPalette 27 = .ok (.aload_n 1, 1) := by decide +kernel
theorem d_Wr_lengthOfPalette_28 : decode b_Wr_lengthOfPalette 28 = .ok (.invokevirtual 71, 3) := by decide +kernel
theorem d_Wr_lengthOfPalette_31 : decode b_Wr_lengthOfPalette 31 = .ok (.imul, 1) := by decide +kernel
theorem d_Wr_lengthOfPalette_32 : decode b_Wr_lengthOfPalette 32 = .ok (.iadd, 1) := by decide +kernel
theorem d_Wr_lengthOfPalette_33 : decode b_Wr_lengthOfPalette 33 = .ok (.ireturn, 1) := by decide +kernel
def k_Wr_lengthOfPalette_28 (a0_palette_entries : Int32) (a0_palette_columns : Int32) (x28 : Int32) : Int32 :=
  (11 + a0_palette_columns) + (a0_palette_entries * x28)
def m_Wr_lengthOfPalette (a0_palette_entries : Int32) (a0_palette_columns : Int32) (n_a0_palette_bits : Nat) (f_a0_palette_bits : Nat → Int32) : Int32 :=
  if a0_palette_entries = 0 then 0 else (k_Wr_lengthOfPalette_28 a0_palette_entries a0_palette_columns (m_Pa_entryLength a0_palette_columns n_a0_palette_bits f_a0_palette_bits))
set_option maxHeartbeats 4000000 in
set_option maxRecDepth 100000 in
theorem c_Wr_lengthOfPalette (l : Launch) (D : va_G) (cB cI cJ : ClassId) (h_a0 h_a0_bits h_a0_profile h_a0_palette h_a0_map h_a0_meanings h_a0_capture h_a0_display h_a0_palette_bits h_a0_palette_numbers : Nat) (a0_high : Int32) (a0_wide : Int32) (a0_components : Int32) (a0_unknown : Int32) (a0_rights : Int32) (a0_colours : Int32) (a0_hasProfile : Int32) (a0_palette_entries : Int32) (a0_palette_columns : Int32) (n_a0_palette_bits : Nat) (f_a0_palette_bits : Nat → Int32) (hn_a0_palette_bits : n_a0_palette_bits < 2147483648) (sz : Nat) : Ct l D cB cI cJ y_Wr_lengthOfPalette b_Wr_lengthOfPalette 2 (some .int) 3 62 0 0 [.ref h_a0] [(h_a0, .inr (3, [.int a0_high, .int a0_wide, .int a0_components, .int a0_unknown, .int a0_rights, .ref h_a0_bits, .int a0_colours, .int a0_hasProfile, .ref h_a0_profile, .ref h_a0_palette, .ref h_a0_map, .ref h_a0_meanings, .ref h_a0_capture, .ref h_a0_display])), (h_a0_palette, .inr (2, [.int a0_palette_entries, .int a0_palette_columns, .ref h_a0_palette_bits, .ref h_a0_palette_numbers])), (h_a0_palette_bits, .inl (cI, n_a0_palette_bits, .inl f_a0_palette_bits))] (fun v w1 => ∃ (x : Int32), x = m_Wr_lengthOfPalette a0_palette_entries a0_palette_columns n_a0_palette_bits f_a0_palette_bits ∧ v = some (.int x) ∧ w1 = [(h_a0, .inr (3, [.int a0_high, .int a0_wide, .int a0_components, .int a0_unknown, .int a0_rights, .ref h_a0_bits, .int a0_colours, .int a0_hasProfile, .ref h_a0_profile, .ref h_a0_palette, .ref h_a0_map, .ref h_a0_meanings, .ref h_a0_capture, .ref h_a0_display])), (h_a0_palette, .inr (2, [.int a0_palette_entries, .int a0_palette_columns, .ref h_a0_palette_bits, .ref h_a0_palette_numbers])), (h_a0_palette_bits, .inl (cI, n_a0_palette_bits, .inl f_a0_palette_bits))]) sz := by
  refine Ct.of (by decide) (Nat.le_of_ble_eq_true rfl) ?_
  intro p e R s m args below meth c A ls Q hx hb hr hlk hml hta hown hin hK hN hA hRf hRl hRc hRs hP hD hS hl hQ
  have hl : lv_has ls 2 [(0, .ref h_a0)] := hl
  obtain ⟨RES, E0⟩ : ∃ R, m_Wr_lengthOfPalette a0_palette_entries a0_palette_columns n_a0_palette_bits f_a0_palette_bits = R := ⟨_, rfl⟩
  have E := E0
  refine lv_aload_n hx hb d_Wr_lengthOfPalette_0 rfl (lv_at hl 0 rfl) ?_
  refine va_get (D := D) (v := .ref h_a0_palette) hx hb hta i_Pl hown hK hP 0 rfl rfl 9 (by decide) (hta _ lk_Wr_59) (fun _ h9 => h9) rfl d_Wr_lengthOfPalette_1 ?_
  refine lv_astore_n (lv' := [(1, .ref h_a0_palette), (0, .ref h_a0)]) hx hb d_Wr_lengthOfPalette_4 rfl hl (by decide) rfl (fun ls hl => ?_)
  refine lv_aload_n hx hb d_Wr_lengthOfPalette_5 rfl (lv_at hl 0 rfl) ?_
  refine va_get (D := D) (v := .int a0_palette_entries) hx hb hta i_Pa hown hK hP 1 rfl rfl 0 (by decide) (hta _ lk_Wr_63) (fun _ h9 => h9) rfl d_Wr_lengthOfPalette_6 ?_
  refine lv_if_ne (tgt := 16) hx hb d_Wr_lengthOfPalette_9 (by decide) (fun c_9 => ?_) (fun c_9 => ?_)
  · have E := (if_neg c_9).symm.trans E
    refine lv_bipush (v := 11) hx hb d_Wr_lengthOfPalette_16 (by decide) ?_
    refine lv_aload_n hx hb d_Wr_lengthOfPalette_18 rfl (lv_at hl 0 rfl) ?_
    refine va_get (D := D) (v := .int a0_palette_columns) hx hb hta i_Pa hown hK hP 1 rfl rfl 1 (by decide) (hta _ lk_Wr_68) (fun _ h9 => h9) rfl d_Wr_lengthOfPalette_19 ?_
    refine lv_iadd hx hb d_Wr_lengthOfPalette_22 ?_
    refine lv_aload_n hx hb d_Wr_lengthOfPalette_23 rfl (lv_at hl 0 rfl) ?_
    refine va_get (D := D) (v := .int a0_palette_entries) hx hb hta i_Pa hown hK hP 1 rfl rfl 0 (by decide) (hta _ lk_Wr_63) (fun _ h9 => h9) rfl d_Wr_lengthOfPalette_24 ?_
    refine lv_aload_n hx hb d_Wr_lengthOfPalette_27 rfl (lv_at hl 0 rfl) ?_
    refine kc_V (As := []) (rest := [.int a0_palette_entries, .int (11 + a0_palette_columns)]) (wr := [(h_a0, .inr (3, [.int a0_high, .int a0_wide, .int a0_components, .int a0_unknown, .int a0_rights, .ref h_a0_bits, .int a0_colours, .int a0_hasProfile, .ref h_a0_profile, .ref h_a0_palette, .ref h_a0_map, .ref h_a0_meanings, .ref h_a0_capture, .ref h_a0_display]))]) [1, 2] [0] ⟨hx, hb, hml, hown, hta⟩ hK hN hP hD hS hA (c_Pa_entryLength l D cB cI cJ h_a0_palette h_a0_palette_bits h_a0_palette_numbers a0_palette_entries a0_palette_columns n_a0_palette_bits f_a0_palette_bits hn_a0_palette_bits _) (hta _ lk_Wr_71) (hta _ ini_Pa) (hta _ code_Pa_entryLength) code_Pa_entryLength (hta _ inst_Pa_entryLength) (hta _ sel_Pa_entryLength) hd_Pa_entryLength rfl ⟨by omega, by omega⟩ (ci := 2) 1 rfl rfl rfl rfl (by decide) (by decide) (by decide) rfl hl.1 (lv_room (Nat.le_of_ble_eq_true rfl)) d_Wr_lengthOfPalette_28 ⟨by omega, by omega⟩ (fun v w1 H locs hw hP hD hS => ?_)
    obtain ⟨x28, hx28, rfl, rfl⟩ := hw
    have hP : va_P D classes [(h_a0, .inr (3, [.int a0_high, .int a0_wide, .int a0_components, .int a0_unknown, .int a0_rights, .ref h_a0_bits, .int a0_colours, .int a0_hasProfile, .ref h_a0_profile, .ref h_a0_palette, .ref h_a0_map, .ref h_a0_meanings, .ref h_a0_capture, .ref h_a0_display])), (h_a0_palette, .inr (2, [.int a0_palette_entries, .int a0_palette_columns, .ref h_a0_palette_bits, .ref h_a0_palette_numbers])), (h_a0_palette_bits, .inl (cI, n_a0_palette_bits, .inl f_a0_palette_bits))] H := hP.sub [0, 1, 2] rfl
    have hD : va_D A [(h_a0, .inr (3, [.int a0_high, .int a0_wide, .int a0_components, .int a0_unknown, .int a0_rights, .ref h_a0_bits, .int a0_colours, .int a0_hasProfile, .ref h_a0_profile, .ref h_a0_palette, .ref h_a0_map, .ref h_a0_meanings, .ref h_a0_capture, .ref h_a0_display])), (h_a0_palette, .inr (2, [.int a0_palette_entries, .int a0_palette_columns, .ref h_a0_palette_bits, .ref h_a0_palette_numbers])), (h_a0_palette_bits, .inl (cI, n_a0_palette_bits, .inl f_a0_palette_bits))] := hD.sub [0, 1, 2] (by decide) rfl
    refine W.eq (g2 := F0 m 31 ls [.int x28, .int a0_palette_entries, .int (11 + a0_palette_columns)]) rfl ?_
    have E : k_Wr_lengthOfPalette_28 a0_palette_entries a0_palette_columns x28 = RES := (congrArg (k_Wr_lengthOfPalette_28 a0_palette_entries a0_palette_columns) hx28).trans E
    refine lv_imul hx hb d_Wr_lengthOfPalette_31 ?_
    refine lv_iadd hx hb d_Wr_lengthOfPalette_32 ?_
    exact kr_i hx hb hr hlk hQ hK hP hD hS ⟨((11 + a0_palette_columns) + (a0_palette_entries * x28) : Int32), E.trans E0.symm, rfl, rfl⟩ (by omega) (by omega) d_Wr_lengthOfPalette_33
  · have E := (if_pos c_9).symm.trans E
    refine lv_iconst (v := 0) hx hb d_Wr_lengthOfPalette_12 (by decide) ?_
    refine lv_goto (tgt := 33) hx hb d_Wr_lengthOfPalette_13 (by decide) ?_
    exact kr_i hx hb hr hlk hQ hK hP hD hS ⟨(0 : Int32), E.trans E0.symm, rfl, rfl⟩ (by omega) (by omega) d_Wr_lengthOfPalette_33
theorem d_Wr_lengthOfMap_0 : decode b_Wr_lengthOfMap 0 = .ok (.aload_n 0, 1) := by decide +kernel
theorem d_Wr_lengthOfMap_1 : decode b_Wr_lengthOfMap 1 = .ok (.getfield 59, 3) := by decide +kernel
theorem d_Wr_lengthOfMap_4 : decode b_Wr_lengthOfMap 4 = .ok (.getfield 63, 3) := by decide +kernel
theorem d_Wr_lengthOfMap_7 : decode b_Wr_lengthOfMap 7 = .ok (.ifCond .ne 7, 3) := by decide +kernel
theorem d_Wr_lengthOfMap_10 : decode b_Wr_lengthOfMap 10 = .ok (.iconst 0, 1) := by decide +kernel
theorem d_Wr_lengthOfMap_11 : decode b_Wr_lengthOfMap 11 = .ok (.goto 15, 3) := by decide +kernel
theorem d_Wr_lengthOfMap_14 : decode b_Wr_lengthOfMap 14 = .ok (.bipush 8, 2) := by decide +kernel
theorem d_Wr_lengthOfMap_16 : decode b_Wr_lengthOfMap 16 = .ok (.iconst 4, 1) := by decide +kernel
theorem d_Wr_lengthOfMap_17 : decode b_Wr_lengthOfMap 17 = .ok (.aload_n 0, 1) := by decide +kernel
theorem d_Wr_lengthOfMap_18 : decode b_Wr_lengthOfMap 18 = .ok (.getfield 75, 3) := by decide +kernel
theorem d_Wr_lengthOfMap_21 : decode b_Wr_lengthOfMap 21 = .ok (.getfield 79, 3) := by decide +kernel
theorem d_Wr_lengthOfMap_24 : decode b_Wr_lengthOfMap 24 = .ok (.imul, 1) := by decide +kernel
theorem d_Wr_lengthOfMap_25 : decode b_Wr_lengthOfMap 25 = .ok (.iadd, 1) := by decide +kernel
theorem d_Wr_lengthOfMap_26 : decode b_Wr_lengthOfMap 26 = .ok (.ireturn, 1) := by decide +kernel
def m_Wr_lengthOfMap (a0_palette_entries : Int32) (a0_map_count : Int32) : Int32 :=
  if a0_palette_entries = 0 then 0 else (8 + (4 * a0_map_count))
set_option maxHeartbeats 4000000 in
set_option maxRecDepth 100000 in
theorem c_Wr_lengthOfMap (l : Launch) (D : va_G) (cB cI cJ : ClassId) (h_a0 h_a0_bits h_a0_profile h_a0_palette h_a0_map h_a0_meanings h_a0_capture h_a0_display h_a0_palette_bits h_a0_palette_numbers h_a0_map_parts : Nat) (a0_high : Int32) (a0_wide : Int32) (a0_components : Int32) (a0_unknown : Int32) (a0_rights : Int32) (a0_colours : Int32) (a0_hasProfile : Int32) (a0_palette_entries : Int32) (a0_palette_columns : Int32) (a0_map_count : Int32) (sz : Nat) : Ct l D cB cI cJ y_Wr_lengthOfMap b_Wr_lengthOfMap 1 (some .int) 0 0 0 0 [.ref h_a0] [(h_a0, .inr (3, [.int a0_high, .int a0_wide, .int a0_components, .int a0_unknown, .int a0_rights, .ref h_a0_bits, .int a0_colours, .int a0_hasProfile, .ref h_a0_profile, .ref h_a0_palette, .ref h_a0_map, .ref h_a0_meanings, .ref h_a0_capture, .ref h_a0_display])), (h_a0_palette, .inr (2, [.int a0_palette_entries, .int a0_palette_columns, .ref h_a0_palette_bits, .ref h_a0_palette_numbers])), (h_a0_map, .inr (1, [.ref h_a0_map_parts, .int a0_map_count]))] (fun v w1 => ∃ (x : Int32), x = m_Wr_lengthOfMap a0_palette_entries a0_map_count ∧ v = some (.int x) ∧ w1 = [(h_a0, .inr (3, [.int a0_high, .int a0_wide, .int a0_components, .int a0_unknown, .int a0_rights, .ref h_a0_bits, .int a0_colours, .int a0_hasProfile, .ref h_a0_profile, .ref h_a0_palette, .ref h_a0_map, .ref h_a0_meanings, .ref h_a0_capture, .ref h_a0_display])), (h_a0_palette, .inr (2, [.int a0_palette_entries, .int a0_palette_columns, .ref h_a0_palette_bits, .ref h_a0_palette_numbers])), (h_a0_map, .inr (1, [.ref h_a0_map_parts, .int a0_map_count]))]) sz := by
  refine Ct.of (by decide) (Nat.le_of_ble_eq_true rfl) ?_
  intro p e R s m args below meth c A ls Q hx hb hr hlk hml hta hown hin hK hN hA hRf hRl hRc hRs hP hD hS hl hQ
  have hl : lv_has ls 1 [(0, .ref h_a0)] := hl
  obtain ⟨RES, E0⟩ : ∃ R, m_Wr_lengthOfMap a0_palette_entries a0_map_count = R := ⟨_, rfl⟩
  have E := E0
  refine lv_aload_n hx hb d_Wr_lengthOfMap_0 rfl (lv_at hl 0 rfl) ?_
  refine va_get (D := D) (v := .ref h_a0_palette) hx hb hta i_Pl hown hK hP 0 rfl rfl 9 (by decide) (hta _ lk_Wr_59) (fun _ h9 => h9) rfl d_Wr_lengthOfMap_1 ?_
  refine va_get (D := D) (v := .int a0_palette_entries) hx hb hta i_Pa hown hK hP 1 rfl rfl 0 (by decide) (hta _ lk_Wr_63) (fun _ h9 => h9) rfl d_Wr_lengthOfMap_4 ?_
  refine lv_if_ne (tgt := 14) hx hb d_Wr_lengthOfMap_7 (by decide) (fun c_7 => ?_) (fun c_7 => ?_)
  · have E := (if_neg c_7).symm.trans E
    refine lv_bipush (v := 8) hx hb d_Wr_lengthOfMap_14 (by decide) ?_
    refine lv_iconst (v := 4) hx hb d_Wr_lengthOfMap_16 (by decide) ?_
    refine lv_aload_n hx hb d_Wr_lengthOfMap_17 rfl (lv_at hl 0 rfl) ?_
    refine va_get (D := D) (v := .ref h_a0_map) hx hb hta i_Pl hown hK hP 0 rfl rfl 10 (by decide) (hta _ lk_Wr_75) (fun _ h9 => h9) rfl d_Wr_lengthOfMap_18 ?_
    refine va_get (D := D) (v := .int a0_map_count) hx hb hta i_Li hown hK hP 2 rfl rfl 1 (by decide) (hta _ lk_Wr_79) (fun _ h9 => h9) rfl d_Wr_lengthOfMap_21 ?_
    refine lv_imul hx hb d_Wr_lengthOfMap_24 ?_
    refine lv_iadd hx hb d_Wr_lengthOfMap_25 ?_
    exact kr_i hx hb hr hlk hQ hK hP hD hS ⟨(8 + (4 * a0_map_count) : Int32), E.trans E0.symm, rfl, rfl⟩ (by omega) (by omega) d_Wr_lengthOfMap_26
  · have E := (if_pos c_7).symm.trans E
    refine lv_iconst (v := 0) hx hb d_Wr_lengthOfMap_10 (by decide) ?_
    refine lv_goto (tgt := 26) hx hb d_Wr_lengthOfMap_11 (by decide) ?_
    exact kr_i hx hb hr hlk hQ hK hP hD hS ⟨(0 : Int32), E.trans E0.symm, rfl, rfl⟩ (by omega) (by omega) d_Wr_lengthOfMap_26
theorem d_Wr_lengthOfMeanings_0 : decode b_Wr_lengthOfMeanings 0 = .ok (.aload_n 0, 1) := by decide +kernel
theorem d_Wr_lengthOfMeanings_1 : decode b_Wr_lengthOfMeanings 1 = .ok (.getfield 82, 3) := by decide +kernel
theorem d_Wr_lengthOfMeanings_4 : decode b_Wr_lengthOfMeanings 4 = .ok (.getfield 79, 3) := by decide +kernel
theorem d_Wr_lengthOfMeanings_7 : decode b_Wr_lengthOfMeanings 7 = .ok (.ifCond .ne 7, 3) := by decide +kernel
theorem d_Wr_lengthOfMeanings_10 : decode b_Wr_lengthOfMeanings 10 = .ok (.iconst 0, 1) := by decide +kernel
theorem d_Wr_lengthOfMeanings_11 : decode b_Wr_lengthOfMeanings 11 = .ok (.goto 16, 3) := by decide +kernel
theorem d_Wr_lengthOfMeanings_14 : decode b_Wr_lengthOfMeanings 14 = .ok (.bipush 10, 2) := by decide +kernel
theorem d_Wr_lengthOfMeanings_16 : decode b_Wr_lengthOfMeanings 16 = .ok (.bipush 6, 2) := by decide +kernel
theorem d_Wr_lengthOfMeanings_18 : decode b_Wr_lengthOfMeanings 18 = .ok (.aload_n 0, 1) := by decide +kernel
theorem d_Wr_lengthOfMeanings_19 : decode b_Wr_lengthOfMeanings 19 = .ok (.getfield 82, 3) := by decide +kernel
theorem d_Wr_lengthOfMeanings_22 : decode b_Wr_lengthOfMeanings 22 = .ok (.getfield 79, 3) := by decide +kernel
theorem d_Wr_lengthOfMeanings_25 : decode b_Wr_lengthOfMeanings 25 = .ok (.imul, 1) := by decide +kernel
theorem d_Wr_lengthOfMeanings_26 : decode b_Wr_lengthOfMeanings 26 = .ok (.iadd, 1) := by decide +kernel
theorem d_Wr_lengthOfMeanings_27 : decode b_Wr_lengthOfMeanings 27 = .ok (.ireturn, 1) := by decide +kernel
def m_Wr_lengthOfMeanings (a0_meanings_count : Int32) : Int32 :=
  if a0_meanings_count = 0 then 0 else (10 + (6 * a0_meanings_count))
set_option maxHeartbeats 4000000 in
set_option maxRecDepth 100000 in
theorem c_Wr_lengthOfMeanings (l : Launch) (D : va_G) (cB cI cJ : ClassId) (h_a0 h_a0_bits h_a0_profile h_a0_palette h_a0_map h_a0_meanings h_a0_capture h_a0_display h_a0_meanings_parts : Nat) (a0_high : Int32) (a0_wide : Int32) (a0_components : Int32) (a0_unknown : Int32) (a0_rights : Int32) (a0_colours : Int32) (a0_hasProfile : Int32) (a0_meanings_count : Int32) (sz : Nat) : Ct l D cB cI cJ y_Wr_lengthOfMeanings b_Wr_lengthOfMeanings 1 (some .int) 0 0 0 0 [.ref h_a0] [(h_a0, .inr (3, [.int a0_high, .int a0_wide, .int a0_components, .int a0_unknown, .int a0_rights, .ref h_a0_bits, .int a0_colours, .int a0_hasProfile, .ref h_a0_profile, .ref h_a0_palette, .ref h_a0_map, .ref h_a0_meanings, .ref h_a0_capture, .ref h_a0_display])), (h_a0_meanings, .inr (1, [.ref h_a0_meanings_parts, .int a0_meanings_count]))] (fun v w1 => ∃ (x : Int32), x = m_Wr_lengthOfMeanings a0_meanings_count ∧ v = some (.int x) ∧ w1 = [(h_a0, .inr (3, [.int a0_high, .int a0_wide, .int a0_components, .int a0_unknown, .int a0_rights, .ref h_a0_bits, .int a0_colours, .int a0_hasProfile, .ref h_a0_profile, .ref h_a0_palette, .ref h_a0_map, .ref h_a0_meanings, .ref h_a0_capture, .ref h_a0_display])), (h_a0_meanings, .inr (1, [.ref h_a0_meanings_parts, .int a0_meanings_count]))]) sz := by
  refine Ct.of (by decide) (Nat.le_of_ble_eq_true rfl) ?_
  intro p e R s m args below meth c A ls Q hx hb hr hlk hml hta hown hin hK hN hA hRf hRl hRc hRs hP hD hS hl hQ
  have hl : lv_has ls 1 [(0, .ref h_a0)] := hl
  obtain ⟨RES, E0⟩ : ∃ R, m_Wr_lengthOfMeanings a0_meanings_count = R := ⟨_, rfl⟩
  have E := E0
  refine lv_aload_n hx hb d_Wr_lengthOfMeanings_0 rfl (lv_at hl 0 rfl) ?_
  refine va_get (D := D) (v := .ref h_a0_meanings) hx hb hta i_Pl hown hK hP 0 rfl rfl 11 (by decide) (hta _ lk_Wr_82) (fun _ h9 => h9) rfl d_Wr_lengthOfMeanings_1 ?_
  refine va_get (D := D) (v := .int a0_meanings_count) hx hb hta i_Li hown hK hP 1 rfl rfl 1 (by decide) (hta _ lk_Wr_79) (fun _ h9 => h9) rfl d_Wr_lengthOfMeanings_4 ?_
  refine lv_if_ne (tgt := 14) hx hb d_Wr_lengthOfMeanings_7 (by decide) (fun c_7 => ?_) (fun c_7 => ?_)
  · have E := (if_neg c_7).symm.trans E
    refine lv_bipush (v := 10) hx hb d_Wr_lengthOfMeanings_14 (by decide) ?_
    refine lv_bipush (v := 6) hx hb d_Wr_lengthOfMeanings_16 (by decide) ?_
    refine lv_aload_n hx hb d_Wr_lengthOfMeanings_18 rfl (lv_at hl 0 rfl) ?_
    refine va_get (D := D) (v := .ref h_a0_meanings) hx hb hta i_Pl hown hK hP 0 rfl rfl 11 (by decide) (hta _ lk_Wr_82) (fun _ h9 => h9) rfl d_Wr_lengthOfMeanings_19 ?_
    refine va_get (D := D) (v := .int a0_meanings_count) hx hb hta i_Li hown hK hP 1 rfl rfl 1 (by decide) (hta _ lk_Wr_79) (fun _ h9 => h9) rfl d_Wr_lengthOfMeanings_22 ?_
    refine lv_imul hx hb d_Wr_lengthOfMeanings_25 ?_
    refine lv_iadd hx hb d_Wr_lengthOfMeanings_26 ?_
    exact kr_i hx hb hr hlk hQ hK hP hD hS ⟨(10 + (6 * a0_meanings_count) : Int32), E.trans E0.symm, rfl, rfl⟩ (by omega) (by omega) d_Wr_lengthOfMeanings_27
  · have E := (if_pos c_7).symm.trans E
    refine lv_iconst (v := 0) hx hb d_Wr_lengthOfMeanings_10 (by decide) ?_
    refine lv_goto (tgt := 27) hx hb d_Wr_lengthOfMeanings_11 (by decide) ?_
    exact kr_i hx hb hr hlk hQ hK hP hD hS ⟨(0 : Int32), E.trans E0.symm, rfl, rfl⟩ (by omega) (by omega) d_Wr_lengthOfMeanings_27
theorem d_Wr_lengthOfRatio_0 : decode b_Wr_lengthOfRatio 0 = .ok (.aload_n 0, 1) := by decide +kernel
theorem d_Wr_lengthOfRatio_1 : decode b_Wr_lengthOfRatio 1 = .ok (.iconst 0, 1) := by decide +kernel
theorem d_Wr_lengthOfRatio_2 : decode b_Wr_lengthOfRatio 2 = .ok (.invokestatic 96, 3) := by decide +kernel
theorem d_Wr_lengthOfRatio_5 : decode b_Wr_lengthOfRatio 5 = .ok (.ifCond .ne 7, 3) := by decide +kernel
theorem d_Wr_lengthOfRatio_8 : decode b_Wr_lengthOfRatio 8 = .ok (.iconst 0, 1) := by decide +kernel
theorem d_Wr_lengthOfRatio_9 : decode b_Wr_lengthOfRatio 9 = .ok (.goto 5, 3) := by decide +kernel
theorem d_Wr_lengthOfRatio_12 : decode b_Wr_lengthOfRatio 12 = .ok (.bipush 18, 2) := by decide +kernel
theorem d_Wr_lengthOfRatio_14 : decode b_Wr_lengthOfRatio 14 = .ok (.ireturn, 1) := by decide +kernel
def k_Wr_lengthOfRatio_2 (x2 : Int32) : Int32 :=
  if x2 = 0 then 0 else 18
def m_Wr_lengthOfRatio (n_a0 : Nat) (f_a0 : Nat → Int32) : Int32 :=
  k_Wr_lengthOfRatio_2 (m_FB_valueIn n_a0 f_a0 0)
set_option maxHeartbeats 4000000 in
set_option maxRecDepth 100000 in
theorem c_Wr_lengthOfRatio (l : Launch) (D : va_G) (cB cI cJ : ClassId) (h_a0 : Nat) (n_a0 : Nat) (f_a0 : Nat → Int32) (hn_a0 : n_a0 < 2147483648) (sz : Nat) : Ct l D cB cI cJ y_Wr_lengthOfRatio b_Wr_lengthOfRatio 1 (some .int) 1 21 0 0 [.ref h_a0] [(h_a0, .inl (cI, n_a0, .inl f_a0))] (fun v w1 => ∃ (x : Int32), x = m_Wr_lengthOfRatio n_a0 f_a0 ∧ v = some (.int x) ∧ w1 = [(h_a0, .inl (cI, n_a0, .inl f_a0))]) sz := by
  refine Ct.of (by decide) (Nat.le_of_ble_eq_true rfl) ?_
  intro p e R s m args below meth c A ls Q hx hb hr hlk hml hta hown hin hK hN hA hRf hRl hRc hRs hP hD hS hl hQ
  have hl : lv_has ls 1 [(0, .ref h_a0)] := hl
  obtain ⟨RES, E0⟩ : ∃ R, m_Wr_lengthOfRatio n_a0 f_a0 = R := ⟨_, rfl⟩
  have E := E0
  refine lv_aload_n hx hb d_Wr_lengthOfRatio_0 rfl (lv_at hl 0 rfl) ?_
  refine lv_iconst (v := 0) hx hb d_Wr_lengthOfRatio_1 (by decide) ?_
  refine kc_SN (As := [.ref h_a0, .int 0]) (rest := []) (wr := []) [0] [] ⟨hx, hb, hml, hown, hta⟩ hK hN hP hD hS hA (c_FB_valueIn l D cB cI cJ h_a0 n_a0 f_a0 0 hn_a0 _) (hN _ nk_Wr_96) (hta _ ini_FB) (hta _ code_FB_valueIn) code_FB_valueIn (hta _ stat_FB_valueIn) hd_FB_valueIn rfl ⟨by omega, by omega⟩ rfl rfl (by decide) (by decide) (by decide) rfl hl.1 (lv_room (Nat.le_of_ble_eq_true rfl)) d_Wr_lengthOfRatio_2 ⟨by omega, by omega⟩ (fun v w1 H locs hw hP hD hS => ?_)
  obtain ⟨x2, hx2, rfl, rfl⟩ := hw
  have hP : va_P D classes [(h_a0, .inl (cI, n_a0, .inl f_a0))] H := hP.sub [0] rfl
  have hD : va_D A [(h_a0, .inl (cI, n_a0, .inl f_a0))] := hD.sub [0] (by decide) rfl
  refine W.eq (g2 := F0 m 5 ls [.int x2]) rfl ?_
  have E : k_Wr_lengthOfRatio_2 x2 = RES := (congrArg (k_Wr_lengthOfRatio_2) hx2).trans E
  refine lv_if_ne (tgt := 12) hx hb d_Wr_lengthOfRatio_5 (by decide) (fun c_5 => ?_) (fun c_5 => ?_)
  · have E := (if_neg c_5).symm.trans E
    refine lv_bipush (v := 18) hx hb d_Wr_lengthOfRatio_12 (by decide) ?_
    exact kr_i hx hb hr hlk hQ hK hP hD hS ⟨(18 : Int32), E.trans E0.symm, rfl, rfl⟩ (by omega) (by omega) d_Wr_lengthOfRatio_14
  · have E := (if_pos c_5).symm.trans E
    refine lv_iconst (v := 0) hx hb d_Wr_lengthOfRatio_8 (by decide) ?_
    refine lv_goto (tgt := 14) hx hb d_Wr_lengthOfRatio_9 (by decide) ?_
    exact kr_i hx hb hr hlk hQ hK hP hD hS ⟨(0 : Int32), E.trans E0.symm, rfl, rfl⟩ (by omega) (by omega) d_Wr_lengthOfRatio_14
theorem d_Wr_lengthOfResolution_0 : decode b_Wr_lengthOfResolution 0 = .ok (.aload_n 0, 1) := by decide +kernel
theorem d_Wr_lengthOfResolution_1 : decode b_Wr_lengthOfResolution 1 = .ok (.getfield 85, 3) := by decide +kernel
theorem d_Wr_lengthOfResolution_4 : decode b_Wr_lengthOfResolution 4 = .ok (.invokestatic 89, 3) := by decide +kernel
theorem d_Wr_lengthOfResolution_7 : decode b_Wr_lengthOfResolution 7 = .ok (.aload_n 0, 1) := by decide +kernel
theorem d_Wr_lengthOfResolution_8 : decode b_Wr_lengthOfResolution 8 = .ok (.getfield 93, 3) := by decide +kernel
theorem d_Wr_lengthOfResolution_11 : decode b_Wr_lengthOfResolution 11 = .ok (.invokestatic 89, 3) := by decide +kernel
theorem d_Wr_lengthOfResolution_14 : decode b_Wr_lengthOfResolution 14 = .ok (.iadd, 1) := by decide +kernel
theorem d_Wr_lengthOfResolution_15 : decode b_Wr_lengthOfResolution 15 = .ok (.istore_n 1, 1) := by decide +kernel
theorem d_Wr_lengthOfResolution_16 : decode b_Wr_lengthOfResolution 16 = .ok (.iload_n 1, 1) := by decide +kernel
theorem d_Wr_lengthOfResolution_17 : decode b_Wr_lengthOfResolution 17 = .ok (.ifCond .ne 7, 3) := by decide +kernel
theorem d_Wr_lengthOfResolution_20 : decode b_Wr_lengthOfResolution 20 = .ok (.iconst 0, 1) := by decide +kernel
theorem d_Wr_lengthOfResolution_21 : decode b_Wr_lengthOfResolution 21 = .ok (.goto 7, 3) := by decide +kernel
theorem d_Wr_lengthOfResolution_24 : decode b_Wr_lengthOfResolution 24 = .ok (.bipush 8, 2) := by decide +kernel
theorem d_Wr_lengthOfResolution_26 : decode b_Wr_lengthOfResolution 26 = .ok (.iload_n 1, 1) := by decide +kernel
theorem d_Wr_lengthOfResolution_27 : decode b_Wr_lengthOfResolution 27 = .ok (.iadd, 1) := by decide +kernel
theorem d_Wr_lengthOfResolution_28 : decode b_Wr_lengthOfResolution 28 = .ok (.ireturn, 1) := by decide +kernel
def k_Wr_lengthOfResolution_11 (x4 : Int32) (x11 : Int32) : Int32 :=
  if (x4 + x11) = 0 then 0 else (8 + (x4 + x11))
def k_Wr_lengthOfResolution_4 (n_a0_display : Nat) (f_a0_display : Nat → Int32) (x4 : Int32) : Int32 :=
  k_Wr_lengthOfResolution_11 x4 (m_Wr_lengthOfRatio n_a0_display f_a0_display)
def m_Wr_lengthOfResolution (n_a0_capture : Nat) (f_a0_capture : Nat → Int32) (n_a0_display : Nat) (f_a0_display : Nat → Int32) : Int32 :=
  k_Wr_lengthOfResolution_4 n_a0_display f_a0_display (m_Wr_lengthOfRatio n_a0_capture f_a0_capture)
set_option maxHeartbeats 4000000 in
set_option maxRecDepth 100000 in
theorem c_Wr_lengthOfResolution (l : Launch) (D : va_G) (cB cI cJ : ClassId) (h_a0 h_a0_bits h_a0_profile h_a0_palette h_a0_map h_a0_meanings h_a0_capture h_a0_display : Nat) (a0_high : Int32) (a0_wide : Int32) (a0_components : Int32) (a0_unknown : Int32) (a0_rights : Int32) (a0_colours : Int32) (a0_hasProfile : Int32) (n_a0_capture : Nat) (f_a0_capture : Nat → Int32) (n_a0_display : Nat) (f_a0_display : Nat → Int32) (hn_a0_capture : n_a0_capture < 2147483648) (hn_a0_display : n_a0_display < 2147483648) (sz : Nat) : Ct l D cB cI cJ y_Wr_lengthOfResolution b_Wr_lengthOfResolution 2 (some .int) 2 41 0 0 [.ref h_a0] [(h_a0, .inr (3, [.int a0_high, .int a0_wide, .int a0_components, .int a0_unknown, .int a0_rights, .ref h_a0_bits, .int a0_colours, .int a0_hasProfile, .ref h_a0_profile, .ref h_a0_palette, .ref h_a0_map, .ref h_a0_meanings, .ref h_a0_capture, .ref h_a0_display])), (h_a0_capture, .inl (cI, n_a0_capture, .inl f_a0_capture)), (h_a0_display, .inl (cI, n_a0_display, .inl f_a0_display))] (fun v w1 => ∃ (x : Int32), x = m_Wr_lengthOfResolution n_a0_capture f_a0_capture n_a0_display f_a0_display ∧ v = some (.int x) ∧ w1 = [(h_a0, .inr (3, [.int a0_high, .int a0_wide, .int a0_components, .int a0_unknown, .int a0_rights, .ref h_a0_bits, .int a0_colours, .int a0_hasProfile, .ref h_a0_profile, .ref h_a0_palette, .ref h_a0_map, .ref h_a0_meanings, .ref h_a0_capture, .ref h_a0_display])), (h_a0_capture, .inl (cI, n_a0_capture, .inl f_a0_capture)), (h_a0_display, .inl (cI, n_a0_display, .inl f_a0_display))]) sz := by
  refine Ct.of (by decide) (Nat.le_of_ble_eq_true rfl) ?_
  intro p e R s m args below meth c A ls Q hx hb hr hlk hml hta hown hin hK hN hA hRf hRl hRc hRs hP hD hS hl hQ
  have hl : lv_has ls 2 [(0, .ref h_a0)] := hl
  obtain ⟨RES, E0⟩ : ∃ R, m_Wr_lengthOfResolution n_a0_capture f_a0_capture n_a0_display f_a0_display = R := ⟨_, rfl⟩
  have E := E0
  refine lv_aload_n hx hb d_Wr_lengthOfResolution_0 rfl (lv_at hl 0 rfl) ?_
  refine va_get (D := D) (v := .ref h_a0_capture) hx hb hta i_Pl hown hK hP 0 rfl rfl 12 (by decide) (hta _ lk_Wr_85) (fun _ h9 => h9) rfl d_Wr_lengthOfResolution_1 ?_
  refine kc_S (As := [.ref h_a0_capture]) (rest := []) (wr := [(h_a0, .inr (3, [.int a0_high, .int a0_wide, .int a0_components, .int a0_unknown, .int a0_rights, .ref h_a0_bits, .int a0_colours, .int a0_hasProfile, .ref h_a0_profile, .ref h_a0_palette, .ref h_a0_map, .ref h_a0_meanings, .ref h_a0_capture, .ref h_a0_display])), (h_a0_display, .inl (cI, n_a0_display, .inl f_a0_display))]) [1] [0, 2] ⟨hx, hb, hml, hown, hta⟩ hK hN hP hD hS hA (c_Wr_lengthOfRatio l D cB cI cJ h_a0_capture n_a0_capture f_a0_capture hn_a0_capture _) (hta _ lk_Wr_89) (hta _ ini_Wr) (hta _ code_Wr_lengthOfRatio) code_Wr_lengthOfRatio (hta _ stat_Wr_lengthOfRatio) hd_Wr_lengthOfRatio rfl ⟨by omega, by omega⟩ rfl rfl (by decide) (by decide) (by decide) rfl hl.1 (lv_room (Nat.le_of_ble_eq_true rfl)) d_Wr_lengthOfResolution_4 ⟨by omega, by omega⟩ (fun v w1 H locs hw hP hD hS => ?_)
  obtain ⟨x4, hx4, rfl, rfl⟩ := hw
  have hP : va_P D classes [(h_a0, .inr (3, [.int a0_high, .int a0_wide, .int a0_components, .int a0_unknown, .int a0_rights, .ref h_a0_bits, .int a0_colours, .int a0_hasProfile, .ref h_a0_profile, .ref h_a0_palette, .ref h_a0_map, .ref h_a0_meanings, .ref h_a0_capture, .ref h_a0_display])), (h_a0_capture, .inl (cI, n_a0_capture, .inl f_a0_capture)), (h_a0_display, .inl (cI, n_a0_display, .inl f_a0_display))] H := hP.sub [0, 2, 1] rfl
  have hD : va_D A [(h_a0, .inr (3, [.int a0_high, .int a0_wide, .int a0_components, .int a0_unknown, .int a0_rights, .ref h_a0_bits, .int a0_colours, .int a0_hasProfile, .ref h_a0_profile, .ref h_a0_palette, .ref h_a0_map, .ref h_a0_meanings, .ref h_a0_capture, .ref h_a0_display])), (h_a0_capture, .inl (cI, n_a0_capture, .inl f_a0_capture)), (h_a0_display, .inl (cI, n_a0_display, .inl f_a0_display))] := hD.sub [0, 2, 1] (by decide) rfl
  refine W.eq (g2 := F0 m 7 ls [.int x4]) rfl ?_
  have E : k_Wr_lengthOfResolution_4 n_a0_display f_a0_display x4 = RES := (congrArg (k_Wr_lengthOfResolution_4 n_a0_display f_a0_display) hx4).trans E
  refine lv_aload_n hx hb d_Wr_lengthOfResolution_7 rfl (lv_at hl 0 rfl) ?_
  refine va_get (D := D) (v := .ref h_a0_display) hx hb hta i_Pl hown hK hP 0 rfl rfl 13 (by decide) (hta _ lk_Wr_93) (fun _ h9 => h9) rfl d_Wr_lengthOfResolution_8 ?_
  refine kc_S (As := [.ref h_a0_display]) (rest := [.int x4]) (wr := [(h_a0, .inr (3, [.int a0_high, .int a0_wide, .int a0_components, .int a0_unknown, .int a0_rights, .ref h_a0_bits, .int a0_colours, .int a0_hasProfile, .ref h_a0_profile, .ref h_a0_palette, .ref h_a0_map, .ref h_a0_meanings, .ref h_a0_capture, .ref h_a0_display])), (h_a0_capture, .inl (cI, n_a0_capture, .inl f_a0_capture))]) [2] [0, 1] ⟨hx, hb, hml, hown, hta⟩ hK hN hP hD hS hA (c_Wr_lengthOfRatio l D cB cI cJ h_a0_display n_a0_display f_a0_display hn_a0_display _) (hta _ lk_Wr_89) (hta _ ini_Wr) (hta _ code_Wr_lengthOfRatio) code_Wr_lengthOfRatio (hta _ stat_Wr_lengthOfRatio) hd_Wr_lengthOfRatio rfl ⟨by omega, by omega⟩ rfl rfl (by decide) (by decide) (by decide) rfl hl.1 (lv_room (Nat.le_of_ble_eq_true rfl)) d_Wr_lengthOfResolution_11 ⟨by omega, by omega⟩ (fun v w1 H locs hw hP hD hS => ?_)
  obtain ⟨x11, hx11, rfl, rfl⟩ := hw
  have hP : va_P D classes [(h_a0, .inr (3, [.int a0_high, .int a0_wide, .int a0_components, .int a0_unknown, .int a0_rights, .ref h_a0_bits, .int a0_colours, .int a0_hasProfile, .ref h_a0_profile, .ref h_a0_palette, .ref h_a0_map, .ref h_a0_meanings, .ref h_a0_capture, .ref h_a0_display])), (h_a0_capture, .inl (cI, n_a0_capture, .inl f_a0_capture)), (h_a0_display, .inl (cI, n_a0_display, .inl f_a0_display))] H := hP.sub [0, 1, 2] rfl
  have hD : va_D A [(h_a0, .inr (3, [.int a0_high, .int a0_wide, .int a0_components, .int a0_unknown, .int a0_rights, .ref h_a0_bits, .int a0_colours, .int a0_hasProfile, .ref h_a0_profile, .ref h_a0_palette, .ref h_a0_map, .ref h_a0_meanings, .ref h_a0_capture, .ref h_a0_display])), (h_a0_capture, .inl (cI, n_a0_capture, .inl f_a0_capture)), (h_a0_display, .inl (cI, n_a0_display, .inl f_a0_display))] := hD.sub [0, 1, 2] (by decide) rfl
  refine W.eq (g2 := F0 m 14 ls [.int x11, .int x4]) rfl ?_
  have E : k_Wr_lengthOfResolution_11 x4 x11 = RES := (congrArg (k_Wr_lengthOfResolution_11 x4) hx11).trans E
  refine lv_iadd hx hb d_Wr_lengthOfResolution_14 ?_
  refine lv_istore_n (lv' := [(1, .int (x4 + x11)), (0, .ref h_a0)]) hx hb d_Wr_lengthOfResolution_15 rfl hl (by decide) rfl (fun ls hl => ?_)
  refine lv_iload_n hx hb d_Wr_lengthOfResolution_16 rfl (lv_at hl 0 rfl) ?_
  refine lv_if_ne (tgt := 24) hx hb d_Wr_lengthOfResolution_17 (by decide) (fun c_17 => ?_) (fun c_17 => ?_)
  · have E := (if_neg c_17).symm.trans E
    refine lv_bipush (v := 8) hx hb d_Wr_lengthOfResolution_24 (by decide) ?_
    refine lv_iload_n hx hb d_Wr_lengthOfResolution_26 rfl (lv_at hl 0 rfl) ?_
    refine lv_iadd hx hb d_Wr_lengthOfResolution_27 ?_
    exact kr_i hx hb hr hlk hQ hK hP hD hS ⟨(8 + (x4 + x11) : Int32), E.trans E0.symm, rfl, rfl⟩ (by omega) (by omega) d_Wr_lengthOfResolution_28
  · have E := (if_pos c_17).symm.trans E
    refine lv_iconst (v := 0) hx hb d_Wr_lengthOfResolution_20 (by decide) ?_
    refine lv_goto (tgt := 28) hx hb d_Wr_lengthOfResolution_21 (by decide) ?_
    exact kr_i hx hb hr hlk hQ hK hP hD hS ⟨(0 : Int32), E.trans E0.symm, rfl, rfl⟩ (by omega) (by omega) d_Wr_lengthOfResolution_28
theorem d_Wr_lengthOfHead_0 : decode b_Wr_lengthOfHead 0 = .ok (.bipush 30, 2) := by decide +kernel
theorem d_Wr_lengthOfHead_2 : decode b_Wr_lengthOfHead 2 = .ok (.aload_n 0, 1) := by decide +kernel
theorem d_Wr_lengthOfHead_3 : decode b_Wr_lengthOfHead 3 = .ok (.invokestatic 19, 3) := by decide +kernel
theorem d_Wr_lengthOfHead_6 : decode b_Wr_lengthOfHead 6 = .ok (.iadd, 1) := by decide +kernel
theorem d_Wr_lengthOfHead_7 : decode b_Wr_lengthOfHead 7 = .ok (.aload_n 0, 1) := by decide +kernel
theorem d_Wr_lengthOfHead_8 : decode b_Wr_lengthOfHead 8 = .ok (.invokestatic 22, 3) := by decide +kernel
theorem d_Wr_lengthOfHead_11 : decode b_Wr_lengthOfHead 11 = .ok (.iadd, 1) := by decide +kernel
theorem d_Wr_lengthOfHead_12 : decode b_Wr_lengthOfHead 12 = .ok (.aload_n 0, 1) := by decide +kernel
theorem d_Wr_lengthOfHead_13 : decode b_Wr_lengthOfHead 13 = .ok (.invokestatic 25, 3) := by decide +kernel
theorem d_Wr_lengthOfHead_16 : decode b_Wr_lengthOfHead 16 = .ok (.iadd, 1) := by decide +kernel
theorem d_Wr_lengthOfHead_17 : decode b_Wr_lengthOfHead 17 = .ok (.aload_n 0, 1) := by decide +kernel
theorem d_Wr_lengthOfHead_18 : decode b_Wr_lengthOfHead 18 = .ok (.invokestatic 28, 3) := by decide +kernel
theorem d_Wr_lengthOfHead_21 : decode b_Wr_lengthOfHead 21 = .ok (.iadd, 1) := by decide +kernel
theorem d_Wr_lengthOfHead_22 : decode b_Wr_lengthOfHead 22 = .ok (.aload_n 0, 1) := by decide +kernel
theorem d_Wr_lengthOfHead_23 : decode b_Wr_lengthOfHead 23 = .ok (.invokestatic 31, 3) := by decide +kernel
theorem d_Wr_lengthOfHead_26 : decode b_Wr_lengthOfHead 26 = .ok (.iadd, 1) := by decide +kernel
theorem d_Wr_lengthOfHead_27 : decode b_Wr_lengthOfHead 27 = .ok (.aload_n 0, 1) := by decide +kernel
theorem d_Wr_lengthOfHead_28 : decode b_Wr_lengthOfHead 28 = .ok (.invokestatic 34, 3) := by decide +kernel
theorem d_Wr_lengthOfHead_31 : decode b_Wr_lengthOfHead 31 = .ok (.iadd, 1) := by decide +kernel
theorem d_Wr_lengthOfHead_32 : decode b_Wr_lengthOfHead 32 = .ok (.ireturn, 1) := by decide +kernel
def k_Wr_lengthOfHead_28 (x3 : Int32) (x8 : Int32) (x13 : Int32) (x18 : Int32) (x23 : Int32) (x28 : Int32) : Int32 :=
  (((((30 + x3) + x8) + x13) + x18) + x23) + x28
def k_Wr_lengthOfHead_23 (n_a0_capture : Nat) (f_a0_capture : Nat → Int32) (n_a0_display : Nat) (f_a0_display : Nat → Int32) (x3 : Int32) (x8 : Int32) (x13 : Int32) (x18 : Int32) (x23 : Int32) : Int32 :=
  k_Wr_lengthOfHead_28 x3 x8 x13 x18 x23 (m_Wr_lengthOfResolution n_a0_capture f_a0_capture n_a0_display f_a0_display)
def k_Wr_lengthOfHead_18 (a0_meanings_count : Int32) (n_a0_capture : Nat) (f_a0_capture : Nat → Int32) (n_a0_display : Nat) (f_a0_display : Nat → Int32) (x3 : Int32) (x8 : Int32) (x13 : Int32) (x18 : Int32) : Int32 :=
  k_Wr_lengthOfHead_23 n_a0_capture f_a0_capture n_a0_display f_a0_display x3 x8 x13 x18 (m_Wr_lengthOfMeanings a0_meanings_count)
def k_Wr_lengthOfHead_13 (a0_palette_entries : Int32) (a0_map_count : Int32) (a0_meanings_count : Int32) (n_a0_capture : Nat) (f_a0_capture : Nat → Int32) (n_a0_display : Nat) (f_a0_display : Nat → Int32) (x3 : Int32) (x8 : Int32) (x13 : Int32) : Int32 :=
  k_Wr_lengthOfHead_18 a0_meanings_count n_a0_capture f_a0_capture n_a0_display f_a0_display x3 x8 x13 (m_Wr_lengthOfMap a0_palette_entries a0_map_count)
def k_Wr_lengthOfHead_8 (a0_palette_entries : Int32) (a0_palette_columns : Int32) (n_a0_palette_bits : Nat) (f_a0_palette_bits : Nat → Int32) (a0_map_count : Int32) (a0_meanings_count : Int32) (n_a0_capture : Nat) (f_a0_capture : Nat → Int32) (n_a0_display : Nat) (f_a0_display : Nat → Int32) (x3 : Int32) (x8 : Int32) : Int32 :=
  k_Wr_lengthOfHead_13 a0_palette_entries a0_map_count a0_meanings_count n_a0_capture f_a0_capture n_a0_display f_a0_display x3 x8 (m_Wr_lengthOfPalette a0_palette_entries a0_palette_columns n_a0_palette_bits f_a0_palette_bits)
def k_Wr_lengthOfHead_3 (a0_hasProfile : Int32) (a0_profile_count : Int32) (a0_palette_entries : Int32) (a0_palette_columns : Int32) (n_a0_palette_bits : Nat) (f_a0_palette_bits : Nat → Int32) (a0_map_count : Int32) (a0_meanings_count : Int32) (n_a0_capture : Nat) (f_a0_capture : Nat → Int32) (n_a0_display : Nat) (f_a0_display : Nat → Int32) (x3 : Int32) : Int32 :=
  k_Wr_lengthOfHead_8 a0_palette_entries a0_palette_columns n_a0_palette_bits f_a0_palette_bits a0_map_count a0_meanings_count n_a0_capture f_a0_capture n_a0_display f_a0_display x3 (m_Wr_lengthOfColour a0_hasProfile a0_profile_count)
def m_Wr_lengthOfHead (a0_components : Int32) (a0_hasProfile : Int32) (n_a0_bits : Nat) (f_a0_bits : Nat → Int32) (a0_profile_count : Int32) (a0_palette_entries : Int32) (a0_palette_columns : Int32) (n_a0_palette_bits : Nat) (f_a0_palette_bits : Nat → Int32) (a0_map_count : Int32) (a0_meanings_count : Int32) (n_a0_capture : Nat) (f_a0_capture : Nat → Int32) (n_a0_display : Nat) (f_a0_display : Nat → Int32) : Int32 :=
  k_Wr_lengthOfHead_3 a0_hasProfile a0_profile_count a0_palette_entries a0_palette_columns n_a0_palette_bits f_a0_palette_bits a0_map_count a0_meanings_count n_a0_capture f_a0_capture n_a0_display f_a0_display (m_Wr_lengthOfBits a0_components n_a0_bits f_a0_bits)
set_option maxHeartbeats 4000000 in
set_option maxRecDepth 100000 in
theorem c_Wr_lengthOfHead (l : Launch) (D : va_G) (cB cI cJ : ClassId) (h_a0 h_a0_bits h_a0_profile h_a0_palette h_a0_map h_a0_meanings h_a0_capture h_a0_display h_a0_profile_row h_a0_palette_bits h_a0_palette_numbers h_a0_map_parts h_a0_meanings_parts : Nat) (a0_high : Int32) (a0_wide : Int32) (a0_components : Int32) (a0_unknown : Int32) (a0_rights : Int32) (a0_colours : Int32) (a0_hasProfile : Int32) (n_a0_bits : Nat) (f_a0_bits : Nat → Int32) (a0_profile_most : Int32) (a0_profile_count : Int32) (a0_palette_entries : Int32) (a0_palette_columns : Int32) (n_a0_palette_bits : Nat) (f_a0_palette_bits : Nat → Int32) (a0_map_count : Int32) (a0_meanings_count : Int32) (n_a0_capture : Nat) (f_a0_capture : Nat → Int32) (n_a0_display : Nat) (f_a0_display : Nat → Int32) (hn_a0_bits : n_a0_bits < 2147483648) (hn_a0_palette_bits : n_a0_palette_bits < 2147483648) (hn_a0_capture : n_a0_capture < 2147483648) (hn_a0_display : n_a0_display < 2147483648) (sz : Nat) : Ct l D cB cI cJ y_Wr_lengthOfHead b_Wr_lengthOfHead 1 (some .int) 4 83 0 0 [.ref h_a0] [(h_a0, .inr (3, [.int a0_high, .int a0_wide, .int a0_components, .int a0_unknown, .int a0_rights, .ref h_a0_bits, .int a0_colours, .int a0_hasProfile, .ref h_a0_profile, .ref h_a0_palette, .ref h_a0_map, .ref h_a0_meanings, .ref h_a0_capture, .ref h_a0_display])), (h_a0_bits, .inl (cI, n_a0_bits, .inl f_a0_bits)), (h_a0_profile, .inr (0, [.int a0_profile_most, .ref h_a0_profile_row, .int a0_profile_count])), (h_a0_palette, .inr (2, [.int a0_palette_entries, .int a0_palette_columns, .ref h_a0_palette_bits, .ref h_a0_palette_numbers])), (h_a0_palette_bits, .inl (cI, n_a0_palette_bits, .inl f_a0_palette_bits)), (h_a0_map, .inr (1, [.ref h_a0_map_parts, .int a0_map_count])), (h_a0_meanings, .inr (1, [.ref h_a0_meanings_parts, .int a0_meanings_count])), (h_a0_capture, .inl (cI, n_a0_capture, .inl f_a0_capture)), (h_a0_display, .inl (cI, n_a0_display, .inl f_a0_display))] (fun v w1 => ∃ (x : Int32), x = m_Wr_lengthOfHead a0_components a0_hasProfile n_a0_bits f_a0_bits a0_profile_count a0_palette_entries a0_palette_columns n_a0_palette_bits f_a0_palette_bits a0_map_count a0_meanings_count n_a0_capture f_a0_capture n_a0_display f_a0_display ∧ v = some (.int x) ∧ w1 = [(h_a0, .inr (3, [.int a0_high, .int a0_wide, .int a0_components, .int a0_unknown, .int a0_rights, .ref h_a0_bits, .int a0_colours, .int a0_hasProfile, .ref h_a0_profile, .ref h_a0_palette, .ref h_a0_map, .ref h_a0_meanings, .ref h_a0_capture, .ref h_a0_display])), (h_a0_bits, .inl (cI, n_a0_bits, .inl f_a0_bits)), (h_a0_profile, .inr (0, [.int a0_profile_most, .ref h_a0_profile_row, .int a0_profile_count])), (h_a0_palette, .inr (2, [.int a0_palette_entries, .int a0_palette_columns, .ref h_a0_palette_bits, .ref h_a0_palette_numbers])), (h_a0_palette_bits, .inl (cI, n_a0_palette_bits, .inl f_a0_palette_bits)), (h_a0_map, .inr (1, [.ref h_a0_map_parts, .int a0_map_count])), (h_a0_meanings, .inr (1, [.ref h_a0_meanings_parts, .int a0_meanings_count])), (h_a0_capture, .inl (cI, n_a0_capture, .inl f_a0_capture)), (h_a0_display, .inl (cI, n_a0_display, .inl f_a0_display))]) sz := by
  refine Ct.of (by decide) (Nat.le_of_ble_eq_true rfl) ?_
  intro p e R s m args below meth c A ls Q hx hb hr hlk hml hta hown hin hK hN hA hRf hRl hRc hRs hP hD hS hl hQ
  have hl : lv_has ls 1 [(0, .ref h_a0)] := hl
  obtain ⟨RES, E0⟩ : ∃ R, m_Wr_lengthOfHead a0_components a0_hasProfile n_a0_bits f_a0_bits a0_profile_count a0_palette_entries a0_palette_columns n_a0_palette_bits f_a0_palette_bits a0_map_count a0_meanings_count n_a0_capture f_a0_capture n_a0_display f_a0_display = R := ⟨_, rfl⟩
  have E := E0
  refine lv_bipush (v := 30) hx hb d_Wr_lengthOfHead_0 (by decide) ?_
  refine lv_aload_n hx hb d_Wr_lengthOfHead_2 rfl (lv_at hl 0 rfl) ?_
  refine kc_S (As := [.ref h_a0]) (rest := [.int 30]) (wr := [(h_a0_profile, .inr (0, [.int a0_profile_most, .ref h_a0_profile_row, .int a0_profile_count])), (h_a0_palette, .inr (2, [.int a0_palette_entries, .int a0_palette_columns, .ref h_a0_palette_bits, .ref h_a0_palette_numbers])), (h_a0_palette_bits, .inl (cI, n_a0_palette_bits, .inl f_a0_palette_bits)), (h_a0_map, .inr (1, [.ref h_a0_map_parts, .int a0_map_count])), (h_a0_meanings, .inr (1, [.ref h_a0_meanings_parts, .int a0_meanings_count])), (h_a0_capture, .inl (cI, n_a0_capture, .inl f_a0_capture)), (h_a0_display, .inl (cI, n_a0_display, .inl f_a0_display))]) [0, 1] [2, 3, 4, 5, 6, 7, 8] ⟨hx, hb, hml, hown, hta⟩ hK hN hP hD hS hA (c_Wr_lengthOfBits l D cB cI cJ h_a0 h_a0_bits h_a0_profile h_a0_palette h_a0_map h_a0_meanings h_a0_capture h_a0_display a0_high a0_wide a0_components a0_unknown a0_rights a0_colours a0_hasProfile n_a0_bits f_a0_bits hn_a0_bits _) (hta _ lk_Wr_19) (hta _ ini_Wr) (hta _ code_Wr_lengthOfBits) code_Wr_lengthOfBits (hta _ stat_Wr_lengthOfBits) hd_Wr_lengthOfBits rfl ⟨by omega, by omega⟩ rfl rfl (by decide) (by decide) (by decide) rfl hl.1 (lv_room (Nat.le_of_ble_eq_true rfl)) d_Wr_lengthOfHead_3 ⟨by omega, by omega⟩ (fun v w1 H locs hw hP hD hS => ?_)
  obtain ⟨x3, hx3, rfl, rfl⟩ := hw
  have hP : va_P D classes [(h_a0, .inr (3, [.int a0_high, .int a0_wide, .int a0_components, .int a0_unknown, .int a0_rights, .ref h_a0_bits, .int a0_colours, .int a0_hasProfile, .ref h_a0_profile, .ref h_a0_palette, .ref h_a0_map, .ref h_a0_meanings, .ref h_a0_capture, .ref h_a0_display])), (h_a0_bits, .inl (cI, n_a0_bits, .inl f_a0_bits)), (h_a0_profile, .inr (0, [.int a0_profile_most, .ref h_a0_profile_row, .int a0_profile_count])), (h_a0_palette, .inr (2, [.int a0_palette_entries, .int a0_palette_columns, .ref h_a0_palette_bits, .ref h_a0_palette_numbers])), (h_a0_palette_bits, .inl (cI, n_a0_palette_bits, .inl f_a0_palette_bits)), (h_a0_map, .inr (1, [.ref h_a0_map_parts, .int a0_map_count])), (h_a0_meanings, .inr (1, [.ref h_a0_meanings_parts, .int a0_meanings_count])), (h_a0_capture, .inl (cI, n_a0_capture, .inl f_a0_capture)), (h_a0_display, .inl (cI, n_a0_display, .inl f_a0_display))] H := hP.sub [7, 8, 0, 1, 2, 3, 4, 5, 6] rfl
  have hD : va_D A [(h_a0, .inr (3, [.int a0_high, .int a0_wide, .int a0_components, .int a0_unknown, .int a0_rights, .ref h_a0_bits, .int a0_colours, .int a0_hasProfile, .ref h_a0_profile, .ref h_a0_palette, .ref h_a0_map, .ref h_a0_meanings, .ref h_a0_capture, .ref h_a0_display])), (h_a0_bits, .inl (cI, n_a0_bits, .inl f_a0_bits)), (h_a0_profile, .inr (0, [.int a0_profile_most, .ref h_a0_profile_row, .int a0_profile_count])), (h_a0_palette, .inr (2, [.int a0_palette_entries, .int a0_palette_columns, .ref h_a0_palette_bits, .ref h_a0_palette_numbers])), (h_a0_palette_bits, .inl (cI, n_a0_palette_bits, .inl f_a0_palette_bits)), (h_a0_map, .inr (1, [.ref h_a0_map_parts, .int a0_map_count])), (h_a0_meanings, .inr (1, [.ref h_a0_meanings_parts, .int a0_meanings_count])), (h_a0_capture, .inl (cI, n_a0_capture, .inl f_a0_capture)), (h_a0_display, .inl (cI, n_a0_display, .inl f_a0_display))] := hD.sub [7, 8, 0, 1, 2, 3, 4, 5, 6] (by decide) rfl
  refine W.eq (g2 := F0 m 6 ls [.int x3, .int 30]) rfl ?_
  have E : k_Wr_lengthOfHead_3 a0_hasProfile a0_profile_count a0_palette_entries a0_palette_columns n_a0_palette_bits f_a0_palette_bits a0_map_count a0_meanings_count n_a0_capture f_a0_capture n_a0_display f_a0_display x3 = RES := (congrArg (k_Wr_lengthOfHead_3 a0_hasProfile a0_profile_count a0_palette_entries a0_palette_columns n_a0_palette_bits f_a0_palette_bits a0_map_count a0_meanings_count n_a0_capture f_a0_capture n_a0_display f_a0_display) hx3).trans E
  refine lv_iadd hx hb d_Wr_lengthOfHead_6 ?_
  refine lv_aload_n hx hb d_Wr_lengthOfHead_7 rfl (lv_at hl 0 rfl) ?_
  refine kc_S (As := [.ref h_a0]) (rest := [.int (30 + x3)]) (wr := [(h_a0_bits, .inl (cI, n_a0_bits, .inl f_a0_bits)), (h_a0_palette, .inr (2, [.int a0_palette_entries, .int a0_palette_columns, .ref h_a0_palette_bits, .ref h_a0_palette_numbers])), (h_a0_palette_bits, .inl (cI, n_a0_palette_bits, .inl f_a0_palette_bits)), (h_a0_map, .inr (1, [.ref h_a0_map_parts, .int a0_map_count])), (h_a0_meanings, .inr (1, [.ref h_a0_meanings_parts, .int a0_meanings_count])), (h_a0_capture, .inl (cI, n_a0_capture, .inl f_a0_capture)), (h_a0_display, .inl (cI, n_a0_display, .inl f_a0_display))]) [0, 2] [1, 3, 4, 5, 6, 7, 8] ⟨hx, hb, hml, hown, hta⟩ hK hN hP hD hS hA (c_Wr_lengthOfColour l D cB cI cJ h_a0 h_a0_bits h_a0_profile h_a0_palette h_a0_map h_a0_meanings h_a0_capture h_a0_display h_a0_profile_row a0_high a0_wide a0_components a0_unknown a0_rights a0_colours a0_hasProfile a0_profile_most a0_profile_count _) (hta _ lk_Wr_22) (hta _ ini_Wr) (hta _ code_Wr_lengthOfColour) code_Wr_lengthOfColour (hta _ stat_Wr_lengthOfColour) hd_Wr_lengthOfColour rfl ⟨by omega, by omega⟩ rfl rfl (by decide) (by decide) (by decide) rfl hl.1 (lv_room (Nat.le_of_ble_eq_true rfl)) d_Wr_lengthOfHead_8 ⟨by omega, by omega⟩ (fun v w1 H locs hw hP hD hS => ?_)
  obtain ⟨x8, hx8, rfl, rfl⟩ := hw
  have hP : va_P D classes [(h_a0, .inr (3, [.int a0_high, .int a0_wide, .int a0_components, .int a0_unknown, .int a0_rights, .ref h_a0_bits, .int a0_colours, .int a0_hasProfile, .ref h_a0_profile, .ref h_a0_palette, .ref h_a0_map, .ref h_a0_meanings, .ref h_a0_capture, .ref h_a0_display])), (h_a0_bits, .inl (cI, n_a0_bits, .inl f_a0_bits)), (h_a0_profile, .inr (0, [.int a0_profile_most, .ref h_a0_profile_row, .int a0_profile_count])), (h_a0_palette, .inr (2, [.int a0_palette_entries, .int a0_palette_columns, .ref h_a0_palette_bits, .ref h_a0_palette_numbers])), (h_a0_palette_bits, .inl (cI, n_a0_palette_bits, .inl f_a0_palette_bits)), (h_a0_map, .inr (1, [.ref h_a0_map_parts, .int a0_map_count])), (h_a0_meanings, .inr (1, [.ref h_a0_meanings_parts, .int a0_meanings_count])), (h_a0_capture, .inl (cI, n_a0_capture, .inl f_a0_capture)), (h_a0_display, .inl (cI, n_a0_display, .inl f_a0_display))] H := hP.sub [7, 0, 8, 1, 2, 3, 4, 5, 6] rfl
  have hD : va_D A [(h_a0, .inr (3, [.int a0_high, .int a0_wide, .int a0_components, .int a0_unknown, .int a0_rights, .ref h_a0_bits, .int a0_colours, .int a0_hasProfile, .ref h_a0_profile, .ref h_a0_palette, .ref h_a0_map, .ref h_a0_meanings, .ref h_a0_capture, .ref h_a0_display])), (h_a0_bits, .inl (cI, n_a0_bits, .inl f_a0_bits)), (h_a0_profile, .inr (0, [.int a0_profile_most, .ref h_a0_profile_row, .int a0_profile_count])), (h_a0_palette, .inr (2, [.int a0_palette_entries, .int a0_palette_columns, .ref h_a0_palette_bits, .ref h_a0_palette_numbers])), (h_a0_palette_bits, .inl (cI, n_a0_palette_bits, .inl f_a0_palette_bits)), (h_a0_map, .inr (1, [.ref h_a0_map_parts, .int a0_map_count])), (h_a0_meanings, .inr (1, [.ref h_a0_meanings_parts, .int a0_meanings_count])), (h_a0_capture, .inl (cI, n_a0_capture, .inl f_a0_capture)), (h_a0_display, .inl (cI, n_a0_display, .inl f_a0_display))] := hD.sub [7, 0, 8, 1, 2, 3, 4, 5, 6] (by decide) rfl
  refine W.eq (g2 := F0 m 11 ls [.int x8, .int (30 + x3)]) rfl ?_
  have E : k_Wr_lengthOfHead_8 a0_palette_entries a0_palette_columns n_a0_palette_bits f_a0_palette_bits a0_map_count a0_meanings_count n_a0_capture f_a0_capture n_a0_display f_a0_display x3 x8 = RES := (congrArg (k_Wr_lengthOfHead_8 a0_palette_entries a0_palette_columns n_a0_palette_bits f_a0_palette_bits a0_map_count a0_meanings_count n_a0_capture f_a0_capture n_a0_display f_a0_display x3) hx8).trans E
  refine lv_iadd hx hb d_Wr_lengthOfHead_11 ?_
  refine lv_aload_n hx hb d_Wr_lengthOfHead_12 rfl (lv_at hl 0 rfl) ?_
  refine kc_S (As := [.ref h_a0]) (rest := [.int ((30 + x3) + x8)]) (wr := [(h_a0_bits, .inl (cI, n_a0_bits, .inl f_a0_bits)), (h_a0_profile, .inr (0, [.int a0_profile_most, .ref h_a0_profile_row, .int a0_profile_count])), (h_a0_map, .inr (1, [.ref h_a0_map_parts, .int a0_map_count])), (h_a0_meanings, .inr (1, [.ref h_a0_meanings_parts, .int a0_meanings_count])), (h_a0_capture, .inl (cI, n_a0_capture, .inl f_a0_capture)), (h_a0_display, .inl (cI, n_a0_display, .inl f_a0_display))]) [0, 3, 4] [1, 2, 5, 6, 7, 8] ⟨hx, hb, hml, hown, hta⟩ hK hN hP hD hS hA (c_Wr_lengthOfPalette l D cB cI cJ h_a0 h_a0_bits h_a0_profile h_a0_palette h_a0_map h_a0_meanings h_a0_capture h_a0_display h_a0_palette_bits h_a0_palette_numbers a0_high a0_wide a0_components a0_unknown a0_rights a0_colours a0_hasProfile a0_palette_entries a0_palette_columns n_a0_palette_bits f_a0_palette_bits hn_a0_palette_bits _) (hta _ lk_Wr_25) (hta _ ini_Wr) (hta _ code_Wr_lengthOfPalette) code_Wr_lengthOfPalette (hta _ stat_Wr_lengthOfPalette) hd_Wr_lengthOfPalette rfl ⟨by omega, by omega⟩ rfl rfl (by decide) (by decide) (by decide) rfl hl.1 (lv_room (Nat.le_of_ble_eq_true rfl)) d_Wr_lengthOfHead_13 ⟨by omega, by omega⟩ (fun v w1 H locs hw hP hD hS => ?_)
  obtain ⟨x13, hx13, rfl, rfl⟩ := hw
  have hP : va_P D classes [(h_a0, .inr (3, [.int a0_high, .int a0_wide, .int a0_components, .int a0_unknown, .int a0_rights, .ref h_a0_bits, .int a0_colours, .int a0_hasProfile, .ref h_a0_profile, .ref h_a0_palette, .ref h_a0_map, .ref h_a0_meanings, .ref h_a0_capture, .ref h_a0_display])), (h_a0_bits, .inl (cI, n_a0_bits, .inl f_a0_bits)), (h_a0_profile, .inr (0, [.int a0_profile_most, .ref h_a0_profile_row, .int a0_profile_count])), (h_a0_palette, .inr (2, [.int a0_palette_entries, .int a0_palette_columns, .ref h_a0_palette_bits, .ref h_a0_palette_numbers])), (h_a0_palette_bits, .inl (cI, n_a0_palette_bits, .inl f_a0_palette_bits)), (h_a0_map, .inr (1, [.ref h_a0_map_parts, .int a0_map_count])), (h_a0_meanings, .inr (1, [.ref h_a0_meanings_parts, .int a0_meanings_count])), (h_a0_capture, .inl (cI, n_a0_capture, .inl f_a0_capture)), (h_a0_display, .inl (cI, n_a0_display, .inl f_a0_display))] H := hP.sub [6, 0, 1, 7, 8, 2, 3, 4, 5] rfl
  have hD : va_D A [(h_a0, .inr (3, [.int a0_high, .int a0_wide, .int a0_components, .int a0_unknown, .int a0_rights, .ref h_a0_bits, .int a0_colours, .int a0_hasProfile, .ref h_a0_profile, .ref h_a0_palette, .ref h_a0_map, .ref h_a0_meanings, .ref h_a0_capture, .ref h_a0_display])), (h_a0_bits, .inl (cI, n_a0_bits, .inl f_a0_bits)), (h_a0_profile, .inr (0, [.int a0_profile_most, .ref h_a0_profile_row, .int a0_profile_count])), (h_a0_palette, .inr (2, [.int a0_palette_entries, .int a0_palette_columns, .ref h_a0_palette_bits, .ref h_a0_palette_numbers])), (h_a0_palette_bits, .inl (cI, n_a0_palette_bits, .inl f_a0_palette_bits)), (h_a0_map, .inr (1, [.ref h_a0_map_parts, .int a0_map_count])), (h_a0_meanings, .inr (1, [.ref h_a0_meanings_parts, .int a0_meanings_count])), (h_a0_capture, .inl (cI, n_a0_capture, .inl f_a0_capture)), (h_a0_display, .inl (cI, n_a0_display, .inl f_a0_display))] := hD.sub [6, 0, 1, 7, 8, 2, 3, 4, 5] (by decide) rfl
  refine W.eq (g2 := F0 m 16 ls [.int x13, .int ((30 + x3) + x8)]) rfl ?_
  have E : k_Wr_lengthOfHead_13 a0_palette_entries a0_map_count a0_meanings_count n_a0_capture f_a0_capture n_a0_display f_a0_display x3 x8 x13 = RES := (congrArg (k_Wr_lengthOfHead_13 a0_palette_entries a0_map_count a0_meanings_count n_a0_capture f_a0_capture n_a0_display f_a0_display x3 x8) hx13).trans E
  refine lv_iadd hx hb d_Wr_lengthOfHead_16 ?_
  refine lv_aload_n hx hb d_Wr_lengthOfHead_17 rfl (lv_at hl 0 rfl) ?_
  refine kc_S (As := [.ref h_a0]) (rest := [.int (((30 + x3) + x8) + x13)]) (wr := [(h_a0_bits, .inl (cI, n_a0_bits, .inl f_a0_bits)), (h_a0_profile, .inr (0, [.int a0_profile_most, .ref h_a0_profile_row, .int a0_profile_count])), (h_a0_palette_bits, .inl (cI, n_a0_palette_bits, .inl f_a0_palette_bits)), (h_a0_meanings, .inr (1, [.ref h_a0_meanings_parts, .int a0_meanings_count])), (h_a0_capture, .inl (cI, n_a0_capture, .inl f_a0_capture)), (h_a0_display, .inl (cI, n_a0_display, .inl f_a0_display))]) [0, 3, 5] [1, 2, 4, 6, 7, 8] ⟨hx, hb, hml, hown, hta⟩ hK hN hP hD hS hA (c_Wr_lengthOfMap l D cB cI cJ h_a0 h_a0_bits h_a0_profile h_a0_palette h_a0_map h_a0_meanings h_a0_capture h_a0_display h_a0_palette_bits h_a0_palette_numbers h_a0_map_parts a0_high a0_wide a0_components a0_unknown a0_rights a0_colours a0_hasProfile a0_palette_entries a0_palette_columns a0_map_count _) (hta _ lk_Wr_28) (hta _ ini_Wr) (hta _ code_Wr_lengthOfMap) code_Wr_lengthOfMap (hta _ stat_Wr_lengthOfMap) hd_Wr_lengthOfMap rfl ⟨by omega, by omega⟩ rfl rfl (by decide) (by decide) (by decide) rfl hl.1 (lv_room (Nat.le_of_ble_eq_true rfl)) d_Wr_lengthOfHead_18 ⟨by omega, by omega⟩ (fun v w1 H locs hw hP hD hS => ?_)
  obtain ⟨x18, hx18, rfl, rfl⟩ := hw
  have hP : va_P D classes [(h_a0, .inr (3, [.int a0_high, .int a0_wide, .int a0_components, .int a0_unknown, .int a0_rights, .ref h_a0_bits, .int a0_colours, .int a0_hasProfile, .ref h_a0_profile, .ref h_a0_palette, .ref h_a0_map, .ref h_a0_meanings, .ref h_a0_capture, .ref h_a0_display])), (h_a0_bits, .inl (cI, n_a0_bits, .inl f_a0_bits)), (h_a0_profile, .inr (0, [.int a0_profile_most, .ref h_a0_profile_row, .int a0_profile_count])), (h_a0_palette, .inr (2, [.int a0_palette_entries, .int a0_palette_columns, .ref h_a0_palette_bits, .ref h_a0_palette_numbers])), (h_a0_palette_bits, .inl (cI, n_a0_palette_bits, .inl f_a0_palette_bits)), (h_a0_map, .inr (1, [.ref h_a0_map_parts, .int a0_map_count])), (h_a0_meanings, .inr (1, [.ref h_a0_meanings_parts, .int a0_meanings_count])), (h_a0_capture, .inl (cI, n_a0_capture, .inl f_a0_capture)), (h_a0_display, .inl (cI, n_a0_display, .inl f_a0_display))] H := hP.sub [6, 0, 1, 7, 2, 8, 3, 4, 5] rfl
  have hD : va_D A [(h_a0, .inr (3, [.int a0_high, .int a0_wide, .int a0_components, .int a0_unknown, .int a0_rights, .ref h_a0_bits, .int a0_colours, .int a0_hasProfile, .ref h_a0_profile, .ref h_a0_palette, .ref h_a0_map, .ref h_a0_meanings, .ref h_a0_capture, .ref h_a0_display])), (h_a0_bits, .inl (cI, n_a0_bits, .inl f_a0_bits)), (h_a0_profile, .inr (0, [.int a0_profile_most, .ref h_a0_profile_row, .int a0_profile_count])), (h_a0_palette, .inr (2, [.int a0_palette_entries, .int a0_palette_columns, .ref h_a0_palette_bits, .ref h_a0_palette_numbers])), (h_a0_palette_bits, .inl (cI, n_a0_palette_bits, .inl f_a0_palette_bits)), (h_a0_map, .inr (1, [.ref h_a0_map_parts, .int a0_map_count])), (h_a0_meanings, .inr (1, [.ref h_a0_meanings_parts, .int a0_meanings_count])), (h_a0_capture, .inl (cI, n_a0_capture, .inl f_a0_capture)), (h_a0_display, .inl (cI, n_a0_display, .inl f_a0_display))] := hD.sub [6, 0, 1, 7, 2, 8, 3, 4, 5] (by decide) rfl
  refine W.eq (g2 := F0 m 21 ls [.int x18, .int (((30 + x3) + x8) + x13)]) rfl ?_
  have E : k_Wr_lengthOfHead_18 a0_meanings_count n_a0_capture f_a0_capture n_a0_display f_a0_display x3 x8 x13 x18 = RES := (congrArg (k_Wr_lengthOfHead_18 a0_meanings_count n_a0_capture f_a0_capture n_a0_display f_a0_display x3 x8 x13) hx18).trans E
  refine lv_iadd hx hb d_Wr_lengthOfHead_21 ?_
  refine lv_aload_n hx hb d_Wr_lengthOfHead_22 rfl (lv_at hl 0 rfl) ?_
  refine kc_S (As := [.ref h_a0]) (rest := [.int ((((30 + x3) + x8) + x13) + x18)]) (wr := [(h_a0_bits, .inl (cI, n_a0_bits, .inl f_a0_bits)), (h_a0_profile, .inr (0, [.int a0_profile_most, .ref h_a0_profile_row, .int a0_profile_count])), (h_a0_palette, .inr (2, [.int a0_palette_entries, .int a0_palette_columns, .ref h_a0_palette_bits, .ref h_a0_palette_numbers])), (h_a0_palette_bits, .inl (cI, n_a0_palette_bits, .inl f_a0_palette_bits)), (h_a0_map, .inr (1, [.ref h_a0_map_parts, .int a0_map_count])), (h_a0_capture, .inl (cI, n_a0_capture, .inl f_a0_capture)), (h_a0_display, .inl (cI, n_a0_display, .inl f_a0_display))]) [0, 6] [1, 2, 3, 4, 5, 7, 8] ⟨hx, hb, hml, hown, hta⟩ hK hN hP hD hS hA (c_Wr_lengthOfMeanings l D cB cI cJ h_a0 h_a0_bits h_a0_profile h_a0_palette h_a0_map h_a0_meanings h_a0_capture h_a0_display h_a0_meanings_parts a0_high a0_wide a0_components a0_unknown a0_rights a0_colours a0_hasProfile a0_meanings_count _) (hta _ lk_Wr_31) (hta _ ini_Wr) (hta _ code_Wr_lengthOfMeanings) code_Wr_lengthOfMeanings (hta _ stat_Wr_lengthOfMeanings) hd_Wr_lengthOfMeanings rfl ⟨by omega, by omega⟩ rfl rfl (by decide) (by decide) (by decide) rfl hl.1 (lv_room (Nat.le_of_ble_eq_true rfl)) d_Wr_lengthOfHead_23 ⟨by omega, by omega⟩ (fun v w1 H locs hw hP hD hS => ?_)
  obtain ⟨x23, hx23, rfl, rfl⟩ := hw
  have hP : va_P D classes [(h_a0, .inr (3, [.int a0_high, .int a0_wide, .int a0_components, .int a0_unknown, .int a0_rights, .ref h_a0_bits, .int a0_colours, .int a0_hasProfile, .ref h_a0_profile, .ref h_a0_palette, .ref h_a0_map, .ref h_a0_meanings, .ref h_a0_capture, .ref h_a0_display])), (h_a0_bits, .inl (cI, n_a0_bits, .inl f_a0_bits)), (h_a0_profile, .inr (0, [.int a0_profile_most, .ref h_a0_profile_row, .int a0_profile_count])), (h_a0_palette, .inr (2, [.int a0_palette_entries, .int a0_palette_columns, .ref h_a0_palette_bits, .ref h_a0_palette_numbers])), (h_a0_palette_bits, .inl (cI, n_a0_palette_bits, .inl f_a0_palette_bits)), (h_a0_map, .inr (1, [.ref h_a0_map_parts, .int a0_map_count])), (h_a0_meanings, .inr (1, [.ref h_a0_meanings_parts, .int a0_meanings_count])), (h_a0_capture, .inl (cI, n_a0_capture, .inl f_a0_capture)), (h_a0_display, .inl (cI, n_a0_display, .inl f_a0_display))] H := hP.sub [7, 0, 1, 2, 3, 4, 8, 5, 6] rfl
  have hD : va_D A [(h_a0, .inr (3, [.int a0_high, .int a0_wide, .int a0_components, .int a0_unknown, .int a0_rights, .ref h_a0_bits, .int a0_colours, .int a0_hasProfile, .ref h_a0_profile, .ref h_a0_palette, .ref h_a0_map, .ref h_a0_meanings, .ref h_a0_capture, .ref h_a0_display])), (h_a0_bits, .inl (cI, n_a0_bits, .inl f_a0_bits)), (h_a0_profile, .inr (0, [.int a0_profile_most, .ref h_a0_profile_row, .int a0_profile_count])), (h_a0_palette, .inr (2, [.int a0_palette_entries, .int a0_palette_columns, .ref h_a0_palette_bits, .ref h_a0_palette_numbers])), (h_a0_palette_bits, .inl (cI, n_a0_palette_bits, .inl f_a0_palette_bits)), (h_a0_map, .inr (1, [.ref h_a0_map_parts, .int a0_map_count])), (h_a0_meanings, .inr (1, [.ref h_a0_meanings_parts, .int a0_meanings_count])), (h_a0_capture, .inl (cI, n_a0_capture, .inl f_a0_capture)), (h_a0_display, .inl (cI, n_a0_display, .inl f_a0_display))] := hD.sub [7, 0, 1, 2, 3, 4, 8, 5, 6] (by decide) rfl
  refine W.eq (g2 := F0 m 26 ls [.int x23, .int ((((30 + x3) + x8) + x13) + x18)]) rfl ?_
  have E : k_Wr_lengthOfHead_23 n_a0_capture f_a0_capture n_a0_display f_a0_display x3 x8 x13 x18 x23 = RES := (congrArg (k_Wr_lengthOfHead_23 n_a0_capture f_a0_capture n_a0_display f_a0_display x3 x8 x13 x18) hx23).trans E
  refine lv_iadd hx hb d_Wr_lengthOfHead_26 ?_
  refine lv_aload_n hx hb d_Wr_lengthOfHead_27 rfl (lv_at hl 0 rfl) ?_
  refine kc_S (As := [.ref h_a0]) (rest := [.int (((((30 + x3) + x8) + x13) + x18) + x23)]) (wr := [(h_a0_bits, .inl (cI, n_a0_bits, .inl f_a0_bits)), (h_a0_profile, .inr (0, [.int a0_profile_most, .ref h_a0_profile_row, .int a0_profile_count])), (h_a0_palette, .inr (2, [.int a0_palette_entries, .int a0_palette_columns, .ref h_a0_palette_bits, .ref h_a0_palette_numbers])), (h_a0_palette_bits, .inl (cI, n_a0_palette_bits, .inl f_a0_palette_bits)), (h_a0_map, .inr (1, [.ref h_a0_map_parts, .int a0_map_count])), (h_a0_meanings, .inr (1, [.ref h_a0_meanings_parts, .int a0_meanings_count]))]) [0, 7, 8] [1, 2, 3, 4, 5, 6] ⟨hx, hb, hml, hown, hta⟩ hK hN hP hD hS hA (c_Wr_lengthOfResolution l D cB cI cJ h_a0 h_a0_bits h_a0_profile h_a0_palette h_a0_map h_a0_meanings h_a0_capture h_a0_display a0_high a0_wide a0_components a0_unknown a0_rights a0_colours a0_hasProfile n_a0_capture f_a0_capture n_a0_display f_a0_display hn_a0_capture hn_a0_display _) (hta _ lk_Wr_34) (hta _ ini_Wr) (hta _ code_Wr_lengthOfResolution) code_Wr_lengthOfResolution (hta _ stat_Wr_lengthOfResolution) hd_Wr_lengthOfResolution rfl ⟨by omega, by omega⟩ rfl rfl (by decide) (by decide) (by decide) rfl hl.1 (lv_room (Nat.le_of_ble_eq_true rfl)) d_Wr_lengthOfHead_28 ⟨by omega, by omega⟩ (fun v w1 H locs hw hP hD hS => ?_)
  obtain ⟨x28, hx28, rfl, rfl⟩ := hw
  have hP : va_P D classes [(h_a0, .inr (3, [.int a0_high, .int a0_wide, .int a0_components, .int a0_unknown, .int a0_rights, .ref h_a0_bits, .int a0_colours, .int a0_hasProfile, .ref h_a0_profile, .ref h_a0_palette, .ref h_a0_map, .ref h_a0_meanings, .ref h_a0_capture, .ref h_a0_display])), (h_a0_bits, .inl (cI, n_a0_bits, .inl f_a0_bits)), (h_a0_profile, .inr (0, [.int a0_profile_most, .ref h_a0_profile_row, .int a0_profile_count])), (h_a0_palette, .inr (2, [.int a0_palette_entries, .int a0_palette_columns, .ref h_a0_palette_bits, .ref h_a0_palette_numbers])), (h_a0_palette_bits, .inl (cI, n_a0_palette_bits, .inl f_a0_palette_bits)), (h_a0_map, .inr (1, [.ref h_a0_map_parts, .int a0_map_count])), (h_a0_meanings, .inr (1, [.ref h_a0_meanings_parts, .int a0_meanings_count])), (h_a0_capture, .inl (cI, n_a0_capture, .inl f_a0_capture)), (h_a0_display, .inl (cI, n_a0_display, .inl f_a0_display))] H := hP.sub [6, 0, 1, 2, 3, 4, 5, 7, 8] rfl
  have hD : va_D A [(h_a0, .inr (3, [.int a0_high, .int a0_wide, .int a0_components, .int a0_unknown, .int a0_rights, .ref h_a0_bits, .int a0_colours, .int a0_hasProfile, .ref h_a0_profile, .ref h_a0_palette, .ref h_a0_map, .ref h_a0_meanings, .ref h_a0_capture, .ref h_a0_display])), (h_a0_bits, .inl (cI, n_a0_bits, .inl f_a0_bits)), (h_a0_profile, .inr (0, [.int a0_profile_most, .ref h_a0_profile_row, .int a0_profile_count])), (h_a0_palette, .inr (2, [.int a0_palette_entries, .int a0_palette_columns, .ref h_a0_palette_bits, .ref h_a0_palette_numbers])), (h_a0_palette_bits, .inl (cI, n_a0_palette_bits, .inl f_a0_palette_bits)), (h_a0_map, .inr (1, [.ref h_a0_map_parts, .int a0_map_count])), (h_a0_meanings, .inr (1, [.ref h_a0_meanings_parts, .int a0_meanings_count])), (h_a0_capture, .inl (cI, n_a0_capture, .inl f_a0_capture)), (h_a0_display, .inl (cI, n_a0_display, .inl f_a0_display))] := hD.sub [6, 0, 1, 2, 3, 4, 5, 7, 8] (by decide) rfl
  refine W.eq (g2 := F0 m 31 ls [.int x28, .int (((((30 + x3) + x8) + x13) + x18) + x23)]) rfl ?_
  have E : k_Wr_lengthOfHead_28 x3 x8 x13 x18 x23 x28 = RES := (congrArg (k_Wr_lengthOfHead_28 x3 x8 x13 x18 x23) hx28).trans E
  refine lv_iadd hx hb d_Wr_lengthOfHead_31 ?_
  exact kr_i hx hb hr hlk hQ hK hP hD hS ⟨((((((30 + x3) + x8) + x13) + x18) + x23) + x28 : Int32), E.trans E0.symm, rfl, rfl⟩ (by omega) (by omega) d_Wr_lengthOfHead_32
theorem d_Wr_lengthOfAll_0 : decode b_Wr_lengthOfAll 0 = .ok (.bipush 32, 2) := by decide +kernel
theorem d_Wr_lengthOfAll_2 : decode b_Wr_lengthOfAll 2 = .ok (.aload_n 0, 1) := by decide +kernel
theorem d_Wr_lengthOfAll_3 : decode b_Wr_lengthOfAll 3 = .ok (.invokestatic 15, 3) := by decide +kernel
theorem d_Wr_lengthOfAll_6 : decode b_Wr_lengthOfAll 6 = .ok (.iadd, 1) := by decide +kernel
theorem d_Wr_lengthOfAll_7 : decode b_Wr_lengthOfAll 7 = .ok (.iload_n 1, 1) := by decide +kernel
theorem d_Wr_lengthOfAll_8 : decode b_Wr_lengthOfAll 8 = .ok (.ifCond .eq 8, 3) := by decide +kernel
theorem d_Wr_lengthOfAll_11 : decode b_Wr_lengthOfAll 11 = .ok (.bipush 16, 2) := by decide +kernel
theorem d_Wr_lengthOfAll_13 : decode b_Wr_lengthOfAll 13 = .ok (.goto 5, 3) := by decide +kernel
theorem d_Wr_lengthOfAll_16 : decode b_Wr_lengthOfAll 16 = .ok (.bipush 8, 2) := by decide +kernel
theorem d_Wr_lengthOfAll_18 : decode b_Wr_lengthOfAll 18 = .ok (.iadd, 1) := by decide +kernel
theorem d_Wr_lengthOfAll_19 : decode b_Wr_lengthOfAll 19 = .ok (.ireturn, 1) := by decide +kernel
def k_Wr_lengthOfAll_3 (p1 : Int32) (x3 : Int32) : Int32 :=
  if p1 = 0 then ((32 + x3) + 8) else ((32 + x3) + 16)
def m_Wr_lengthOfAll (a0_components : Int32) (a0_hasProfile : Int32) (n_a0_bits : Nat) (f_a0_bits : Nat → Int32) (a0_profile_count : Int32) (a0_palette_entries : Int32) (a0_palette_columns : Int32) (n_a0_palette_bits : Nat) (f_a0_palette_bits : Nat → Int32) (a0_map_count : Int32) (a0_meanings_count : Int32) (n_a0_capture : Nat) (f_a0_capture : Nat → Int32) (n_a0_display : Nat) (f_a0_display : Nat → Int32) (p1 : Int32) : Int32 :=
  k_Wr_lengthOfAll_3 p1 (m_Wr_lengthOfHead a0_components a0_hasProfile n_a0_bits f_a0_bits a0_profile_count a0_palette_entries a0_palette_columns n_a0_palette_bits f_a0_palette_bits a0_map_count a0_meanings_count n_a0_capture f_a0_capture n_a0_display f_a0_display)
set_option maxHeartbeats 4000000 in
set_option maxRecDepth 100000 in
theorem c_Wr_lengthOfAll (l : Launch) (D : va_G) (cB cI cJ : ClassId) (h_a0 h_a0_bits h_a0_profile h_a0_palette h_a0_map h_a0_meanings h_a0_capture h_a0_display h_a0_profile_row h_a0_palette_bits h_a0_palette_numbers h_a0_map_parts h_a0_meanings_parts : Nat) (a0_high : Int32) (a0_wide : Int32) (a0_components : Int32) (a0_unknown : Int32) (a0_rights : Int32) (a0_colours : Int32) (a0_hasProfile : Int32) (n_a0_bits : Nat) (f_a0_bits : Nat → Int32) (a0_profile_most : Int32) (a0_profile_count : Int32) (a0_palette_entries : Int32) (a0_palette_columns : Int32) (n_a0_palette_bits : Nat) (f_a0_palette_bits : Nat → Int32) (a0_map_count : Int32) (a0_meanings_count : Int32) (n_a0_capture : Nat) (f_a0_capture : Nat → Int32) (n_a0_display : Nat) (f_a0_display : Nat → Int32) (p1 : Int32) (hn_a0_bits : n_a0_bits < 2147483648) (hn_a0_palette_bits : n_a0_palette_bits < 2147483648) (hn_a0_capture : n_a0_capture < 2147483648) (hn_a0_display : n_a0_display < 2147483648) (sz : Nat) : Ct l D cB cI cJ y_Wr_lengthOfAll b_Wr_lengthOfAll 2 (some .int) 5 103 0 0 [.ref h_a0, .int p1] [(h_a0, .inr (3, [.int a0_high, .int a0_wide, .int a0_components, .int a0_unknown, .int a0_rights, .ref h_a0_bits, .int a0_colours, .int a0_hasProfile, .ref h_a0_profile, .ref h_a0_palette, .ref h_a0_map, .ref h_a0_meanings, .ref h_a0_capture, .ref h_a0_display])), (h_a0_bits, .inl (cI, n_a0_bits, .inl f_a0_bits)), (h_a0_profile, .inr (0, [.int a0_profile_most, .ref h_a0_profile_row, .int a0_profile_count])), (h_a0_palette, .inr (2, [.int a0_palette_entries, .int a0_palette_columns, .ref h_a0_palette_bits, .ref h_a0_palette_numbers])), (h_a0_palette_bits, .inl (cI, n_a0_palette_bits, .inl f_a0_palette_bits)), (h_a0_map, .inr (1, [.ref h_a0_map_parts, .int a0_map_count])), (h_a0_meanings, .inr (1, [.ref h_a0_meanings_parts, .int a0_meanings_count])), (h_a0_capture, .inl (cI, n_a0_capture, .inl f_a0_capture)), (h_a0_display, .inl (cI, n_a0_display, .inl f_a0_display))] (fun v w1 => ∃ (x : Int32), x = m_Wr_lengthOfAll a0_components a0_hasProfile n_a0_bits f_a0_bits a0_profile_count a0_palette_entries a0_palette_columns n_a0_palette_bits f_a0_palette_bits a0_map_count a0_meanings_count n_a0_capture f_a0_capture n_a0_display f_a0_display p1 ∧ v = some (.int x) ∧ w1 = [(h_a0, .inr (3, [.int a0_high, .int a0_wide, .int a0_components, .int a0_unknown, .int a0_rights, .ref h_a0_bits, .int a0_colours, .int a0_hasProfile, .ref h_a0_profile, .ref h_a0_palette, .ref h_a0_map, .ref h_a0_meanings, .ref h_a0_capture, .ref h_a0_display])), (h_a0_bits, .inl (cI, n_a0_bits, .inl f_a0_bits)), (h_a0_profile, .inr (0, [.int a0_profile_most, .ref h_a0_profile_row, .int a0_profile_count])), (h_a0_palette, .inr (2, [.int a0_palette_entries, .int a0_palette_columns, .ref h_a0_palette_bits, .ref h_a0_palette_numbers])), (h_a0_palette_bits, .inl (cI, n_a0_palette_bits, .inl f_a0_palette_bits)), (h_a0_map, .inr (1, [.ref h_a0_map_parts, .int a0_map_count])), (h_a0_meanings, .inr (1, [.ref h_a0_meanings_parts, .int a0_meanings_count])), (h_a0_capture, .inl (cI, n_a0_capture, .inl f_a0_capture)), (h_a0_display, .inl (cI, n_a0_display, .inl f_a0_display))]) sz := by
  refine Ct.of (by decide) (Nat.le_of_ble_eq_true rfl) ?_
  intro p e R s m args below meth c A ls Q hx hb hr hlk hml hta hown hin hK hN hA hRf hRl hRc hRs hP hD hS hl hQ
  have hl : lv_has ls 2 [(0, .ref h_a0), (1, .int p1)] := hl
  obtain ⟨RES, E0⟩ : ∃ R, m_Wr_lengthOfAll a0_components a0_hasProfile n_a0_bits f_a0_bits a0_profile_count a0_palette_entries a0_palette_columns n_a0_palette_bits f_a0_palette_bits a0_map_count a0_meanings_count n_a0_capture f_a0_capture n_a0_display f_a0_display p1 = R := ⟨_, rfl⟩
  have E := E0
  refine lv_bipush (v := 32) hx hb d_Wr_lengthOfAll_0 (by decide) ?_
  refine lv_aload_n hx hb d_Wr_lengthOfAll_2 rfl (lv_at hl 0 rfl) ?_
  refine kc_S (As := [.ref h_a0]) (rest := [.int 32]) (wr := []) [0, 1, 2, 3, 4, 5, 6, 7, 8] [] ⟨hx, hb, hml, hown, hta⟩ hK hN hP hD hS hA (c_Wr_lengthOfHead l D cB cI cJ h_a0 h_a0_bits h_a0_profile h_a0_palette h_a0_map h_a0_meanings h_a0_capture h_a0_display h_a0_profile_row h_a0_palette_bits h_a0_palette_numbers h_a0_map_parts h_a0_meanings_parts a0_high a0_wide a0_components a0_unknown a0_rights a0_colours a0_hasProfile n_a0_bits f_a0_bits a0_profile_most a0_profile_count a0_palette_entries a0_palette_columns n_a0_palette_bits f_a0_palette_bits a0_map_count a0_meanings_count n_a0_capture f_a0_capture n_a0_display f_a0_display hn_a0_bits hn_a0_palette_bits hn_a0_capture hn_a0_display _) (hta _ lk_Wr_15) (hta _ ini_Wr) (hta _ code_Wr_lengthOfHead) code_Wr_lengthOfHead (hta _ stat_Wr_lengthOfHead) hd_Wr_lengthOfHead rfl ⟨by omega, by omega⟩ rfl rfl (by decide) (by decide) (by decide) rfl hl.1 (lv_room (Nat.le_of_ble_eq_true rfl)) d_Wr_lengthOfAll_3 ⟨by omega, by omega⟩ (fun v w1 H locs hw hP hD hS => ?_)
  obtain ⟨x3, hx3, rfl, rfl⟩ := hw
  have hP : va_P D classes [(h_a0, .inr (3, [.int a0_high, .int a0_wide, .int a0_components, .int a0_unknown, .int a0_rights, .ref h_a0_bits, .int a0_colours, .int a0_hasProfile, .ref h_a0_profile, .ref h_a0_palette, .ref h_a0_map, .ref h_a0_meanings, .ref h_a0_capture, .ref h_a0_display])), (h_a0_bits, .inl (cI, n_a0_bits, .inl f_a0_bits)), (h_a0_profile, .inr (0, [.int a0_profile_most, .ref h_a0_profile_row, .int a0_profile_count])), (h_a0_palette, .inr (2, [.int a0_palette_entries, .int a0_palette_columns, .ref h_a0_palette_bits, .ref h_a0_palette_numbers])), (h_a0_palette_bits, .inl (cI, n_a0_palette_bits, .inl f_a0_palette_bits)), (h_a0_map, .inr (1, [.ref h_a0_map_parts, .int a0_map_count])), (h_a0_meanings, .inr (1, [.ref h_a0_meanings_parts, .int a0_meanings_count])), (h_a0_capture, .inl (cI, n_a0_capture, .inl f_a0_capture)), (h_a0_display, .inl (cI, n_a0_display, .inl f_a0_display))] H := hP.sub [0, 1, 2, 3, 4, 5, 6, 7, 8] rfl
  have hD : va_D A [(h_a0, .inr (3, [.int a0_high, .int a0_wide, .int a0_components, .int a0_unknown, .int a0_rights, .ref h_a0_bits, .int a0_colours, .int a0_hasProfile, .ref h_a0_profile, .ref h_a0_palette, .ref h_a0_map, .ref h_a0_meanings, .ref h_a0_capture, .ref h_a0_display])), (h_a0_bits, .inl (cI, n_a0_bits, .inl f_a0_bits)), (h_a0_profile, .inr (0, [.int a0_profile_most, .ref h_a0_profile_row, .int a0_profile_count])), (h_a0_palette, .inr (2, [.int a0_palette_entries, .int a0_palette_columns, .ref h_a0_palette_bits, .ref h_a0_palette_numbers])), (h_a0_palette_bits, .inl (cI, n_a0_palette_bits, .inl f_a0_palette_bits)), (h_a0_map, .inr (1, [.ref h_a0_map_parts, .int a0_map_count])), (h_a0_meanings, .inr (1, [.ref h_a0_meanings_parts, .int a0_meanings_count])), (h_a0_capture, .inl (cI, n_a0_capture, .inl f_a0_capture)), (h_a0_display, .inl (cI, n_a0_display, .inl f_a0_display))] := hD.sub [0, 1, 2, 3, 4, 5, 6, 7, 8] (by decide) rfl
  refine W.eq (g2 := F0 m 6 ls [.int x3, .int 32]) rfl ?_
  have E : k_Wr_lengthOfAll_3 p1 x3 = RES := (congrArg (k_Wr_lengthOfAll_3 p1) hx3).trans E
  refine lv_iadd hx hb d_Wr_lengthOfAll_6 ?_
  refine lv_iload_n hx hb d_Wr_lengthOfAll_7 rfl (lv_at hl 1 rfl) ?_
  refine lv_if_eq (tgt := 16) hx hb d_Wr_lengthOfAll_8 (by decide) (fun c_8 => ?_) (fun c_8 => ?_)
  · have E := (if_pos c_8).symm.trans E
    refine lv_bipush (v := 8) hx hb d_Wr_lengthOfAll_16 (by decide) ?_
    refine lv_iadd hx hb d_Wr_lengthOfAll_18 ?_
    exact kr_i hx hb hr hlk hQ hK hP hD hS ⟨((32 + x3) + 8 : Int32), E.trans E0.symm, rfl, rfl⟩ (by omega) (by omega) d_Wr_lengthOfAll_19
  · have E := (if_neg c_8).symm.trans E
    refine lv_bipush (v := 16) hx hb d_Wr_lengthOfAll_11 (by decide) ?_
    refine lv_goto (tgt := 18) hx hb d_Wr_lengthOfAll_13 (by decide) ?_
    refine lv_iadd hx hb d_Wr_lengthOfAll_18 ?_
    exact kr_i hx hb hr hlk hQ hK hP hD hS ⟨((32 + x3) + 16 : Int32), E.trans E0.symm, rfl, rfl⟩ (by omega) (by omega) d_Wr_lengthOfAll_19
