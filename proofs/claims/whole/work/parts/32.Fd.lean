/-- the elements of a new row, by its old and its new length -/
def grN (n n2 : Nat) : Nat := if n2 = n then 0 else n2
theorem grn {most count : Int32} {n : Nat} {f : Nat → Int32} {p : Int32} (hn : n < 2147483648) : gr_By most count n p ≤ grN n (m_By_makeRoom most count n f p).1 := by
  unfold gr_By m_By_makeRoom grN
  by_cases c : (if count + p < most then count + p else most) ≤ nI n
  · rw [if_pos c]; exact Nat.zero_le _
  · rw [if_neg c, if_neg c]
    have h := mr_gt (cm := count + p) (most := most) (L2 := 2 * nI n) hn c
    have h2 := nI_lt_len hn h
    have h3 : ¬ (if (if (if count + p < most then count + p else most) < 2 * nI n then 2 * nI n else (if count + p < most then count + p else most)) < most then (if (if count + p < most then count + p else most) < 2 * nI n then 2 * nI n else (if count + p < most then count + p else most)) else most).toNatClampNeg = n := by
      intro h4
      rw [Int32.lt_iff_toInt_lt, nI_toInt hn] at h
      have h5 : (if (if (if count + p < most then count + p else most) < 2 * nI n then 2 * nI n else (if count + p < most then count + p else most)) < most then (if (if count + p < most then count + p else most) < 2 * nI n then 2 * nI n else (if count + p < most then count + p else most)) else most).toNatClampNeg = (if (if (if count + p < most then count + p else most) < 2 * nI n then 2 * nI n else (if count + p < most then count + p else most)) < most then (if (if count + p < most then count + p else most) < 2 * nI n then 2 * nI n else (if count + p < most then count + p else most)) else most).toInt.toNat := rfl
      rw [h5] at h4
      omega
    show _ ≤ if _ = n then 0 else _
    rw [if_neg h3]
    exact Nat.le_refl _
theorem d_FB_number_0 : decode b_FB_number 0 = .ok (.aload_n 0, 1) := by decide +kernel
theorem d_FB_number_1 : decode b_FB_number 1 = .ok (.getfield 38, 3) := by decide +kernel
theorem d_FB_number_4 : decode b_FB_number 4 = .ok (.getfield 146, 3) := by decide +kernel
theorem d_FB_number_7 : decode b_FB_number 7 = .ok (.iload_n 1, 1) := by decide +kernel
theorem d_FB_number_8 : decode b_FB_number 8 = .ok (.iload_n 2, 1) := by decide +kernel
theorem d_FB_number_9 : decode b_FB_number 9 = .ok (.invokevirtual 169, 3) := by decide +kernel
theorem d_FB_number_12 : decode b_FB_number 12 = .ok (.ifCond .ne 13, 3) := by decide +kernel
theorem d_FB_number_15 : decode b_FB_number 15 = .ok (.new 93, 3) := by decide +kernel
theorem d_FB_number_18 : decode b_FB_number 18 = .ok (.dup, 1) := by decide +kernel
theorem d_FB_number_19 : decode b_FB_number 19 = .ok (.ldc 173, 2) := by decide +kernel
theorem d_FB_number_21 : decode b_FB_number 21 = .ok (.invokespecial 97, 3) := by decide +kernel
theorem d_FB_number_24 : decode b_FB_number 24 = .ok (.athrow, 1) := by decide +kernel
theorem d_FB_number_25 : decode b_FB_number 25 = .ok (.aload_n 0, 1) := by decide +kernel
theorem d_FB_number_26 : decode b_FB_number 26 = .ok (.getfield 38, 3) := by decide +kernel
theorem d_FB_number_29 : decode b_FB_number 29 = .ok (.getfield 146, 3) := by decide +kernel
theorem d_FB_number_32 : decode b_FB_number 32 = .ok (.iload_n 1, 1) := by decide +kernel
theorem d_FB_number_33 : decode b_FB_number 33 = .ok (.iload_n 2, 1) := by decide +kernel
theorem d_FB_number_34 : decode b_FB_number 34 = .ok (.invokevirtual 259, 3) := by decide +kernel
theorem d_FB_number_37 : decode b_FB_number 37 = .ok (.lreturn, 1) := by decide +kernel
def k_FB_number_34 (x34 : Int64) : Nat × Int64 :=
  (0, x34)
def k_FB_number_9 (t_plan_palette_columns : Int32) (n_t_plan_palette_numbers : Nat) (f_t_plan_palette_numbers : Nat → Int64) (p1 : Int32) (p2 : Int32) (x9 : Int32) : Nat × Int64 :=
  if x9 = 0 then (2, 0) else (k_FB_number_34 (m_Pa_numberAt t_plan_palette_columns n_t_plan_palette_numbers f_t_plan_palette_numbers p1 p2))
def m_FB_number (t_plan_palette_entries : Int32) (t_plan_palette_columns : Int32) (n_t_plan_palette_numbers : Nat) (f_t_plan_palette_numbers : Nat → Int64) (p1 : Int32) (p2 : Int32) : Nat × Int64 :=
  k_FB_number_9 t_plan_palette_columns n_t_plan_palette_numbers f_t_plan_palette_numbers p1 p2 (m_Pa_has t_plan_palette_entries t_plan_palette_columns p1 p2)
set_option maxHeartbeats 4000000 in
set_option maxRecDepth 100000 in
theorem c_FB_number (l : Launch) (D : va_G) (cB cI cJ : ClassId) (h_t h_t_file h_t_scanner h_t_writer h_t_plan h_t_plan_bits h_t_plan_profile h_t_plan_palette h_t_plan_map h_t_plan_meanings h_t_plan_capture h_t_plan_display h_t_plan_palette_bits h_t_plan_palette_numbers : Nat) (t_scanned : Int32) (t_refusedAt : Int32) (t_plan_high : Int32) (t_plan_wide : Int32) (t_plan_components : Int32) (t_plan_unknown : Int32) (t_plan_rights : Int32) (t_plan_colours : Int32) (t_plan_hasProfile : Int32) (t_plan_palette_entries : Int32) (t_plan_palette_columns : Int32) (n_t_plan_palette_numbers : Nat) (f_t_plan_palette_numbers : Nat → Int64) (p1 : Int32) (p2 : Int32) (hLt : kL l) (hn_t_plan_palette_numbers : n_t_plan_palette_numbers < 2147483648) (sz : Nat) : CtX l D cB cI cJ y_FB_number b_FB_number 3 (some .long) 6 82 1 6 [.ref h_t, .int p1, .int p2] [(h_t, .inr (6, [.ref h_t_file, .ref h_t_scanner, .ref h_t_writer, .ref h_t_plan, .int t_scanned, .int t_refusedAt])), (h_t_plan, .inr (3, [.int t_plan_high, .int t_plan_wide, .int t_plan_components, .int t_plan_unknown, .int t_plan_rights, .ref h_t_plan_bits, .int t_plan_colours, .int t_plan_hasProfile, .ref h_t_plan_profile, .ref h_t_plan_palette, .ref h_t_plan_map, .ref h_t_plan_meanings, .ref h_t_plan_capture, .ref h_t_plan_display])), (h_t_plan_palette, .inr (2, [.int t_plan_palette_entries, .int t_plan_palette_columns, .ref h_t_plan_palette_bits, .ref h_t_plan_palette_numbers])), (h_t_plan_palette_numbers, .inl (cJ, n_t_plan_palette_numbers, .inr (.inl f_t_plan_palette_numbers)))] (fun o w1 => ∃ (x : Nat × Int64), x = m_FB_number t_plan_palette_entries t_plan_palette_columns n_t_plan_palette_numbers f_t_plan_palette_numbers p1 p2 ∧ kO o x.1 (some (.long x.2)) ∧ w1 = [(h_t, .inr (6, [.ref h_t_file, .ref h_t_scanner, .ref h_t_writer, .ref h_t_plan, .int t_scanned, .int t_refusedAt])), (h_t_plan, .inr (3, [.int t_plan_high, .int t_plan_wide, .int t_plan_components, .int t_plan_unknown, .int t_plan_rights, .ref h_t_plan_bits, .int t_plan_colours, .int t_plan_hasProfile, .ref h_t_plan_profile, .ref h_t_plan_palette, .ref h_t_plan_map, .ref h_t_plan_meanings, .ref h_t_plan_capture, .ref h_t_plan_display])), (h_t_plan_palette, .inr (2, [.int t_plan_palette_entries, .int t_plan_palette_columns, .ref h_t_plan_palette_bits, .ref h_t_plan_palette_numbers])), (h_t_plan_palette_numbers, .inl (cJ, n_t_plan_palette_numbers, .inr (.inl f_t_plan_palette_numbers)))]) sz := by
  refine CtX.of (by decide) (Nat.le_of_ble_eq_true rfl) ?_
  intro p e R s m args below meth c A ls Q hx hb hr hlk hml hta hown hin hK hN hA hRf hRl hRc hRs hP hD hS hl hQ hTh hAs hnh
  have hl : lv_has ls 3 [(0, .ref h_t), (1, .int p1), (2, .int p2)] := hl
  obtain ⟨RES, E0⟩ : ∃ R, m_FB_number t_plan_palette_entries t_plan_palette_columns n_t_plan_palette_numbers f_t_plan_palette_numbers p1 p2 = R := ⟨_, rfl⟩
  have E := E0
  refine lv_aload_n hx hb d_FB_number_0 rfl (lv_at hl 0 rfl) ?_
  refine va_get (D := D) (v := .ref h_t_plan) hx hb hta i_FB hown hK hP 0 rfl rfl 3 (by decide) (hta _ lk_FB_38) (fun _ h9 => h9) rfl d_FB_number_1 ?_
  refine va_get (D := D) (v := .ref h_t_plan_palette) hx hb hta i_Pl hown hK hP 1 rfl rfl 9 (by decide) (hta _ lk_FB_146) (fun _ h9 => h9) rfl d_FB_number_4 ?_
  refine lv_iload_n hx hb d_FB_number_7 rfl (lv_at hl 1 rfl) ?_
  refine lv_iload_n hx hb d_FB_number_8 rfl (lv_at hl 2 rfl) ?_
  refine kc_V (As := [.int p1, .int p2]) (rest := []) (wr := [(h_t, .inr (6, [.ref h_t_file, .ref h_t_scanner, .ref h_t_writer, .ref h_t_plan, .int t_scanned, .int t_refusedAt])), (h_t_plan, .inr (3, [.int t_plan_high, .int t_plan_wide, .int t_plan_components, .int t_plan_unknown, .int t_plan_rights, .ref h_t_plan_bits, .int t_plan_colours, .int t_plan_hasProfile, .ref h_t_plan_profile, .ref h_t_plan_palette, .ref h_t_plan_map, .ref h_t_plan_meanings, .ref h_t_plan_capture, .ref h_t_plan_display])), (h_t_plan_palette_numbers, .inl (cJ, n_t_plan_palette_numbers, .inr (.inl f_t_plan_palette_numbers)))]) [2] [0, 1, 3] ⟨hx, hb, hml, hown, hta⟩ hK hN hP hD hS hA (c_Pa_has l D cB cI cJ h_t_plan_palette h_t_plan_palette_bits h_t_plan_palette_numbers t_plan_palette_entries t_plan_palette_columns p1 p2 _) (hta _ lk_FB_169) (hta _ ini_Pa) (hta _ code_Pa_has) code_Pa_has (hta _ inst_Pa_has) (hta _ sel_Pa_has) hd_Pa_has rfl ⟨by omega, by omega⟩ (ci := 2) 2 rfl rfl rfl rfl (by decide) (by decide) (by decide) rfl hl.1 (lv_room (Nat.le_of_ble_eq_true rfl)) d_FB_number_9 ⟨by omega, by omega⟩ (fun v w1 H locs hw hP hD hS => ?_)
  obtain ⟨x9, hx9, rfl, rfl⟩ := hw
  have hP : va_P D classes [(h_t, .inr (6, [.ref h_t_file, .ref h_t_scanner, .ref h_t_writer, .ref h_t_plan, .int t_scanned, .int t_refusedAt])), (h_t_plan, .inr (3, [.int t_plan_high, .int t_plan_wide, .int t_plan_components, .int t_plan_unknown, .int t_plan_rights, .ref h_t_plan_bits, .int t_plan_colours, .int t_plan_hasProfile, .ref h_t_plan_profile, .ref h_t_plan_palette, .ref h_t_plan_map, .ref h_t_plan_meanings, .ref h_t_plan_capture, .ref h_t_plan_display])), (h_t_plan_palette, .inr (2, [.int t_plan_palette_entries, .int t_plan_palette_columns, .ref h_t_plan_palette_bits, .ref h_t_plan_palette_numbers])), (h_t_plan_palette_numbers, .inl (cJ, n_t_plan_palette_numbers, .inr (.inl f_t_plan_palette_numbers)))] H := hP.sub [0, 1, 3, 2] rfl
  have hD : va_D A [(h_t, .inr (6, [.ref h_t_file, .ref h_t_scanner, .ref h_t_writer, .ref h_t_plan, .int t_scanned, .int t_refusedAt])), (h_t_plan, .inr (3, [.int t_plan_high, .int t_plan_wide, .int t_plan_components, .int t_plan_unknown, .int t_plan_rights, .ref h_t_plan_bits, .int t_plan_colours, .int t_plan_hasProfile, .ref h_t_plan_profile, .ref h_t_plan_palette, .ref h_t_plan_map, .ref h_t_plan_meanings, .ref h_t_plan_capture, .ref h_t_plan_display])), (h_t_plan_palette, .inr (2, [.int t_plan_palette_entries, .int t_plan_palette_columns, .ref h_t_plan_palette_bits, .ref h_t_plan_palette_numbers])), (h_t_plan_palette_numbers, .inl (cJ, n_t_plan_palette_numbers, .inr (.inl f_t_plan_palette_numbers)))] := hD.sub [0, 1, 3, 2] (by decide) rfl
  refine W.eq (g2 := F0 m 12 ls [.int x9]) rfl ?_
  have E : k_FB_number_9 t_plan_palette_columns n_t_plan_palette_numbers f_t_plan_palette_numbers p1 p2 x9 = RES := (congrArg (k_FB_number_9 t_plan_palette_columns n_t_plan_palette_numbers f_t_plan_palette_numbers p1 p2) hx9).trans E
  refine lv_if_ne (tgt := 25) hx hb d_FB_number_12 (by decide) (fun c_12 => ?_) (fun c_12 => ?_)
  · have E := (if_neg c_12).symm.trans E
    refine lv_aload_n hx hb d_FB_number_25 rfl (lv_at hl 0 rfl) ?_
    refine va_get (D := D) (v := .ref h_t_plan) hx hb hta i_FB hown hK hP 0 rfl rfl 3 (by decide) (hta _ lk_FB_38) (fun _ h9 => h9) rfl d_FB_number_26 ?_
    refine va_get (D := D) (v := .ref h_t_plan_palette) hx hb hta i_Pl hown hK hP 1 rfl rfl 9 (by decide) (hta _ lk_FB_146) (fun _ h9 => h9) rfl d_FB_number_29 ?_
    refine lv_iload_n hx hb d_FB_number_32 rfl (lv_at hl 1 rfl) ?_
    refine lv_iload_n hx hb d_FB_number_33 rfl (lv_at hl 2 rfl) ?_
    refine kc_V (As := [.int p1, .int p2]) (rest := []) (wr := [(h_t, .inr (6, [.ref h_t_file, .ref h_t_scanner, .ref h_t_writer, .ref h_t_plan, .int t_scanned, .int t_refusedAt])), (h_t_plan, .inr (3, [.int t_plan_high, .int t_plan_wide, .int t_plan_components, .int t_plan_unknown, .int t_plan_rights, .ref h_t_plan_bits, .int t_plan_colours, .int t_plan_hasProfile, .ref h_t_plan_profile, .ref h_t_plan_palette, .ref h_t_plan_map, .ref h_t_plan_meanings, .ref h_t_plan_capture, .ref h_t_plan_display]))]) [2, 3] [0, 1] ⟨hx, hb, hml, hown, hta⟩ hK hN hP hD hS hA (c_Pa_numberAt l D cB cI cJ h_t_plan_palette h_t_plan_palette_bits h_t_plan_palette_numbers t_plan_palette_entries t_plan_palette_columns n_t_plan_palette_numbers f_t_plan_palette_numbers p1 p2 hn_t_plan_palette_numbers _) (hta _ lk_FB_259) (hta _ ini_Pa) (hta _ code_Pa_numberAt) code_Pa_numberAt (hta _ inst_Pa_numberAt) (hta _ sel_Pa_numberAt) hd_Pa_numberAt rfl ⟨by omega, by omega⟩ (ci := 2) 2 rfl rfl rfl rfl (by decide) (by decide) (by decide) rfl hl.1 (lv_room (Nat.le_of_ble_eq_true rfl)) d_FB_number_34 ⟨by omega, by omega⟩ (fun v w1 H locs hw hP hD hS => ?_)
    obtain ⟨x34, hx34, rfl, rfl⟩ := hw
    have hP : va_P D classes [(h_t, .inr (6, [.ref h_t_file, .ref h_t_scanner, .ref h_t_writer, .ref h_t_plan, .int t_scanned, .int t_refusedAt])), (h_t_plan, .inr (3, [.int t_plan_high, .int t_plan_wide, .int t_plan_components, .int t_plan_unknown, .int t_plan_rights, .ref h_t_plan_bits, .int t_plan_colours, .int t_plan_hasProfile, .ref h_t_plan_profile, .ref h_t_plan_palette, .ref h_t_plan_map, .ref h_t_plan_meanings, .ref h_t_plan_capture, .ref h_t_plan_display])), (h_t_plan_palette, .inr (2, [.int t_plan_palette_entries, .int t_plan_palette_columns, .ref h_t_plan_palette_bits, .ref h_t_plan_palette_numbers])), (h_t_plan_palette_numbers, .inl (cJ, n_t_plan_palette_numbers, .inr (.inl f_t_plan_palette_numbers)))] H := hP.sub [0, 1, 2, 3] rfl
    have hD : va_D A [(h_t, .inr (6, [.ref h_t_file, .ref h_t_scanner, .ref h_t_writer, .ref h_t_plan, .int t_scanned, .int t_refusedAt])), (h_t_plan, .inr (3, [.int t_plan_high, .int t_plan_wide, .int t_plan_components, .int t_plan_unknown, .int t_plan_rights, .ref h_t_plan_bits, .int t_plan_colours, .int t_plan_hasProfile, .ref h_t_plan_profile, .ref h_t_plan_palette, .ref h_t_plan_map, .ref h_t_plan_meanings, .ref h_t_plan_capture, .ref h_t_plan_display])), (h_t_plan_palette, .inr (2, [.int t_plan_palette_entries, .int t_plan_palette_columns, .ref h_t_plan_palette_bits, .ref h_t_plan_palette_numbers])), (h_t_plan_palette_numbers, .inl (cJ, n_t_plan_palette_numbers, .inr (.inl f_t_plan_palette_numbers)))] := hD.sub [0, 1, 2, 3] (by decide) rfl
    refine W.eq (g2 := F0 m 37 ls [.long x34]) rfl ?_
    have E : k_FB_number_34 x34 = RES := (congrArg (k_FB_number_34) hx34).trans E
    exact kr_lX hx hb hr hlk hQ hK hP hD hS ⟨((0, x34) : Nat × Int64), E.trans E0.symm, rfl, rfl⟩ (by omega) (by omega) d_FB_number_37
  · have E := (if_pos c_12).symm.trans E
    exact kt_of exF_2 exD0_2 exD1_2 exD2_2 exD5_2 xw3_2 xw5_2 exW6_2 exW7_2 hLt hx hb hlk hQ hml hown hta hTh hAs hnh hP hD hS hA hl.1 ⟨((2, 0) : Nat × Int64), E.trans E0.symm, rfl, rfl⟩ lk_FB_93 lk_FB_173 d_FB_number_15 d_FB_number_18 d_FB_number_19 d_FB_number_21 d_FB_number_24 hRc hRs (by omega) (by omega) (by omega) (by omega)
theorem d_FB_shown_0 : decode b_FB_shown 0 = .ok (.iload_n 1, 1) := by decide +kernel
theorem d_FB_shown_1 : decode b_FB_shown 1 = .ok (.ifCond .lt 14, 3) := by decide +kernel
theorem d_FB_shown_4 : decode b_FB_shown 4 = .ok (.iload_n 1, 1) := by decide +kernel
theorem d_FB_shown_5 : decode b_FB_shown 5 = .ok (.aload_n 0, 1) := by decide +kernel
theorem d_FB_shown_6 : decode b_FB_shown 6 = .ok (.getfield 38, 3) := by decide +kernel
theorem d_FB_shown_9 : decode b_FB_shown 9 = .ok (.invokevirtual 263, 3) := by decide +kernel
theorem d_FB_shown_12 : decode b_FB_shown 12 = .ok (.if_icmp .lt 14, 3) := by decide +kernel
theorem d_FB_shown_15 : decode b_FB_shown 15 = .ok (.new 93, 3) := by decide +kernel
theorem d_FB_shown_18 : decode b_FB_shown 18 = .ok (.dup, 1) := by decide +kernel
theorem d_FB_shown_19 : decode b_FB_shown 19 = .ok (.ldc_w 267, 3) := by decide +kernel
theorem d_FB_shown_22 : decode b_FB_shown 22 = .ok (.invokespecial 97, 3) := by decide +kernel
theorem d_FB_shown_25 : decode b_FB_shown 25 = .ok (.athrow, 1) := by decide +kernel
theorem d_FB_shown_26 : decode b_FB_shown 26 = .ok (.aload_n 0, 1) := by decide +kernel
theorem d_FB_shown_27 : decode b_FB_shown 27 = .ok (.getfield 38, 3) := by decide +kernel
theorem d_FB_shown_30 : decode b_FB_shown 30 = .ok (.iload_n 1, 1) := by decide +kernel
theorem d_FB_shown_31 : decode b_FB_shown 31 = .ok (.iload_n 2, 1) := by decide +kernel
theorem d_FB_shown_32 : decode b_FB_shown 32 = .ok (.invokevirtual 269, 3) := by decide +kernel
theorem d_FB_shown_35 : decode b_FB_shown 35 = .ok (.lreturn, 1) := by decide +kernel
def j_FB_shown_15 : Nat × Int64 :=
  (2, 0)
def k_FB_shown_32 (x32 : Int64) : Nat × Int64 :=
  (0, x32)
def k_FB_shown_9 (t_plan_map_count : Int32) (n_t_plan_map_parts : Nat) (f_t_plan_map_parts : Nat → Int32) (t_plan_palette_entries : Int32) (t_plan_palette_columns : Int32) (n_t_plan_palette_numbers : Nat) (f_t_plan_palette_numbers : Nat → Int64) (p1 : Int32) (p2 : Int32) (x9 : Int32) : Nat × Int64 :=
  if p1 < x9 then (k_FB_shown_32 (m_Pl_sampleShown t_plan_map_count n_t_plan_map_parts f_t_plan_map_parts t_plan_palette_entries t_plan_palette_columns n_t_plan_palette_numbers f_t_plan_palette_numbers p1 p2)) else j_FB_shown_15
def m_FB_shown (t_plan_components : Int32) (t_plan_map_count : Int32) (n_t_plan_map_parts : Nat) (f_t_plan_map_parts : Nat → Int32) (t_plan_palette_entries : Int32) (t_plan_palette_columns : Int32) (n_t_plan_palette_numbers : Nat) (f_t_plan_palette_numbers : Nat → Int64) (p1 : Int32) (p2 : Int32) : Nat × Int64 :=
  if p1 < 0 then j_FB_shown_15 else (k_FB_shown_9 t_plan_map_count n_t_plan_map_parts f_t_plan_map_parts t_plan_palette_entries t_plan_palette_columns n_t_plan_palette_numbers f_t_plan_palette_numbers p1 p2 (m_Pl_channelCount t_plan_components t_plan_map_count))
set_option maxHeartbeats 4000000 in
set_option maxRecDepth 100000 in
theorem c_FB_shown (l : Launch) (D : va_G) (cB cI cJ : ClassId) (h_t h_t_file h_t_scanner h_t_writer h_t_plan h_t_plan_bits h_t_plan_profile h_t_plan_palette h_t_plan_map h_t_plan_meanings h_t_plan_capture h_t_plan_display h_t_plan_map_parts h_t_plan_palette_bits h_t_plan_palette_numbers : Nat) (t_scanned : Int32) (t_refusedAt : Int32) (t_plan_high : Int32) (t_plan_wide : Int32) (t_plan_components : Int32) (t_plan_unknown : Int32) (t_plan_rights : Int32) (t_plan_colours : Int32) (t_plan_hasProfile : Int32) (t_plan_map_count : Int32) (n_t_plan_map_parts : Nat) (f_t_plan_map_parts : Nat → Int32) (t_plan_palette_entries : Int32) (t_plan_palette_columns : Int32) (n_t_plan_palette_numbers : Nat) (f_t_plan_palette_numbers : Nat → Int64) (p1 : Int32) (p2 : Int32) (hLt : kL l) (hn_t_plan_map_parts : n_t_plan_map_parts < 2147483648) (hn_t_plan_palette_numbers : n_t_plan_palette_numbers < 2147483648) (sz : Nat) : CtX l D cB cI cJ y_FB_shown b_FB_shown 3 (some .long) 6 82 1 6 [.ref h_t, .int p1, .int p2] [(h_t, .inr (6, [.ref h_t_file, .ref h_t_scanner, .ref h_t_writer, .ref h_t_plan, .int t_scanned, .int t_refusedAt])), (h_t_plan, .inr (3, [.int t_plan_high, .int t_plan_wide, .int t_plan_components, .int t_plan_unknown, .int t_plan_rights, .ref h_t_plan_bits, .int t_plan_colours, .int t_plan_hasProfile, .ref h_t_plan_profile, .ref h_t_plan_palette, .ref h_t_plan_map, .ref h_t_plan_meanings, .ref h_t_plan_capture, .ref h_t_plan_display])), (h_t_plan_map, .inr (1, [.ref h_t_plan_map_parts, .int t_plan_map_count])), (h_t_plan_map_parts, .inl (cI, n_t_plan_map_parts, .inl f_t_plan_map_parts)), (h_t_plan_palette, .inr (2, [.int t_plan_palette_entries, .int t_plan_palette_columns, .ref h_t_plan_palette_bits, .ref h_t_plan_palette_numbers])), (h_t_plan_palette_numbers, .inl (cJ, n_t_plan_palette_numbers, .inr (.inl f_t_plan_palette_numbers)))] (fun o w1 => ∃ (x : Nat × Int64), x = m_FB_shown t_plan_components t_plan_map_count n_t_plan_map_parts f_t_plan_map_parts t_plan_palette_entries t_plan_palette_columns n_t_plan_palette_numbers f_t_plan_palette_numbers p1 p2 ∧ kO o x.1 (some (.long x.2)) ∧ w1 = [(h_t, .inr (6, [.ref h_t_file, .ref h_t_scanner, .ref h_t_writer, .ref h_t_plan, .int t_scanned, .int t_refusedAt])), (h_t_plan, .inr (3, [.int t_plan_high, .int t_plan_wide, .int t_plan_components, .int t_plan_unknown, .int t_plan_rights, .ref h_t_plan_bits, .int t_plan_colours, .int t_plan_hasProfile, .ref h_t_plan_profile, .ref h_t_plan_palette, .ref h_t_plan_map, .ref h_t_plan_meanings, .ref h_t_plan_capture, .ref h_t_plan_display])), (h_t_plan_map, .inr (1, [.ref h_t_plan_map_parts, .int t_plan_map_count])), (h_t_plan_map_parts, .inl (cI, n_t_plan_map_parts, .inl f_t_plan_map_parts)), (h_t_plan_palette, .inr (2, [.int t_plan_palette_entries, .int t_plan_palette_columns, .ref h_t_plan_palette_bits, .ref h_t_plan_palette_numbers])), (h_t_plan_palette_numbers, .inl (cJ, n_t_plan_palette_numbers, .inr (.inl f_t_plan_palette_numbers)))]) sz := by
  refine CtX.of (by decide) (Nat.le_of_ble_eq_true rfl) ?_
  intro p e R s m args below meth c A ls Q hx hb hr hlk hml hta hown hin hK hN hA hRf hRl hRc hRs hP hD hS hl hQ hTh hAs hnh
  have hl : lv_has ls 3 [(0, .ref h_t), (1, .int p1), (2, .int p2)] := hl
  obtain ⟨RES, E0⟩ : ∃ R, m_FB_shown t_plan_components t_plan_map_count n_t_plan_map_parts f_t_plan_map_parts t_plan_palette_entries t_plan_palette_columns n_t_plan_palette_numbers f_t_plan_palette_numbers p1 p2 = R := ⟨_, rfl⟩
  have E := E0
  refine lv_iload_n hx hb d_FB_shown_0 rfl (lv_at hl 1 rfl) ?_
  have J_15 : j_FB_shown_15 = RES → ∀ (H : Heap) (locs : List Loc), va_P D classes [(h_t, .inr (6, [.ref h_t_file, .ref h_t_scanner, .ref h_t_writer, .ref h_t_plan, .int t_scanned, .int t_refusedAt])), (h_t_plan, .inr (3, [.int t_plan_high, .int t_plan_wide, .int t_plan_components, .int t_plan_unknown, .int t_plan_rights, .ref h_t_plan_bits, .int t_plan_colours, .int t_plan_hasProfile, .ref h_t_plan_profile, .ref h_t_plan_palette, .ref h_t_plan_map, .ref h_t_plan_meanings, .ref h_t_plan_capture, .ref h_t_plan_display])), (h_t_plan_map, .inr (1, [.ref h_t_plan_map_parts, .int t_plan_map_count])), (h_t_plan_map_parts, .inl (cI, n_t_plan_map_parts, .inl f_t_plan_map_parts)), (h_t_plan_palette, .inr (2, [.int t_plan_palette_entries, .int t_plan_palette_columns, .ref h_t_plan_palette_bits, .ref h_t_plan_palette_numbers])), (h_t_plan_palette_numbers, .inl (cJ, n_t_plan_palette_numbers, .inr (.inl f_t_plan_palette_numbers)))] H → va_D A [(h_t, .inr (6, [.ref h_t_file, .ref h_t_scanner, .ref h_t_writer, .ref h_t_plan, .int t_scanned, .int t_refusedAt])), (h_t_plan, .inr (3, [.int t_plan_high, .int t_plan_wide, .int t_plan_components, .int t_plan_unknown, .int t_plan_rights, .ref h_t_plan_bits, .int t_plan_colours, .int t_plan_hasProfile, .ref h_t_plan_profile, .ref h_t_plan_palette, .ref h_t_plan_map, .ref h_t_plan_meanings, .ref h_t_plan_capture, .ref h_t_plan_display])), (h_t_plan_map, .inr (1, [.ref h_t_plan_map_parts, .int t_plan_map_count])), (h_t_plan_map_parts, .inl (cI, n_t_plan_map_parts, .inl f_t_plan_map_parts)), (h_t_plan_palette, .inr (2, [.int t_plan_palette_entries, .int t_plan_palette_columns, .ref h_t_plan_palette_bits, .ref h_t_plan_palette_numbers])), (h_t_plan_palette_numbers, .inl (cJ, n_t_plan_palette_numbers, .inr (.inl f_t_plan_palette_numbers)))] → va_S A s.heap H locs → ∀ ls : Array Slot, lv_has ls 3 [] → W p l e R s m args below meth c H locs 0 0 Q (F0 m 15 ls []) := by
    intro E H locs hP hD hS ls hl
    exact kt_ofW exF_2 exD0_2 exD1_2 exD2_2 exD5_2 xw3_2 xw5_2 exW6_2 exW7_2 hLt hx hb hlk hQ hml hown hta hTh hAs hnh hP hD hS hA hl.1 ⟨((2, 0) : Nat × Int64), E.trans E0.symm, rfl, rfl⟩ lk_FB_93 lk_FB_267 d_FB_shown_15 d_FB_shown_18 d_FB_shown_19 d_FB_shown_22 d_FB_shown_25 hRc hRs (by omega) (by omega) (by omega) (by omega)
  refine lv_if_lt (tgt := 15) hx hb d_FB_shown_1 (by decide) (fun c_1 => ?_) (fun c_1 => ?_)
  · have E := (if_pos c_1).symm.trans E
    exact J_15  E _ _ hP hD hS ls (lv_sub hl [] rfl)
  · have E := (if_neg c_1).symm.trans E
    refine lv_iload_n hx hb d_FB_shown_4 rfl (lv_at hl 1 rfl) ?_
    refine lv_aload_n hx hb d_FB_shown_5 rfl (lv_at hl 0 rfl) ?_
    refine va_get (D := D) (v := .ref h_t_plan) hx hb hta i_FB hown hK hP 0 rfl rfl 3 (by decide) (hta _ lk_FB_38) (fun _ h9 => h9) rfl d_FB_shown_6 ?_
    refine kc_V (As := []) (rest := [.int p1]) (wr := [(h_t, .inr (6, [.ref h_t_file, .ref h_t_scanner, .ref h_t_writer, .ref h_t_plan, .int t_scanned, .int t_refusedAt])), (h_t_plan_map_parts, .inl (cI, n_t_plan_map_parts, .inl f_t_plan_map_parts)), (h_t_plan_palette, .inr (2, [.int t_plan_palette_entries, .int t_plan_palette_columns, .ref h_t_plan_palette_bits, .ref h_t_plan_palette_numbers])), (h_t_plan_palette_numbers, .inl (cJ, n_t_plan_palette_numbers, .inr (.inl f_t_plan_palette_numbers)))]) [1, 2] [0, 3, 4, 5] ⟨hx, hb, hml, hown, hta⟩ hK hN hP hD hS hA (c_Pl_channelCount l D cB cI cJ h_t_plan h_t_plan_bits h_t_plan_profile h_t_plan_palette h_t_plan_map h_t_plan_meanings h_t_plan_capture h_t_plan_display h_t_plan_map_parts t_plan_high t_plan_wide t_plan_components t_plan_unknown t_plan_rights t_plan_colours t_plan_hasProfile t_plan_map_count _) (hta _ lk_FB_263) (hta _ ini_Pl) (hta _ code_Pl_channelCount) code_Pl_channelCount (hta _ inst_Pl_channelCount) (hta _ sel_Pl_channelCount) hd_Pl_channelCount rfl ⟨by omega, by omega⟩ (ci := 3) 1 rfl rfl rfl rfl (by decide) (by decide) (by decide) rfl hl.1 (lv_room (Nat.le_of_ble_eq_true rfl)) d_FB_shown_9 ⟨by omega, by omega⟩ (fun v w1 H locs hw hP hD hS => ?_)
    obtain ⟨x9, hx9, rfl, rfl⟩ := hw
    have hP : va_P D classes [(h_t, .inr (6, [.ref h_t_file, .ref h_t_scanner, .ref h_t_writer, .ref h_t_plan, .int t_scanned, .int t_refusedAt])), (h_t_plan, .inr (3, [.int t_plan_high, .int t_plan_wide, .int t_plan_components, .int t_plan_unknown, .int t_plan_rights, .ref h_t_plan_bits, .int t_plan_colours, .int t_plan_hasProfile, .ref h_t_plan_profile, .ref h_t_plan_palette, .ref h_t_plan_map, .ref h_t_plan_meanings, .ref h_t_plan_capture, .ref h_t_plan_display])), (h_t_plan_map, .inr (1, [.ref h_t_plan_map_parts, .int t_plan_map_count])), (h_t_plan_map_parts, .inl (cI, n_t_plan_map_parts, .inl f_t_plan_map_parts)), (h_t_plan_palette, .inr (2, [.int t_plan_palette_entries, .int t_plan_palette_columns, .ref h_t_plan_palette_bits, .ref h_t_plan_palette_numbers])), (h_t_plan_palette_numbers, .inl (cJ, n_t_plan_palette_numbers, .inr (.inl f_t_plan_palette_numbers)))] H := hP.sub [0, 4, 5, 1, 2, 3] rfl
    have hD : va_D A [(h_t, .inr (6, [.ref h_t_file, .ref h_t_scanner, .ref h_t_writer, .ref h_t_plan, .int t_scanned, .int t_refusedAt])), (h_t_plan, .inr (3, [.int t_plan_high, .int t_plan_wide, .int t_plan_components, .int t_plan_unknown, .int t_plan_rights, .ref h_t_plan_bits, .int t_plan_colours, .int t_plan_hasProfile, .ref h_t_plan_profile, .ref h_t_plan_palette, .ref h_t_plan_map, .ref h_t_plan_meanings, .ref h_t_plan_capture, .ref h_t_plan_display])), (h_t_plan_map, .inr (1, [.ref h_t_plan_map_parts, .int t_plan_map_count])), (h_t_plan_map_parts, .inl (cI, n_t_plan_map_parts, .inl f_t_plan_map_parts)), (h_t_plan_palette, .inr (2, [.int t_plan_palette_entries, .int t_plan_palette_columns, .ref h_t_plan_palette_bits, .ref h_t_plan_palette_numbers])), (h_t_plan_palette_numbers, .inl (cJ, n_t_plan_palette_numbers, .inr (.inl f_t_plan_palette_numbers)))] := hD.sub [0, 4, 5, 1, 2, 3] (by decide) rfl
    refine W.eq (g2 := F0 m 12 ls [.int x9, .int p1]) rfl ?_
    have E : k_FB_shown_9 t_plan_map_count n_t_plan_map_parts f_t_plan_map_parts t_plan_palette_entries t_plan_palette_columns n_t_plan_palette_numbers f_t_plan_palette_numbers p1 p2 x9 = RES := (congrArg (k_FB_shown_9 t_plan_map_count n_t_plan_map_parts f_t_plan_map_parts t_plan_palette_entries t_plan_palette_columns n_t_plan_palette_numbers f_t_plan_palette_numbers p1 p2) hx9).trans E
    refine lv_icmp_lt (tgt := 26) hx hb d_FB_shown_12 (by decide) (fun c_12 => ?_) (fun c_12 => ?_)
    · have E := (if_pos c_12).symm.trans E
      refine lv_aload_n hx hb d_FB_shown_26 rfl (lv_at hl 0 rfl) ?_
      refine va_get (D := D) (v := .ref h_t_plan) hx hb hta i_FB hown hK hP 0 rfl rfl 3 (by decide) (hta _ lk_FB_38) (fun _ h9 => h9) rfl d_FB_shown_27 ?_
      refine lv_iload_n hx hb d_FB_shown_30 rfl (lv_at hl 1 rfl) ?_
      refine lv_iload_n hx hb d_FB_shown_31 rfl (lv_at hl 2 rfl) ?_
      refine kc_V (As := [.int p1, .int p2]) (rest := []) (wr := [(h_t, .inr (6, [.ref h_t_file, .ref h_t_scanner, .ref h_t_writer, .ref h_t_plan, .int t_scanned, .int t_refusedAt]))]) [1, 2, 3, 4, 5] [0] ⟨hx, hb, hml, hown, hta⟩ hK hN hP hD hS hA (c_Pl_sampleShown l D cB cI cJ h_t_plan h_t_plan_bits h_t_plan_profile h_t_plan_palette h_t_plan_map h_t_plan_meanings h_t_plan_capture h_t_plan_display h_t_plan_map_parts h_t_plan_palette_bits h_t_plan_palette_numbers t_plan_high t_plan_wide t_plan_components t_plan_unknown t_plan_rights t_plan_colours t_plan_hasProfile t_plan_map_count n_t_plan_map_parts f_t_plan_map_parts t_plan_palette_entries t_plan_palette_columns n_t_plan_palette_numbers f_t_plan_palette_numbers p1 p2 hn_t_plan_map_parts hn_t_plan_palette_numbers _) (hta _ lk_FB_269) (hta _ ini_Pl) (hta _ code_Pl_sampleShown) code_Pl_sampleShown (hta _ inst_Pl_sampleShown) (hta _ sel_Pl_sampleShown) hd_Pl_sampleShown rfl ⟨by omega, by omega⟩ (ci := 3) 1 rfl rfl rfl rfl (by decide) (by decide) (by decide) rfl hl.1 (lv_room (Nat.le_of_ble_eq_true rfl)) d_FB_shown_32 ⟨by omega, by omega⟩ (fun v w1 H locs hw hP hD hS => ?_)
      obtain ⟨x32, hx32, rfl, rfl⟩ := hw
      have hP : va_P D classes [(h_t, .inr (6, [.ref h_t_file, .ref h_t_scanner, .ref h_t_writer, .ref h_t_plan, .int t_scanned, .int t_refusedAt])), (h_t_plan, .inr (3, [.int t_plan_high, .int t_plan_wide, .int t_plan_components, .int t_plan_unknown, .int t_plan_rights, .ref h_t_plan_bits, .int t_plan_colours, .int t_plan_hasProfile, .ref h_t_plan_profile, .ref h_t_plan_palette, .ref h_t_plan_map, .ref h_t_plan_meanings, .ref h_t_plan_capture, .ref h_t_plan_display])), (h_t_plan_map, .inr (1, [.ref h_t_plan_map_parts, .int t_plan_map_count])), (h_t_plan_map_parts, .inl (cI, n_t_plan_map_parts, .inl f_t_plan_map_parts)), (h_t_plan_palette, .inr (2, [.int t_plan_palette_entries, .int t_plan_palette_columns, .ref h_t_plan_palette_bits, .ref h_t_plan_palette_numbers])), (h_t_plan_palette_numbers, .inl (cJ, n_t_plan_palette_numbers, .inr (.inl f_t_plan_palette_numbers)))] H := hP.sub [0, 1, 2, 3, 4, 5] rfl
      have hD : va_D A [(h_t, .inr (6, [.ref h_t_file, .ref h_t_scanner, .ref h_t_writer, .ref h_t_plan, .int t_scanned, .int t_refusedAt])), (h_t_plan, .inr (3, [.int t_plan_high, .int t_plan_wide, .int t_plan_components, .int t_plan_unknown, .int t_plan_rights, .ref h_t_plan_bits, .int t_plan_colours, .int t_plan_hasProfile, .ref h_t_plan_profile, .ref h_t_plan_palette, .ref h_t_plan_map, .ref h_t_plan_meanings, .ref h_t_plan_capture, .ref h_t_plan_display])), (h_t_plan_map, .inr (1, [.ref h_t_plan_map_parts, .int t_plan_map_count])), (h_t_plan_map_parts, .inl (cI, n_t_plan_map_parts, .inl f_t_plan_map_parts)), (h_t_plan_palette, .inr (2, [.int t_plan_palette_entries, .int t_plan_palette_columns, .ref h_t_plan_palette_bits, .ref h_t_plan_palette_numbers])), (h_t_plan_palette_numbers, .inl (cJ, n_t_plan_palette_numbers, .inr (.inl f_t_plan_palette_numbers)))] := hD.sub [0, 1, 2, 3, 4, 5] (by decide) rfl
      refine W.eq (g2 := F0 m 35 ls [.long x32]) rfl ?_
      have E : k_FB_shown_32 x32 = RES := (congrArg (k_FB_shown_32) hx32).trans E
      exact kr_lX hx hb hr hlk hQ hK hP hD hS ⟨((0, x32) : Nat × Int64), E.trans E0.symm, rfl, rfl⟩ (by omega) (by omega) d_FB_shown_35
    · have E := (if_neg c_12).symm.trans E
      exact J_15  E _ _ hP hD hS ls (lv_sub hl [] rfl)
theorem d_FB_put_0 : decode b_FB_put 0 = .ok (.iload_n 1, 1) := by decide +kernel
theorem d_FB_put_1 : decode b_FB_put 1 = .ok (.invokestatic 118, 3) := by decide +kernel
theorem d_FB_put_4 : decode b_FB_put 4 = .ok (.ifCond .ne 13, 3) := by decide +kernel
theorem d_FB_put_7 : decode b_FB_put 7 = .ok (.new 53, 3) := by decide +kernel
theorem d_FB_put_10 : decode b_FB_put 10 = .ok (.dup, 1) := by decide +kernel
theorem d_FB_put_11 : decode b_FB_put 11 = .ok (.ldc 121, 2) := by decide +kernel
theorem d_FB_put_13 : decode b_FB_put 13 = .ok (.invokespecial 57, 3) := by decide +kernel
theorem d_FB_put_16 : decode b_FB_put 16 = .ok (.athrow, 1) := by decide +kernel
theorem d_FB_put_17 : decode b_FB_put 17 = .ok (.aload_n 0, 1) := by decide +kernel
theorem d_FB_put_18 : decode b_FB_put 18 = .ok (.getfield 15, 3) := by decide +kernel
theorem d_FB_put_21 : decode b_FB_put 21 = .ok (.getfield 126, 3) := by decide +kernel
theorem d_FB_put_24 : decode b_FB_put 24 = .ok (.ldc 11, 2) := by decide +kernel
theorem d_FB_put_26 : decode b_FB_put 26 = .ok (.if_icmp .lt 14, 3) := by decide +kernel
theorem d_FB_put_29 : decode b_FB_put 29 = .ok (.new 129, 3) := by decide +kernel
theorem d_FB_put_32 : decode b_FB_put 32 = .ok (.dup, 1) := by decide +kernel
theorem d_FB_put_33 : decode b_FB_put 33 = .ok (.ldc_w 272, 3) := by decide +kernel
theorem d_FB_put_36 : decode b_FB_put 36 = .ok (.invokespecial 133, 3) := by decide +kernel
theorem d_FB_put_39 : decode b_FB_put 39 = .ok (.athrow, 1) := by decide +kernel
theorem d_FB_put_40 : decode b_FB_put 40 = .ok (.aload_n 0, 1) := by decide +kernel
theorem d_FB_put_41 : decode b_FB_put 41 = .ok (.getfield 15, 3) := by decide +kernel
theorem d_FB_put_44 : decode b_FB_put 44 = .ok (.iconst 1, 1) := by decide +kernel
theorem d_FB_put_45 : decode b_FB_put 45 = .ok (.invokevirtual 134, 3) := by decide +kernel
theorem d_FB_put_48 : decode b_FB_put 48 = .ok (.aload_n 0, 1) := by decide +kernel
theorem d_FB_put_49 : decode b_FB_put 49 = .ok (.getfield 15, 3) := by decide +kernel
theorem d_FB_put_52 : decode b_FB_put 52 = .ok (.iload_n 1, 1) := by decide +kernel
theorem d_FB_put_53 : decode b_FB_put 53 = .ok (.invokevirtual 137, 3) := by decide +kernel
theorem d_FB_put_56 : decode b_FB_put 56 = .ok (.aload_n 0, 1) := by decide +kernel
theorem d_FB_put_57 : decode b_FB_put 57 = .ok (.iconst 0, 1) := by decide +kernel
theorem d_FB_put_58 : decode b_FB_put 58 = .ok (.putfield 42, 3) := by decide +kernel
theorem d_FB_put_61 : decode b_FB_put 61 = .ok (.aload_n 0, 1) := by decide +kernel
theorem d_FB_put_62 : decode b_FB_put 62 = .ok (.getfield 15, 3) := by decide +kernel
theorem d_FB_put_65 : decode b_FB_put 65 = .ok (.getfield 126, 3) := by decide +kernel
theorem d_FB_put_68 : decode b_FB_put 68 = .ok (.ireturn, 1) := by decide +kernel
def k_FB_put_53 (x45 : Nat × (Nat → Int32)) (x53 : Int32 × (Nat → Int32)) : Nat × Int32 × Int32 × Int32 × Nat × (Nat → Int32) :=
  (0, (x53.1, 0, x53.1, x45.1, x53.2))
def k_FB_put_45 (t_file_count : Int32) (p1 : Int32) (x45 : Nat × (Nat → Int32)) : Nat × Int32 × Int32 × Int32 × Nat × (Nat → Int32) :=
  k_FB_put_53 x45 (m_By_add t_file_count x45.1 x45.2 p1)
def k_FB_put_1 (t_scanned : Int32) (t_file_most : Int32) (t_file_count : Int32) (n_t_file_row : Nat) (f_t_file_row : Nat → Int32) (p1 : Int32) (x1 : Int32) : Nat × Int32 × Int32 × Int32 × Nat × (Nat → Int32) :=
  if x1 = 0 then ((1, (0, t_scanned, t_file_count, n_t_file_row, f_t_file_row))) else (if t_file_count < 65536 then (k_FB_put_45 t_file_count p1 (m_By_makeRoom t_file_most t_file_count n_t_file_row f_t_file_row 1)) else ((4, (0, t_scanned, t_file_count, n_t_file_row, f_t_file_row))))
def m_FB_put (t_scanned : Int32) (t_file_most : Int32) (t_file_count : Int32) (n_t_file_row : Nat) (f_t_file_row : Nat → Int32) (p1 : Int32) : Nat × Int32 × Int32 × Int32 × Nat × (Nat → Int32) :=
  k_FB_put_1 t_scanned t_file_most t_file_count n_t_file_row f_t_file_row p1 (m_FB_isByte p1)
set_option maxHeartbeats 4000000 in
set_option maxRecDepth 100000 in
theorem c_FB_put (l : Launch) (D : va_G) (cB cI cJ : ClassId) (h_t h_t_file h_t_scanner h_t_writer h_t_plan h_t_file_row : Nat) (t_scanned : Int32) (t_refusedAt : Int32) (t_file_most : Int32) (t_file_count : Int32) (n_t_file_row : Nat) (f_t_file_row : Nat → Int32) (p1 : Int32) (hLt : kL l) (hmost : t_file_most.toInt ≤ 65536) (hfit : sb_Fit f_t_file_row) (hn_t_file_row : n_t_file_row < 2147483648) (sz : Nat) : CtX l D cB cI cJ y_FB_put b_FB_put 2 (some .int) 6 104 2 ((grN n_t_file_row (m_FB_put t_scanned t_file_most t_file_count n_t_file_row f_t_file_row p1).2.2.2.2.1 + 6)) [.ref h_t, .int p1] [(h_t, .inr (6, [.ref h_t_file, .ref h_t_scanner, .ref h_t_writer, .ref h_t_plan, .int t_scanned, .int t_refusedAt])), (h_t_file, .inr (0, [.int t_file_most, .ref h_t_file_row, .int t_file_count])), (h_t_file_row, .inl (cB, n_t_file_row, .inl f_t_file_row))] (fun o w1 => ∃ (x : Nat × Int32 × Int32 × Int32 × Nat × (Nat → Int32)) (q_t_file_row : Nat), x = m_FB_put t_scanned t_file_most t_file_count n_t_file_row f_t_file_row p1 ∧ kO o x.1 (some (.int x.2.1)) ∧ w1 = [(h_t, .inr (6, [.ref h_t_file, .ref h_t_scanner, .ref h_t_writer, .ref h_t_plan, .int x.2.2.1, .int t_refusedAt])), (h_t_file, .inr (0, [.int t_file_most, .ref q_t_file_row, .int x.2.2.2.1])), (q_t_file_row, .inl (cB, x.2.2.2.2.1, .inl x.2.2.2.2.2))]) sz := by
  refine CtX.of (by decide) (Nat.le_of_ble_eq_true rfl) ?_
  intro p e R s m args below meth c A ls Q hx hb hr hlk hml hta hown hin hK hN hA hRf hRl hRc hRs hP hD hS hl hQ hTh hAs hnh
  have hl : lv_has ls 2 [(0, .ref h_t), (1, .int p1)] := hl
  obtain ⟨RES, E0⟩ : ∃ R, m_FB_put t_scanned t_file_most t_file_count n_t_file_row f_t_file_row p1 = R := ⟨_, rfl⟩
  have E := E0
  refine lv_iload_n hx hb d_FB_put_0 rfl (lv_at hl 1 rfl) ?_
  refine kc_S (As := [.int p1]) (rest := []) (wr := [(h_t, .inr (6, [.ref h_t_file, .ref h_t_scanner, .ref h_t_writer, .ref h_t_plan, .int t_scanned, .int t_refusedAt])), (h_t_file, .inr (0, [.int t_file_most, .ref h_t_file_row, .int t_file_count])), (h_t_file_row, .inl (cB, n_t_file_row, .inl f_t_file_row))]) [] [0, 1, 2] ⟨hx, hb, hml, hown, hta⟩ hK hN hP hD hS hA (c_FB_isByte l D cB cI cJ p1 _) (hta _ lk_FB_118) (hta _ ini_FB) (hta _ code_FB_isByte) code_FB_isByte (hta _ stat_FB_isByte) hd_FB_isByte rfl ⟨by omega, by omega⟩ rfl rfl (by decide) (by decide) (by decide) rfl hl.1 (lv_room (Nat.le_of_ble_eq_true rfl)) d_FB_put_1 ⟨by omega, by omega⟩ (fun v w1 H locs hw hP hD hS => ?_)
  obtain ⟨x1, hx1, rfl, rfl⟩ := hw
  have hP : va_P D classes [(h_t, .inr (6, [.ref h_t_file, .ref h_t_scanner, .ref h_t_writer, .ref h_t_plan, .int t_scanned, .int t_refusedAt])), (h_t_file, .inr (0, [.int t_file_most, .ref h_t_file_row, .int t_file_count])), (h_t_file_row, .inl (cB, n_t_file_row, .inl f_t_file_row))] H := hP.sub [0, 1, 2] rfl
  have hD : va_D A [(h_t, .inr (6, [.ref h_t_file, .ref h_t_scanner, .ref h_t_writer, .ref h_t_plan, .int t_scanned, .int t_refusedAt])), (h_t_file, .inr (0, [.int t_file_most, .ref h_t_file_row, .int t_file_count])), (h_t_file_row, .inl (cB, n_t_file_row, .inl f_t_file_row))] := hD.sub [0, 1, 2] (by decide) rfl
  refine W.eq (g2 := F0 m 4 ls [.int x1]) rfl ?_
  have E : k_FB_put_1 t_scanned t_file_most t_file_count n_t_file_row f_t_file_row p1 x1 = RES := (congrArg (k_FB_put_1 t_scanned t_file_most t_file_count n_t_file_row f_t_file_row p1) hx1).trans E
  refine lv_if_ne (tgt := 17) hx hb d_FB_put_4 (by decide) (fun c_4 => ?_) (fun c_4 => ?_)
  · have E := (if_neg c_4).symm.trans E
    refine lv_aload_n hx hb d_FB_put_17 rfl (lv_at hl 0 rfl) ?_
    refine va_get (D := D) (v := .ref h_t_file) hx hb hta i_FB hown hK hP 0 rfl rfl 0 (by decide) (hta _ lk_FB_15) (fun _ h9 => h9) rfl d_FB_put_18 ?_
    refine va_get (D := D) (v := .int t_file_count) hx hb hta i_By hown hK hP 1 rfl rfl 2 (by decide) (hta _ lk_FB_126) (fun _ h9 => h9) rfl d_FB_put_21 ?_
    refine lv_ldc (v := 65536) hx hb hown (hta _ lk_FB_11) d_FB_put_24 ?_
    refine lv_icmp_lt (tgt := 40) hx hb d_FB_put_26 (by decide) (fun c_26 => ?_) (fun c_26 => ?_)
    · have E := (if_pos c_26).symm.trans E
      refine lv_aload_n hx hb d_FB_put_40 rfl (lv_at hl 0 rfl) ?_
      refine va_get (D := D) (v := .ref h_t_file) hx hb hta i_FB hown hK hP 0 rfl rfl 0 (by decide) (hta _ lk_FB_15) (fun _ h9 => h9) rfl d_FB_put_41 ?_
      refine lv_iconst (v := 1) hx hb d_FB_put_44 (by decide) ?_
      have h8 : gr_By t_file_most t_file_count n_t_file_row 1 ≤ grN n_t_file_row (m_FB_put t_scanned t_file_most t_file_count n_t_file_row f_t_file_row p1).2.2.2.2.1 := by rw [E0, ← E]; exact grn hn_t_file_row
      refine kc_V (As := [.int 1]) (rest := []) (wr := [(h_t, .inr (6, [.ref h_t_file, .ref h_t_scanner, .ref h_t_writer, .ref h_t_plan, .int t_scanned, .int t_refusedAt]))]) [1, 2] [0] ⟨hx, hb, hml, hown, hta⟩ hK hN hP hD hS hA (c_By_makeRoom l D cB cI cJ h_t_file h_t_file_row t_file_most t_file_count n_t_file_row f_t_file_row 1 hmost hfit hn_t_file_row _) (hta _ lk_FB_134) (hta _ ini_By) (hta _ code_By_makeRoom) code_By_makeRoom (hta _ inst_By_makeRoom) (hta _ sel_By_makeRoom) hd_By_makeRoom rfl ⟨by omega, by omega⟩ (ci := 0) 1 rfl rfl rfl rfl (by decide) (by decide) (by decide) rfl hl.1 (lv_room (Nat.le_of_ble_eq_true rfl)) d_FB_put_45 ⟨by omega, by omega⟩ (fun v w1 H locs hw hP hD hS => ?_)
      obtain ⟨x45, q_45_t_row, hx45, rfl, rfl⟩ := hw
      have hP : va_P D classes [(h_t, .inr (6, [.ref h_t_file, .ref h_t_scanner, .ref h_t_writer, .ref h_t_plan, .int t_scanned, .int t_refusedAt])), (h_t_file, .inr (0, [.int t_file_most, .ref q_45_t_row, .int t_file_count])), (q_45_t_row, .inl (cB, x45.1, .inl x45.2))] H := hP.sub [0, 1, 2] rfl
      have hD : va_D A [(h_t, .inr (6, [.ref h_t_file, .ref h_t_scanner, .ref h_t_writer, .ref h_t_plan, .int t_scanned, .int t_refusedAt])), (h_t_file, .inr (0, [.int t_file_most, .ref q_45_t_row, .int t_file_count])), (q_45_t_row, .inl (cB, x45.1, .inl x45.2))] := hD.sub [0, 1, 2] (by decide) rfl
      refine W.eq (g2 := F0 m 48 ls []) rfl ?_
      have hlen45 : x45.1 < 2147483648 := by rw [hx45]; exact mrm_len hn_t_file_row hmost
      have E : k_FB_put_45 t_file_count p1 x45 = RES := (congrArg (k_FB_put_45 t_file_count p1) hx45).trans E
      refine lv_aload_n hx hb d_FB_put_48 rfl (lv_at hl 0 rfl) ?_
      refine va_get (D := D) (v := .ref h_t_file) hx hb hta i_FB hown hK hP 0 rfl rfl 0 (by decide) (hta _ lk_FB_15) (fun _ h9 => h9) rfl d_FB_put_49 ?_
      refine lv_iload_n hx hb d_FB_put_52 rfl (lv_at hl 1 rfl) ?_
      refine kc_V (As := [.int p1]) (rest := []) (wr := [(h_t, .inr (6, [.ref h_t_file, .ref h_t_scanner, .ref h_t_writer, .ref h_t_plan, .int t_scanned, .int t_refusedAt]))]) [1, 2] [0] ⟨hx, hb, hml, hown, hta⟩ hK hN hP hD hS hA (c_By_add l D cB cI cJ h_t_file q_45_t_row t_file_most t_file_count x45.1 x45.2 p1 (by assumption) _) (hta _ lk_FB_137) (hta _ ini_By) (hta _ code_By_add) code_By_add (hta _ inst_By_add) (hta _ sel_By_add) hd_By_add rfl ⟨by omega, by omega⟩ (ci := 0) 1 rfl rfl rfl rfl (by decide) (by decide) (by decide) rfl hl.1 (lv_room (Nat.le_of_ble_eq_true rfl)) d_FB_put_53 ⟨by omega, by omega⟩ (fun v w1 H locs hw hP hD hS => ?_)
      obtain ⟨x53, hx53, rfl, rfl⟩ := hw
      have hP : va_P D classes [(h_t, .inr (6, [.ref h_t_file, .ref h_t_scanner, .ref h_t_writer, .ref h_t_plan, .int t_scanned, .int t_refusedAt])), (h_t_file, .inr (0, [.int t_file_most, .ref q_45_t_row, .int x53.1])), (q_45_t_row, .inl (cB, x45.1, .inl x53.2))] H := hP.sub [0, 1, 2] rfl
      have hD : va_D A [(h_t, .inr (6, [.ref h_t_file, .ref h_t_scanner, .ref h_t_writer, .ref h_t_plan, .int t_scanned, .int t_refusedAt])), (h_t_file, .inr (0, [.int t_file_most, .ref q_45_t_row, .int x53.1])), (q_45_t_row, .inl (cB, x45.1, .inl x53.2))] := hD.sub [0, 1, 2] (by decide) rfl
      refine W.eq (g2 := F0 m 56 ls []) rfl ?_
      have E : k_FB_put_53 x45 x53 = RES := (congrArg (k_FB_put_53 x45) hx53).trans E
      refine lv_aload_n hx hb d_FB_put_56 rfl (lv_at hl 0 rfl) ?_
      refine lv_iconst (v := 0) hx hb d_FB_put_57 (by decide) ?_
      refine va_put (D := D) (ty := .boolean) hx hb hta i_FB t_FB t_FB_ok n_FB hown hK hP hD hS 0 rfl rfl 4 (by decide) (hta _ lk_FB_42) (fun _ h9 => h9) rfl (by decide +kernel) rfl rfl (Nat.le_of_ble_eq_true rfl) d_FB_put_58 (fun H locs (hP : va_P D classes [(h_t, .inr (6, [.ref h_t_file, .ref h_t_scanner, .ref h_t_writer, .ref h_t_plan, .int 0, .int t_refusedAt])), (h_t_file, .inr (0, [.int t_file_most, .ref q_45_t_row, .int x53.1])), (q_45_t_row, .inl (cB, x45.1, .inl x53.2))] H) (hD : va_D A [(h_t, .inr (6, [.ref h_t_file, .ref h_t_scanner, .ref h_t_writer, .ref h_t_plan, .int 0, .int t_refusedAt])), (h_t_file, .inr (0, [.int t_file_most, .ref q_45_t_row, .int x53.1])), (q_45_t_row, .inl (cB, x45.1, .inl x53.2))]) hS => ?_)
      refine lv_aload_n hx hb d_FB_put_61 rfl (lv_at hl 0 rfl) ?_
      refine va_get (D := D) (v := .ref h_t_file) hx hb hta i_FB hown hK hP 0 rfl rfl 0 (by decide) (hta _ lk_FB_15) (fun _ h9 => h9) rfl d_FB_put_62 ?_
      refine va_get (D := D) (v := .int x53.1) hx hb hta i_By hown hK hP 1 rfl rfl 2 (by decide) (hta _ lk_FB_126) (fun _ h9 => h9) rfl d_FB_put_65 ?_
      exact kr_iX hx hb hr hlk hQ hK hP hD hS ⟨((0, (x53.1, 0, x53.1, x45.1, x53.2)) : Nat × Int32 × Int32 × Int32 × Nat × (Nat → Int32)), q_45_t_row, E.trans E0.symm, rfl, rfl⟩ (by omega) (by omega) d_FB_put_68
    · have E := (if_neg c_26).symm.trans E
      exact kt_ofW exF_4 exD0_4 exD1_4 exD2_4 exD5_4 xw3_4 xw5_4 exW6_4 exW7_4 hLt hx hb hlk hQ hml hown hta hTh hAs hnh hP hD hS hA hl.1 ⟨((4, (0, t_scanned, t_file_count, n_t_file_row, f_t_file_row)) : Nat × Int32 × Int32 × Int32 × Nat × (Nat → Int32)), h_t_file_row, E.trans E0.symm, rfl, rfl⟩ lk_FB_129 lk_FB_272 d_FB_put_29 d_FB_put_32 d_FB_put_33 d_FB_put_36 d_FB_put_39 hRc hRs (by omega) (by omega) (by omega) (by omega)
  · have E := (if_pos c_4).symm.trans E
    exact kt_of exF_1 exD0_1 exD1_1 exD2_1 exD5_1 xw3_1 xw5_1 exW6_1 exW7_1 hLt hx hb hlk hQ hml hown hta hTh hAs hnh hP hD hS hA hl.1 ⟨((1, (0, t_scanned, t_file_count, n_t_file_row, f_t_file_row)) : Nat × Int32 × Int32 × Int32 × Nat × (Nat → Int32)), h_t_file_row, E.trans E0.symm, rfl, rfl⟩ lk_FB_53 lk_FB_121 d_FB_put_7 d_FB_put_10 d_FB_put_11 d_FB_put_13 d_FB_put_16 hRc hRs (by omega) (by omega) (by omega) (by omega)
theorem d_FB_at_0 : decode b_FB_at 0 = .ok (.iload_n 1, 1) := by decide +kernel
theorem d_FB_at_1 : decode b_FB_at 1 = .ok (.iconst (-1), 1) := by decide +kernel
theorem d_FB_at_2 : decode b_FB_at 2 = .ok (.if_icmp .ne 11, 3) := by decide +kernel
theorem d_FB_at_5 : decode b_FB_at 5 = .ok (.aload_n 0, 1) := by decide +kernel
theorem d_FB_at_6 : decode b_FB_at 6 = .ok (.getfield 15, 3) := by decide +kernel
theorem d_FB_at_9 : decode b_FB_at 9 = .ok (.getfield 126, 3) := by decide +kernel
theorem d_FB_at_12 : decode b_FB_at 12 = .ok (.ireturn, 1) := by decide +kernel
theorem d_FB_at_13 : decode b_FB_at 13 = .ok (.iload_n 1, 1) := by decide +kernel
theorem d_FB_at_14 : decode b_FB_at 14 = .ok (.ifCond .lt 14, 3) := by decide +kernel
theorem d_FB_at_17 : decode b_FB_at 17 = .ok (.iload_n 1, 1) := by decide +kernel
theorem d_FB_at_18 : decode b_FB_at 18 = .ok (.aload_n 0, 1) := by decide +kernel
theorem d_FB_at_19 : decode b_FB_at 19 = .ok (.getfield 15, 3) := by decide +kernel
theorem d_FB_at_22 : decode b_FB_at 22 = .ok (.getfield 126, 3) := by decide +kernel
theorem d_FB_at_25 : decode b_FB_at 25 = .ok (.if_icmp .lt 14, 3) := by decide +kernel
theorem d_FB_at_28 : decode b_FB_at 28 = .ok (.new 93, 3) := by decide +kernel
theorem d_FB_at_31 : decode b_FB_at 31 = .ok (.dup, 1) := by decide +kernel
theorem d_FB_at_32 : decode b_FB_at 32 = .ok (.ldc_w 274, 3) := by decide +kernel
theorem d_FB_at_35 : decode b_FB_at 35 = .ok (.invokespecial 97, 3) := by decide +kernel
theorem d_FB_at_38 : decode b_FB_at 38 = .ok (.athrow, 1) := by decide +kernel
theorem d_FB_at_39 : decode b_FB_at 39 = .ok (.aload_n 0, 1) := by decide +kernel
theorem d_FB_at_40 : decode b_FB_at 40 = .ok (.getfield 15, 3) := by decide +kernel
theorem d_FB_at_43 : decode b_FB_at 43 = .ok (.iload_n 1, 1) := by decide +kernel
theorem d_FB_at_44 : decode b_FB_at 44 = .ok (.invokevirtual 253, 3) := by decide +kernel
theorem d_FB_at_47 : decode b_FB_at 47 = .ok (.ireturn, 1) := by decide +kernel
def j_FB_at_28 : Nat × Int32 :=
  (2, 0)
def k_FB_at_44 (x44 : Int32) : Nat × Int32 :=
  (0, x44)
def m_FB_at (t_file_count : Int32) (n_t_file_row : Nat) (f_t_file_row : Nat → Int32) (p1 : Int32) : Nat × Int32 :=
  if p1 = (-1) then (0, t_file_count) else (if p1 < 0 then j_FB_at_28 else (if p1 < t_file_count then (k_FB_at_44 (m_By_byteAt t_file_count n_t_file_row f_t_file_row p1)) else j_FB_at_28))
set_option maxHeartbeats 4000000 in
set_option maxRecDepth 100000 in
theorem c_FB_at (l : Launch) (D : va_G) (cB cI cJ : ClassId) (h_t h_t_file h_t_scanner h_t_writer h_t_plan h_t_file_row : Nat) (t_scanned : Int32) (t_refusedAt : Int32) (t_file_most : Int32) (t_file_count : Int32) (n_t_file_row : Nat) (f_t_file_row : Nat → Int32) (p1 : Int32) (hLt : kL l) (hn_t_file_row : n_t_file_row < 2147483648) (sz : Nat) : CtX l D cB cI cJ y_FB_at b_FB_at 2 (some .int) 6 82 1 6 [.ref h_t, .int p1] [(h_t, .inr (6, [.ref h_t_file, .ref h_t_scanner, .ref h_t_writer, .ref h_t_plan, .int t_scanned, .int t_refusedAt])), (h_t_file, .inr (0, [.int t_file_most, .ref h_t_file_row, .int t_file_count])), (h_t_file_row, .inl (cB, n_t_file_row, .inl f_t_file_row))] (fun o w1 => ∃ (x : Nat × Int32), x = m_FB_at t_file_count n_t_file_row f_t_file_row p1 ∧ kO o x.1 (some (.int x.2)) ∧ w1 = [(h_t, .inr (6, [.ref h_t_file, .ref h_t_scanner, .ref h_t_writer, .ref h_t_plan, .int t_scanned, .int t_refusedAt])), (h_t_file, .inr (0, [.int t_file_most, .ref h_t_file_row, .int t_file_count])), (h_t_file_row, .inl (cB, n_t_file_row, .inl f_t_file_row))]) sz := by
  refine CtX.of (by decide) (Nat.le_of_ble_eq_true rfl) ?_
  intro p e R s m args below meth c A ls Q hx hb hr hlk hml hta hown hin hK hN hA hRf hRl hRc hRs hP hD hS hl hQ hTh hAs hnh
  have hl : lv_has ls 2 [(0, .ref h_t), (1, .int p1)] := hl
  obtain ⟨RES, E0⟩ : ∃ R, m_FB_at t_file_count n_t_file_row f_t_file_row p1 = R := ⟨_, rfl⟩
  have E := E0
  refine lv_iload_n hx hb d_FB_at_0 rfl (lv_at hl 1 rfl) ?_
  refine lv_iconst (v := (-1)) hx hb d_FB_at_1 (by decide) ?_
  refine lv_icmp_ne (tgt := 13) hx hb d_FB_at_2 (by decide) (fun c_2 => ?_) (fun c_2 => ?_)
  · have E := (if_neg c_2).symm.trans E
    refine lv_iload_n hx hb d_FB_at_13 rfl (lv_at hl 1 rfl) ?_
    have J_28 : j_FB_at_28 = RES → ∀ (H : Heap) (locs : List Loc), va_P D classes [(h_t, .inr (6, [.ref h_t_file, .ref h_t_scanner, .ref h_t_writer, .ref h_t_plan, .int t_scanned, .int t_refusedAt])), (h_t_file, .inr (0, [.int t_file_most, .ref h_t_file_row, .int t_file_count])), (h_t_file_row, .inl (cB, n_t_file_row, .inl f_t_file_row))] H → va_D A [(h_t, .inr (6, [.ref h_t_file, .ref h_t_scanner, .ref h_t_writer, .ref h_t_plan, .int t_scanned, .int t_refusedAt])), (h_t_file, .inr (0, [.int t_file_most, .ref h_t_file_row, .int t_file_count])), (h_t_file_row, .inl (cB, n_t_file_row, .inl f_t_file_row))] → va_S A s.heap H locs → ∀ ls : Array Slot, lv_has ls 2 [] → W p l e R s m args below meth c H locs 0 0 Q (F0 m 28 ls []) := by
      intro E H locs hP hD hS ls hl
      exact kt_ofW exF_2 exD0_2 exD1_2 exD2_2 exD5_2 xw3_2 xw5_2 exW6_2 exW7_2 hLt hx hb hlk hQ hml hown hta hTh hAs hnh hP hD hS hA hl.1 ⟨((2, 0) : Nat × Int32), E.trans E0.symm, rfl, rfl⟩ lk_FB_93 lk_FB_274 d_FB_at_28 d_FB_at_31 d_FB_at_32 d_FB_at_35 d_FB_at_38 hRc hRs (by omega) (by omega) (by omega) (by omega)
    refine lv_if_lt (tgt := 28) hx hb d_FB_at_14 (by decide) (fun c_14 => ?_) (fun c_14 => ?_)
    · have E := (if_pos c_14).symm.trans E
      exact J_28  E _ _ hP hD hS ls (lv_sub hl [] rfl)
    · have E := (if_neg c_14).symm.trans E
      refine lv_iload_n hx hb d_FB_at_17 rfl (lv_at hl 1 rfl) ?_
      refine lv_aload_n hx hb d_FB_at_18 rfl (lv_at hl 0 rfl) ?_
      refine va_get (D := D) (v := .ref h_t_file) hx hb hta i_FB hown hK hP 0 rfl rfl 0 (by decide) (hta _ lk_FB_15) (fun _ h9 => h9) rfl d_FB_at_19 ?_
      refine va_get (D := D) (v := .int t_file_count) hx hb hta i_By hown hK hP 1 rfl rfl 2 (by decide) (hta _ lk_FB_126) (fun _ h9 => h9) rfl d_FB_at_22 ?_
      refine lv_icmp_lt (tgt := 39) hx hb d_FB_at_25 (by decide) (fun c_25 => ?_) (fun c_25 => ?_)
      · have E := (if_pos c_25).symm.trans E
        refine lv_aload_n hx hb d_FB_at_39 rfl (lv_at hl 0 rfl) ?_
        refine va_get (D := D) (v := .ref h_t_file) hx hb hta i_FB hown hK hP 0 rfl rfl 0 (by decide) (hta _ lk_FB_15) (fun _ h9 => h9) rfl d_FB_at_40 ?_
        refine lv_iload_n hx hb d_FB_at_43 rfl (lv_at hl 1 rfl) ?_
        refine kc_V (As := [.int p1]) (rest := []) (wr := [(h_t, .inr (6, [.ref h_t_file, .ref h_t_scanner, .ref h_t_writer, .ref h_t_plan, .int t_scanned, .int t_refusedAt]))]) [1, 2] [0] ⟨hx, hb, hml, hown, hta⟩ hK hN hP hD hS hA (c_By_byteAt l D cB cI cJ h_t_file h_t_file_row t_file_most t_file_count n_t_file_row f_t_file_row p1 hn_t_file_row _) (hta _ lk_FB_253) (hta _ ini_By) (hta _ code_By_byteAt) code_By_byteAt (hta _ inst_By_byteAt) (hta _ sel_By_byteAt) hd_By_byteAt rfl ⟨by omega, by omega⟩ (ci := 0) 1 rfl rfl rfl rfl (by decide) (by decide) (by decide) rfl hl.1 (lv_room (Nat.le_of_ble_eq_true rfl)) d_FB_at_44 ⟨by omega, by omega⟩ (fun v w1 H locs hw hP hD hS => ?_)
        obtain ⟨x44, hx44, rfl, rfl⟩ := hw
        have hP : va_P D classes [(h_t, .inr (6, [.ref h_t_file, .ref h_t_scanner, .ref h_t_writer, .ref h_t_plan, .int t_scanned, .int t_refusedAt])), (h_t_file, .inr (0, [.int t_file_most, .ref h_t_file_row, .int t_file_count])), (h_t_file_row, .inl (cB, n_t_file_row, .inl f_t_file_row))] H := hP.sub [0, 1, 2] rfl
        have hD : va_D A [(h_t, .inr (6, [.ref h_t_file, .ref h_t_scanner, .ref h_t_writer, .ref h_t_plan, .int t_scanned, .int t_refusedAt])), (h_t_file, .inr (0, [.int t_file_most, .ref h_t_file_row, .int t_file_count])), (h_t_file_row, .inl (cB, n_t_file_row, .inl f_t_file_row))] := hD.sub [0, 1, 2] (by decide) rfl
        refine W.eq (g2 := F0 m 47 ls [.int x44]) rfl ?_
        have E : k_FB_at_44 x44 = RES := (congrArg (k_FB_at_44) hx44).trans E
        exact kr_iX hx hb hr hlk hQ hK hP hD hS ⟨((0, x44) : Nat × Int32), E.trans E0.symm, rfl, rfl⟩ (by omega) (by omega) d_FB_at_47
      · have E := (if_neg c_25).symm.trans E
        exact J_28  E _ _ hP hD hS ls (lv_sub hl [] rfl)
  · have E := (if_pos c_2).symm.trans E
    refine lv_aload_n hx hb d_FB_at_5 rfl (lv_at hl 0 rfl) ?_
    refine va_get (D := D) (v := .ref h_t_file) hx hb hta i_FB hown hK hP 0 rfl rfl 0 (by decide) (hta _ lk_FB_15) (fun _ h9 => h9) rfl d_FB_at_6 ?_
    refine va_get (D := D) (v := .int t_file_count) hx hb hta i_By hown hK hP 1 rfl rfl 2 (by decide) (hta _ lk_FB_126) (fun _ h9 => h9) rfl d_FB_at_9 ?_
    exact kr_iX hx hb hr hlk hQ hK hP hD hS ⟨((0, t_file_count) : Nat × Int32), E.trans E0.symm, rfl, rfl⟩ (by omega) (by omega) d_FB_at_12
theorem d_FB_spoil_0 : decode b_FB_spoil 0 = .ok (.iload_n 1, 1) := by decide +kernel
theorem d_FB_spoil_1 : decode b_FB_spoil 1 = .ok (.ifCond .lt 14, 3) := by decide +kernel
theorem d_FB_spoil_4 : decode b_FB_spoil 4 = .ok (.iload_n 1, 1) := by decide +kernel
theorem d_FB_spoil_5 : decode b_FB_spoil 5 = .ok (.aload_n 0, 1) := by decide +kernel
theorem d_FB_spoil_6 : decode b_FB_spoil 6 = .ok (.getfield 15, 3) := by decide +kernel
theorem d_FB_spoil_9 : decode b_FB_spoil 9 = .ok (.getfield 126, 3) := by decide +kernel
theorem d_FB_spoil_12 : decode b_FB_spoil 12 = .ok (.if_icmp .lt 14, 3) := by decide +kernel
theorem d_FB_spoil_15 : decode b_FB_spoil 15 = .ok (.new 93, 3) := by decide +kernel
theorem d_FB_spoil_18 : decode b_FB_spoil 18 = .ok (.dup, 1) := by decide +kernel
theorem d_FB_spoil_19 : decode b_FB_spoil 19 = .ok (.ldc_w 274, 3) := by decide +kernel
theorem d_FB_spoil_22 : decode b_FB_spoil 22 = .ok (.invokespecial 97, 3) := by decide +kernel
theorem d_FB_spoil_25 : decode b_FB_spoil 25 = .ok (.athrow, 1) := by decide +kernel
theorem d_FB_spoil_26 : decode b_FB_spoil 26 = .ok (.aload_n 0, 1) := by decide +kernel
theorem d_FB_spoil_27 : decode b_FB_spoil 27 = .ok (.getfield 15, 3) := by decide +kernel
theorem d_FB_spoil_30 : decode b_FB_spoil 30 = .ok (.iload_n 1, 1) := by decide +kernel
theorem d_FB_spoil_31 : decode b_FB_spoil 31 = .ok (.iload_n 2, 1) := by decide +kernel
theorem d_FB_spoil_32 : decode b_FB_spoil 32 = .ok (.invokevirtual 276, 3) := by decide +kernel
theorem d_FB_spoil_35 : decode b_FB_spoil 35 = .ok (.aload_n 0, 1) := by decide +kernel
theorem d_FB_spoil_36 : decode b_FB_spoil 36 = .ok (.iconst 0, 1) := by decide +kernel
theorem d_FB_spoil_37 : decode b_FB_spoil 37 = .ok (.putfield 42, 3) := by decide +kernel
theorem d_FB_spoil_40 : decode b_FB_spoil 40 = .ok (.return_, 1) := by decide +kernel
def j_FB_spoil_15 (t_scanned : Int32) (f_t_file_row : Nat → Int32) : Nat × Int32 × (Nat → Int32) :=
  (2, (t_scanned, f_t_file_row))
def k_FB_spoil_32 (x32 : (Nat → Int32)) : Nat × Int32 × (Nat → Int32) :=
  (0, (0, x32))
def m_FB_spoil (t_scanned : Int32) (t_file_count : Int32) (n_t_file_row : Nat) (f_t_file_row : Nat → Int32) (p1 : Int32) (p2 : Int32) : Nat × Int32 × (Nat → Int32) :=
  if p1 < 0 then (j_FB_spoil_15 t_scanned f_t_file_row) else (if p1 < t_file_count then (k_FB_spoil_32 (m_By_setByte n_t_file_row f_t_file_row p1 p2)) else (j_FB_spoil_15 t_scanned f_t_file_row))
set_option maxHeartbeats 4000000 in
set_option maxRecDepth 100000 in
theorem c_FB_spoil (l : Launch) (D : va_G) (cB cI cJ : ClassId) (h_t h_t_file h_t_scanner h_t_writer h_t_plan h_t_file_row : Nat) (t_scanned : Int32) (t_refusedAt : Int32) (t_file_most : Int32) (t_file_count : Int32) (n_t_file_row : Nat) (f_t_file_row : Nat → Int32) (p1 : Int32) (p2 : Int32) (hLt : kL l) (hn_t_file_row : n_t_file_row < 2147483648) (sz : Nat) : CtX l D cB cI cJ y_FB_spoil b_FB_spoil 3 none 6 82 1 6 [.ref h_t, .int p1, .int p2] [(h_t, .inr (6, [.ref h_t_file, .ref h_t_scanner, .ref h_t_writer, .ref h_t_plan, .int t_scanned, .int t_refusedAt])), (h_t_file, .inr (0, [.int t_file_most, .ref h_t_file_row, .int t_file_count])), (h_t_file_row, .inl (cB, n_t_file_row, .inl f_t_file_row))] (fun o w1 => ∃ (x : Nat × Int32 × (Nat → Int32)), x = m_FB_spoil t_scanned t_file_count n_t_file_row f_t_file_row p1 p2 ∧ kO o x.1 (none) ∧ w1 = [(h_t, .inr (6, [.ref h_t_file, .ref h_t_scanner, .ref h_t_writer, .ref h_t_plan, .int x.2.1, .int t_refusedAt])), (h_t_file, .inr (0, [.int t_file_most, .ref h_t_file_row, .int t_file_count])), (h_t_file_row, .inl (cB, n_t_file_row, .inl x.2.2))]) sz := by
  refine CtX.of (by decide) (Nat.le_of_ble_eq_true rfl) ?_
  intro p e R s m args below meth c A ls Q hx hb hr hlk hml hta hown hin hK hN hA hRf hRl hRc hRs hP hD hS hl hQ hTh hAs hnh
  have hl : lv_has ls 3 [(0, .ref h_t), (1, .int p1), (2, .int p2)] := hl
  obtain ⟨RES, E0⟩ : ∃ R, m_FB_spoil t_scanned t_file_count n_t_file_row f_t_file_row p1 p2 = R := ⟨_, rfl⟩
  have E := E0
  refine lv_iload_n hx hb d_FB_spoil_0 rfl (lv_at hl 1 rfl) ?_
  have J_15 : j_FB_spoil_15 t_scanned f_t_file_row = RES → ∀ (H : Heap) (locs : List Loc), va_P D classes [(h_t, .inr (6, [.ref h_t_file, .ref h_t_scanner, .ref h_t_writer, .ref h_t_plan, .int t_scanned, .int t_refusedAt])), (h_t_file, .inr (0, [.int t_file_most, .ref h_t_file_row, .int t_file_count])), (h_t_file_row, .inl (cB, n_t_file_row, .inl f_t_file_row))] H → va_D A [(h_t, .inr (6, [.ref h_t_file, .ref h_t_scanner, .ref h_t_writer, .ref h_t_plan, .int t_scanned, .int t_refusedAt])), (h_t_file, .inr (0, [.int t_file_most, .ref h_t_file_row, .int t_file_count])), (h_t_file_row, .inl (cB, n_t_file_row, .inl f_t_file_row))] → va_S A s.heap H locs → ∀ ls : Array Slot, lv_has ls 3 [] → W p l e R s m args below meth c H locs 0 0 Q (F0 m 15 ls []) := by
    intro E H locs hP hD hS ls hl
    exact kt_ofW exF_2 exD0_2 exD1_2 exD2_2 exD5_2 xw3_2 xw5_2 exW6_2 exW7_2 hLt hx hb hlk hQ hml hown hta hTh hAs hnh hP hD hS hA hl.1 ⟨((2, (t_scanned, f_t_file_row)) : Nat × Int32 × (Nat → Int32)), E.trans E0.symm, rfl, rfl⟩ lk_FB_93 lk_FB_274 d_FB_spoil_15 d_FB_spoil_18 d_FB_spoil_19 d_FB_spoil_22 d_FB_spoil_25 hRc hRs (by omega) (by omega) (by omega) (by omega)
  refine lv_if_lt (tgt := 15) hx hb d_FB_spoil_1 (by decide) (fun c_1 => ?_) (fun c_1 => ?_)
  · have E := (if_pos c_1).symm.trans E
    exact J_15  E _ _ hP hD hS ls (lv_sub hl [] rfl)
  · have E := (if_neg c_1).symm.trans E
    refine lv_iload_n hx hb d_FB_spoil_4 rfl (lv_at hl 1 rfl) ?_
    refine lv_aload_n hx hb d_FB_spoil_5 rfl (lv_at hl 0 rfl) ?_
    refine va_get (D := D) (v := .ref h_t_file) hx hb hta i_FB hown hK hP 0 rfl rfl 0 (by decide) (hta _ lk_FB_15) (fun _ h9 => h9) rfl d_FB_spoil_6 ?_
    refine va_get (D := D) (v := .int t_file_count) hx hb hta i_By hown hK hP 1 rfl rfl 2 (by decide) (hta _ lk_FB_126) (fun _ h9 => h9) rfl d_FB_spoil_9 ?_
    refine lv_icmp_lt (tgt := 26) hx hb d_FB_spoil_12 (by decide) (fun c_12 => ?_) (fun c_12 => ?_)
    · have E := (if_pos c_12).symm.trans E
      refine lv_aload_n hx hb d_FB_spoil_26 rfl (lv_at hl 0 rfl) ?_
      refine va_get (D := D) (v := .ref h_t_file) hx hb hta i_FB hown hK hP 0 rfl rfl 0 (by decide) (hta _ lk_FB_15) (fun _ h9 => h9) rfl d_FB_spoil_27 ?_
      refine lv_iload_n hx hb d_FB_spoil_30 rfl (lv_at hl 1 rfl) ?_
      refine lv_iload_n hx hb d_FB_spoil_31 rfl (lv_at hl 2 rfl) ?_
      refine kc_V (As := [.int p1, .int p2]) (rest := []) (wr := [(h_t, .inr (6, [.ref h_t_file, .ref h_t_scanner, .ref h_t_writer, .ref h_t_plan, .int t_scanned, .int t_refusedAt]))]) [1, 2] [0] ⟨hx, hb, hml, hown, hta⟩ hK hN hP hD hS hA (c_By_setByte l D cB cI cJ h_t_file h_t_file_row t_file_most t_file_count n_t_file_row f_t_file_row p1 p2 hn_t_file_row _) (hta _ lk_FB_276) (hta _ ini_By) (hta _ code_By_setByte) code_By_setByte (hta _ inst_By_setByte) (hta _ sel_By_setByte) hd_By_setByte rfl ⟨by omega, by omega⟩ (ci := 0) 1 rfl rfl rfl rfl (by decide) (by decide) (by decide) rfl hl.1 (lv_room (Nat.le_of_ble_eq_true rfl)) d_FB_spoil_32 ⟨by omega, by omega⟩ (fun v w1 H locs hw hP hD hS => ?_)
      obtain ⟨x32, hx32, rfl, rfl⟩ := hw
      have hP : va_P D classes [(h_t, .inr (6, [.ref h_t_file, .ref h_t_scanner, .ref h_t_writer, .ref h_t_plan, .int t_scanned, .int t_refusedAt])), (h_t_file, .inr (0, [.int t_file_most, .ref h_t_file_row, .int t_file_count])), (h_t_file_row, .inl (cB, n_t_file_row, .inl x32))] H := hP.sub [0, 1, 2] rfl
      have hD : va_D A [(h_t, .inr (6, [.ref h_t_file, .ref h_t_scanner, .ref h_t_writer, .ref h_t_plan, .int t_scanned, .int t_refusedAt])), (h_t_file, .inr (0, [.int t_file_most, .ref h_t_file_row, .int t_file_count])), (h_t_file_row, .inl (cB, n_t_file_row, .inl x32))] := hD.sub [0, 1, 2] (by decide) rfl
      refine W.eq (g2 := F0 m 35 ls []) rfl ?_
      have E : k_FB_spoil_32 x32 = RES := (congrArg (k_FB_spoil_32) hx32).trans E
      refine lv_aload_n hx hb d_FB_spoil_35 rfl (lv_at hl 0 rfl) ?_
      refine lv_iconst (v := 0) hx hb d_FB_spoil_36 (by decide) ?_
      refine va_put (D := D) (ty := .boolean) hx hb hta i_FB t_FB t_FB_ok n_FB hown hK hP hD hS 0 rfl rfl 4 (by decide) (hta _ lk_FB_42) (fun _ h9 => h9) rfl (by decide +kernel) rfl rfl (Nat.le_of_ble_eq_true rfl) d_FB_spoil_37 (fun H locs (hP : va_P D classes [(h_t, .inr (6, [.ref h_t_file, .ref h_t_scanner, .ref h_t_writer, .ref h_t_plan, .int 0, .int t_refusedAt])), (h_t_file, .inr (0, [.int t_file_most, .ref h_t_file_row, .int t_file_count])), (h_t_file_row, .inl (cB, n_t_file_row, .inl x32))] H) (hD : va_D A [(h_t, .inr (6, [.ref h_t_file, .ref h_t_scanner, .ref h_t_writer, .ref h_t_plan, .int 0, .int t_refusedAt])), (h_t_file, .inr (0, [.int t_file_most, .ref h_t_file_row, .int t_file_count])), (h_t_file_row, .inl (cB, n_t_file_row, .inl x32))]) hS => ?_)
      exact kr_vX hx hb hr hlk hQ hK hP hD hS ⟨((0, (0, x32)) : Nat × Int32 × (Nat → Int32)), E.trans E0.symm, rfl, rfl⟩ (by omega) (by omega) d_FB_spoil_40
    · have E := (if_neg c_12).symm.trans E
      exact J_15  E _ _ hP hD hS ls (lv_sub hl [] rfl)
theorem d_FB_stream_0 : decode b_FB_stream 0 = .ok (.aload_n 0, 1) := by decide +kernel
theorem d_FB_stream_1 : decode b_FB_stream 1 = .ok (.getfield 42, 3) := by decide +kernel
theorem d_FB_stream_4 : decode b_FB_stream 4 = .ok (.ifCond .ne 14, 3) := by decide +kernel
theorem d_FB_stream_7 : decode b_FB_stream 7 = .ok (.new 113, 3) := by decide +kernel
theorem d_FB_stream_10 : decode b_FB_stream 10 = .ok (.dup, 1) := by decide +kernel
theorem d_FB_stream_11 : decode b_FB_stream 11 = .ok (.ldc_w 307, 3) := by decide +kernel
theorem d_FB_stream_14 : decode b_FB_stream 14 = .ok (.invokespecial 117, 3) := by decide +kernel
theorem d_FB_stream_17 : decode b_FB_stream 17 = .ok (.athrow, 1) := by decide +kernel
theorem d_FB_stream_18 : decode b_FB_stream 18 = .ok (.iload_n 1, 1) := by decide +kernel
theorem d_FB_stream_19 : decode b_FB_stream 19 = .ok (.ifCond .eq 18, 3) := by decide +kernel
theorem d_FB_stream_22 : decode b_FB_stream 22 = .ok (.iload_n 1, 1) := by decide +kernel
theorem d_FB_stream_23 : decode b_FB_stream 23 = .ok (.iconst 1, 1) := by decide +kernel
theorem d_FB_stream_24 : decode b_FB_stream 24 = .ok (.if_icmp .eq 13, 3) := by decide +kernel
theorem d_FB_stream_27 : decode b_FB_stream 27 = .ok (.new 93, 3) := by decide +kernel
theorem d_FB_stream_30 : decode b_FB_stream 30 = .ok (.dup, 1) := by decide +kernel
theorem d_FB_stream_31 : decode b_FB_stream 31 = .ok (.ldc 245, 2) := by decide +kernel
theorem d_FB_stream_33 : decode b_FB_stream 33 = .ok (.invokespecial 97, 3) := by decide +kernel
theorem d_FB_stream_36 : decode b_FB_stream 36 = .ok (.athrow, 1) := by decide +kernel
theorem d_FB_stream_37 : decode b_FB_stream 37 = .ok (.iload_n 1, 1) := by decide +kernel
theorem d_FB_stream_38 : decode b_FB_stream 38 = .ok (.ifCond .ne 13, 3) := by decide +kernel
theorem d_FB_stream_41 : decode b_FB_stream 41 = .ok (.aload_n 0, 1) := by decide +kernel
theorem d_FB_stream_42 : decode b_FB_stream 42 = .ok (.getfield 24, 3) := by decide +kernel
theorem d_FB_stream_45 : decode b_FB_stream 45 = .ok (.getfield 309, 3) := by decide +kernel
theorem d_FB_stream_48 : decode b_FB_stream 48 = .ok (.goto 10, 3) := by decide +kernel
theorem d_FB_stream_51 : decode b_FB_stream 51 = .ok (.aload_n 0, 1) := by decide +kernel
theorem d_FB_stream_52 : decode b_FB_stream 52 = .ok (.getfield 24, 3) := by decide +kernel
theorem d_FB_stream_55 : decode b_FB_stream 55 = .ok (.getfield 312, 3) := by decide +kernel
theorem d_FB_stream_58 : decode b_FB_stream 58 = .ok (.ireturn, 1) := by decide +kernel
def j_FB_stream_37 (t_scanner_streamFrom : Int32) (t_scanner_streamCount : Int32) (p1 : Int32) : Nat × Int32 :=
  if p1 = 0 then (0, t_scanner_streamFrom) else (0, t_scanner_streamCount)
def m_FB_stream (t_scanned : Int32) (t_scanner_streamFrom : Int32) (t_scanner_streamCount : Int32) (p1 : Int32) : Nat × Int32 :=
  if t_scanned = 0 then (3, 0) else (if p1 = 0 then (j_FB_stream_37 t_scanner_streamFrom t_scanner_streamCount p1) else (if p1 = 1 then (j_FB_stream_37 t_scanner_streamFrom t_scanner_streamCount p1) else (2, 0)))
set_option maxHeartbeats 4000000 in
set_option maxRecDepth 100000 in
theorem c_FB_stream (l : Launch) (D : va_G) (cB cI cJ : ClassId) (h_t h_t_file h_t_scanner h_t_writer h_t_plan h_t_scanner_file h_t_scanner_plan : Nat) (t_scanned : Int32) (t_refusedAt : Int32) (t_scanner_level : Int32) (t_scanner_at : Int32) (t_scanner_seen : Int32) (t_scanner_outerBoxes : Int32) (t_scanner_headAt : Int32) (t_scanner_headEnd : Int32) (t_scanner_resolutionEnd : Int32) (t_scanner_toldBits : Int32) (t_scanner_name : Int32) (t_scanner_from : Int32) (t_scanner_end : Int32) (t_scanner_boxAt : Int32) (t_scanner_streamFrom : Int32) (t_scanner_streamCount : Int32) (p1 : Int32) (hLt : kL l) (sz : Nat) : CtX l D cB cI cJ y_FB_stream b_FB_stream 2 (some .int) 6 82 1 6 [.ref h_t, .int p1] [(h_t, .inr (6, [.ref h_t_file, .ref h_t_scanner, .ref h_t_writer, .ref h_t_plan, .int t_scanned, .int t_refusedAt])), (h_t_scanner, .inr (5, [.ref h_t_scanner_file, .ref h_t_scanner_plan, .int t_scanner_level, .int t_scanner_at, .int t_scanner_seen, .int t_scanner_outerBoxes, .int t_scanner_headAt, .int t_scanner_headEnd, .int t_scanner_resolutionEnd, .int t_scanner_toldBits, .int t_scanner_name, .int t_scanner_from, .int t_scanner_end, .int t_scanner_boxAt, .int t_scanner_streamFrom, .int t_scanner_streamCount]))] (fun o w1 => ∃ (x : Nat × Int32), x = m_FB_stream t_scanned t_scanner_streamFrom t_scanner_streamCount p1 ∧ kO o x.1 (some (.int x.2)) ∧ w1 = [(h_t, .inr (6, [.ref h_t_file, .ref h_t_scanner, .ref h_t_writer, .ref h_t_plan, .int t_scanned, .int t_refusedAt])), (h_t_scanner, .inr (5, [.ref h_t_scanner_file, .ref h_t_scanner_plan, .int t_scanner_level, .int t_scanner_at, .int t_scanner_seen, .int t_scanner_outerBoxes, .int t_scanner_headAt, .int t_scanner_headEnd, .int t_scanner_resolutionEnd, .int t_scanner_toldBits, .int t_scanner_name, .int t_scanner_from, .int t_scanner_end, .int t_scanner_boxAt, .int t_scanner_streamFrom, .int t_scanner_streamCount]))]) sz := by
  refine CtX.of (by decide) (Nat.le_of_ble_eq_true rfl) ?_
  intro p e R s m args below meth c A ls Q hx hb hr hlk hml hta hown hin hK hN hA hRf hRl hRc hRs hP hD hS hl hQ hTh hAs hnh
  have hl : lv_has ls 2 [(0, .ref h_t), (1, .int p1)] := hl
  obtain ⟨RES, E0⟩ : ∃ R, m_FB_stream t_scanned t_scanner_streamFrom t_scanner_streamCount p1 = R := ⟨_, rfl⟩
  have E := E0
  refine lv_aload_n hx hb d_FB_stream_0 rfl (lv_at hl 0 rfl) ?_
  refine va_get (D := D) (v := .int t_scanned) hx hb hta i_FB hown hK hP 0 rfl rfl 4 (by decide) (hta _ lk_FB_42) (fun _ h9 => h9) rfl d_FB_stream_1 ?_
  refine lv_if_ne (tgt := 18) hx hb d_FB_stream_4 (by decide) (fun c_4 => ?_) (fun c_4 => ?_)
  · have E := (if_neg c_4).symm.trans E
    refine lv_iload_n hx hb d_FB_stream_18 rfl (lv_at hl 1 rfl) ?_
    have J_37 : j_FB_stream_37 t_scanner_streamFrom t_scanner_streamCount p1 = RES → ∀ (H : Heap) (locs : List Loc), va_P D classes [(h_t, .inr (6, [.ref h_t_file, .ref h_t_scanner, .ref h_t_writer, .ref h_t_plan, .int t_scanned, .int t_refusedAt])), (h_t_scanner, .inr (5, [.ref h_t_scanner_file, .ref h_t_scanner_plan, .int t_scanner_level, .int t_scanner_at, .int t_scanner_seen, .int t_scanner_outerBoxes, .int t_scanner_headAt, .int t_scanner_headEnd, .int t_scanner_resolutionEnd, .int t_scanner_toldBits, .int t_scanner_name, .int t_scanner_from, .int t_scanner_end, .int t_scanner_boxAt, .int t_scanner_streamFrom, .int t_scanner_streamCount]))] H → va_D A [(h_t, .inr (6, [.ref h_t_file, .ref h_t_scanner, .ref h_t_writer, .ref h_t_plan, .int t_scanned, .int t_refusedAt])), (h_t_scanner, .inr (5, [.ref h_t_scanner_file, .ref h_t_scanner_plan, .int t_scanner_level, .int t_scanner_at, .int t_scanner_seen, .int t_scanner_outerBoxes, .int t_scanner_headAt, .int t_scanner_headEnd, .int t_scanner_resolutionEnd, .int t_scanner_toldBits, .int t_scanner_name, .int t_scanner_from, .int t_scanner_end, .int t_scanner_boxAt, .int t_scanner_streamFrom, .int t_scanner_streamCount]))] → va_S A s.heap H locs → ∀ ls : Array Slot, lv_has ls 2 [(0, .ref h_t), (1, .int p1)] → W p l e R s m args below meth c H locs 0 0 Q (F0 m 37 ls []) := by
      intro E H locs hP hD hS ls hl
      refine lv_iload_n hx hb d_FB_stream_37 rfl (lv_at hl 1 rfl) ?_
      refine lv_if_ne (tgt := 51) hx hb d_FB_stream_38 (by decide) (fun c_38 => ?_) (fun c_38 => ?_)
      · have E := (if_neg c_38).symm.trans E
        refine lv_aload_n hx hb d_FB_stream_51 rfl (lv_at hl 0 rfl) ?_
        refine va_get (D := D) (v := .ref h_t_scanner) hx hb hta i_FB hown hK hP 0 rfl rfl 1 (by decide) (hta _ lk_FB_24) (fun _ h9 => h9) rfl d_FB_stream_52 ?_
        refine va_get (D := D) (v := .int t_scanner_streamCount) hx hb hta i_Sc hown hK hP 1 rfl rfl 15 (by decide) (hta _ lk_FB_312) (fun _ h9 => h9) rfl d_FB_stream_55 ?_
        exact kr_iX hx hb hr hlk hQ hK hP hD hS ⟨((0, t_scanner_streamCount) : Nat × Int32), E.trans E0.symm, rfl, rfl⟩ (by omega) (by omega) d_FB_stream_58
      · have E := (if_pos c_38).symm.trans E
        refine lv_aload_n hx hb d_FB_stream_41 rfl (lv_at hl 0 rfl) ?_
        refine va_get (D := D) (v := .ref h_t_scanner) hx hb hta i_FB hown hK hP 0 rfl rfl 1 (by decide) (hta _ lk_FB_24) (fun _ h9 => h9) rfl d_FB_stream_42 ?_
        refine va_get (D := D) (v := .int t_scanner_streamFrom) hx hb hta i_Sc hown hK hP 1 rfl rfl 14 (by decide) (hta _ lk_FB_309) (fun _ h9 => h9) rfl d_FB_stream_45 ?_
        refine lv_goto (tgt := 58) hx hb d_FB_stream_48 (by decide) ?_
        exact kr_iX hx hb hr hlk hQ hK hP hD hS ⟨((0, t_scanner_streamFrom) : Nat × Int32), E.trans E0.symm, rfl, rfl⟩ (by omega) (by omega) d_FB_stream_58
    refine lv_if_eq (tgt := 37) hx hb d_FB_stream_19 (by decide) (fun c_19 => ?_) (fun c_19 => ?_)
    · have E := (if_pos c_19).symm.trans E
      exact J_37  E _ _ hP hD hS ls (lv_sub hl [0, 1] rfl)
    · have E := (if_neg c_19).symm.trans E
      refine lv_iload_n hx hb d_FB_stream_22 rfl (lv_at hl 1 rfl) ?_
      refine lv_iconst (v := 1) hx hb d_FB_stream_23 (by decide) ?_
      refine lv_icmp_eq (tgt := 37) hx hb d_FB_stream_24 (by decide) (fun c_24 => ?_) (fun c_24 => ?_)
      · have E := (if_pos c_24).symm.trans E
        exact J_37  E _ _ hP hD hS ls (lv_sub hl [0, 1] rfl)
      · have E := (if_neg c_24).symm.trans E
        exact kt_of exF_2 exD0_2 exD1_2 exD2_2 exD5_2 xw3_2 xw5_2 exW6_2 exW7_2 hLt hx hb hlk hQ hml hown hta hTh hAs hnh hP hD hS hA hl.1 ⟨((2, 0) : Nat × Int32), E.trans E0.symm, rfl, rfl⟩ lk_FB_93 lk_FB_245 d_FB_stream_27 d_FB_stream_30 d_FB_stream_31 d_FB_stream_33 d_FB_stream_36 hRc hRs (by omega) (by omega) (by omega) (by omega)
  · have E := (if_pos c_4).symm.trans E
    exact kt_ofW exF_3 exD0_3 exD1_3 exD2_3 exD5_3 xw3_3 xw5_3 exW6_3 exW7_3 hLt hx hb hlk hQ hml hown hta hTh hAs hnh hP hD hS hA hl.1 ⟨((3, 0) : Nat × Int32), E.trans E0.symm, rfl, rfl⟩ lk_FB_113 lk_FB_307 d_FB_stream_7 d_FB_stream_10 d_FB_stream_11 d_FB_stream_14 d_FB_stream_17 hRc hRs (by omega) (by omega) (by omega) (by omega)
