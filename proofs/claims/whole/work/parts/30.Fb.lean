theorem d_FB_profile_0 : decode b_FB_profile 0 = .ok (.aload_n 0, 1) := by decide +kernel
theorem d_FB_profile_1 : decode b_FB_profile 1 = .ok (.getfield 38, 3) := by decide +kernel
theorem d_FB_profile_4 : decode b_FB_profile 4 = .ok (.getfield 110, 3) := by decide +kernel
theorem d_FB_profile_7 : decode b_FB_profile 7 = .ok (.ifCond .ne 13, 3) := by decide +kernel
theorem d_FB_profile_10 : decode b_FB_profile 10 = .ok (.new 113, 3) := by decide +kernel
theorem d_FB_profile_13 : decode b_FB_profile 13 = .ok (.dup, 1) := by decide +kernel
theorem d_FB_profile_14 : decode b_FB_profile 14 = .ok (.ldc 115, 2) := by decide +kernel
theorem d_FB_profile_16 : decode b_FB_profile 16 = .ok (.invokespecial 117, 3) := by decide +kernel
theorem d_FB_profile_19 : decode b_FB_profile 19 = .ok (.athrow, 1) := by decide +kernel
theorem d_FB_profile_20 : decode b_FB_profile 20 = .ok (.iload_n 1, 1) := by decide +kernel
theorem d_FB_profile_21 : decode b_FB_profile 21 = .ok (.invokestatic 118, 3) := by decide +kernel
theorem d_FB_profile_24 : decode b_FB_profile 24 = .ok (.ifCond .ne 13, 3) := by decide +kernel
theorem d_FB_profile_27 : decode b_FB_profile 27 = .ok (.new 53, 3) := by decide +kernel
theorem d_FB_profile_30 : decode b_FB_profile 30 = .ok (.dup, 1) := by decide +kernel
theorem d_FB_profile_31 : decode b_FB_profile 31 = .ok (.ldc 121, 2) := by decide +kernel
theorem d_FB_profile_33 : decode b_FB_profile 33 = .ok (.invokespecial 57, 3) := by decide +kernel
theorem d_FB_profile_36 : decode b_FB_profile 36 = .ok (.athrow, 1) := by decide +kernel
theorem d_FB_profile_37 : decode b_FB_profile 37 = .ok (.aload_n 0, 1) := by decide +kernel
theorem d_FB_profile_38 : decode b_FB_profile 38 = .ok (.getfield 38, 3) := by decide +kernel
theorem d_FB_profile_41 : decode b_FB_profile 41 = .ok (.getfield 123, 3) := by decide +kernel
theorem d_FB_profile_44 : decode b_FB_profile 44 = .ok (.getfield 126, 3) := by decide +kernel
theorem d_FB_profile_47 : decode b_FB_profile 47 = .ok (.sipush 1024, 3) := by decide +kernel
theorem d_FB_profile_50 : decode b_FB_profile 50 = .ok (.if_icmp .lt 13, 3) := by decide +kernel
theorem d_FB_profile_53 : decode b_FB_profile 53 = .ok (.new 129, 3) := by decide +kernel
theorem d_FB_profile_56 : decode b_FB_profile 56 = .ok (.dup, 1) := by decide +kernel
theorem d_FB_profile_57 : decode b_FB_profile 57 = .ok (.ldc 131, 2) := by decide +kernel
theorem d_FB_profile_59 : decode b_FB_profile 59 = .ok (.invokespecial 133, 3) := by decide +kernel
theorem d_FB_profile_62 : decode b_FB_profile 62 = .ok (.athrow, 1) := by decide +kernel
theorem d_FB_profile_63 : decode b_FB_profile 63 = .ok (.aload_n 0, 1) := by decide +kernel
theorem d_FB_profile_64 : decode b_FB_profile 64 = .ok (.getfield 38, 3) := by decide +kernel
theorem d_FB_profile_67 : decode b_FB_profile 67 = .ok (.getfield 123, 3) := by decide +kernel
theorem d_FB_profile_70 : decode b_FB_profile 70 = .ok (.iconst 1, 1) := by decide +kernel
theorem d_FB_profile_71 : decode b_FB_profile 71 = .ok (.invokevirtual 134, 3) := by decide +kernel
theorem d_FB_profile_74 : decode b_FB_profile 74 = .ok (.aload_n 0, 1) := by decide +kernel
theorem d_FB_profile_75 : decode b_FB_profile 75 = .ok (.getfield 38, 3) := by decide +kernel
theorem d_FB_profile_78 : decode b_FB_profile 78 = .ok (.getfield 123, 3) := by decide +kernel
theorem d_FB_profile_81 : decode b_FB_profile 81 = .ok (.iload_n 1, 1) := by decide +kernel
theorem d_FB_profile_82 : decode b_FB_profile 82 = .ok (.invokevirtual 137, 3) := by decide +kernel
theorem d_FB_profile_85 : decode b_FB_profile 85 = .ok (.aload_n 0, 1) := by decide +kernel
theorem d_FB_profile_86 : decode b_FB_profile 86 = .ok (.getfield 38, 3) := by decide +kernel
theorem d_FB_profile_89 : decode b_FB_profile 89 = .ok (.getfield 123, 3) := by decide +kernel
theorem d_FB_profile_92 : decode b_FB_profile 92 = .ok (.getfield 126, 3) := by decide +kernel
theorem d_FB_profile_95 : decode b_FB_profile 95 = .ok (.ireturn, 1) := by decide +kernel
def k_FB_profile_82 (x71 : Nat × (Nat → Int32)) (x82 : Int32 × (Nat → Int32)) : Nat × Int32 × Int32 × Nat × (Nat → Int32) :=
  (0, (x82.1, x82.1, x71.1, x82.2))
def k_FB_profile_71 (t_plan_profile_count : Int32) (p1 : Int32) (x71 : Nat × (Nat → Int32)) : Nat × Int32 × Int32 × Nat × (Nat → Int32) :=
  k_FB_profile_82 x71 (m_By_add t_plan_profile_count x71.1 x71.2 p1)
def k_FB_profile_21 (t_plan_profile_most : Int32) (t_plan_profile_count : Int32) (n_t_plan_profile_row : Nat) (f_t_plan_profile_row : Nat → Int32) (p1 : Int32) (x21 : Int32) : Nat × Int32 × Int32 × Nat × (Nat → Int32) :=
  if x21 = 0 then ((1, (0, t_plan_profile_count, n_t_plan_profile_row, f_t_plan_profile_row))) else (if t_plan_profile_count < 1024 then (k_FB_profile_71 t_plan_profile_count p1 (m_By_makeRoom t_plan_profile_most t_plan_profile_count n_t_plan_profile_row f_t_plan_profile_row 1)) else ((4, (0, t_plan_profile_count, n_t_plan_profile_row, f_t_plan_profile_row))))
def m_FB_profile (t_plan_hasProfile : Int32) (t_plan_profile_most : Int32) (t_plan_profile_count : Int32) (n_t_plan_profile_row : Nat) (f_t_plan_profile_row : Nat → Int32) (p1 : Int32) : Nat × Int32 × Int32 × Nat × (Nat → Int32) :=
  if t_plan_hasProfile = 0 then ((3, (0, t_plan_profile_count, n_t_plan_profile_row, f_t_plan_profile_row))) else (k_FB_profile_21 t_plan_profile_most t_plan_profile_count n_t_plan_profile_row f_t_plan_profile_row p1 (m_FB_isByte p1))
set_option maxHeartbeats 4000000 in
set_option maxRecDepth 100000 in
theorem c_FB_profile (l : Launch) (D : va_G) (cB cI cJ : ClassId) (h_t h_t_file h_t_scanner h_t_writer h_t_plan h_t_plan_bits h_t_plan_profile h_t_plan_palette h_t_plan_map h_t_plan_meanings h_t_plan_capture h_t_plan_display h_t_plan_profile_row : Nat) (t_scanned : Int32) (t_refusedAt : Int32) (t_plan_high : Int32) (t_plan_wide : Int32) (t_plan_components : Int32) (t_plan_unknown : Int32) (t_plan_rights : Int32) (t_plan_colours : Int32) (t_plan_hasProfile : Int32) (t_plan_profile_most : Int32) (t_plan_profile_count : Int32) (n_t_plan_profile_row : Nat) (f_t_plan_profile_row : Nat → Int32) (p1 : Int32) (hLt : kL l) (hmost : t_plan_profile_most.toInt ≤ 65536) (hfit : sb_Fit f_t_plan_profile_row) (hn_t_plan_profile_row : n_t_plan_profile_row < 2147483648) (sz : Nat) : CtX l D cB cI cJ y_FB_profile b_FB_profile 2 (some .int) 6 104 2 ((0 + (0 + (gr_By t_plan_profile_most t_plan_profile_count n_t_plan_profile_row 1)) + 6)) [.ref h_t, .int p1] [(h_t, .inr (6, [.ref h_t_file, .ref h_t_scanner, .ref h_t_writer, .ref h_t_plan, .int t_scanned, .int t_refusedAt])), (h_t_plan, .inr (3, [.int t_plan_high, .int t_plan_wide, .int t_plan_components, .int t_plan_unknown, .int t_plan_rights, .ref h_t_plan_bits, .int t_plan_colours, .int t_plan_hasProfile, .ref h_t_plan_profile, .ref h_t_plan_palette, .ref h_t_plan_map, .ref h_t_plan_meanings, .ref h_t_plan_capture, .ref h_t_plan_display])), (h_t_plan_profile, .inr (0, [.int t_plan_profile_most, .ref h_t_plan_profile_row, .int t_plan_profile_count])), (h_t_plan_profile_row, .inl (cB, n_t_plan_profile_row, .inl f_t_plan_profile_row))] (fun o w1 => ∃ (x : Nat × Int32 × Int32 × Nat × (Nat → Int32)) (q_t_plan_profile_row : Nat), x = m_FB_profile t_plan_hasProfile t_plan_profile_most t_plan_profile_count n_t_plan_profile_row f_t_plan_profile_row p1 ∧ kO o x.1 (some (.int x.2.1)) ∧ w1 = [(h_t, .inr (6, [.ref h_t_file, .ref h_t_scanner, .ref h_t_writer, .ref h_t_plan, .int t_scanned, .int t_refusedAt])), (h_t_plan, .inr (3, [.int t_plan_high, .int t_plan_wide, .int t_plan_components, .int t_plan_unknown, .int t_plan_rights, .ref h_t_plan_bits, .int t_plan_colours, .int t_plan_hasProfile, .ref h_t_plan_profile, .ref h_t_plan_palette, .ref h_t_plan_map, .ref h_t_plan_meanings, .ref h_t_plan_capture, .ref h_t_plan_display])), (h_t_plan_profile, .inr (0, [.int t_plan_profile_most, .ref q_t_plan_profile_row, .int x.2.2.1])), (q_t_plan_profile_row, .inl (cB, x.2.2.2.1, .inl x.2.2.2.2))]) sz := by
  refine CtX.of (by decide) (Nat.le_of_ble_eq_true rfl) ?_
  intro p e R s m args below meth c A ls Q hx hb hr hlk hml hta hown hin hK hN hA hRf hRl hRc hRs hP hD hS hl hQ hTh hAs hnh
  have hl : lv_has ls 2 [(0, .ref h_t), (1, .int p1)] := hl
  obtain ⟨RES, E0⟩ : ∃ R, m_FB_profile t_plan_hasProfile t_plan_profile_most t_plan_profile_count n_t_plan_profile_row f_t_plan_profile_row p1 = R := ⟨_, rfl⟩
  have E := E0
  refine lv_aload_n hx hb d_FB_profile_0 rfl (lv_at hl 0 rfl) ?_
  refine va_get (D := D) (v := .ref h_t_plan) hx hb hta i_FB hown hK hP 0 rfl rfl 3 (by decide) (hta _ lk_FB_38) (fun _ h9 => h9) rfl d_FB_profile_1 ?_
  refine va_get (D := D) (v := .int t_plan_hasProfile) hx hb hta i_Pl hown hK hP 1 rfl rfl 7 (by decide) (hta _ lk_FB_110) (fun _ h9 => h9) rfl d_FB_profile_4 ?_
  refine lv_if_ne (tgt := 20) hx hb d_FB_profile_7 (by decide) (fun c_7 => ?_) (fun c_7 => ?_)
  · have E := (if_neg c_7).symm.trans E
    refine lv_iload_n hx hb d_FB_profile_20 rfl (lv_at hl 1 rfl) ?_
    refine kc_S (As := [.int p1]) (rest := []) (wr := [(h_t, .inr (6, [.ref h_t_file, .ref h_t_scanner, .ref h_t_writer, .ref h_t_plan, .int t_scanned, .int t_refusedAt])), (h_t_plan, .inr (3, [.int t_plan_high, .int t_plan_wide, .int t_plan_components, .int t_plan_unknown, .int t_plan_rights, .ref h_t_plan_bits, .int t_plan_colours, .int t_plan_hasProfile, .ref h_t_plan_profile, .ref h_t_plan_palette, .ref h_t_plan_map, .ref h_t_plan_meanings, .ref h_t_plan_capture, .ref h_t_plan_display])), (h_t_plan_profile, .inr (0, [.int t_plan_profile_most, .ref h_t_plan_profile_row, .int t_plan_profile_count])), (h_t_plan_profile_row, .inl (cB, n_t_plan_profile_row, .inl f_t_plan_profile_row))]) [] [0, 1, 2, 3] ⟨hx, hb, hml, hown, hta⟩ hK hN hP hD hS hA (c_FB_isByte l D cB cI cJ p1 _) (hta _ lk_FB_118) (hta _ ini_FB) (hta _ code_FB_isByte) code_FB_isByte (hta _ stat_FB_isByte) hd_FB_isByte rfl ⟨by omega, by omega⟩ rfl rfl (by decide) (by decide) (by decide) rfl hl.1 (lv_room (Nat.le_of_ble_eq_true rfl)) d_FB_profile_21 ⟨by omega, by omega⟩ (fun v w1 H locs hw hP hD hS => ?_)
    obtain ⟨x21, hx21, rfl, rfl⟩ := hw
    have hP : va_P D classes [(h_t, .inr (6, [.ref h_t_file, .ref h_t_scanner, .ref h_t_writer, .ref h_t_plan, .int t_scanned, .int t_refusedAt])), (h_t_plan, .inr (3, [.int t_plan_high, .int t_plan_wide, .int t_plan_components, .int t_plan_unknown, .int t_plan_rights, .ref h_t_plan_bits, .int t_plan_colours, .int t_plan_hasProfile, .ref h_t_plan_profile, .ref h_t_plan_palette, .ref h_t_plan_map, .ref h_t_plan_meanings, .ref h_t_plan_capture, .ref h_t_plan_display])), (h_t_plan_profile, .inr (0, [.int t_plan_profile_most, .ref h_t_plan_profile_row, .int t_plan_profile_count])), (h_t_plan_profile_row, .inl (cB, n_t_plan_profile_row, .inl f_t_plan_profile_row))] H := hP.sub [0, 1, 2, 3] rfl
    have hD : va_D A [(h_t, .inr (6, [.ref h_t_file, .ref h_t_scanner, .ref h_t_writer, .ref h_t_plan, .int t_scanned, .int t_refusedAt])), (h_t_plan, .inr (3, [.int t_plan_high, .int t_plan_wide, .int t_plan_components, .int t_plan_unknown, .int t_plan_rights, .ref h_t_plan_bits, .int t_plan_colours, .int t_plan_hasProfile, .ref h_t_plan_profile, .ref h_t_plan_palette, .ref h_t_plan_map, .ref h_t_plan_meanings, .ref h_t_plan_capture, .ref h_t_plan_display])), (h_t_plan_profile, .inr (0, [.int t_plan_profile_most, .ref h_t_plan_profile_row, .int t_plan_profile_count])), (h_t_plan_profile_row, .inl (cB, n_t_plan_profile_row, .inl f_t_plan_profile_row))] := hD.sub [0, 1, 2, 3] (by decide) rfl
    refine W.eq (g2 := F0 m 24 ls [.int x21]) rfl ?_
    have E : k_FB_profile_21 t_plan_profile_most t_plan_profile_count n_t_plan_profile_row f_t_plan_profile_row p1 x21 = RES := (congrArg (k_FB_profile_21 t_plan_profile_most t_plan_profile_count n_t_plan_profile_row f_t_plan_profile_row p1) hx21).trans E
    refine lv_if_ne (tgt := 37) hx hb d_FB_profile_24 (by decide) (fun c_24 => ?_) (fun c_24 => ?_)
    · have E := (if_neg c_24).symm.trans E
      refine lv_aload_n hx hb d_FB_profile_37 rfl (lv_at hl 0 rfl) ?_
      refine va_get (D := D) (v := .ref h_t_plan) hx hb hta i_FB hown hK hP 0 rfl rfl 3 (by decide) (hta _ lk_FB_38) (fun _ h9 => h9) rfl d_FB_profile_38 ?_
      refine va_get (D := D) (v := .ref h_t_plan_profile) hx hb hta i_Pl hown hK hP 1 rfl rfl 8 (by decide) (hta _ lk_FB_123) (fun _ h9 => h9) rfl d_FB_profile_41 ?_
      refine va_get (D := D) (v := .int t_plan_profile_count) hx hb hta i_By hown hK hP 2 rfl rfl 2 (by decide) (hta _ lk_FB_126) (fun _ h9 => h9) rfl d_FB_profile_44 ?_
      refine lv_sipush (v := 1024) hx hb d_FB_profile_47 (by decide) ?_
      refine lv_icmp_lt (tgt := 63) hx hb d_FB_profile_50 (by decide) (fun c_50 => ?_) (fun c_50 => ?_)
      · have E := (if_pos c_50).symm.trans E
        refine lv_aload_n hx hb d_FB_profile_63 rfl (lv_at hl 0 rfl) ?_
        refine va_get (D := D) (v := .ref h_t_plan) hx hb hta i_FB hown hK hP 0 rfl rfl 3 (by decide) (hta _ lk_FB_38) (fun _ h9 => h9) rfl d_FB_profile_64 ?_
        refine va_get (D := D) (v := .ref h_t_plan_profile) hx hb hta i_Pl hown hK hP 1 rfl rfl 8 (by decide) (hta _ lk_FB_123) (fun _ h9 => h9) rfl d_FB_profile_67 ?_
        refine lv_iconst (v := 1) hx hb d_FB_profile_70 (by decide) ?_
        refine kc_V (As := [.int 1]) (rest := []) (wr := [(h_t, .inr (6, [.ref h_t_file, .ref h_t_scanner, .ref h_t_writer, .ref h_t_plan, .int t_scanned, .int t_refusedAt])), (h_t_plan, .inr (3, [.int t_plan_high, .int t_plan_wide, .int t_plan_components, .int t_plan_unknown, .int t_plan_rights, .ref h_t_plan_bits, .int t_plan_colours, .int t_plan_hasProfile, .ref h_t_plan_profile, .ref h_t_plan_palette, .ref h_t_plan_map, .ref h_t_plan_meanings, .ref h_t_plan_capture, .ref h_t_plan_display]))]) [2, 3] [0, 1] ⟨hx, hb, hml, hown, hta⟩ hK hN hP hD hS hA (c_By_makeRoom l D cB cI cJ h_t_plan_profile h_t_plan_profile_row t_plan_profile_most t_plan_profile_count n_t_plan_profile_row f_t_plan_profile_row 1 hmost hfit hn_t_plan_profile_row _) (hta _ lk_FB_134) (hta _ ini_By) (hta _ code_By_makeRoom) code_By_makeRoom (hta _ inst_By_makeRoom) (hta _ sel_By_makeRoom) hd_By_makeRoom rfl ⟨by omega, by omega⟩ (ci := 0) 2 rfl rfl rfl rfl (by decide) (by decide) (by decide) rfl hl.1 (lv_room (Nat.le_of_ble_eq_true rfl)) d_FB_profile_71 ⟨by omega, by omega⟩ (fun v w1 H locs hw hP hD hS => ?_)
        obtain ⟨x71, q_71_t_row, hx71, rfl, rfl⟩ := hw
        have hP : va_P D classes [(h_t, .inr (6, [.ref h_t_file, .ref h_t_scanner, .ref h_t_writer, .ref h_t_plan, .int t_scanned, .int t_refusedAt])), (h_t_plan, .inr (3, [.int t_plan_high, .int t_plan_wide, .int t_plan_components, .int t_plan_unknown, .int t_plan_rights, .ref h_t_plan_bits, .int t_plan_colours, .int t_plan_hasProfile, .ref h_t_plan_profile, .ref h_t_plan_palette, .ref h_t_plan_map, .ref h_t_plan_meanings, .ref h_t_plan_capture, .ref h_t_plan_display])), (h_t_plan_profile, .inr (0, [.int t_plan_profile_most, .ref q_71_t_row, .int t_plan_profile_count])), (q_71_t_row, .inl (cB, x71.1, .inl x71.2))] H := hP.sub [0, 1, 2, 3] rfl
        have hD : va_D A [(h_t, .inr (6, [.ref h_t_file, .ref h_t_scanner, .ref h_t_writer, .ref h_t_plan, .int t_scanned, .int t_refusedAt])), (h_t_plan, .inr (3, [.int t_plan_high, .int t_plan_wide, .int t_plan_components, .int t_plan_unknown, .int t_plan_rights, .ref h_t_plan_bits, .int t_plan_colours, .int t_plan_hasProfile, .ref h_t_plan_profile, .ref h_t_plan_palette, .ref h_t_plan_map, .ref h_t_plan_meanings, .ref h_t_plan_capture, .ref h_t_plan_display])), (h_t_plan_profile, .inr (0, [.int t_plan_profile_most, .ref q_71_t_row, .int t_plan_profile_count])), (q_71_t_row, .inl (cB, x71.1, .inl x71.2))] := hD.sub [0, 1, 2, 3] (by decide) rfl
        refine W.eq (g2 := F0 m 74 ls []) rfl ?_
        have hlen71 : x71.1 < 2147483648 := by rw [hx71]; exact mrm_len hn_t_plan_profile_row hmost
        have E : k_FB_profile_71 t_plan_profile_count p1 x71 = RES := (congrArg (k_FB_profile_71 t_plan_profile_count p1) hx71).trans E
        refine lv_aload_n hx hb d_FB_profile_74 rfl (lv_at hl 0 rfl) ?_
        refine va_get (D := D) (v := .ref h_t_plan) hx hb hta i_FB hown hK hP 0 rfl rfl 3 (by decide) (hta _ lk_FB_38) (fun _ h9 => h9) rfl d_FB_profile_75 ?_
        refine va_get (D := D) (v := .ref h_t_plan_profile) hx hb hta i_Pl hown hK hP 1 rfl rfl 8 (by decide) (hta _ lk_FB_123) (fun _ h9 => h9) rfl d_FB_profile_78 ?_
        refine lv_iload_n hx hb d_FB_profile_81 rfl (lv_at hl 1 rfl) ?_
        refine kc_V (As := [.int p1]) (rest := []) (wr := [(h_t, .inr (6, [.ref h_t_file, .ref h_t_scanner, .ref h_t_writer, .ref h_t_plan, .int t_scanned, .int t_refusedAt])), (h_t_plan, .inr (3, [.int t_plan_high, .int t_plan_wide, .int t_plan_components, .int t_plan_unknown, .int t_plan_rights, .ref h_t_plan_bits, .int t_plan_colours, .int t_plan_hasProfile, .ref h_t_plan_profile, .ref h_t_plan_palette, .ref h_t_plan_map, .ref h_t_plan_meanings, .ref h_t_plan_capture, .ref h_t_plan_display]))]) [2, 3] [0, 1] ⟨hx, hb, hml, hown, hta⟩ hK hN hP hD hS hA (c_By_add l D cB cI cJ h_t_plan_profile q_71_t_row t_plan_profile_most t_plan_profile_count x71.1 x71.2 p1 (by assumption) _) (hta _ lk_FB_137) (hta _ ini_By) (hta _ code_By_add) code_By_add (hta _ inst_By_add) (hta _ sel_By_add) hd_By_add rfl ⟨by omega, by omega⟩ (ci := 0) 2 rfl rfl rfl rfl (by decide) (by decide) (by decide) rfl hl.1 (lv_room (Nat.le_of_ble_eq_true rfl)) d_FB_profile_82 ⟨by omega, by omega⟩ (fun v w1 H locs hw hP hD hS => ?_)
        obtain ⟨x82, hx82, rfl, rfl⟩ := hw
        have hP : va_P D classes [(h_t, .inr (6, [.ref h_t_file, .ref h_t_scanner, .ref h_t_writer, .ref h_t_plan, .int t_scanned, .int t_refusedAt])), (h_t_plan, .inr (3, [.int t_plan_high, .int t_plan_wide, .int t_plan_components, .int t_plan_unknown, .int t_plan_rights, .ref h_t_plan_bits, .int t_plan_colours, .int t_plan_hasProfile, .ref h_t_plan_profile, .ref h_t_plan_palette, .ref h_t_plan_map, .ref h_t_plan_meanings, .ref h_t_plan_capture, .ref h_t_plan_display])), (h_t_plan_profile, .inr (0, [.int t_plan_profile_most, .ref q_71_t_row, .int x82.1])), (q_71_t_row, .inl (cB, x71.1, .inl x82.2))] H := hP.sub [0, 1, 2, 3] rfl
        have hD : va_D A [(h_t, .inr (6, [.ref h_t_file, .ref h_t_scanner, .ref h_t_writer, .ref h_t_plan, .int t_scanned, .int t_refusedAt])), (h_t_plan, .inr (3, [.int t_plan_high, .int t_plan_wide, .int t_plan_components, .int t_plan_unknown, .int t_plan_rights, .ref h_t_plan_bits, .int t_plan_colours, .int t_plan_hasProfile, .ref h_t_plan_profile, .ref h_t_plan_palette, .ref h_t_plan_map, .ref h_t_plan_meanings, .ref h_t_plan_capture, .ref h_t_plan_display])), (h_t_plan_profile, .inr (0, [.int t_plan_profile_most, .ref q_71_t_row, .int x82.1])), (q_71_t_row, .inl (cB, x71.1, .inl x82.2))] := hD.sub [0, 1, 2, 3] (by decide) rfl
        refine W.eq (g2 := F0 m 85 ls []) rfl ?_
        have E : k_FB_profile_82 x71 x82 = RES := (congrArg (k_FB_profile_82 x71) hx82).trans E
        refine lv_aload_n hx hb d_FB_profile_85 rfl (lv_at hl 0 rfl) ?_
        refine va_get (D := D) (v := .ref h_t_plan) hx hb hta i_FB hown hK hP 0 rfl rfl 3 (by decide) (hta _ lk_FB_38) (fun _ h9 => h9) rfl d_FB_profile_86 ?_
        refine va_get (D := D) (v := .ref h_t_plan_profile) hx hb hta i_Pl hown hK hP 1 rfl rfl 8 (by decide) (hta _ lk_FB_123) (fun _ h9 => h9) rfl d_FB_profile_89 ?_
        refine va_get (D := D) (v := .int x82.1) hx hb hta i_By hown hK hP 2 rfl rfl 2 (by decide) (hta _ lk_FB_126) (fun _ h9 => h9) rfl d_FB_profile_92 ?_
        exact kr_iX hx hb hr hlk hQ hK hP hD hS ⟨((0, (x82.1, x82.1, x71.1, x82.2)) : Nat × Int32 × Int32 × Nat × (Nat → Int32)), q_71_t_row, E.trans E0.symm, rfl, rfl⟩ (by omega) (by omega) d_FB_profile_95
      · have E := (if_neg c_50).symm.trans E
        exact kt_of exF_4 exD0_4 exD1_4 exD2_4 exD5_4 xw3_4 xw5_4 exW6_4 exW7_4 hLt hx hb hlk hQ hml hown hta hTh hAs hnh hP hD hS hA hl.1 ⟨((4, (0, t_plan_profile_count, n_t_plan_profile_row, f_t_plan_profile_row)) : Nat × Int32 × Int32 × Nat × (Nat → Int32)), h_t_plan_profile_row, E.trans E0.symm, rfl, rfl⟩ lk_FB_129 lk_FB_131 d_FB_profile_53 d_FB_profile_56 d_FB_profile_57 d_FB_profile_59 d_FB_profile_62 hRc hRs (by omega) (by omega) (by omega) (by omega)
    · have E := (if_pos c_24).symm.trans E
      exact kt_of exF_1 exD0_1 exD1_1 exD2_1 exD5_1 xw3_1 xw5_1 exW6_1 exW7_1 hLt hx hb hlk hQ hml hown hta hTh hAs hnh hP hD hS hA hl.1 ⟨((1, (0, t_plan_profile_count, n_t_plan_profile_row, f_t_plan_profile_row)) : Nat × Int32 × Int32 × Nat × (Nat → Int32)), h_t_plan_profile_row, E.trans E0.symm, rfl, rfl⟩ lk_FB_53 lk_FB_121 d_FB_profile_27 d_FB_profile_30 d_FB_profile_31 d_FB_profile_33 d_FB_profile_36 hRc hRs (by omega) (by omega) (by omega) (by omega)
  · have E := (if_pos c_7).symm.trans E
    exact kt_of exF_3 exD0_3 exD1_3 exD2_3 exD5_3 xw3_3 xw5_3 exW6_3 exW7_3 hLt hx hb hlk hQ hml hown hta hTh hAs hnh hP hD hS hA hl.1 ⟨((3, (0, t_plan_profile_count, n_t_plan_profile_row, f_t_plan_profile_row)) : Nat × Int32 × Int32 × Nat × (Nat → Int32)), h_t_plan_profile_row, E.trans E0.symm, rfl, rfl⟩ lk_FB_113 lk_FB_115 d_FB_profile_10 d_FB_profile_13 d_FB_profile_14 d_FB_profile_16 d_FB_profile_19 hRc hRs (by omega) (by omega) (by omega) (by omega)
theorem d_FB_palette_0 : decode b_FB_palette 0 = .ok (.iload_n 1, 1) := by decide +kernel
theorem d_FB_palette_1 : decode b_FB_palette 1 = .ok (.ifCond .lt 10, 3) := by decide +kernel
theorem d_FB_palette_4 : decode b_FB_palette 4 = .ok (.iload_n 1, 1) := by decide +kernel
theorem d_FB_palette_5 : decode b_FB_palette 5 = .ok (.sipush 1024, 3) := by decide +kernel
theorem d_FB_palette_8 : decode b_FB_palette 8 = .ok (.if_icmp .le 13, 3) := by decide +kernel
theorem d_FB_palette_11 : decode b_FB_palette 11 = .ok (.new 53, 3) := by decide +kernel
theorem d_FB_palette_14 : decode b_FB_palette 14 = .ok (.dup, 1) := by decide +kernel
theorem d_FB_palette_15 : decode b_FB_palette 15 = .ok (.ldc 140, 2) := by decide +kernel
theorem d_FB_palette_17 : decode b_FB_palette 17 = .ok (.invokespecial 57, 3) := by decide +kernel
theorem d_FB_palette_20 : decode b_FB_palette 20 = .ok (.athrow, 1) := by decide +kernel
theorem d_FB_palette_21 : decode b_FB_palette 21 = .ok (.iload_n 2, 1) := by decide +kernel
theorem d_FB_palette_22 : decode b_FB_palette 22 = .ok (.iconst 1, 1) := by decide +kernel
theorem d_FB_palette_23 : decode b_FB_palette 23 = .ok (.if_icmp .lt 9, 3) := by decide +kernel
theorem d_FB_palette_26 : decode b_FB_palette 26 = .ok (.iload_n 2, 1) := by decide +kernel
theorem d_FB_palette_27 : decode b_FB_palette 27 = .ok (.bipush 8, 2) := by decide +kernel
theorem d_FB_palette_29 : decode b_FB_palette 29 = .ok (.if_icmp .le 13, 3) := by decide +kernel
theorem d_FB_palette_32 : decode b_FB_palette 32 = .ok (.new 53, 3) := by decide +kernel
theorem d_FB_palette_35 : decode b_FB_palette 35 = .ok (.dup, 1) := by decide +kernel
theorem d_FB_palette_36 : decode b_FB_palette 36 = .ok (.ldc 142, 2) := by decide +kernel
theorem d_FB_palette_38 : decode b_FB_palette 38 = .ok (.invokespecial 57, 3) := by decide +kernel
theorem d_FB_palette_41 : decode b_FB_palette 41 = .ok (.athrow, 1) := by decide +kernel
theorem d_FB_palette_42 : decode b_FB_palette 42 = .ok (.iload_n 1, 1) := by decide +kernel
theorem d_FB_palette_43 : decode b_FB_palette 43 = .ok (.iload_n 2, 1) := by decide +kernel
theorem d_FB_palette_44 : decode b_FB_palette 44 = .ok (.imul, 1) := by decide +kernel
theorem d_FB_palette_45 : decode b_FB_palette 45 = .ok (.sipush 4096, 3) := by decide +kernel
theorem d_FB_palette_48 : decode b_FB_palette 48 = .ok (.if_icmp .le 13, 3) := by decide +kernel
theorem d_FB_palette_51 : decode b_FB_palette 51 = .ok (.new 53, 3) := by decide +kernel
theorem d_FB_palette_54 : decode b_FB_palette 54 = .ok (.dup, 1) := by decide +kernel
theorem d_FB_palette_55 : decode b_FB_palette 55 = .ok (.ldc 144, 2) := by decide +kernel
theorem d_FB_palette_57 : decode b_FB_palette 57 = .ok (.invokespecial 57, 3) := by decide +kernel
theorem d_FB_palette_60 : decode b_FB_palette 60 = .ok (.athrow, 1) := by decide +kernel
theorem d_FB_palette_61 : decode b_FB_palette 61 = .ok (.aload_n 0, 1) := by decide +kernel
theorem d_FB_palette_62 : decode b_FB_palette 62 = .ok (.getfield 38, 3) := by decide +kernel
theorem d_FB_palette_65 : decode b_FB_palette 65 = .ok (.getfield 146, 3) := by decide +kernel
theorem d_FB_palette_68 : decode b_FB_palette 68 = .ok (.iload_n 1, 1) := by decide +kernel
theorem d_FB_palette_69 : decode b_FB_palette 69 = .ok (.iload_n 2, 1) := by decide +kernel
theorem d_FB_palette_70 : decode b_FB_palette 70 = .ok (.invokevirtual 150, 3) := by decide +kernel
theorem d_FB_palette_73 : decode b_FB_palette 73 = .ok (.aload_n 0, 1) := by decide +kernel
theorem d_FB_palette_74 : decode b_FB_palette 74 = .ok (.getfield 38, 3) := by decide +kernel
theorem d_FB_palette_77 : decode b_FB_palette 77 = .ok (.getfield 156, 3) := by decide +kernel
theorem d_FB_palette_80 : decode b_FB_palette 80 = .ok (.invokevirtual 160, 3) := by decide +kernel
theorem d_FB_palette_83 : decode b_FB_palette 83 = .ok (.return_, 1) := by decide +kernel
def j_FB_palette_11 (t_plan_palette_entries : Int32) (t_plan_palette_columns : Int32) (f_t_plan_palette_bits : Nat → Int32) (n_t_plan_palette_numbers : Nat) (f_t_plan_palette_numbers : Nat → Int64) (t_plan_map_count : Int32) : Nat × Int32 × Int32 × (Nat → Int32) × Nat × (Nat → Int64) × Int32 :=
  (1, (t_plan_palette_entries, t_plan_palette_columns, f_t_plan_palette_bits, n_t_plan_palette_numbers, f_t_plan_palette_numbers, t_plan_map_count))
def j_FB_palette_32 (t_plan_palette_entries : Int32) (t_plan_palette_columns : Int32) (f_t_plan_palette_bits : Nat → Int32) (n_t_plan_palette_numbers : Nat) (f_t_plan_palette_numbers : Nat → Int64) (t_plan_map_count : Int32) : Nat × Int32 × Int32 × (Nat → Int32) × Nat × (Nat → Int64) × Int32 :=
  (1, (t_plan_palette_entries, t_plan_palette_columns, f_t_plan_palette_bits, n_t_plan_palette_numbers, f_t_plan_palette_numbers, t_plan_map_count))
def k_FB_palette_70 (x70 : Int32 × Int32 × (Nat → Int32) × Nat × (Nat → Int64)) : Nat × Int32 × Int32 × (Nat → Int32) × Nat × (Nat → Int64) × Int32 :=
  (0, (x70.1, x70.2.1, x70.2.2.1, x70.2.2.2.1, x70.2.2.2.2, 0))
def m_FB_palette (t_plan_palette_entries : Int32) (t_plan_palette_columns : Int32) (n_t_plan_palette_bits : Nat) (f_t_plan_palette_bits : Nat → Int32) (n_t_plan_palette_numbers : Nat) (f_t_plan_palette_numbers : Nat → Int64) (t_plan_map_count : Int32) (p1 : Int32) (p2 : Int32) : Nat × Int32 × Int32 × (Nat → Int32) × Nat × (Nat → Int64) × Int32 :=
  if p1 < 0 then (j_FB_palette_11 t_plan_palette_entries t_plan_palette_columns f_t_plan_palette_bits n_t_plan_palette_numbers f_t_plan_palette_numbers t_plan_map_count) else (if p1 ≤ 1024 then (if p2 < 1 then (j_FB_palette_32 t_plan_palette_entries t_plan_palette_columns f_t_plan_palette_bits n_t_plan_palette_numbers f_t_plan_palette_numbers t_plan_map_count) else (if p2 ≤ 8 then (if (p1 * p2) ≤ 4096 then (k_FB_palette_70 (m_Pa_become n_t_plan_palette_bits f_t_plan_palette_bits n_t_plan_palette_numbers f_t_plan_palette_numbers p1 p2)) else ((1, (t_plan_palette_entries, t_plan_palette_columns, f_t_plan_palette_bits, n_t_plan_palette_numbers, f_t_plan_palette_numbers, t_plan_map_count)))) else (j_FB_palette_32 t_plan_palette_entries t_plan_palette_columns f_t_plan_palette_bits n_t_plan_palette_numbers f_t_plan_palette_numbers t_plan_map_count))) else (j_FB_palette_11 t_plan_palette_entries t_plan_palette_columns f_t_plan_palette_bits n_t_plan_palette_numbers f_t_plan_palette_numbers t_plan_map_count))
set_option maxHeartbeats 4000000 in
set_option maxRecDepth 100000 in
theorem c_FB_palette (l : Launch) (D : va_G) (cB cI cJ : ClassId) (h_t h_t_file h_t_scanner h_t_writer h_t_plan h_t_plan_bits h_t_plan_profile h_t_plan_palette h_t_plan_map h_t_plan_meanings h_t_plan_capture h_t_plan_display h_t_plan_palette_bits h_t_plan_palette_numbers h_t_plan_map_parts : Nat) (t_scanned : Int32) (t_refusedAt : Int32) (t_plan_high : Int32) (t_plan_wide : Int32) (t_plan_components : Int32) (t_plan_unknown : Int32) (t_plan_rights : Int32) (t_plan_colours : Int32) (t_plan_hasProfile : Int32) (t_plan_palette_entries : Int32) (t_plan_palette_columns : Int32) (n_t_plan_palette_bits : Nat) (f_t_plan_palette_bits : Nat → Int32) (n_t_plan_palette_numbers : Nat) (f_t_plan_palette_numbers : Nat → Int64) (t_plan_map_count : Int32) (p1 : Int32) (p2 : Int32) (hLt : kL l) (hn_t_plan_palette_numbers : n_t_plan_palette_numbers < 2147483648) (hn_t_plan_palette_bits : n_t_plan_palette_bits < 2147483648) (sz : Nat) : CtX l D cB cI cJ y_FB_palette b_FB_palette 3 none 6 82 2 4102 [.ref h_t, .int p1, .int p2] [(h_t, .inr (6, [.ref h_t_file, .ref h_t_scanner, .ref h_t_writer, .ref h_t_plan, .int t_scanned, .int t_refusedAt])), (h_t_plan, .inr (3, [.int t_plan_high, .int t_plan_wide, .int t_plan_components, .int t_plan_unknown, .int t_plan_rights, .ref h_t_plan_bits, .int t_plan_colours, .int t_plan_hasProfile, .ref h_t_plan_profile, .ref h_t_plan_palette, .ref h_t_plan_map, .ref h_t_plan_meanings, .ref h_t_plan_capture, .ref h_t_plan_display])), (h_t_plan_palette, .inr (2, [.int t_plan_palette_entries, .int t_plan_palette_columns, .ref h_t_plan_palette_bits, .ref h_t_plan_palette_numbers])), (h_t_plan_palette_bits, .inl (cI, n_t_plan_palette_bits, .inl f_t_plan_palette_bits)), (h_t_plan_palette_numbers, .inl (cJ, n_t_plan_palette_numbers, .inr (.inl f_t_plan_palette_numbers))), (h_t_plan_map, .inr (1, [.ref h_t_plan_map_parts, .int t_plan_map_count]))] (fun o w1 => ∃ (x : Nat × Int32 × Int32 × (Nat → Int32) × Nat × (Nat → Int64) × Int32) (q_t_plan_palette_numbers : Nat), x = m_FB_palette t_plan_palette_entries t_plan_palette_columns n_t_plan_palette_bits f_t_plan_palette_bits n_t_plan_palette_numbers f_t_plan_palette_numbers t_plan_map_count p1 p2 ∧ kO o x.1 (none) ∧ w1 = [(h_t, .inr (6, [.ref h_t_file, .ref h_t_scanner, .ref h_t_writer, .ref h_t_plan, .int t_scanned, .int t_refusedAt])), (h_t_plan, .inr (3, [.int t_plan_high, .int t_plan_wide, .int t_plan_components, .int t_plan_unknown, .int t_plan_rights, .ref h_t_plan_bits, .int t_plan_colours, .int t_plan_hasProfile, .ref h_t_plan_profile, .ref h_t_plan_palette, .ref h_t_plan_map, .ref h_t_plan_meanings, .ref h_t_plan_capture, .ref h_t_plan_display])), (h_t_plan_palette, .inr (2, [.int x.2.1, .int x.2.2.1, .ref h_t_plan_palette_bits, .ref q_t_plan_palette_numbers])), (h_t_plan_palette_bits, .inl (cI, n_t_plan_palette_bits, .inl x.2.2.2.1)), (q_t_plan_palette_numbers, .inl (cJ, x.2.2.2.2.1, .inr (.inl x.2.2.2.2.2.1))), (h_t_plan_map, .inr (1, [.ref h_t_plan_map_parts, .int x.2.2.2.2.2.2]))]) sz := by
  refine CtX.of (by decide) (Nat.le_of_ble_eq_true rfl) ?_
  intro p e R s m args below meth c A ls Q hx hb hr hlk hml hta hown hin hK hN hA hRf hRl hRc hRs hP hD hS hl hQ hTh hAs hnh
  have hl : lv_has ls 3 [(0, .ref h_t), (1, .int p1), (2, .int p2)] := hl
  obtain ⟨RES, E0⟩ : ∃ R, m_FB_palette t_plan_palette_entries t_plan_palette_columns n_t_plan_palette_bits f_t_plan_palette_bits n_t_plan_palette_numbers f_t_plan_palette_numbers t_plan_map_count p1 p2 = R := ⟨_, rfl⟩
  have E := E0
  refine lv_iload_n hx hb d_FB_palette_0 rfl (lv_at hl 1 rfl) ?_
  have J_11 : j_FB_palette_11 t_plan_palette_entries t_plan_palette_columns f_t_plan_palette_bits n_t_plan_palette_numbers f_t_plan_palette_numbers t_plan_map_count = RES → ∀ (H : Heap) (locs : List Loc), va_P D classes [(h_t, .inr (6, [.ref h_t_file, .ref h_t_scanner, .ref h_t_writer, .ref h_t_plan, .int t_scanned, .int t_refusedAt])), (h_t_plan, .inr (3, [.int t_plan_high, .int t_plan_wide, .int t_plan_components, .int t_plan_unknown, .int t_plan_rights, .ref h_t_plan_bits, .int t_plan_colours, .int t_plan_hasProfile, .ref h_t_plan_profile, .ref h_t_plan_palette, .ref h_t_plan_map, .ref h_t_plan_meanings, .ref h_t_plan_capture, .ref h_t_plan_display])), (h_t_plan_palette, .inr (2, [.int t_plan_palette_entries, .int t_plan_palette_columns, .ref h_t_plan_palette_bits, .ref h_t_plan_palette_numbers])), (h_t_plan_palette_bits, .inl (cI, n_t_plan_palette_bits, .inl f_t_plan_palette_bits)), (h_t_plan_palette_numbers, .inl (cJ, n_t_plan_palette_numbers, .inr (.inl f_t_plan_palette_numbers))), (h_t_plan_map, .inr (1, [.ref h_t_plan_map_parts, .int t_plan_map_count]))] H → va_D A [(h_t, .inr (6, [.ref h_t_file, .ref h_t_scanner, .ref h_t_writer, .ref h_t_plan, .int t_scanned, .int t_refusedAt])), (h_t_plan, .inr (3, [.int t_plan_high, .int t_plan_wide, .int t_plan_components, .int t_plan_unknown, .int t_plan_rights, .ref h_t_plan_bits, .int t_plan_colours, .int t_plan_hasProfile, .ref h_t_plan_profile, .ref h_t_plan_palette, .ref h_t_plan_map, .ref h_t_plan_meanings, .ref h_t_plan_capture, .ref h_t_plan_display])), (h_t_plan_palette, .inr (2, [.int t_plan_palette_entries, .int t_plan_palette_columns, .ref h_t_plan_palette_bits, .ref h_t_plan_palette_numbers])), (h_t_plan_palette_bits, .inl (cI, n_t_plan_palette_bits, .inl f_t_plan_palette_bits)), (h_t_plan_palette_numbers, .inl (cJ, n_t_plan_palette_numbers, .inr (.inl f_t_plan_palette_numbers))), (h_t_plan_map, .inr (1, [.ref h_t_plan_map_parts, .int t_plan_map_count]))] → va_S A s.heap H locs → ∀ ls : Array Slot, lv_has ls 3 [] → W p l e R s m args below meth c H locs 0 0 Q (F0 m 11 ls []) := by
    intro E H locs hP hD hS ls hl
    exact kt_of exF_1 exD0_1 exD1_1 exD2_1 exD5_1 xw3_1 xw5_1 exW6_1 exW7_1 hLt hx hb hlk hQ hml hown hta hTh hAs hnh hP hD hS hA hl.1 ⟨((1, (t_plan_palette_entries, t_plan_palette_columns, f_t_plan_palette_bits, n_t_plan_palette_numbers, f_t_plan_palette_numbers, t_plan_map_count)) : Nat × Int32 × Int32 × (Nat → Int32) × Nat × (Nat → Int64) × Int32), h_t_plan_palette_numbers, E.trans E0.symm, rfl, rfl⟩ lk_FB_53 lk_FB_140 d_FB_palette_11 d_FB_palette_14 d_FB_palette_15 d_FB_palette_17 d_FB_palette_20 hRc hRs (by omega) (by omega) (by omega) (by omega)
  refine lv_if_lt (tgt := 11) hx hb d_FB_palette_1 (by decide) (fun c_1 => ?_) (fun c_1 => ?_)
  · have E := (if_pos c_1).symm.trans E
    exact J_11  E _ _ hP hD hS ls (lv_sub hl [] rfl)
  · have E := (if_neg c_1).symm.trans E
    refine lv_iload_n hx hb d_FB_palette_4 rfl (lv_at hl 1 rfl) ?_
    refine lv_sipush (v := 1024) hx hb d_FB_palette_5 (by decide) ?_
    refine lv_icmp_le (tgt := 21) hx hb d_FB_palette_8 (by decide) (fun c_8 => ?_) (fun c_8 => ?_)
    · have E := (if_pos c_8).symm.trans E
      refine lv_iload_n hx hb d_FB_palette_21 rfl (lv_at hl 2 rfl) ?_
      refine lv_iconst (v := 1) hx hb d_FB_palette_22 (by decide) ?_
      have J_32 : j_FB_palette_32 t_plan_palette_entries t_plan_palette_columns f_t_plan_palette_bits n_t_plan_palette_numbers f_t_plan_palette_numbers t_plan_map_count = RES → ∀ (H : Heap) (locs : List Loc), va_P D classes [(h_t, .inr (6, [.ref h_t_file, .ref h_t_scanner, .ref h_t_writer, .ref h_t_plan, .int t_scanned, .int t_refusedAt])), (h_t_plan, .inr (3, [.int t_plan_high, .int t_plan_wide, .int t_plan_components, .int t_plan_unknown, .int t_plan_rights, .ref h_t_plan_bits, .int t_plan_colours, .int t_plan_hasProfile, .ref h_t_plan_profile, .ref h_t_plan_palette, .ref h_t_plan_map, .ref h_t_plan_meanings, .ref h_t_plan_capture, .ref h_t_plan_display])), (h_t_plan_palette, .inr (2, [.int t_plan_palette_entries, .int t_plan_palette_columns, .ref h_t_plan_palette_bits, .ref h_t_plan_palette_numbers])), (h_t_plan_palette_bits, .inl (cI, n_t_plan_palette_bits, .inl f_t_plan_palette_bits)), (h_t_plan_palette_numbers, .inl (cJ, n_t_plan_palette_numbers, .inr (.inl f_t_plan_palette_numbers))), (h_t_plan_map, .inr (1, [.ref h_t_plan_map_parts, .int t_plan_map_count]))] H → va_D A [(h_t, .inr (6, [.ref h_t_file, .ref h_t_scanner, .ref h_t_writer, .ref h_t_plan, .int t_scanned, .int t_refusedAt])), (h_t_plan, .inr (3, [.int t_plan_high, .int t_plan_wide, .int t_plan_components, .int t_plan_unknown, .int t_plan_rights, .ref h_t_plan_bits, .int t_plan_colours, .int t_plan_hasProfile, .ref h_t_plan_profile, .ref h_t_plan_palette, .ref h_t_plan_map, .ref h_t_plan_meanings, .ref h_t_plan_capture, .ref h_t_plan_display])), (h_t_plan_palette, .inr (2, [.int t_plan_palette_entries, .int t_plan_palette_columns, .ref h_t_plan_palette_bits, .ref h_t_plan_palette_numbers])), (h_t_plan_palette_bits, .inl (cI, n_t_plan_palette_bits, .inl f_t_plan_palette_bits)), (h_t_plan_palette_numbers, .inl (cJ, n_t_plan_palette_numbers, .inr (.inl f_t_plan_palette_numbers))), (h_t_plan_map, .inr (1, [.ref h_t_plan_map_parts, .int t_plan_map_count]))] → va_S A s.heap H locs → ∀ ls : Array Slot, lv_has ls 3 [] → W p l e R s m args below meth c H locs 0 0 Q (F0 m 32 ls []) := by
        intro E H locs hP hD hS ls hl
        exact kt_of exF_1 exD0_1 exD1_1 exD2_1 exD5_1 xw3_1 xw5_1 exW6_1 exW7_1 hLt hx hb hlk hQ hml hown hta hTh hAs hnh hP hD hS hA hl.1 ⟨((1, (t_plan_palette_entries, t_plan_palette_columns, f_t_plan_palette_bits, n_t_plan_palette_numbers, f_t_plan_palette_numbers, t_plan_map_count)) : Nat × Int32 × Int32 × (Nat → Int32) × Nat × (Nat → Int64) × Int32), h_t_plan_palette_numbers, E.trans E0.symm, rfl, rfl⟩ lk_FB_53 lk_FB_142 d_FB_palette_32 d_FB_palette_35 d_FB_palette_36 d_FB_palette_38 d_FB_palette_41 hRc hRs (by omega) (by omega) (by omega) (by omega)
      refine lv_icmp_lt (tgt := 32) hx hb d_FB_palette_23 (by decide) (fun c_23 => ?_) (fun c_23 => ?_)
      · have E := (if_pos c_23).symm.trans E
        exact J_32  E _ _ hP hD hS ls (lv_sub hl [] rfl)
      · have E := (if_neg c_23).symm.trans E
        refine lv_iload_n hx hb d_FB_palette_26 rfl (lv_at hl 2 rfl) ?_
        refine lv_bipush (v := 8) hx hb d_FB_palette_27 (by decide) ?_
        refine lv_icmp_le (tgt := 42) hx hb d_FB_palette_29 (by decide) (fun c_29 => ?_) (fun c_29 => ?_)
        · have E := (if_pos c_29).symm.trans E
          refine lv_iload_n hx hb d_FB_palette_42 rfl (lv_at hl 1 rfl) ?_
          refine lv_iload_n hx hb d_FB_palette_43 rfl (lv_at hl 2 rfl) ?_
          refine lv_imul hx hb d_FB_palette_44 ?_
          refine lv_sipush (v := 4096) hx hb d_FB_palette_45 (by decide) ?_
          refine lv_icmp_le (tgt := 61) hx hb d_FB_palette_48 (by decide) (fun c_48 => ?_) (fun c_48 => ?_)
          · have E := (if_pos c_48).symm.trans E
            refine lv_aload_n hx hb d_FB_palette_61 rfl (lv_at hl 0 rfl) ?_
            refine va_get (D := D) (v := .ref h_t_plan) hx hb hta i_FB hown hK hP 0 rfl rfl 3 (by decide) (hta _ lk_FB_38) (fun _ h9 => h9) rfl d_FB_palette_62 ?_
            refine va_get (D := D) (v := .ref h_t_plan_palette) hx hb hta i_Pl hown hK hP 1 rfl rfl 9 (by decide) (hta _ lk_FB_146) (fun _ h9 => h9) rfl d_FB_palette_65 ?_
            refine lv_iload_n hx hb d_FB_palette_68 rfl (lv_at hl 1 rfl) ?_
            refine lv_iload_n hx hb d_FB_palette_69 rfl (lv_at hl 2 rfl) ?_
            refine kc_V (As := [.int p1, .int p2]) (rest := []) (wr := [(h_t, .inr (6, [.ref h_t_file, .ref h_t_scanner, .ref h_t_writer, .ref h_t_plan, .int t_scanned, .int t_refusedAt])), (h_t_plan, .inr (3, [.int t_plan_high, .int t_plan_wide, .int t_plan_components, .int t_plan_unknown, .int t_plan_rights, .ref h_t_plan_bits, .int t_plan_colours, .int t_plan_hasProfile, .ref h_t_plan_profile, .ref h_t_plan_palette, .ref h_t_plan_map, .ref h_t_plan_meanings, .ref h_t_plan_capture, .ref h_t_plan_display])), (h_t_plan_map, .inr (1, [.ref h_t_plan_map_parts, .int t_plan_map_count]))]) [2, 3, 4] [0, 1, 5] ⟨hx, hb, hml, hown, hta⟩ hK hN hP hD hS hA (c_Pa_become l D cB cI cJ h_t_plan_palette h_t_plan_palette_bits h_t_plan_palette_numbers t_plan_palette_entries t_plan_palette_columns n_t_plan_palette_bits f_t_plan_palette_bits n_t_plan_palette_numbers f_t_plan_palette_numbers p1 p2 hn_t_plan_palette_numbers hn_t_plan_palette_bits _) (hta _ lk_FB_150) (hta _ ini_Pa) (hta _ code_Pa_become) code_Pa_become (hta _ inst_Pa_become) (hta _ sel_Pa_become) hd_Pa_become rfl ⟨by omega, by omega⟩ (ci := 2) 2 rfl rfl rfl rfl (by decide) (by decide) (by decide) rfl hl.1 (lv_room (Nat.le_of_ble_eq_true rfl)) d_FB_palette_70 ⟨by omega, by omega⟩ (fun v w1 H locs hw hP hD hS => ?_)
            obtain ⟨x70, q_70_t_numbers, hx70, rfl, rfl⟩ := hw
            have hP : va_P D classes [(h_t, .inr (6, [.ref h_t_file, .ref h_t_scanner, .ref h_t_writer, .ref h_t_plan, .int t_scanned, .int t_refusedAt])), (h_t_plan, .inr (3, [.int t_plan_high, .int t_plan_wide, .int t_plan_components, .int t_plan_unknown, .int t_plan_rights, .ref h_t_plan_bits, .int t_plan_colours, .int t_plan_hasProfile, .ref h_t_plan_profile, .ref h_t_plan_palette, .ref h_t_plan_map, .ref h_t_plan_meanings, .ref h_t_plan_capture, .ref h_t_plan_display])), (h_t_plan_palette, .inr (2, [.int x70.1, .int x70.2.1, .ref h_t_plan_palette_bits, .ref q_70_t_numbers])), (h_t_plan_palette_bits, .inl (cI, n_t_plan_palette_bits, .inl x70.2.2.1)), (q_70_t_numbers, .inl (cJ, x70.2.2.2.1, .inr (.inl x70.2.2.2.2))), (h_t_plan_map, .inr (1, [.ref h_t_plan_map_parts, .int t_plan_map_count]))] H := hP.sub [0, 1, 3, 4, 5, 2] rfl
            have hD : va_D A [(h_t, .inr (6, [.ref h_t_file, .ref h_t_scanner, .ref h_t_writer, .ref h_t_plan, .int t_scanned, .int t_refusedAt])), (h_t_plan, .inr (3, [.int t_plan_high, .int t_plan_wide, .int t_plan_components, .int t_plan_unknown, .int t_plan_rights, .ref h_t_plan_bits, .int t_plan_colours, .int t_plan_hasProfile, .ref h_t_plan_profile, .ref h_t_plan_palette, .ref h_t_plan_map, .ref h_t_plan_meanings, .ref h_t_plan_capture, .ref h_t_plan_display])), (h_t_plan_palette, .inr (2, [.int x70.1, .int x70.2.1, .ref h_t_plan_palette_bits, .ref q_70_t_numbers])), (h_t_plan_palette_bits, .inl (cI, n_t_plan_palette_bits, .inl x70.2.2.1)), (q_70_t_numbers, .inl (cJ, x70.2.2.2.1, .inr (.inl x70.2.2.2.2))), (h_t_plan_map, .inr (1, [.ref h_t_plan_map_parts, .int t_plan_map_count]))] := hD.sub [0, 1, 3, 4, 5, 2] (by decide) rfl
            refine W.eq (g2 := F0 m 73 ls []) rfl ?_
            have E : k_FB_palette_70 x70 = RES := (congrArg (k_FB_palette_70) hx70).trans E
            refine lv_aload_n hx hb d_FB_palette_73 rfl (lv_at hl 0 rfl) ?_
            refine va_get (D := D) (v := .ref h_t_plan) hx hb hta i_FB hown hK hP 0 rfl rfl 3 (by decide) (hta _ lk_FB_38) (fun _ h9 => h9) rfl d_FB_palette_74 ?_
            refine va_get (D := D) (v := .ref h_t_plan_map) hx hb hta i_Pl hown hK hP 1 rfl rfl 10 (by decide) (hta _ lk_FB_156) (fun _ h9 => h9) rfl d_FB_palette_77 ?_
            refine kc_V (As := []) (rest := []) (wr := [(h_t, .inr (6, [.ref h_t_file, .ref h_t_scanner, .ref h_t_writer, .ref h_t_plan, .int t_scanned, .int t_refusedAt])), (h_t_plan, .inr (3, [.int t_plan_high, .int t_plan_wide, .int t_plan_components, .int t_plan_unknown, .int t_plan_rights, .ref h_t_plan_bits, .int t_plan_colours, .int t_plan_hasProfile, .ref h_t_plan_profile, .ref h_t_plan_palette, .ref h_t_plan_map, .ref h_t_plan_meanings, .ref h_t_plan_capture, .ref h_t_plan_display])), (h_t_plan_palette, .inr (2, [.int x70.1, .int x70.2.1, .ref h_t_plan_palette_bits, .ref q_70_t_numbers])), (h_t_plan_palette_bits, .inl (cI, n_t_plan_palette_bits, .inl x70.2.2.1)), (q_70_t_numbers, .inl (cJ, x70.2.2.2.1, .inr (.inl x70.2.2.2.2)))]) [5] [0, 1, 2, 3, 4] ⟨hx, hb, hml, hown, hta⟩ hK hN hP hD hS hA (c_Li_empty l D cB cI cJ h_t_plan_map h_t_plan_map_parts t_plan_map_count _) (hta _ lk_FB_160) (hta _ ini_Li) (hta _ code_Li_empty) code_Li_empty (hta _ inst_Li_empty) (hta _ sel_Li_empty) hd_Li_empty rfl ⟨by omega, by omega⟩ (ci := 1) 5 rfl rfl rfl rfl (by decide) (by decide) (by decide) rfl hl.1 (lv_room (Nat.le_of_ble_eq_true rfl)) d_FB_palette_80 ⟨by omega, by omega⟩ (fun v w1 H locs hw hP hD hS => ?_)
            obtain ⟨rfl, rfl⟩ := hw
            have hP : va_P D classes [(h_t, .inr (6, [.ref h_t_file, .ref h_t_scanner, .ref h_t_writer, .ref h_t_plan, .int t_scanned, .int t_refusedAt])), (h_t_plan, .inr (3, [.int t_plan_high, .int t_plan_wide, .int t_plan_components, .int t_plan_unknown, .int t_plan_rights, .ref h_t_plan_bits, .int t_plan_colours, .int t_plan_hasProfile, .ref h_t_plan_profile, .ref h_t_plan_palette, .ref h_t_plan_map, .ref h_t_plan_meanings, .ref h_t_plan_capture, .ref h_t_plan_display])), (h_t_plan_palette, .inr (2, [.int x70.1, .int x70.2.1, .ref h_t_plan_palette_bits, .ref q_70_t_numbers])), (h_t_plan_palette_bits, .inl (cI, n_t_plan_palette_bits, .inl x70.2.2.1)), (q_70_t_numbers, .inl (cJ, x70.2.2.2.1, .inr (.inl x70.2.2.2.2))), (h_t_plan_map, .inr (1, [.ref h_t_plan_map_parts, .int 0]))] H := hP.sub [0, 1, 2, 3, 4, 5] rfl
            have hD : va_D A [(h_t, .inr (6, [.ref h_t_file, .ref h_t_scanner, .ref h_t_writer, .ref h_t_plan, .int t_scanned, .int t_refusedAt])), (h_t_plan, .inr (3, [.int t_plan_high, .int t_plan_wide, .int t_plan_components, .int t_plan_unknown, .int t_plan_rights, .ref h_t_plan_bits, .int t_plan_colours, .int t_plan_hasProfile, .ref h_t_plan_profile, .ref h_t_plan_palette, .ref h_t_plan_map, .ref h_t_plan_meanings, .ref h_t_plan_capture, .ref h_t_plan_display])), (h_t_plan_palette, .inr (2, [.int x70.1, .int x70.2.1, .ref h_t_plan_palette_bits, .ref q_70_t_numbers])), (h_t_plan_palette_bits, .inl (cI, n_t_plan_palette_bits, .inl x70.2.2.1)), (q_70_t_numbers, .inl (cJ, x70.2.2.2.1, .inr (.inl x70.2.2.2.2))), (h_t_plan_map, .inr (1, [.ref h_t_plan_map_parts, .int 0]))] := hD.sub [0, 1, 2, 3, 4, 5] (by decide) rfl
            refine W.eq (g2 := F0 m 83 ls []) rfl ?_
            exact kr_vX hx hb hr hlk hQ hK hP hD hS ⟨((0, (x70.1, x70.2.1, x70.2.2.1, x70.2.2.2.1, x70.2.2.2.2, 0)) : Nat × Int32 × Int32 × (Nat → Int32) × Nat × (Nat → Int64) × Int32), q_70_t_numbers, E.trans E0.symm, rfl, rfl⟩ (by omega) (by omega) d_FB_palette_83
          · have E := (if_neg c_48).symm.trans E
            exact kt_of exF_1 exD0_1 exD1_1 exD2_1 exD5_1 xw3_1 xw5_1 exW6_1 exW7_1 hLt hx hb hlk hQ hml hown hta hTh hAs hnh hP hD hS hA hl.1 ⟨((1, (t_plan_palette_entries, t_plan_palette_columns, f_t_plan_palette_bits, n_t_plan_palette_numbers, f_t_plan_palette_numbers, t_plan_map_count)) : Nat × Int32 × Int32 × (Nat → Int32) × Nat × (Nat → Int64) × Int32), h_t_plan_palette_numbers, E.trans E0.symm, rfl, rfl⟩ lk_FB_53 lk_FB_144 d_FB_palette_51 d_FB_palette_54 d_FB_palette_55 d_FB_palette_57 d_FB_palette_60 hRc hRs (by omega) (by omega) (by omega) (by omega)
        · have E := (if_neg c_29).symm.trans E
          exact J_32  E _ _ hP hD hS ls (lv_sub hl [] rfl)
    · have E := (if_neg c_8).symm.trans E
      exact J_11  E _ _ hP hD hS ls (lv_sub hl [] rfl)
theorem d_FB_column_0 : decode b_FB_column 0 = .ok (.iload_n 1, 1) := by decide +kernel
theorem d_FB_column_1 : decode b_FB_column 1 = .ok (.ifCond .lt 17, 3) := by decide +kernel
theorem d_FB_column_4 : decode b_FB_column 4 = .ok (.iload_n 1, 1) := by decide +kernel
theorem d_FB_column_5 : decode b_FB_column 5 = .ok (.aload_n 0, 1) := by decide +kernel
theorem d_FB_column_6 : decode b_FB_column 6 = .ok (.getfield 38, 3) := by decide +kernel
theorem d_FB_column_9 : decode b_FB_column 9 = .ok (.getfield 146, 3) := by decide +kernel
theorem d_FB_column_12 : decode b_FB_column 12 = .ok (.getfield 163, 3) := by decide +kernel
theorem d_FB_column_15 : decode b_FB_column 15 = .ok (.if_icmp .lt 13, 3) := by decide +kernel
theorem d_FB_column_18 : decode b_FB_column 18 = .ok (.new 93, 3) := by decide +kernel
theorem d_FB_column_21 : decode b_FB_column 21 = .ok (.dup, 1) := by decide +kernel
theorem d_FB_column_22 : decode b_FB_column 22 = .ok (.ldc 166, 2) := by decide +kernel
theorem d_FB_column_24 : decode b_FB_column 24 = .ok (.invokespecial 97, 3) := by decide +kernel
theorem d_FB_column_27 : decode b_FB_column 27 = .ok (.athrow, 1) := by decide +kernel
theorem d_FB_column_28 : decode b_FB_column 28 = .ok (.iload_n 2, 1) := by decide +kernel
theorem d_FB_column_29 : decode b_FB_column 29 = .ok (.invokestatic 62, 3) := by decide +kernel
theorem d_FB_column_32 : decode b_FB_column 32 = .ok (.ifCond .ne 13, 3) := by decide +kernel
theorem d_FB_column_35 : decode b_FB_column 35 = .ok (.new 53, 3) := by decide +kernel
theorem d_FB_column_38 : decode b_FB_column 38 = .ok (.dup, 1) := by decide +kernel
theorem d_FB_column_39 : decode b_FB_column 39 = .ok (.ldc 66, 2) := by decide +kernel
theorem d_FB_column_41 : decode b_FB_column 41 = .ok (.invokespecial 57, 3) := by decide +kernel
theorem d_FB_column_44 : decode b_FB_column 44 = .ok (.athrow, 1) := by decide +kernel
theorem d_FB_column_45 : decode b_FB_column 45 = .ok (.aload_n 0, 1) := by decide +kernel
theorem d_FB_column_46 : decode b_FB_column 46 = .ok (.getfield 38, 3) := by decide +kernel
theorem d_FB_column_49 : decode b_FB_column 49 = .ok (.getfield 146, 3) := by decide +kernel
theorem d_FB_column_52 : decode b_FB_column 52 = .ok (.getfield 168, 3) := by decide +kernel
theorem d_FB_column_55 : decode b_FB_column 55 = .ok (.iload_n 1, 1) := by decide +kernel
theorem d_FB_column_56 : decode b_FB_column 56 = .ok (.iload_n 2, 1) := by decide +kernel
theorem d_FB_column_57 : decode b_FB_column 57 = .ok (.invokestatic 98, 3) := by decide +kernel
theorem d_FB_column_60 : decode b_FB_column 60 = .ok (.return_, 1) := by decide +kernel
def j_FB_column_18 (f_t_plan_palette_bits : Nat → Int32) : Nat × ((Nat → Int32)) :=
  (2, f_t_plan_palette_bits)
def k_FB_column_57 (x57 : (Nat → Int32)) : Nat × ((Nat → Int32)) :=
  (0, x57)
def k_FB_column_29 (n_t_plan_palette_bits : Nat) (f_t_plan_palette_bits : Nat → Int32) (p1 : Int32) (p2 : Int32) (x29 : Int32) : Nat × ((Nat → Int32)) :=
  if x29 = 0 then (1, f_t_plan_palette_bits) else (k_FB_column_57 (m_FB_setIn n_t_plan_palette_bits f_t_plan_palette_bits p1 p2))
def m_FB_column (t_plan_palette_columns : Int32) (n_t_plan_palette_bits : Nat) (f_t_plan_palette_bits : Nat → Int32) (p1 : Int32) (p2 : Int32) : Nat × ((Nat → Int32)) :=
  if p1 < 0 then (j_FB_column_18 f_t_plan_palette_bits) else (if p1 < t_plan_palette_columns then (k_FB_column_29 n_t_plan_palette_bits f_t_plan_palette_bits p1 p2 (m_FB_areBits p2)) else (j_FB_column_18 f_t_plan_palette_bits))
set_option maxHeartbeats 4000000 in
set_option maxRecDepth 100000 in
theorem c_FB_column (l : Launch) (D : va_G) (cB cI cJ : ClassId) (h_t h_t_file h_t_scanner h_t_writer h_t_plan h_t_plan_bits h_t_plan_profile h_t_plan_palette h_t_plan_map h_t_plan_meanings h_t_plan_capture h_t_plan_display h_t_plan_palette_bits h_t_plan_palette_numbers : Nat) (t_scanned : Int32) (t_refusedAt : Int32) (t_plan_high : Int32) (t_plan_wide : Int32) (t_plan_components : Int32) (t_plan_unknown : Int32) (t_plan_rights : Int32) (t_plan_colours : Int32) (t_plan_hasProfile : Int32) (t_plan_palette_entries : Int32) (t_plan_palette_columns : Int32) (n_t_plan_palette_bits : Nat) (f_t_plan_palette_bits : Nat → Int32) (p1 : Int32) (p2 : Int32) (hLt : kL l) (hn_t_plan_palette_bits : n_t_plan_palette_bits < 2147483648) (sz : Nat) : CtX l D cB cI cJ y_FB_column b_FB_column 3 none 6 82 1 6 [.ref h_t, .int p1, .int p2] [(h_t, .inr (6, [.ref h_t_file, .ref h_t_scanner, .ref h_t_writer, .ref h_t_plan, .int t_scanned, .int t_refusedAt])), (h_t_plan, .inr (3, [.int t_plan_high, .int t_plan_wide, .int t_plan_components, .int t_plan_unknown, .int t_plan_rights, .ref h_t_plan_bits, .int t_plan_colours, .int t_plan_hasProfile, .ref h_t_plan_profile, .ref h_t_plan_palette, .ref h_t_plan_map, .ref h_t_plan_meanings, .ref h_t_plan_capture, .ref h_t_plan_display])), (h_t_plan_palette, .inr (2, [.int t_plan_palette_entries, .int t_plan_palette_columns, .ref h_t_plan_palette_bits, .ref h_t_plan_palette_numbers])), (h_t_plan_palette_bits, .inl (cI, n_t_plan_palette_bits, .inl f_t_plan_palette_bits))] (fun o w1 => ∃ (x : Nat × ((Nat → Int32))), x = m_FB_column t_plan_palette_columns n_t_plan_palette_bits f_t_plan_palette_bits p1 p2 ∧ kO o x.1 (none) ∧ w1 = [(h_t, .inr (6, [.ref h_t_file, .ref h_t_scanner, .ref h_t_writer, .ref h_t_plan, .int t_scanned, .int t_refusedAt])), (h_t_plan, .inr (3, [.int t_plan_high, .int t_plan_wide, .int t_plan_components, .int t_plan_unknown, .int t_plan_rights, .ref h_t_plan_bits, .int t_plan_colours, .int t_plan_hasProfile, .ref h_t_plan_profile, .ref h_t_plan_palette, .ref h_t_plan_map, .ref h_t_plan_meanings, .ref h_t_plan_capture, .ref h_t_plan_display])), (h_t_plan_palette, .inr (2, [.int t_plan_palette_entries, .int t_plan_palette_columns, .ref h_t_plan_palette_bits, .ref h_t_plan_palette_numbers])), (h_t_plan_palette_bits, .inl (cI, n_t_plan_palette_bits, .inl x.2))]) sz := by
  refine CtX.of (by decide) (Nat.le_of_ble_eq_true rfl) ?_
  intro p e R s m args below meth c A ls Q hx hb hr hlk hml hta hown hin hK hN hA hRf hRl hRc hRs hP hD hS hl hQ hTh hAs hnh
  have hl : lv_has ls 3 [(0, .ref h_t), (1, .int p1), (2, .int p2)] := hl
  obtain ⟨RES, E0⟩ : ∃ R, m_FB_column t_plan_palette_columns n_t_plan_palette_bits f_t_plan_palette_bits p1 p2 = R := ⟨_, rfl⟩
  have E := E0
  refine lv_iload_n hx hb d_FB_column_0 rfl (lv_at hl 1 rfl) ?_
  have J_18 : j_FB_column_18 f_t_plan_palette_bits = RES → ∀ (H : Heap) (locs : List Loc), va_P D classes [(h_t, .inr (6, [.ref h_t_file, .ref h_t_scanner, .ref h_t_writer, .ref h_t_plan, .int t_scanned, .int t_refusedAt])), (h_t_plan, .inr (3, [.int t_plan_high, .int t_plan_wide, .int t_plan_components, .int t_plan_unknown, .int t_plan_rights, .ref h_t_plan_bits, .int t_plan_colours, .int t_plan_hasProfile, .ref h_t_plan_profile, .ref h_t_plan_palette, .ref h_t_plan_map, .ref h_t_plan_meanings, .ref h_t_plan_capture, .ref h_t_plan_display])), (h_t_plan_palette, .inr (2, [.int t_plan_palette_entries, .int t_plan_palette_columns, .ref h_t_plan_palette_bits, .ref h_t_plan_palette_numbers])), (h_t_plan_palette_bits, .inl (cI, n_t_plan_palette_bits, .inl f_t_plan_palette_bits))] H → va_D A [(h_t, .inr (6, [.ref h_t_file, .ref h_t_scanner, .ref h_t_writer, .ref h_t_plan, .int t_scanned, .int t_refusedAt])), (h_t_plan, .inr (3, [.int t_plan_high, .int t_plan_wide, .int t_plan_components, .int t_plan_unknown, .int t_plan_rights, .ref h_t_plan_bits, .int t_plan_colours, .int t_plan_hasProfile, .ref h_t_plan_profile, .ref h_t_plan_palette, .ref h_t_plan_map, .ref h_t_plan_meanings, .ref h_t_plan_capture, .ref h_t_plan_display])), (h_t_plan_palette, .inr (2, [.int t_plan_palette_entries, .int t_plan_palette_columns, .ref h_t_plan_palette_bits, .ref h_t_plan_palette_numbers])), (h_t_plan_palette_bits, .inl (cI, n_t_plan_palette_bits, .inl f_t_plan_palette_bits))] → va_S A s.heap H locs → ∀ ls : Array Slot, lv_has ls 3 [] → W p l e R s m args below meth c H locs 0 0 Q (F0 m 18 ls []) := by
    intro E H locs hP hD hS ls hl
    exact kt_of exF_2 exD0_2 exD1_2 exD2_2 exD5_2 xw3_2 xw5_2 exW6_2 exW7_2 hLt hx hb hlk hQ hml hown hta hTh hAs hnh hP hD hS hA hl.1 ⟨((2, f_t_plan_palette_bits) : Nat × ((Nat → Int32))), E.trans E0.symm, rfl, rfl⟩ lk_FB_93 lk_FB_166 d_FB_column_18 d_FB_column_21 d_FB_column_22 d_FB_column_24 d_FB_column_27 hRc hRs (by omega) (by omega) (by omega) (by omega)
  refine lv_if_lt (tgt := 18) hx hb d_FB_column_1 (by decide) (fun c_1 => ?_) (fun c_1 => ?_)
  · have E := (if_pos c_1).symm.trans E
    exact J_18  E _ _ hP hD hS ls (lv_sub hl [] rfl)
  · have E := (if_neg c_1).symm.trans E
    refine lv_iload_n hx hb d_FB_column_4 rfl (lv_at hl 1 rfl) ?_
    refine lv_aload_n hx hb d_FB_column_5 rfl (lv_at hl 0 rfl) ?_
    refine va_get (D := D) (v := .ref h_t_plan) hx hb hta i_FB hown hK hP 0 rfl rfl 3 (by decide) (hta _ lk_FB_38) (fun _ h9 => h9) rfl d_FB_column_6 ?_
    refine va_get (D := D) (v := .ref h_t_plan_palette) hx hb hta i_Pl hown hK hP 1 rfl rfl 9 (by decide) (hta _ lk_FB_146) (fun _ h9 => h9) rfl d_FB_column_9 ?_
    refine va_get (D := D) (v := .int t_plan_palette_columns) hx hb hta i_Pa hown hK hP 2 rfl rfl 1 (by decide) (hta _ lk_FB_163) (fun _ h9 => h9) rfl d_FB_column_12 ?_
    refine lv_icmp_lt (tgt := 28) hx hb d_FB_column_15 (by decide) (fun c_15 => ?_) (fun c_15 => ?_)
    · have E := (if_pos c_15).symm.trans E
      refine lv_iload_n hx hb d_FB_column_28 rfl (lv_at hl 2 rfl) ?_
      refine kc_S (As := [.int p2]) (rest := []) (wr := [(h_t, .inr (6, [.ref h_t_file, .ref h_t_scanner, .ref h_t_writer, .ref h_t_plan, .int t_scanned, .int t_refusedAt])), (h_t_plan, .inr (3, [.int t_plan_high, .int t_plan_wide, .int t_plan_components, .int t_plan_unknown, .int t_plan_rights, .ref h_t_plan_bits, .int t_plan_colours, .int t_plan_hasProfile, .ref h_t_plan_profile, .ref h_t_plan_palette, .ref h_t_plan_map, .ref h_t_plan_meanings, .ref h_t_plan_capture, .ref h_t_plan_display])), (h_t_plan_palette, .inr (2, [.int t_plan_palette_entries, .int t_plan_palette_columns, .ref h_t_plan_palette_bits, .ref h_t_plan_palette_numbers])), (h_t_plan_palette_bits, .inl (cI, n_t_plan_palette_bits, .inl f_t_plan_palette_bits))]) [] [0, 1, 2, 3] ⟨hx, hb, hml, hown, hta⟩ hK hN hP hD hS hA (c_FB_areBits l D cB cI cJ p2 _) (hta _ lk_FB_62) (hta _ ini_FB) (hta _ code_FB_areBits) code_FB_areBits (hta _ stat_FB_areBits) hd_FB_areBits rfl ⟨by omega, by omega⟩ rfl rfl (by decide) (by decide) (by decide) rfl hl.1 (lv_room (Nat.le_of_ble_eq_true rfl)) d_FB_column_29 ⟨by omega, by omega⟩ (fun v w1 H locs hw hP hD hS => ?_)
      obtain ⟨x29, hx29, rfl, rfl⟩ := hw
      have hP : va_P D classes [(h_t, .inr (6, [.ref h_t_file, .ref h_t_scanner, .ref h_t_writer, .ref h_t_plan, .int t_scanned, .int t_refusedAt])), (h_t_plan, .inr (3, [.int t_plan_high, .int t_plan_wide, .int t_plan_components, .int t_plan_unknown, .int t_plan_rights, .ref h_t_plan_bits, .int t_plan_colours, .int t_plan_hasProfile, .ref h_t_plan_profile, .ref h_t_plan_palette, .ref h_t_plan_map, .ref h_t_plan_meanings, .ref h_t_plan_capture, .ref h_t_plan_display])), (h_t_plan_palette, .inr (2, [.int t_plan_palette_entries, .int t_plan_palette_columns, .ref h_t_plan_palette_bits, .ref h_t_plan_palette_numbers])), (h_t_plan_palette_bits, .inl (cI, n_t_plan_palette_bits, .inl f_t_plan_palette_bits))] H := hP.sub [0, 1, 2, 3] rfl
      have hD : va_D A [(h_t, .inr (6, [.ref h_t_file, .ref h_t_scanner, .ref h_t_writer, .ref h_t_plan, .int t_scanned, .int t_refusedAt])), (h_t_plan, .inr (3, [.int t_plan_high, .int t_plan_wide, .int t_plan_components, .int t_plan_unknown, .int t_plan_rights, .ref h_t_plan_bits, .int t_plan_colours, .int t_plan_hasProfile, .ref h_t_plan_profile, .ref h_t_plan_palette, .ref h_t_plan_map, .ref h_t_plan_meanings, .ref h_t_plan_capture, .ref h_t_plan_display])), (h_t_plan_palette, .inr (2, [.int t_plan_palette_entries, .int t_plan_palette_columns, .ref h_t_plan_palette_bits, .ref h_t_plan_palette_numbers])), (h_t_plan_palette_bits, .inl (cI, n_t_plan_palette_bits, .inl f_t_plan_palette_bits))] := hD.sub [0, 1, 2, 3] (by decide) rfl
      refine W.eq (g2 := F0 m 32 ls [.int x29]) rfl ?_
      have E : k_FB_column_29 n_t_plan_palette_bits f_t_plan_palette_bits p1 p2 x29 = RES := (congrArg (k_FB_column_29 n_t_plan_palette_bits f_t_plan_palette_bits p1 p2) hx29).trans E
      refine lv_if_ne (tgt := 45) hx hb d_FB_column_32 (by decide) (fun c_32 => ?_) (fun c_32 => ?_)
      · have E := (if_neg c_32).symm.trans E
        refine lv_aload_n hx hb d_FB_column_45 rfl (lv_at hl 0 rfl) ?_
        refine va_get (D := D) (v := .ref h_t_plan) hx hb hta i_FB hown hK hP 0 rfl rfl 3 (by decide) (hta _ lk_FB_38) (fun _ h9 => h9) rfl d_FB_column_46 ?_
        refine va_get (D := D) (v := .ref h_t_plan_palette) hx hb hta i_Pl hown hK hP 1 rfl rfl 9 (by decide) (hta _ lk_FB_146) (fun _ h9 => h9) rfl d_FB_column_49 ?_
        refine va_get (D := D) (v := .ref h_t_plan_palette_bits) hx hb hta i_Pa hown hK hP 2 rfl rfl 2 (by decide) (hta _ lk_FB_168) (fun _ h9 => h9) rfl d_FB_column_52 ?_
        refine lv_iload_n hx hb d_FB_column_55 rfl (lv_at hl 1 rfl) ?_
        refine lv_iload_n hx hb d_FB_column_56 rfl (lv_at hl 2 rfl) ?_
        refine kc_S (As := [.ref h_t_plan_palette_bits, .int p1, .int p2]) (rest := []) (wr := [(h_t, .inr (6, [.ref h_t_file, .ref h_t_scanner, .ref h_t_writer, .ref h_t_plan, .int t_scanned, .int t_refusedAt])), (h_t_plan, .inr (3, [.int t_plan_high, .int t_plan_wide, .int t_plan_components, .int t_plan_unknown, .int t_plan_rights, .ref h_t_plan_bits, .int t_plan_colours, .int t_plan_hasProfile, .ref h_t_plan_profile, .ref h_t_plan_palette, .ref h_t_plan_map, .ref h_t_plan_meanings, .ref h_t_plan_capture, .ref h_t_plan_display])), (h_t_plan_palette, .inr (2, [.int t_plan_palette_entries, .int t_plan_palette_columns, .ref h_t_plan_palette_bits, .ref h_t_plan_palette_numbers]))]) [3] [0, 1, 2] ⟨hx, hb, hml, hown, hta⟩ hK hN hP hD hS hA (c_FB_setIn l D cB cI cJ h_t_plan_palette_bits n_t_plan_palette_bits f_t_plan_palette_bits p1 p2 hn_t_plan_palette_bits _) (hta _ lk_FB_98) (hta _ ini_FB) (hta _ code_FB_setIn) code_FB_setIn (hta _ stat_FB_setIn) hd_FB_setIn rfl ⟨by omega, by omega⟩ rfl rfl (by decide) (by decide) (by decide) rfl hl.1 (lv_room (Nat.le_of_ble_eq_true rfl)) d_FB_column_57 ⟨by omega, by omega⟩ (fun v w1 H locs hw hP hD hS => ?_)
        obtain ⟨x57, hx57, rfl, rfl⟩ := hw
        have hP : va_P D classes [(h_t, .inr (6, [.ref h_t_file, .ref h_t_scanner, .ref h_t_writer, .ref h_t_plan, .int t_scanned, .int t_refusedAt])), (h_t_plan, .inr (3, [.int t_plan_high, .int t_plan_wide, .int t_plan_components, .int t_plan_unknown, .int t_plan_rights, .ref h_t_plan_bits, .int t_plan_colours, .int t_plan_hasProfile, .ref h_t_plan_profile, .ref h_t_plan_palette, .ref h_t_plan_map, .ref h_t_plan_meanings, .ref h_t_plan_capture, .ref h_t_plan_display])), (h_t_plan_palette, .inr (2, [.int t_plan_palette_entries, .int t_plan_palette_columns, .ref h_t_plan_palette_bits, .ref h_t_plan_palette_numbers])), (h_t_plan_palette_bits, .inl (cI, n_t_plan_palette_bits, .inl x57))] H := hP.sub [0, 1, 2, 3] rfl
        have hD : va_D A [(h_t, .inr (6, [.ref h_t_file, .ref h_t_scanner, .ref h_t_writer, .ref h_t_plan, .int t_scanned, .int t_refusedAt])), (h_t_plan, .inr (3, [.int t_plan_high, .int t_plan_wide, .int t_plan_components, .int t_plan_unknown, .int t_plan_rights, .ref h_t_plan_bits, .int t_plan_colours, .int t_plan_hasProfile, .ref h_t_plan_profile, .ref h_t_plan_palette, .ref h_t_plan_map, .ref h_t_plan_meanings, .ref h_t_plan_capture, .ref h_t_plan_display])), (h_t_plan_palette, .inr (2, [.int t_plan_palette_entries, .int t_plan_palette_columns, .ref h_t_plan_palette_bits, .ref h_t_plan_palette_numbers])), (h_t_plan_palette_bits, .inl (cI, n_t_plan_palette_bits, .inl x57))] := hD.sub [0, 1, 2, 3] (by decide) rfl
        refine W.eq (g2 := F0 m 60 ls []) rfl ?_
        have E : k_FB_column_57 x57 = RES := (congrArg (k_FB_column_57) hx57).trans E
        exact kr_vX hx hb hr hlk hQ hK hP hD hS ⟨((0, x57) : Nat × ((Nat → Int32))), E.trans E0.symm, rfl, rfl⟩ (by omega) (by omega) d_FB_column_60
      · have E := (if_pos c_32).symm.trans E
        exact kt_of exF_1 exD0_1 exD1_1 exD2_1 exD5_1 xw3_1 xw5_1 exW6_1 exW7_1 hLt hx hb hlk hQ hml hown hta hTh hAs hnh hP hD hS hA hl.1 ⟨((1, f_t_plan_palette_bits) : Nat × ((Nat → Int32))), E.trans E0.symm, rfl, rfl⟩ lk_FB_53 lk_FB_66 d_FB_column_35 d_FB_column_38 d_FB_column_39 d_FB_column_41 d_FB_column_44 hRc hRs (by omega) (by omega) (by omega) (by omega)
    · have E := (if_neg c_15).symm.trans E
      exact J_18  E _ _ hP hD hS ls (lv_sub hl [] rfl)
theorem d_FB_entry_0 : decode b_FB_entry 0 = .ok (.aload_n 0, 1) := by decide +kernel
theorem d_FB_entry_1 : decode b_FB_entry 1 = .ok (.getfield 38, 3) := by decide +kernel
theorem d_FB_entry_4 : decode b_FB_entry 4 = .ok (.getfield 146, 3) := by decide +kernel
theorem d_FB_entry_7 : decode b_FB_entry 7 = .ok (.iload_n 1, 1) := by decide +kernel
theorem d_FB_entry_8 : decode b_FB_entry 8 = .ok (.iload_n 2, 1) := by decide +kernel
theorem d_FB_entry_9 : decode b_FB_entry 9 = .ok (.invokevirtual 169, 3) := by decide +kernel
theorem d_FB_entry_12 : decode b_FB_entry 12 = .ok (.ifCond .ne 13, 3) := by decide +kernel
theorem d_FB_entry_15 : decode b_FB_entry 15 = .ok (.new 93, 3) := by decide +kernel
theorem d_FB_entry_18 : decode b_FB_entry 18 = .ok (.dup, 1) := by decide +kernel
theorem d_FB_entry_19 : decode b_FB_entry 19 = .ok (.ldc 173, 2) := by decide +kernel
theorem d_FB_entry_21 : decode b_FB_entry 21 = .ok (.invokespecial 97, 3) := by decide +kernel
theorem d_FB_entry_24 : decode b_FB_entry 24 = .ok (.athrow, 1) := by decide +kernel
theorem d_FB_entry_25 : decode b_FB_entry 25 = .ok (.lload_n 3, 1) := by decide +kernel
theorem d_FB_entry_26 : decode b_FB_entry 26 = .ok (.aload_n 0, 1) := by decide +kernel
theorem d_FB_entry_27 : decode b_FB_entry 27 = .ok (.getfield 38, 3) := by decide +kernel
theorem d_FB_entry_30 : decode b_FB_entry 30 = .ok (.getfield 146, 3) := by decide +kernel
theorem d_FB_entry_33 : decode b_FB_entry 33 = .ok (.getfield 168, 3) := by decide +kernel
theorem d_FB_entry_36 : decode b_FB_entry 36 = .ok (.iload_n 2, 1) := by decide +kernel
theorem d_FB_entry_37 : decode b_FB_entry 37 = .ok (.invokestatic 175, 3) := by decide +kernel
theorem d_FB_entry_40 : decode b_FB_entry 40 = .ok (.invokestatic 179, 3) := by decide +kernel
theorem d_FB_entry_43 : decode b_FB_entry 43 = .ok (.ifCond .ne 13, 3) := by decide +kernel
theorem d_FB_entry_46 : decode b_FB_entry 46 = .ok (.new 53, 3) := by decide +kernel
theorem d_FB_entry_49 : decode b_FB_entry 49 = .ok (.dup, 1) := by decide +kernel
theorem d_FB_entry_50 : decode b_FB_entry 50 = .ok (.ldc 183, 2) := by decide +kernel
theorem d_FB_entry_52 : decode b_FB_entry 52 = .ok (.invokespecial 57, 3) := by decide +kernel
theorem d_FB_entry_55 : decode b_FB_entry 55 = .ok (.athrow, 1) := by decide +kernel
theorem d_FB_entry_56 : decode b_FB_entry 56 = .ok (.aload_n 0, 1) := by decide +kernel
theorem d_FB_entry_57 : decode b_FB_entry 57 = .ok (.getfield 38, 3) := by decide +kernel
theorem d_FB_entry_60 : decode b_FB_entry 60 = .ok (.getfield 146, 3) := by decide +kernel
theorem d_FB_entry_63 : decode b_FB_entry 63 = .ok (.iload_n 1, 1) := by decide +kernel
theorem d_FB_entry_64 : decode b_FB_entry 64 = .ok (.iload_n 2, 1) := by decide +kernel
theorem d_FB_entry_65 : decode b_FB_entry 65 = .ok (.lload_n 3, 1) := by decide +kernel
theorem d_FB_entry_66 : decode b_FB_entry 66 = .ok (.invokevirtual 185, 3) := by decide +kernel
theorem d_FB_entry_69 : decode b_FB_entry 69 = .ok (.return_, 1) := by decide +kernel
def k_FB_entry_66 (x66 : (Nat → Int64)) : Nat × ((Nat → Int64)) :=
  (0, x66)
def k_FB_entry_40 (t_plan_palette_columns : Int32) (n_t_plan_palette_numbers : Nat) (f_t_plan_palette_numbers : Nat → Int64) (p1 : Int32) (p2 : Int32) (p3 : Int64) (x40 : Int32) : Nat × ((Nat → Int64)) :=
  if x40 = 0 then (1, f_t_plan_palette_numbers) else (k_FB_entry_66 (m_Pa_setNumber t_plan_palette_columns n_t_plan_palette_numbers f_t_plan_palette_numbers p1 p2 p3))
def k_FB_entry_37 (t_plan_palette_columns : Int32) (n_t_plan_palette_numbers : Nat) (f_t_plan_palette_numbers : Nat → Int64) (p1 : Int32) (p2 : Int32) (p3 : Int64) (x37 : Int32) : Nat × ((Nat → Int64)) :=
  k_FB_entry_40 t_plan_palette_columns n_t_plan_palette_numbers f_t_plan_palette_numbers p1 p2 p3 (m_FB_fits p3 x37)
def k_FB_entry_9 (t_plan_palette_columns : Int32) (n_t_plan_palette_bits : Nat) (f_t_plan_palette_bits : Nat → Int32) (n_t_plan_palette_numbers : Nat) (f_t_plan_palette_numbers : Nat → Int64) (p1 : Int32) (p2 : Int32) (p3 : Int64) (x9 : Int32) : Nat × ((Nat → Int64)) :=
  if x9 = 0 then (2, f_t_plan_palette_numbers) else (k_FB_entry_37 t_plan_palette_columns n_t_plan_palette_numbers f_t_plan_palette_numbers p1 p2 p3 (m_FB_valueIn n_t_plan_palette_bits f_t_plan_palette_bits p2))
def m_FB_entry (t_plan_palette_entries : Int32) (t_plan_palette_columns : Int32) (n_t_plan_palette_bits : Nat) (f_t_plan_palette_bits : Nat → Int32) (n_t_plan_palette_numbers : Nat) (f_t_plan_palette_numbers : Nat → Int64) (p1 : Int32) (p2 : Int32) (p3 : Int64) : Nat × ((Nat → Int64)) :=
  k_FB_entry_9 t_plan_palette_columns n_t_plan_palette_bits f_t_plan_palette_bits n_t_plan_palette_numbers f_t_plan_palette_numbers p1 p2 p3 (m_Pa_has t_plan_palette_entries t_plan_palette_columns p1 p2)
set_option maxHeartbeats 4000000 in
set_option maxRecDepth 100000 in
theorem c_FB_entry (l : Launch) (D : va_G) (cB cI cJ : ClassId) (h_t h_t_file h_t_scanner h_t_writer h_t_plan h_t_plan_bits h_t_plan_profile h_t_plan_palette h_t_plan_map h_t_plan_meanings h_t_plan_capture h_t_plan_display h_t_plan_palette_bits h_t_plan_palette_numbers : Nat) (t_scanned : Int32) (t_refusedAt : Int32) (t_plan_high : Int32) (t_plan_wide : Int32) (t_plan_components : Int32) (t_plan_unknown : Int32) (t_plan_rights : Int32) (t_plan_colours : Int32) (t_plan_hasProfile : Int32) (t_plan_palette_entries : Int32) (t_plan_palette_columns : Int32) (n_t_plan_palette_bits : Nat) (f_t_plan_palette_bits : Nat → Int32) (n_t_plan_palette_numbers : Nat) (f_t_plan_palette_numbers : Nat → Int64) (p1 : Int32) (p2 : Int32) (p3 : Int64) (hLt : kL l) (hn_t_plan_palette_bits : n_t_plan_palette_bits < 2147483648) (hn_t_plan_palette_numbers : n_t_plan_palette_numbers < 2147483648) (sz : Nat) : CtX l D cB cI cJ y_FB_entry b_FB_entry 5 none 6 82 1 6 [.ref h_t, .int p1, .int p2, .long p3] [(h_t, .inr (6, [.ref h_t_file, .ref h_t_scanner, .ref h_t_writer, .ref h_t_plan, .int t_scanned, .int t_refusedAt])), (h_t_plan, .inr (3, [.int t_plan_high, .int t_plan_wide, .int t_plan_components, .int t_plan_unknown, .int t_plan_rights, .ref h_t_plan_bits, .int t_plan_colours, .int t_plan_hasProfile, .ref h_t_plan_profile, .ref h_t_plan_palette, .ref h_t_plan_map, .ref h_t_plan_meanings, .ref h_t_plan_capture, .ref h_t_plan_display])), (h_t_plan_palette, .inr (2, [.int t_plan_palette_entries, .int t_plan_palette_columns, .ref h_t_plan_palette_bits, .ref h_t_plan_palette_numbers])), (h_t_plan_palette_bits, .inl (cI, n_t_plan_palette_bits, .inl f_t_plan_palette_bits)), (h_t_plan_palette_numbers, .inl (cJ, n_t_plan_palette_numbers, .inr (.inl f_t_plan_palette_numbers)))] (fun o w1 => ∃ (x : Nat × ((Nat → Int64))), x = m_FB_entry t_plan_palette_entries t_plan_palette_columns n_t_plan_palette_bits f_t_plan_palette_bits n_t_plan_palette_numbers f_t_plan_palette_numbers p1 p2 p3 ∧ kO o x.1 (none) ∧ w1 = [(h_t, .inr (6, [.ref h_t_file, .ref h_t_scanner, .ref h_t_writer, .ref h_t_plan, .int t_scanned, .int t_refusedAt])), (h_t_plan, .inr (3, [.int t_plan_high, .int t_plan_wide, .int t_plan_components, .int t_plan_unknown, .int t_plan_rights, .ref h_t_plan_bits, .int t_plan_colours, .int t_plan_hasProfile, .ref h_t_plan_profile, .ref h_t_plan_palette, .ref h_t_plan_map, .ref h_t_plan_meanings, .ref h_t_plan_capture, .ref h_t_plan_display])), (h_t_plan_palette, .inr (2, [.int t_plan_palette_entries, .int t_plan_palette_columns, .ref h_t_plan_palette_bits, .ref h_t_plan_palette_numbers])), (h_t_plan_palette_bits, .inl (cI, n_t_plan_palette_bits, .inl f_t_plan_palette_bits)), (h_t_plan_palette_numbers, .inl (cJ, n_t_plan_palette_numbers, .inr (.inl x.2)))]) sz := by
  refine CtX.of (by decide) (Nat.le_of_ble_eq_true rfl) ?_
  intro p e R s m args below meth c A ls Q hx hb hr hlk hml hta hown hin hK hN hA hRf hRl hRc hRs hP hD hS hl hQ hTh hAs hnh
  have hl : lv_has ls 5 [(0, .ref h_t), (1, .int p1), (2, .int p2), (3, .long p3)] := hl
  obtain ⟨RES, E0⟩ : ∃ R, m_FB_entry t_plan_palette_entries t_plan_palette_columns n_t_plan_palette_bits f_t_plan_palette_bits n_t_plan_palette_numbers f_t_plan_palette_numbers p1 p2 p3 = R := ⟨_, rfl⟩
  have E := E0
  refine lv_aload_n hx hb d_FB_entry_0 rfl (lv_at hl 0 rfl) ?_
  refine va_get (D := D) (v := .ref h_t_plan) hx hb hta i_FB hown hK hP 0 rfl rfl 3 (by decide) (hta _ lk_FB_38) (fun _ h9 => h9) rfl d_FB_entry_1 ?_
  refine va_get (D := D) (v := .ref h_t_plan_palette) hx hb hta i_Pl hown hK hP 1 rfl rfl 9 (by decide) (hta _ lk_FB_146) (fun _ h9 => h9) rfl d_FB_entry_4 ?_
  refine lv_iload_n hx hb d_FB_entry_7 rfl (lv_at hl 1 rfl) ?_
  refine lv_iload_n hx hb d_FB_entry_8 rfl (lv_at hl 2 rfl) ?_
  refine kc_V (As := [.int p1, .int p2]) (rest := []) (wr := [(h_t, .inr (6, [.ref h_t_file, .ref h_t_scanner, .ref h_t_writer, .ref h_t_plan, .int t_scanned, .int t_refusedAt])), (h_t_plan, .inr (3, [.int t_plan_high, .int t_plan_wide, .int t_plan_components, .int t_plan_unknown, .int t_plan_rights, .ref h_t_plan_bits, .int t_plan_colours, .int t_plan_hasProfile, .ref h_t_plan_profile, .ref h_t_plan_palette, .ref h_t_plan_map, .ref h_t_plan_meanings, .ref h_t_plan_capture, .ref h_t_plan_display])), (h_t_plan_palette_bits, .inl (cI, n_t_plan_palette_bits, .inl f_t_plan_palette_bits)), (h_t_plan_palette_numbers, .inl (cJ, n_t_plan_palette_numbers, .inr (.inl f_t_plan_palette_numbers)))]) [2] [0, 1, 3, 4] ⟨hx, hb, hml, hown, hta⟩ hK hN hP hD hS hA (c_Pa_has l D cB cI cJ h_t_plan_palette h_t_plan_palette_bits h_t_plan_palette_numbers t_plan_palette_entries t_plan_palette_columns p1 p2 _) (hta _ lk_FB_169) (hta _ ini_Pa) (hta _ code_Pa_has) code_Pa_has (hta _ inst_Pa_has) (hta _ sel_Pa_has) hd_Pa_has rfl ⟨by omega, by omega⟩ (ci := 2) 2 rfl rfl rfl rfl (by decide) (by decide) (by decide) rfl hl.1 (lv_room (Nat.le_of_ble_eq_true rfl)) d_FB_entry_9 ⟨by omega, by omega⟩ (fun v w1 H locs hw hP hD hS => ?_)
  obtain ⟨x9, hx9, rfl, rfl⟩ := hw
  have hP : va_P D classes [(h_t, .inr (6, [.ref h_t_file, .ref h_t_scanner, .ref h_t_writer, .ref h_t_plan, .int t_scanned, .int t_refusedAt])), (h_t_plan, .inr (3, [.int t_plan_high, .int t_plan_wide, .int t_plan_components, .int t_plan_unknown, .int t_plan_rights, .ref h_t_plan_bits, .int t_plan_colours, .int t_plan_hasProfile, .ref h_t_plan_profile, .ref h_t_plan_palette, .ref h_t_plan_map, .ref h_t_plan_meanings, .ref h_t_plan_capture, .ref h_t_plan_display])), (h_t_plan_palette, .inr (2, [.int t_plan_palette_entries, .int t_plan_palette_columns, .ref h_t_plan_palette_bits, .ref h_t_plan_palette_numbers])), (h_t_plan_palette_bits, .inl (cI, n_t_plan_palette_bits, .inl f_t_plan_palette_bits)), (h_t_plan_palette_numbers, .inl (cJ, n_t_plan_palette_numbers, .inr (.inl f_t_plan_palette_numbers)))] H := hP.sub [0, 1, 4, 2, 3] rfl
  have hD : va_D A [(h_t, .inr (6, [.ref h_t_file, .ref h_t_scanner, .ref h_t_writer, .ref h_t_plan, .int t_scanned, .int t_refusedAt])), (h_t_plan, .inr (3, [.int t_plan_high, .int t_plan_wide, .int t_plan_components, .int t_plan_unknown, .int t_plan_rights, .ref h_t_plan_bits, .int t_plan_colours, .int t_plan_hasProfile, .ref h_t_plan_profile, .ref h_t_plan_palette, .ref h_t_plan_map, .ref h_t_plan_meanings, .ref h_t_plan_capture, .ref h_t_plan_display])), (h_t_plan_palette, .inr (2, [.int t_plan_palette_entries, .int t_plan_palette_columns, .ref h_t_plan_palette_bits, .ref h_t_plan_palette_numbers])), (h_t_plan_palette_bits, .inl (cI, n_t_plan_palette_bits, .inl f_t_plan_palette_bits)), (h_t_plan_palette_numbers, .inl (cJ, n_t_plan_palette_numbers, .inr (.inl f_t_plan_palette_numbers)))] := hD.sub [0, 1, 4, 2, 3] (by decide) rfl
  refine W.eq (g2 := F0 m 12 ls [.int x9]) rfl ?_
  have E : k_FB_entry_9 t_plan_palette_columns n_t_plan_palette_bits f_t_plan_palette_bits n_t_plan_palette_numbers f_t_plan_palette_numbers p1 p2 p3 x9 = RES := (congrArg (k_FB_entry_9 t_plan_palette_columns n_t_plan_palette_bits f_t_plan_palette_bits n_t_plan_palette_numbers f_t_plan_palette_numbers p1 p2 p3) hx9).trans E
  refine lv_if_ne (tgt := 25) hx hb d_FB_entry_12 (by decide) (fun c_12 => ?_) (fun c_12 => ?_)
  · have E := (if_neg c_12).symm.trans E
    refine lv_lload_n hx hb d_FB_entry_25 rfl (lv_at hl 3 rfl) ?_
    refine lv_aload_n hx hb d_FB_entry_26 rfl (lv_at hl 0 rfl) ?_
    refine va_get (D := D) (v := .ref h_t_plan) hx hb hta i_FB hown hK hP 0 rfl rfl 3 (by decide) (hta _ lk_FB_38) (fun _ h9 => h9) rfl d_FB_entry_27 ?_
    refine va_get (D := D) (v := .ref h_t_plan_palette) hx hb hta i_Pl hown hK hP 1 rfl rfl 9 (by decide) (hta _ lk_FB_146) (fun _ h9 => h9) rfl d_FB_entry_30 ?_
    refine va_get (D := D) (v := .ref h_t_plan_palette_bits) hx hb hta i_Pa hown hK hP 2 rfl rfl 2 (by decide) (hta _ lk_FB_168) (fun _ h9 => h9) rfl d_FB_entry_33 ?_
    refine lv_iload_n hx hb d_FB_entry_36 rfl (lv_at hl 2 rfl) ?_
    refine kc_S (As := [.ref h_t_plan_palette_bits, .int p2]) (rest := [.long p3]) (wr := [(h_t, .inr (6, [.ref h_t_file, .ref h_t_scanner, .ref h_t_writer, .ref h_t_plan, .int t_scanned, .int t_refusedAt])), (h_t_plan, .inr (3, [.int t_plan_high, .int t_plan_wide, .int t_plan_components, .int t_plan_unknown, .int t_plan_rights, .ref h_t_plan_bits, .int t_plan_colours, .int t_plan_hasProfile, .ref h_t_plan_profile, .ref h_t_plan_palette, .ref h_t_plan_map, .ref h_t_plan_meanings, .ref h_t_plan_capture, .ref h_t_plan_display])), (h_t_plan_palette, .inr (2, [.int t_plan_palette_entries, .int t_plan_palette_columns, .ref h_t_plan_palette_bits, .ref h_t_plan_palette_numbers])), (h_t_plan_palette_numbers, .inl (cJ, n_t_plan_palette_numbers, .inr (.inl f_t_plan_palette_numbers)))]) [3] [0, 1, 2, 4] ⟨hx, hb, hml, hown, hta⟩ hK hN hP hD hS hA (c_FB_valueIn l D cB cI cJ h_t_plan_palette_bits n_t_plan_palette_bits f_t_plan_palette_bits p2 hn_t_plan_palette_bits _) (hta _ lk_FB_175) (hta _ ini_FB) (hta _ code_FB_valueIn) code_FB_valueIn (hta _ stat_FB_valueIn) hd_FB_valueIn rfl ⟨by omega, by omega⟩ rfl rfl (by decide) (by decide) (by decide) rfl hl.1 (lv_room (Nat.le_of_ble_eq_true rfl)) d_FB_entry_37 ⟨by omega, by omega⟩ (fun v w1 H locs hw hP hD hS => ?_)
    obtain ⟨x37, hx37, rfl, rfl⟩ := hw
    have hP : va_P D classes [(h_t, .inr (6, [.ref h_t_file, .ref h_t_scanner, .ref h_t_writer, .ref h_t_plan, .int t_scanned, .int t_refusedAt])), (h_t_plan, .inr (3, [.int t_plan_high, .int t_plan_wide, .int t_plan_components, .int t_plan_unknown, .int t_plan_rights, .ref h_t_plan_bits, .int t_plan_colours, .int t_plan_hasProfile, .ref h_t_plan_profile, .ref h_t_plan_palette, .ref h_t_plan_map, .ref h_t_plan_meanings, .ref h_t_plan_capture, .ref h_t_plan_display])), (h_t_plan_palette, .inr (2, [.int t_plan_palette_entries, .int t_plan_palette_columns, .ref h_t_plan_palette_bits, .ref h_t_plan_palette_numbers])), (h_t_plan_palette_bits, .inl (cI, n_t_plan_palette_bits, .inl f_t_plan_palette_bits)), (h_t_plan_palette_numbers, .inl (cJ, n_t_plan_palette_numbers, .inr (.inl f_t_plan_palette_numbers)))] H := hP.sub [0, 1, 2, 4, 3] rfl
    have hD : va_D A [(h_t, .inr (6, [.ref h_t_file, .ref h_t_scanner, .ref h_t_writer, .ref h_t_plan, .int t_scanned, .int t_refusedAt])), (h_t_plan, .inr (3, [.int t_plan_high, .int t_plan_wide, .int t_plan_components, .int t_plan_unknown, .int t_plan_rights, .ref h_t_plan_bits, .int t_plan_colours, .int t_plan_hasProfile, .ref h_t_plan_profile, .ref h_t_plan_palette, .ref h_t_plan_map, .ref h_t_plan_meanings, .ref h_t_plan_capture, .ref h_t_plan_display])), (h_t_plan_palette, .inr (2, [.int t_plan_palette_entries, .int t_plan_palette_columns, .ref h_t_plan_palette_bits, .ref h_t_plan_palette_numbers])), (h_t_plan_palette_bits, .inl (cI, n_t_plan_palette_bits, .inl f_t_plan_palette_bits)), (h_t_plan_palette_numbers, .inl (cJ, n_t_plan_palette_numbers, .inr (.inl f_t_plan_palette_numbers)))] := hD.sub [0, 1, 2, 4, 3] (by decide) rfl
    refine W.eq (g2 := F0 m 40 ls [.int x37, .long p3]) rfl ?_
    have E : k_FB_entry_37 t_plan_palette_columns n_t_plan_palette_numbers f_t_plan_palette_numbers p1 p2 p3 x37 = RES := (congrArg (k_FB_entry_37 t_plan_palette_columns n_t_plan_palette_numbers f_t_plan_palette_numbers p1 p2 p3) hx37).trans E
    refine kc_S (As := [.long p3, .int x37]) (rest := []) (wr := [(h_t, .inr (6, [.ref h_t_file, .ref h_t_scanner, .ref h_t_writer, .ref h_t_plan, .int t_scanned, .int t_refusedAt])), (h_t_plan, .inr (3, [.int t_plan_high, .int t_plan_wide, .int t_plan_components, .int t_plan_unknown, .int t_plan_rights, .ref h_t_plan_bits, .int t_plan_colours, .int t_plan_hasProfile, .ref h_t_plan_profile, .ref h_t_plan_palette, .ref h_t_plan_map, .ref h_t_plan_meanings, .ref h_t_plan_capture, .ref h_t_plan_display])), (h_t_plan_palette, .inr (2, [.int t_plan_palette_entries, .int t_plan_palette_columns, .ref h_t_plan_palette_bits, .ref h_t_plan_palette_numbers])), (h_t_plan_palette_bits, .inl (cI, n_t_plan_palette_bits, .inl f_t_plan_palette_bits)), (h_t_plan_palette_numbers, .inl (cJ, n_t_plan_palette_numbers, .inr (.inl f_t_plan_palette_numbers)))]) [] [0, 1, 2, 3, 4] ⟨hx, hb, hml, hown, hta⟩ hK hN hP hD hS hA (c_FB_fits l D cB cI cJ p3 x37 _) (hta _ lk_FB_179) (hta _ ini_FB) (hta _ code_FB_fits) code_FB_fits (hta _ stat_FB_fits) hd_FB_fits rfl ⟨by omega, by omega⟩ rfl rfl (by decide) (by decide) (by decide) rfl hl.1 (lv_room (Nat.le_of_ble_eq_true rfl)) d_FB_entry_40 ⟨by omega, by omega⟩ (fun v w1 H locs hw hP hD hS => ?_)
    obtain ⟨x40, hx40, rfl, rfl⟩ := hw
    have hP : va_P D classes [(h_t, .inr (6, [.ref h_t_file, .ref h_t_scanner, .ref h_t_writer, .ref h_t_plan, .int t_scanned, .int t_refusedAt])), (h_t_plan, .inr (3, [.int t_plan_high, .int t_plan_wide, .int t_plan_components, .int t_plan_unknown, .int t_plan_rights, .ref h_t_plan_bits, .int t_plan_colours, .int t_plan_hasProfile, .ref h_t_plan_profile, .ref h_t_plan_palette, .ref h_t_plan_map, .ref h_t_plan_meanings, .ref h_t_plan_capture, .ref h_t_plan_display])), (h_t_plan_palette, .inr (2, [.int t_plan_palette_entries, .int t_plan_palette_columns, .ref h_t_plan_palette_bits, .ref h_t_plan_palette_numbers])), (h_t_plan_palette_bits, .inl (cI, n_t_plan_palette_bits, .inl f_t_plan_palette_bits)), (h_t_plan_palette_numbers, .inl (cJ, n_t_plan_palette_numbers, .inr (.inl f_t_plan_palette_numbers)))] H := hP.sub [0, 1, 2, 3, 4] rfl
    have hD : va_D A [(h_t, .inr (6, [.ref h_t_file, .ref h_t_scanner, .ref h_t_writer, .ref h_t_plan, .int t_scanned, .int t_refusedAt])), (h_t_plan, .inr (3, [.int t_plan_high, .int t_plan_wide, .int t_plan_components, .int t_plan_unknown, .int t_plan_rights, .ref h_t_plan_bits, .int t_plan_colours, .int t_plan_hasProfile, .ref h_t_plan_profile, .ref h_t_plan_palette, .ref h_t_plan_map, .ref h_t_plan_meanings, .ref h_t_plan_capture, .ref h_t_plan_display])), (h_t_plan_palette, .inr (2, [.int t_plan_palette_entries, .int t_plan_palette_columns, .ref h_t_plan_palette_bits, .ref h_t_plan_palette_numbers])), (h_t_plan_palette_bits, .inl (cI, n_t_plan_palette_bits, .inl f_t_plan_palette_bits)), (h_t_plan_palette_numbers, .inl (cJ, n_t_plan_palette_numbers, .inr (.inl f_t_plan_palette_numbers)))] := hD.sub [0, 1, 2, 3, 4] (by decide) rfl
    refine W.eq (g2 := F0 m 43 ls [.int x40]) rfl ?_
    have E : k_FB_entry_40 t_plan_palette_columns n_t_plan_palette_numbers f_t_plan_palette_numbers p1 p2 p3 x40 = RES := (congrArg (k_FB_entry_40 t_plan_palette_columns n_t_plan_palette_numbers f_t_plan_palette_numbers p1 p2 p3) hx40).trans E
    refine lv_if_ne (tgt := 56) hx hb d_FB_entry_43 (by decide) (fun c_43 => ?_) (fun c_43 => ?_)
    · have E := (if_neg c_43).symm.trans E
      refine lv_aload_n hx hb d_FB_entry_56 rfl (lv_at hl 0 rfl) ?_
      refine va_get (D := D) (v := .ref h_t_plan) hx hb hta i_FB hown hK hP 0 rfl rfl 3 (by decide) (hta _ lk_FB_38) (fun _ h9 => h9) rfl d_FB_entry_57 ?_
      refine va_get (D := D) (v := .ref h_t_plan_palette) hx hb hta i_Pl hown hK hP 1 rfl rfl 9 (by decide) (hta _ lk_FB_146) (fun _ h9 => h9) rfl d_FB_entry_60 ?_
      refine lv_iload_n hx hb d_FB_entry_63 rfl (lv_at hl 1 rfl) ?_
      refine lv_iload_n hx hb d_FB_entry_64 rfl (lv_at hl 2 rfl) ?_
      refine lv_lload_n hx hb d_FB_entry_65 rfl (lv_at hl 3 rfl) ?_
      refine kc_V (As := [.int p1, .int p2, .long p3]) (rest := []) (wr := [(h_t, .inr (6, [.ref h_t_file, .ref h_t_scanner, .ref h_t_writer, .ref h_t_plan, .int t_scanned, .int t_refusedAt])), (h_t_plan, .inr (3, [.int t_plan_high, .int t_plan_wide, .int t_plan_components, .int t_plan_unknown, .int t_plan_rights, .ref h_t_plan_bits, .int t_plan_colours, .int t_plan_hasProfile, .ref h_t_plan_profile, .ref h_t_plan_palette, .ref h_t_plan_map, .ref h_t_plan_meanings, .ref h_t_plan_capture, .ref h_t_plan_display])), (h_t_plan_palette_bits, .inl (cI, n_t_plan_palette_bits, .inl f_t_plan_palette_bits))]) [2, 4] [0, 1, 3] ⟨hx, hb, hml, hown, hta⟩ hK hN hP hD hS hA (c_Pa_setNumber l D cB cI cJ h_t_plan_palette h_t_plan_palette_bits h_t_plan_palette_numbers t_plan_palette_entries t_plan_palette_columns n_t_plan_palette_numbers f_t_plan_palette_numbers p1 p2 p3 hn_t_plan_palette_numbers _) (hta _ lk_FB_185) (hta _ ini_Pa) (hta _ code_Pa_setNumber) code_Pa_setNumber (hta _ inst_Pa_setNumber) (hta _ sel_Pa_setNumber) hd_Pa_setNumber rfl ⟨by omega, by omega⟩ (ci := 2) 2 rfl rfl rfl rfl (by decide) (by decide) (by decide) rfl hl.1 (lv_room (Nat.le_of_ble_eq_true rfl)) d_FB_entry_66 ⟨by omega, by omega⟩ (fun v w1 H locs hw hP hD hS => ?_)
      obtain ⟨x66, hx66, rfl, rfl⟩ := hw
      have hP : va_P D classes [(h_t, .inr (6, [.ref h_t_file, .ref h_t_scanner, .ref h_t_writer, .ref h_t_plan, .int t_scanned, .int t_refusedAt])), (h_t_plan, .inr (3, [.int t_plan_high, .int t_plan_wide, .int t_plan_components, .int t_plan_unknown, .int t_plan_rights, .ref h_t_plan_bits, .int t_plan_colours, .int t_plan_hasProfile, .ref h_t_plan_profile, .ref h_t_plan_palette, .ref h_t_plan_map, .ref h_t_plan_meanings, .ref h_t_plan_capture, .ref h_t_plan_display])), (h_t_plan_palette, .inr (2, [.int t_plan_palette_entries, .int t_plan_palette_columns, .ref h_t_plan_palette_bits, .ref h_t_plan_palette_numbers])), (h_t_plan_palette_bits, .inl (cI, n_t_plan_palette_bits, .inl f_t_plan_palette_bits)), (h_t_plan_palette_numbers, .inl (cJ, n_t_plan_palette_numbers, .inr (.inl x66)))] H := hP.sub [0, 1, 3, 2, 4] rfl
      have hD : va_D A [(h_t, .inr (6, [.ref h_t_file, .ref h_t_scanner, .ref h_t_writer, .ref h_t_plan, .int t_scanned, .int t_refusedAt])), (h_t_plan, .inr (3, [.int t_plan_high, .int t_plan_wide, .int t_plan_components, .int t_plan_unknown, .int t_plan_rights, .ref h_t_plan_bits, .int t_plan_colours, .int t_plan_hasProfile, .ref h_t_plan_profile, .ref h_t_plan_palette, .ref h_t_plan_map, .ref h_t_plan_meanings, .ref h_t_plan_capture, .ref h_t_plan_display])), (h_t_plan_palette, .inr (2, [.int t_plan_palette_entries, .int t_plan_palette_columns, .ref h_t_plan_palette_bits, .ref h_t_plan_palette_numbers])), (h_t_plan_palette_bits, .inl (cI, n_t_plan_palette_bits, .inl f_t_plan_palette_bits)), (h_t_plan_palette_numbers, .inl (cJ, n_t_plan_palette_numbers, .inr (.inl x66)))] := hD.sub [0, 1, 3, 2, 4] (by decide) rfl
      refine W.eq (g2 := F0 m 69 ls []) rfl ?_
      have E : k_FB_entry_66 x66 = RES := (congrArg (k_FB_entry_66) hx66).trans E
      exact kr_vX hx hb hr hlk hQ hK hP hD hS ⟨((0, x66) : Nat × ((Nat → Int64))), E.trans E0.symm, rfl, rfl⟩ (by omega) (by omega) d_FB_entry_69
    · have E := (if_pos c_43).symm.trans E
      exact kt_of exF_1 exD0_1 exD1_1 exD2_1 exD5_1 xw3_1 xw5_1 exW6_1 exW7_1 hLt hx hb hlk hQ hml hown hta hTh hAs hnh hP hD hS hA hl.1 ⟨((1, f_t_plan_palette_numbers) : Nat × ((Nat → Int64))), E.trans E0.symm, rfl, rfl⟩ lk_FB_53 lk_FB_183 d_FB_entry_46 d_FB_entry_49 d_FB_entry_50 d_FB_entry_52 d_FB_entry_55 hRc hRs (by omega) (by omega) (by omega) (by omega)
  · have E := (if_pos c_12).symm.trans E
    exact kt_of exF_2 exD0_2 exD1_2 exD2_2 exD5_2 xw3_2 xw5_2 exW6_2 exW7_2 hLt hx hb hlk hQ hml hown hta hTh hAs hnh hP hD hS hA hl.1 ⟨((2, f_t_plan_palette_numbers) : Nat × ((Nat → Int64))), E.trans E0.symm, rfl, rfl⟩ lk_FB_93 lk_FB_173 d_FB_entry_15 d_FB_entry_18 d_FB_entry_19 d_FB_entry_21 d_FB_entry_24 hRc hRs (by omega) (by omega) (by omega) (by omega)
theorem d_FB_map_0 : decode b_FB_map 0 = .ok (.aload_n 0, 1) := by decide +kernel
theorem d_FB_map_1 : decode b_FB_map 1 = .ok (.getfield 38, 3) := by decide +kernel
theorem d_FB_map_4 : decode b_FB_map 4 = .ok (.getfield 146, 3) := by decide +kernel
theorem d_FB_map_7 : decode b_FB_map 7 = .ok (.getfield 189, 3) := by decide +kernel
theorem d_FB_map_10 : decode b_FB_map 10 = .ok (.ifCond .eq 18, 3) := by decide +kernel
theorem d_FB_map_13 : decode b_FB_map 13 = .ok (.aload_n 0, 1) := by decide +kernel
theorem d_FB_map_14 : decode b_FB_map 14 = .ok (.getfield 38, 3) := by decide +kernel
theorem d_FB_map_17 : decode b_FB_map 17 = .ok (.getfield 156, 3) := by decide +kernel
theorem d_FB_map_20 : decode b_FB_map 20 = .ok (.getfield 192, 3) := by decide +kernel
theorem d_FB_map_23 : decode b_FB_map 23 = .ok (.bipush 16, 2) := by decide +kernel
theorem d_FB_map_25 : decode b_FB_map 25 = .ok (.if_icmp .lt 13, 3) := by decide +kernel
theorem d_FB_map_28 : decode b_FB_map 28 = .ok (.new 113, 3) := by decide +kernel
theorem d_FB_map_31 : decode b_FB_map 31 = .ok (.dup, 1) := by decide +kernel
theorem d_FB_map_32 : decode b_FB_map 32 = .ok (.ldc 193, 2) := by decide +kernel
theorem d_FB_map_34 : decode b_FB_map 34 = .ok (.invokespecial 117, 3) := by decide +kernel
theorem d_FB_map_37 : decode b_FB_map 37 = .ok (.athrow, 1) := by decide +kernel
theorem d_FB_map_38 : decode b_FB_map 38 = .ok (.iload_n 1, 1) := by decide +kernel
theorem d_FB_map_39 : decode b_FB_map 39 = .ok (.ifCond .lt 9, 3) := by decide +kernel
theorem d_FB_map_42 : decode b_FB_map 42 = .ok (.iload_n 1, 1) := by decide +kernel
theorem d_FB_map_43 : decode b_FB_map 43 = .ok (.bipush 16, 2) := by decide +kernel
theorem d_FB_map_45 : decode b_FB_map 45 = .ok (.if_icmp .lt 13, 3) := by decide +kernel
theorem d_FB_map_48 : decode b_FB_map 48 = .ok (.new 53, 3) := by decide +kernel
theorem d_FB_map_51 : decode b_FB_map 51 = .ok (.dup, 1) := by decide +kernel
theorem d_FB_map_52 : decode b_FB_map 52 = .ok (.ldc 195, 2) := by decide +kernel
theorem d_FB_map_54 : decode b_FB_map 54 = .ok (.invokespecial 57, 3) := by decide +kernel
theorem d_FB_map_57 : decode b_FB_map 57 = .ok (.athrow, 1) := by decide +kernel
theorem d_FB_map_58 : decode b_FB_map 58 = .ok (.iload_n 2, 1) := by decide +kernel
theorem d_FB_map_59 : decode b_FB_map 59 = .ok (.iload_n 3, 1) := by decide +kernel
theorem d_FB_map_60 : decode b_FB_map 60 = .ok (.aload_n 0, 1) := by decide +kernel
theorem d_FB_map_61 : decode b_FB_map 61 = .ok (.getfield 38, 3) := by decide +kernel
theorem d_FB_map_64 : decode b_FB_map 64 = .ok (.getfield 146, 3) := by decide +kernel
theorem d_FB_map_67 : decode b_FB_map 67 = .ok (.getfield 163, 3) := by decide +kernel
theorem d_FB_map_70 : decode b_FB_map 70 = .ok (.invokestatic 197, 3) := by decide +kernel
theorem d_FB_map_73 : decode b_FB_map 73 = .ok (.ifCond .ne 13, 3) := by decide +kernel
theorem d_FB_map_76 : decode b_FB_map 76 = .ok (.new 53, 3) := by decide +kernel
theorem d_FB_map_79 : decode b_FB_map 79 = .ok (.dup, 1) := by decide +kernel
theorem d_FB_map_80 : decode b_FB_map 80 = .ok (.ldc 201, 2) := by decide +kernel
theorem d_FB_map_82 : decode b_FB_map 82 = .ok (.invokespecial 57, 3) := by decide +kernel
theorem d_FB_map_85 : decode b_FB_map 85 = .ok (.athrow, 1) := by decide +kernel
theorem d_FB_map_86 : decode b_FB_map 86 = .ok (.aload_n 0, 1) := by decide +kernel
theorem d_FB_map_87 : decode b_FB_map 87 = .ok (.getfield 38, 3) := by decide +kernel
theorem d_FB_map_90 : decode b_FB_map 90 = .ok (.getfield 156, 3) := by decide +kernel
theorem d_FB_map_93 : decode b_FB_map 93 = .ok (.iload_n 1, 1) := by decide +kernel
theorem d_FB_map_94 : decode b_FB_map 94 = .ok (.iload_n 2, 1) := by decide +kernel
theorem d_FB_map_95 : decode b_FB_map 95 = .ok (.iload_n 3, 1) := by decide +kernel
theorem d_FB_map_96 : decode b_FB_map 96 = .ok (.invokevirtual 203, 3) := by decide +kernel
theorem d_FB_map_99 : decode b_FB_map 99 = .ok (.aload_n 0, 1) := by decide +kernel
theorem d_FB_map_100 : decode b_FB_map 100 = .ok (.getfield 38, 3) := by decide +kernel
theorem d_FB_map_103 : decode b_FB_map 103 = .ok (.getfield 156, 3) := by decide +kernel
theorem d_FB_map_106 : decode b_FB_map 106 = .ok (.getfield 192, 3) := by decide +kernel
theorem d_FB_map_109 : decode b_FB_map 109 = .ok (.ireturn, 1) := by decide +kernel
def j_FB_map_28 (t_plan_map_count : Int32) (f_t_plan_map_parts : Nat → Int32) : Nat × Int32 × Int32 × (Nat → Int32) :=
  (3, (0, t_plan_map_count, f_t_plan_map_parts))
def j_FB_map_48 (t_plan_map_count : Int32) (f_t_plan_map_parts : Nat → Int32) : Nat × Int32 × Int32 × (Nat → Int32) :=
  (1, (0, t_plan_map_count, f_t_plan_map_parts))
def k_FB_map_96 (x96 : Int32 × (Nat → Int32)) : Nat × Int32 × Int32 × (Nat → Int32) :=
  (0, (x96.1, x96.1, x96.2))
def k_FB_map_70 (t_plan_map_count : Int32) (n_t_plan_map_parts : Nat) (f_t_plan_map_parts : Nat → Int32) (p1 : Int32) (p2 : Int32) (p3 : Int32) (x70 : Int32) : Nat × Int32 × Int32 × (Nat → Int32) :=
  if x70 = 0 then ((1, (0, t_plan_map_count, f_t_plan_map_parts))) else (k_FB_map_96 (m_Li_add t_plan_map_count n_t_plan_map_parts f_t_plan_map_parts p1 p2 p3))
def m_FB_map (t_plan_palette_entries : Int32) (t_plan_palette_columns : Int32) (t_plan_map_count : Int32) (n_t_plan_map_parts : Nat) (f_t_plan_map_parts : Nat → Int32) (p1 : Int32) (p2 : Int32) (p3 : Int32) : Nat × Int32 × Int32 × (Nat → Int32) :=
  if t_plan_palette_entries = 0 then (j_FB_map_28 t_plan_map_count f_t_plan_map_parts) else (if t_plan_map_count < 16 then (if p1 < 0 then (j_FB_map_48 t_plan_map_count f_t_plan_map_parts) else (if p1 < 16 then (k_FB_map_70 t_plan_map_count n_t_plan_map_parts f_t_plan_map_parts p1 p2 p3 (m_FB_isWay p2 p3 t_plan_palette_columns)) else (j_FB_map_48 t_plan_map_count f_t_plan_map_parts))) else (j_FB_map_28 t_plan_map_count f_t_plan_map_parts))
set_option maxHeartbeats 4000000 in
set_option maxRecDepth 100000 in
theorem c_FB_map (l : Launch) (D : va_G) (cB cI cJ : ClassId) (h_t h_t_file h_t_scanner h_t_writer h_t_plan h_t_plan_bits h_t_plan_profile h_t_plan_palette h_t_plan_map h_t_plan_meanings h_t_plan_capture h_t_plan_display h_t_plan_palette_bits h_t_plan_palette_numbers h_t_plan_map_parts : Nat) (t_scanned : Int32) (t_refusedAt : Int32) (t_plan_high : Int32) (t_plan_wide : Int32) (t_plan_components : Int32) (t_plan_unknown : Int32) (t_plan_rights : Int32) (t_plan_colours : Int32) (t_plan_hasProfile : Int32) (t_plan_palette_entries : Int32) (t_plan_palette_columns : Int32) (t_plan_map_count : Int32) (n_t_plan_map_parts : Nat) (f_t_plan_map_parts : Nat → Int32) (p1 : Int32) (p2 : Int32) (p3 : Int32) (hLt : kL l) (hn_t_plan_map_parts : n_t_plan_map_parts < 2147483648) (sz : Nat) : CtX l D cB cI cJ y_FB_map b_FB_map 4 (some .int) 6 82 1 6 [.ref h_t, .int p1, .int p2, .int p3] [(h_t, .inr (6, [.ref h_t_file, .ref h_t_scanner, .ref h_t_writer, .ref h_t_plan, .int t_scanned, .int t_refusedAt])), (h_t_plan, .inr (3, [.int t_plan_high, .int t_plan_wide, .int t_plan_components, .int t_plan_unknown, .int t_plan_rights, .ref h_t_plan_bits, .int t_plan_colours, .int t_plan_hasProfile, .ref h_t_plan_profile, .ref h_t_plan_palette, .ref h_t_plan_map, .ref h_t_plan_meanings, .ref h_t_plan_capture, .ref h_t_plan_display])), (h_t_plan_palette, .inr (2, [.int t_plan_palette_entries, .int t_plan_palette_columns, .ref h_t_plan_palette_bits, .ref h_t_plan_palette_numbers])), (h_t_plan_map, .inr (1, [.ref h_t_plan_map_parts, .int t_plan_map_count])), (h_t_plan_map_parts, .inl (cI, n_t_plan_map_parts, .inl f_t_plan_map_parts))] (fun o w1 => ∃ (x : Nat × Int32 × Int32 × (Nat → Int32)), x = m_FB_map t_plan_palette_entries t_plan_palette_columns t_plan_map_count n_t_plan_map_parts f_t_plan_map_parts p1 p2 p3 ∧ kO o x.1 (some (.int x.2.1)) ∧ w1 = [(h_t, .inr (6, [.ref h_t_file, .ref h_t_scanner, .ref h_t_writer, .ref h_t_plan, .int t_scanned, .int t_refusedAt])), (h_t_plan, .inr (3, [.int t_plan_high, .int t_plan_wide, .int t_plan_components, .int t_plan_unknown, .int t_plan_rights, .ref h_t_plan_bits, .int t_plan_colours, .int t_plan_hasProfile, .ref h_t_plan_profile, .ref h_t_plan_palette, .ref h_t_plan_map, .ref h_t_plan_meanings, .ref h_t_plan_capture, .ref h_t_plan_display])), (h_t_plan_palette, .inr (2, [.int t_plan_palette_entries, .int t_plan_palette_columns, .ref h_t_plan_palette_bits, .ref h_t_plan_palette_numbers])), (h_t_plan_map, .inr (1, [.ref h_t_plan_map_parts, .int x.2.2.1])), (h_t_plan_map_parts, .inl (cI, n_t_plan_map_parts, .inl x.2.2.2))]) sz := by
  refine CtX.of (by decide) (Nat.le_of_ble_eq_true rfl) ?_
  intro p e R s m args below meth c A ls Q hx hb hr hlk hml hta hown hin hK hN hA hRf hRl hRc hRs hP hD hS hl hQ hTh hAs hnh
  have hl : lv_has ls 4 [(0, .ref h_t), (1, .int p1), (2, .int p2), (3, .int p3)] := hl
  obtain ⟨RES, E0⟩ : ∃ R, m_FB_map t_plan_palette_entries t_plan_palette_columns t_plan_map_count n_t_plan_map_parts f_t_plan_map_parts p1 p2 p3 = R := ⟨_, rfl⟩
  have E := E0
  refine lv_aload_n hx hb d_FB_map_0 rfl (lv_at hl 0 rfl) ?_
  refine va_get (D := D) (v := .ref h_t_plan) hx hb hta i_FB hown hK hP 0 rfl rfl 3 (by decide) (hta _ lk_FB_38) (fun _ h9 => h9) rfl d_FB_map_1 ?_
  refine va_get (D := D) (v := .ref h_t_plan_palette) hx hb hta i_Pl hown hK hP 1 rfl rfl 9 (by decide) (hta _ lk_FB_146) (fun _ h9 => h9) rfl d_FB_map_4 ?_
  refine va_get (D := D) (v := .int t_plan_palette_entries) hx hb hta i_Pa hown hK hP 2 rfl rfl 0 (by decide) (hta _ lk_FB_189) (fun _ h9 => h9) rfl d_FB_map_7 ?_
  have J_28 : j_FB_map_28 t_plan_map_count f_t_plan_map_parts = RES → ∀ (H : Heap) (locs : List Loc), va_P D classes [(h_t, .inr (6, [.ref h_t_file, .ref h_t_scanner, .ref h_t_writer, .ref h_t_plan, .int t_scanned, .int t_refusedAt])), (h_t_plan, .inr (3, [.int t_plan_high, .int t_plan_wide, .int t_plan_components, .int t_plan_unknown, .int t_plan_rights, .ref h_t_plan_bits, .int t_plan_colours, .int t_plan_hasProfile, .ref h_t_plan_profile, .ref h_t_plan_palette, .ref h_t_plan_map, .ref h_t_plan_meanings, .ref h_t_plan_capture, .ref h_t_plan_display])), (h_t_plan_palette, .inr (2, [.int t_plan_palette_entries, .int t_plan_palette_columns, .ref h_t_plan_palette_bits, .ref h_t_plan_palette_numbers])), (h_t_plan_map, .inr (1, [.ref h_t_plan_map_parts, .int t_plan_map_count])), (h_t_plan_map_parts, .inl (cI, n_t_plan_map_parts, .inl f_t_plan_map_parts))] H → va_D A [(h_t, .inr (6, [.ref h_t_file, .ref h_t_scanner, .ref h_t_writer, .ref h_t_plan, .int t_scanned, .int t_refusedAt])), (h_t_plan, .inr (3, [.int t_plan_high, .int t_plan_wide, .int t_plan_components, .int t_plan_unknown, .int t_plan_rights, .ref h_t_plan_bits, .int t_plan_colours, .int t_plan_hasProfile, .ref h_t_plan_profile, .ref h_t_plan_palette, .ref h_t_plan_map, .ref h_t_plan_meanings, .ref h_t_plan_capture, .ref h_t_plan_display])), (h_t_plan_palette, .inr (2, [.int t_plan_palette_entries, .int t_plan_palette_columns, .ref h_t_plan_palette_bits, .ref h_t_plan_palette_numbers])), (h_t_plan_map, .inr (1, [.ref h_t_plan_map_parts, .int t_plan_map_count])), (h_t_plan_map_parts, .inl (cI, n_t_plan_map_parts, .inl f_t_plan_map_parts))] → va_S A s.heap H locs → ∀ ls : Array Slot, lv_has ls 4 [] → W p l e R s m args below meth c H locs 0 0 Q (F0 m 28 ls []) := by
    intro E H locs hP hD hS ls hl
    exact kt_of exF_3 exD0_3 exD1_3 exD2_3 exD5_3 xw3_3 xw5_3 exW6_3 exW7_3 hLt hx hb hlk hQ hml hown hta hTh hAs hnh hP hD hS hA hl.1 ⟨((3, (0, t_plan_map_count, f_t_plan_map_parts)) : Nat × Int32 × Int32 × (Nat → Int32)), E.trans E0.symm, rfl, rfl⟩ lk_FB_113 lk_FB_193 d_FB_map_28 d_FB_map_31 d_FB_map_32 d_FB_map_34 d_FB_map_37 hRc hRs (by omega) (by omega) (by omega) (by omega)
  refine lv_if_eq (tgt := 28) hx hb d_FB_map_10 (by decide) (fun c_10 => ?_) (fun c_10 => ?_)
  · have E := (if_pos c_10).symm.trans E
    exact J_28  E _ _ hP hD hS ls (lv_sub hl [] rfl)
  · have E := (if_neg c_10).symm.trans E
    refine lv_aload_n hx hb d_FB_map_13 rfl (lv_at hl 0 rfl) ?_
    refine va_get (D := D) (v := .ref h_t_plan) hx hb hta i_FB hown hK hP 0 rfl rfl 3 (by decide) (hta _ lk_FB_38) (fun _ h9 => h9) rfl d_FB_map_14 ?_
    refine va_get (D := D) (v := .ref h_t_plan_map) hx hb hta i_Pl hown hK hP 1 rfl rfl 10 (by decide) (hta _ lk_FB_156) (fun _ h9 => h9) rfl d_FB_map_17 ?_
    refine va_get (D := D) (v := .int t_plan_map_count) hx hb hta i_Li hown hK hP 3 rfl rfl 1 (by decide) (hta _ lk_FB_192) (fun _ h9 => h9) rfl d_FB_map_20 ?_
    refine lv_bipush (v := 16) hx hb d_FB_map_23 (by decide) ?_
    refine lv_icmp_lt (tgt := 38) hx hb d_FB_map_25 (by decide) (fun c_25 => ?_) (fun c_25 => ?_)
    · have E := (if_pos c_25).symm.trans E
      refine lv_iload_n hx hb d_FB_map_38 rfl (lv_at hl 1 rfl) ?_
      have J_48 : j_FB_map_48 t_plan_map_count f_t_plan_map_parts = RES → ∀ (H : Heap) (locs : List Loc), va_P D classes [(h_t, .inr (6, [.ref h_t_file, .ref h_t_scanner, .ref h_t_writer, .ref h_t_plan, .int t_scanned, .int t_refusedAt])), (h_t_plan, .inr (3, [.int t_plan_high, .int t_plan_wide, .int t_plan_components, .int t_plan_unknown, .int t_plan_rights, .ref h_t_plan_bits, .int t_plan_colours, .int t_plan_hasProfile, .ref h_t_plan_profile, .ref h_t_plan_palette, .ref h_t_plan_map, .ref h_t_plan_meanings, .ref h_t_plan_capture, .ref h_t_plan_display])), (h_t_plan_palette, .inr (2, [.int t_plan_palette_entries, .int t_plan_palette_columns, .ref h_t_plan_palette_bits, .ref h_t_plan_palette_numbers])), (h_t_plan_map, .inr (1, [.ref h_t_plan_map_parts, .int t_plan_map_count])), (h_t_plan_map_parts, .inl (cI, n_t_plan_map_parts, .inl f_t_plan_map_parts))] H → va_D A [(h_t, .inr (6, [.ref h_t_file, .ref h_t_scanner, .ref h_t_writer, .ref h_t_plan, .int t_scanned, .int t_refusedAt])), (h_t_plan, .inr (3, [.int t_plan_high, .int t_plan_wide, .int t_plan_components, .int t_plan_unknown, .int t_plan_rights, .ref h_t_plan_bits, .int t_plan_colours, .int t_plan_hasProfile, .ref h_t_plan_profile, .ref h_t_plan_palette, .ref h_t_plan_map, .ref h_t_plan_meanings, .ref h_t_plan_capture, .ref h_t_plan_display])), (h_t_plan_palette, .inr (2, [.int t_plan_palette_entries, .int t_plan_palette_columns, .ref h_t_plan_palette_bits, .ref h_t_plan_palette_numbers])), (h_t_plan_map, .inr (1, [.ref h_t_plan_map_parts, .int t_plan_map_count])), (h_t_plan_map_parts, .inl (cI, n_t_plan_map_parts, .inl f_t_plan_map_parts))] → va_S A s.heap H locs → ∀ ls : Array Slot, lv_has ls 4 [] → W p l e R s m args below meth c H locs 0 0 Q (F0 m 48 ls []) := by
        intro E H locs hP hD hS ls hl
        exact kt_of exF_1 exD0_1 exD1_1 exD2_1 exD5_1 xw3_1 xw5_1 exW6_1 exW7_1 hLt hx hb hlk hQ hml hown hta hTh hAs hnh hP hD hS hA hl.1 ⟨((1, (0, t_plan_map_count, f_t_plan_map_parts)) : Nat × Int32 × Int32 × (Nat → Int32)), E.trans E0.symm, rfl, rfl⟩ lk_FB_53 lk_FB_195 d_FB_map_48 d_FB_map_51 d_FB_map_52 d_FB_map_54 d_FB_map_57 hRc hRs (by omega) (by omega) (by omega) (by omega)
      refine lv_if_lt (tgt := 48) hx hb d_FB_map_39 (by decide) (fun c_39 => ?_) (fun c_39 => ?_)
      · have E := (if_pos c_39).symm.trans E
        exact J_48  E _ _ hP hD hS ls (lv_sub hl [] rfl)
      · have E := (if_neg c_39).symm.trans E
        refine lv_iload_n hx hb d_FB_map_42 rfl (lv_at hl 1 rfl) ?_
        refine lv_bipush (v := 16) hx hb d_FB_map_43 (by decide) ?_
        refine lv_icmp_lt (tgt := 58) hx hb d_FB_map_45 (by decide) (fun c_45 => ?_) (fun c_45 => ?_)
        · have E := (if_pos c_45).symm.trans E
          refine lv_iload_n hx hb d_FB_map_58 rfl (lv_at hl 2 rfl) ?_
          refine lv_iload_n hx hb d_FB_map_59 rfl (lv_at hl 3 rfl) ?_
          refine lv_aload_n hx hb d_FB_map_60 rfl (lv_at hl 0 rfl) ?_
          refine va_get (D := D) (v := .ref h_t_plan) hx hb hta i_FB hown hK hP 0 rfl rfl 3 (by decide) (hta _ lk_FB_38) (fun _ h9 => h9) rfl d_FB_map_61 ?_
          refine va_get (D := D) (v := .ref h_t_plan_palette) hx hb hta i_Pl hown hK hP 1 rfl rfl 9 (by decide) (hta _ lk_FB_146) (fun _ h9 => h9) rfl d_FB_map_64 ?_
          refine va_get (D := D) (v := .int t_plan_palette_columns) hx hb hta i_Pa hown hK hP 2 rfl rfl 1 (by decide) (hta _ lk_FB_163) (fun _ h9 => h9) rfl d_FB_map_67 ?_
          refine kc_S (As := [.int p2, .int p3, .int t_plan_palette_columns]) (rest := []) (wr := [(h_t, .inr (6, [.ref h_t_file, .ref h_t_scanner, .ref h_t_writer, .ref h_t_plan, .int t_scanned, .int t_refusedAt])), (h_t_plan, .inr (3, [.int t_plan_high, .int t_plan_wide, .int t_plan_components, .int t_plan_unknown, .int t_plan_rights, .ref h_t_plan_bits, .int t_plan_colours, .int t_plan_hasProfile, .ref h_t_plan_profile, .ref h_t_plan_palette, .ref h_t_plan_map, .ref h_t_plan_meanings, .ref h_t_plan_capture, .ref h_t_plan_display])), (h_t_plan_palette, .inr (2, [.int t_plan_palette_entries, .int t_plan_palette_columns, .ref h_t_plan_palette_bits, .ref h_t_plan_palette_numbers])), (h_t_plan_map, .inr (1, [.ref h_t_plan_map_parts, .int t_plan_map_count])), (h_t_plan_map_parts, .inl (cI, n_t_plan_map_parts, .inl f_t_plan_map_parts))]) [] [0, 1, 2, 3, 4] ⟨hx, hb, hml, hown, hta⟩ hK hN hP hD hS hA (c_FB_isWay l D cB cI cJ p2 p3 t_plan_palette_columns _) (hta _ lk_FB_197) (hta _ ini_FB) (hta _ code_FB_isWay) code_FB_isWay (hta _ stat_FB_isWay) hd_FB_isWay rfl ⟨by omega, by omega⟩ rfl rfl (by decide) (by decide) (by decide) rfl hl.1 (lv_room (Nat.le_of_ble_eq_true rfl)) d_FB_map_70 ⟨by omega, by omega⟩ (fun v w1 H locs hw hP hD hS => ?_)
          obtain ⟨x70, hx70, rfl, rfl⟩ := hw
          have hP : va_P D classes [(h_t, .inr (6, [.ref h_t_file, .ref h_t_scanner, .ref h_t_writer, .ref h_t_plan, .int t_scanned, .int t_refusedAt])), (h_t_plan, .inr (3, [.int t_plan_high, .int t_plan_wide, .int t_plan_components, .int t_plan_unknown, .int t_plan_rights, .ref h_t_plan_bits, .int t_plan_colours, .int t_plan_hasProfile, .ref h_t_plan_profile, .ref h_t_plan_palette, .ref h_t_plan_map, .ref h_t_plan_meanings, .ref h_t_plan_capture, .ref h_t_plan_display])), (h_t_plan_palette, .inr (2, [.int t_plan_palette_entries, .int t_plan_palette_columns, .ref h_t_plan_palette_bits, .ref h_t_plan_palette_numbers])), (h_t_plan_map, .inr (1, [.ref h_t_plan_map_parts, .int t_plan_map_count])), (h_t_plan_map_parts, .inl (cI, n_t_plan_map_parts, .inl f_t_plan_map_parts))] H := hP.sub [0, 1, 2, 3, 4] rfl
          have hD : va_D A [(h_t, .inr (6, [.ref h_t_file, .ref h_t_scanner, .ref h_t_writer, .ref h_t_plan, .int t_scanned, .int t_refusedAt])), (h_t_plan, .inr (3, [.int t_plan_high, .int t_plan_wide, .int t_plan_components, .int t_plan_unknown, .int t_plan_rights, .ref h_t_plan_bits, .int t_plan_colours, .int t_plan_hasProfile, .ref h_t_plan_profile, .ref h_t_plan_palette, .ref h_t_plan_map, .ref h_t_plan_meanings, .ref h_t_plan_capture, .ref h_t_plan_display])), (h_t_plan_palette, .inr (2, [.int t_plan_palette_entries, .int t_plan_palette_columns, .ref h_t_plan_palette_bits, .ref h_t_plan_palette_numbers])), (h_t_plan_map, .inr (1, [.ref h_t_plan_map_parts, .int t_plan_map_count])), (h_t_plan_map_parts, .inl (cI, n_t_plan_map_parts, .inl f_t_plan_map_parts))] := hD.sub [0, 1, 2, 3, 4] (by decide) rfl
          refine W.eq (g2 := F0 m 73 ls [.int x70]) rfl ?_
          have E : k_FB_map_70 t_plan_map_count n_t_plan_map_parts f_t_plan_map_parts p1 p2 p3 x70 = RES := (congrArg (k_FB_map_70 t_plan_map_count n_t_plan_map_parts f_t_plan_map_parts p1 p2 p3) hx70).trans E
          refine lv_if_ne (tgt := 86) hx hb d_FB_map_73 (by decide) (fun c_73 => ?_) (fun c_73 => ?_)
          · have E := (if_neg c_73).symm.trans E
            refine lv_aload_n hx hb d_FB_map_86 rfl (lv_at hl 0 rfl) ?_
            refine va_get (D := D) (v := .ref h_t_plan) hx hb hta i_FB hown hK hP 0 rfl rfl 3 (by decide) (hta _ lk_FB_38) (fun _ h9 => h9) rfl d_FB_map_87 ?_
            refine va_get (D := D) (v := .ref h_t_plan_map) hx hb hta i_Pl hown hK hP 1 rfl rfl 10 (by decide) (hta _ lk_FB_156) (fun _ h9 => h9) rfl d_FB_map_90 ?_
            refine lv_iload_n hx hb d_FB_map_93 rfl (lv_at hl 1 rfl) ?_
            refine lv_iload_n hx hb d_FB_map_94 rfl (lv_at hl 2 rfl) ?_
            refine lv_iload_n hx hb d_FB_map_95 rfl (lv_at hl 3 rfl) ?_
            refine kc_V (As := [.int p1, .int p2, .int p3]) (rest := []) (wr := [(h_t, .inr (6, [.ref h_t_file, .ref h_t_scanner, .ref h_t_writer, .ref h_t_plan, .int t_scanned, .int t_refusedAt])), (h_t_plan, .inr (3, [.int t_plan_high, .int t_plan_wide, .int t_plan_components, .int t_plan_unknown, .int t_plan_rights, .ref h_t_plan_bits, .int t_plan_colours, .int t_plan_hasProfile, .ref h_t_plan_profile, .ref h_t_plan_palette, .ref h_t_plan_map, .ref h_t_plan_meanings, .ref h_t_plan_capture, .ref h_t_plan_display])), (h_t_plan_palette, .inr (2, [.int t_plan_palette_entries, .int t_plan_palette_columns, .ref h_t_plan_palette_bits, .ref h_t_plan_palette_numbers]))]) [3, 4] [0, 1, 2] ⟨hx, hb, hml, hown, hta⟩ hK hN hP hD hS hA (c_Li_add l D cB cI cJ h_t_plan_map h_t_plan_map_parts t_plan_map_count n_t_plan_map_parts f_t_plan_map_parts p1 p2 p3 hn_t_plan_map_parts _) (hta _ lk_FB_203) (hta _ ini_Li) (hta _ code_Li_add) code_Li_add (hta _ inst_Li_add) (hta _ sel_Li_add) hd_Li_add rfl ⟨by omega, by omega⟩ (ci := 1) 3 rfl rfl rfl rfl (by decide) (by decide) (by decide) rfl hl.1 (lv_room (Nat.le_of_ble_eq_true rfl)) d_FB_map_96 ⟨by omega, by omega⟩ (fun v w1 H locs hw hP hD hS => ?_)
            obtain ⟨x96, hx96, rfl, rfl⟩ := hw
            have hP : va_P D classes [(h_t, .inr (6, [.ref h_t_file, .ref h_t_scanner, .ref h_t_writer, .ref h_t_plan, .int t_scanned, .int t_refusedAt])), (h_t_plan, .inr (3, [.int t_plan_high, .int t_plan_wide, .int t_plan_components, .int t_plan_unknown, .int t_plan_rights, .ref h_t_plan_bits, .int t_plan_colours, .int t_plan_hasProfile, .ref h_t_plan_profile, .ref h_t_plan_palette, .ref h_t_plan_map, .ref h_t_plan_meanings, .ref h_t_plan_capture, .ref h_t_plan_display])), (h_t_plan_palette, .inr (2, [.int t_plan_palette_entries, .int t_plan_palette_columns, .ref h_t_plan_palette_bits, .ref h_t_plan_palette_numbers])), (h_t_plan_map, .inr (1, [.ref h_t_plan_map_parts, .int x96.1])), (h_t_plan_map_parts, .inl (cI, n_t_plan_map_parts, .inl x96.2))] H := hP.sub [0, 1, 2, 3, 4] rfl
            have hD : va_D A [(h_t, .inr (6, [.ref h_t_file, .ref h_t_scanner, .ref h_t_writer, .ref h_t_plan, .int t_scanned, .int t_refusedAt])), (h_t_plan, .inr (3, [.int t_plan_high, .int t_plan_wide, .int t_plan_components, .int t_plan_unknown, .int t_plan_rights, .ref h_t_plan_bits, .int t_plan_colours, .int t_plan_hasProfile, .ref h_t_plan_profile, .ref h_t_plan_palette, .ref h_t_plan_map, .ref h_t_plan_meanings, .ref h_t_plan_capture, .ref h_t_plan_display])), (h_t_plan_palette, .inr (2, [.int t_plan_palette_entries, .int t_plan_palette_columns, .ref h_t_plan_palette_bits, .ref h_t_plan_palette_numbers])), (h_t_plan_map, .inr (1, [.ref h_t_plan_map_parts, .int x96.1])), (h_t_plan_map_parts, .inl (cI, n_t_plan_map_parts, .inl x96.2))] := hD.sub [0, 1, 2, 3, 4] (by decide) rfl
            refine W.eq (g2 := F0 m 99 ls []) rfl ?_
            have E : k_FB_map_96 x96 = RES := (congrArg (k_FB_map_96) hx96).trans E
            refine lv_aload_n hx hb d_FB_map_99 rfl (lv_at hl 0 rfl) ?_
            refine va_get (D := D) (v := .ref h_t_plan) hx hb hta i_FB hown hK hP 0 rfl rfl 3 (by decide) (hta _ lk_FB_38) (fun _ h9 => h9) rfl d_FB_map_100 ?_
            refine va_get (D := D) (v := .ref h_t_plan_map) hx hb hta i_Pl hown hK hP 1 rfl rfl 10 (by decide) (hta _ lk_FB_156) (fun _ h9 => h9) rfl d_FB_map_103 ?_
            refine va_get (D := D) (v := .int x96.1) hx hb hta i_Li hown hK hP 3 rfl rfl 1 (by decide) (hta _ lk_FB_192) (fun _ h9 => h9) rfl d_FB_map_106 ?_
            exact kr_iX hx hb hr hlk hQ hK hP hD hS ⟨((0, (x96.1, x96.1, x96.2)) : Nat × Int32 × Int32 × (Nat → Int32)), E.trans E0.symm, rfl, rfl⟩ (by omega) (by omega) d_FB_map_109
          · have E := (if_pos c_73).symm.trans E
            exact kt_of exF_1 exD0_1 exD1_1 exD2_1 exD5_1 xw3_1 xw5_1 exW6_1 exW7_1 hLt hx hb hlk hQ hml hown hta hTh hAs hnh hP hD hS hA hl.1 ⟨((1, (0, t_plan_map_count, f_t_plan_map_parts)) : Nat × Int32 × Int32 × (Nat → Int32)), E.trans E0.symm, rfl, rfl⟩ lk_FB_53 lk_FB_201 d_FB_map_76 d_FB_map_79 d_FB_map_80 d_FB_map_82 d_FB_map_85 hRc hRs (by omega) (by omega) (by omega) (by omega)
        · have E := (if_neg c_45).symm.trans E
          exact J_48  E _ _ hP hD hS ls (lv_sub hl [] rfl)
    · have E := (if_neg c_25).symm.trans E
      exact J_28  E _ _ hP hD hS ls (lv_sub hl [] rfl)
theorem d_FB_channel_0 : decode b_FB_channel 0 = .ok (.iload_n 1, 1) := by decide +kernel
theorem d_FB_channel_1 : decode b_FB_channel 1 = .ok (.ifCond .lt 9, 3) := by decide +kernel
theorem d_FB_channel_4 : decode b_FB_channel 4 = .ok (.iload_n 1, 1) := by decide +kernel
theorem d_FB_channel_5 : decode b_FB_channel 5 = .ok (.bipush 16, 2) := by decide +kernel
theorem d_FB_channel_7 : decode b_FB_channel 7 = .ok (.if_icmp .lt 13, 3) := by decide +kernel
theorem d_FB_channel_10 : decode b_FB_channel 10 = .ok (.new 53, 3) := by decide +kernel
theorem d_FB_channel_13 : decode b_FB_channel 13 = .ok (.dup, 1) := by decide +kernel
theorem d_FB_channel_14 : decode b_FB_channel 14 = .ok (.ldc 206, 2) := by decide +kernel
theorem d_FB_channel_16 : decode b_FB_channel 16 = .ok (.invokespecial 57, 3) := by decide +kernel
theorem d_FB_channel_19 : decode b_FB_channel 19 = .ok (.athrow, 1) := by decide +kernel
theorem d_FB_channel_20 : decode b_FB_channel 20 = .ok (.iload_n 2, 1) := by decide +kernel
theorem d_FB_channel_21 : decode b_FB_channel 21 = .ok (.invokestatic 208, 3) := by decide +kernel
theorem d_FB_channel_24 : decode b_FB_channel 24 = .ok (.ifCond .eq 13, 3) := by decide +kernel
theorem d_FB_channel_27 : decode b_FB_channel 27 = .ok (.iload_n 3, 1) := by decide +kernel
theorem d_FB_channel_28 : decode b_FB_channel 28 = .ok (.ifCond .lt 9, 3) := by decide +kernel
theorem d_FB_channel_31 : decode b_FB_channel 31 = .ok (.iload_n 3, 1) := by decide +kernel
theorem d_FB_channel_32 : decode b_FB_channel 32 = .ok (.ldc 211, 2) := by decide +kernel
theorem d_FB_channel_34 : decode b_FB_channel 34 = .ok (.if_icmp .le 13, 3) := by decide +kernel
theorem d_FB_channel_37 : decode b_FB_channel 37 = .ok (.new 53, 3) := by decide +kernel
theorem d_FB_channel_40 : decode b_FB_channel 40 = .ok (.dup, 1) := by decide +kernel
theorem d_FB_channel_41 : decode b_FB_channel 41 = .ok (.ldc 212, 2) := by decide +kernel
theorem d_FB_channel_43 : decode b_FB_channel 43 = .ok (.invokespecial 57, 3) := by decide +kernel
theorem d_FB_channel_46 : decode b_FB_channel 46 = .ok (.athrow, 1) := by decide +kernel
theorem d_FB_channel_47 : decode b_FB_channel 47 = .ok (.aload_n 0, 1) := by decide +kernel
theorem d_FB_channel_48 : decode b_FB_channel 48 = .ok (.getfield 38, 3) := by decide +kernel
theorem d_FB_channel_51 : decode b_FB_channel 51 = .ok (.getfield 214, 3) := by decide +kernel
theorem d_FB_channel_54 : decode b_FB_channel 54 = .ok (.getfield 192, 3) := by decide +kernel
theorem d_FB_channel_57 : decode b_FB_channel 57 = .ok (.bipush 16, 2) := by decide +kernel
theorem d_FB_channel_59 : decode b_FB_channel 59 = .ok (.if_icmp .ge 17, 3) := by decide +kernel
theorem d_FB_channel_62 : decode b_FB_channel 62 = .ok (.aload_n 0, 1) := by decide +kernel
theorem d_FB_channel_63 : decode b_FB_channel 63 = .ok (.getfield 38, 3) := by decide +kernel
theorem d_FB_channel_66 : decode b_FB_channel 66 = .ok (.getfield 214, 3) := by decide +kernel
theorem d_FB_channel_69 : decode b_FB_channel 69 = .ok (.iload_n 1, 1) := by decide +kernel
theorem d_FB_channel_70 : decode b_FB_channel 70 = .ok (.invokevirtual 217, 3) := by decide +kernel
theorem d_FB_channel_73 : decode b_FB_channel 73 = .ok (.ifCond .eq 13, 3) := by decide +kernel
theorem d_FB_channel_76 : decode b_FB_channel 76 = .ok (.new 113, 3) := by decide +kernel
theorem d_FB_channel_79 : decode b_FB_channel 79 = .ok (.dup, 1) := by decide +kernel
theorem d_FB_channel_80 : decode b_FB_channel 80 = .ok (.ldc 220, 2) := by decide +kernel
theorem d_FB_channel_82 : decode b_FB_channel 82 = .ok (.invokespecial 117, 3) := by decide +kernel
theorem d_FB_channel_85 : decode b_FB_channel 85 = .ok (.athrow, 1) := by decide +kernel
theorem d_FB_channel_86 : decode b_FB_channel 86 = .ok (.aload_n 0, 1) := by decide +kernel
theorem d_FB_channel_87 : decode b_FB_channel 87 = .ok (.getfield 38, 3) := by decide +kernel
theorem d_FB_channel_90 : decode b_FB_channel 90 = .ok (.getfield 214, 3) := by decide +kernel
theorem d_FB_channel_93 : decode b_FB_channel 93 = .ok (.iload_n 1, 1) := by decide +kernel
theorem d_FB_channel_94 : decode b_FB_channel 94 = .ok (.iload_n 2, 1) := by decide +kernel
theorem d_FB_channel_95 : decode b_FB_channel 95 = .ok (.iload_n 3, 1) := by decide +kernel
theorem d_FB_channel_96 : decode b_FB_channel 96 = .ok (.invokevirtual 203, 3) := by decide +kernel
theorem d_FB_channel_99 : decode b_FB_channel 99 = .ok (.aload_n 0, 1) := by decide +kernel
theorem d_FB_channel_100 : decode b_FB_channel 100 = .ok (.getfield 38, 3) := by decide +kernel
theorem d_FB_channel_103 : decode b_FB_channel 103 = .ok (.getfield 214, 3) := by decide +kernel
theorem d_FB_channel_106 : decode b_FB_channel 106 = .ok (.getfield 192, 3) := by decide +kernel
theorem d_FB_channel_109 : decode b_FB_channel 109 = .ok (.ireturn, 1) := by decide +kernel
def j_FB_channel_10 (t_plan_meanings_count : Int32) (f_t_plan_meanings_parts : Nat → Int32) : Nat × Int32 × Int32 × (Nat → Int32) :=
  (1, (0, t_plan_meanings_count, f_t_plan_meanings_parts))
def j_FB_channel_37 (t_plan_meanings_count : Int32) (f_t_plan_meanings_parts : Nat → Int32) : Nat × Int32 × Int32 × (Nat → Int32) :=
  (1, (0, t_plan_meanings_count, f_t_plan_meanings_parts))
def j_FB_channel_76 (t_plan_meanings_count : Int32) (f_t_plan_meanings_parts : Nat → Int32) : Nat × Int32 × Int32 × (Nat → Int32) :=
  (3, (0, t_plan_meanings_count, f_t_plan_meanings_parts))
def k_FB_channel_96 (x96 : Int32 × (Nat → Int32)) : Nat × Int32 × Int32 × (Nat → Int32) :=
  (0, (x96.1, x96.1, x96.2))
def k_FB_channel_70 (t_plan_meanings_count : Int32) (n_t_plan_meanings_parts : Nat) (f_t_plan_meanings_parts : Nat → Int32) (p1 : Int32) (p2 : Int32) (p3 : Int32) (x70 : Int32) : Nat × Int32 × Int32 × (Nat → Int32) :=
  if x70 = 0 then (k_FB_channel_96 (m_Li_add t_plan_meanings_count n_t_plan_meanings_parts f_t_plan_meanings_parts p1 p2 p3)) else (j_FB_channel_76 t_plan_meanings_count f_t_plan_meanings_parts)
def k_FB_channel_21 (t_plan_meanings_count : Int32) (n_t_plan_meanings_parts : Nat) (f_t_plan_meanings_parts : Nat → Int32) (p1 : Int32) (p2 : Int32) (p3 : Int32) (x21 : Int32) : Nat × Int32 × Int32 × (Nat → Int32) :=
  if x21 = 0 then (j_FB_channel_37 t_plan_meanings_count f_t_plan_meanings_parts) else (if p3 < 0 then (j_FB_channel_37 t_plan_meanings_count f_t_plan_meanings_parts) else (if p3 ≤ 65535 then (if 16 ≤ t_plan_meanings_count then (j_FB_channel_76 t_plan_meanings_count f_t_plan_meanings_parts) else (k_FB_channel_70 t_plan_meanings_count n_t_plan_meanings_parts f_t_plan_meanings_parts p1 p2 p3 (m_Li_tells t_plan_meanings_count n_t_plan_meanings_parts f_t_plan_meanings_parts p1))) else (j_FB_channel_37 t_plan_meanings_count f_t_plan_meanings_parts)))
def m_FB_channel (t_plan_meanings_count : Int32) (n_t_plan_meanings_parts : Nat) (f_t_plan_meanings_parts : Nat → Int32) (p1 : Int32) (p2 : Int32) (p3 : Int32) : Nat × Int32 × Int32 × (Nat → Int32) :=
  if p1 < 0 then (j_FB_channel_10 t_plan_meanings_count f_t_plan_meanings_parts) else (if p1 < 16 then (k_FB_channel_21 t_plan_meanings_count n_t_plan_meanings_parts f_t_plan_meanings_parts p1 p2 p3 (m_FB_isType p2)) else (j_FB_channel_10 t_plan_meanings_count f_t_plan_meanings_parts))
set_option maxHeartbeats 4000000 in
set_option maxRecDepth 100000 in
theorem c_FB_channel (l : Launch) (D : va_G) (cB cI cJ : ClassId) (h_t h_t_file h_t_scanner h_t_writer h_t_plan h_t_plan_bits h_t_plan_profile h_t_plan_palette h_t_plan_map h_t_plan_meanings h_t_plan_capture h_t_plan_display h_t_plan_meanings_parts : Nat) (t_scanned : Int32) (t_refusedAt : Int32) (t_plan_high : Int32) (t_plan_wide : Int32) (t_plan_components : Int32) (t_plan_unknown : Int32) (t_plan_rights : Int32) (t_plan_colours : Int32) (t_plan_hasProfile : Int32) (t_plan_meanings_count : Int32) (n_t_plan_meanings_parts : Nat) (f_t_plan_meanings_parts : Nat → Int32) (p1 : Int32) (p2 : Int32) (p3 : Int32) (hLt : kL l) (hn_t_plan_meanings_parts : n_t_plan_meanings_parts < 2147483648) (sz : Nat) : CtX l D cB cI cJ y_FB_channel b_FB_channel 4 (some .int) 6 82 1 6 [.ref h_t, .int p1, .int p2, .int p3] [(h_t, .inr (6, [.ref h_t_file, .ref h_t_scanner, .ref h_t_writer, .ref h_t_plan, .int t_scanned, .int t_refusedAt])), (h_t_plan, .inr (3, [.int t_plan_high, .int t_plan_wide, .int t_plan_components, .int t_plan_unknown, .int t_plan_rights, .ref h_t_plan_bits, .int t_plan_colours, .int t_plan_hasProfile, .ref h_t_plan_profile, .ref h_t_plan_palette, .ref h_t_plan_map, .ref h_t_plan_meanings, .ref h_t_plan_capture, .ref h_t_plan_display])), (h_t_plan_meanings, .inr (1, [.ref h_t_plan_meanings_parts, .int t_plan_meanings_count])), (h_t_plan_meanings_parts, .inl (cI, n_t_plan_meanings_parts, .inl f_t_plan_meanings_parts))] (fun o w1 => ∃ (x : Nat × Int32 × Int32 × (Nat → Int32)), x = m_FB_channel t_plan_meanings_count n_t_plan_meanings_parts f_t_plan_meanings_parts p1 p2 p3 ∧ kO o x.1 (some (.int x.2.1)) ∧ w1 = [(h_t, .inr (6, [.ref h_t_file, .ref h_t_scanner, .ref h_t_writer, .ref h_t_plan, .int t_scanned, .int t_refusedAt])), (h_t_plan, .inr (3, [.int t_plan_high, .int t_plan_wide, .int t_plan_components, .int t_plan_unknown, .int t_plan_rights, .ref h_t_plan_bits, .int t_plan_colours, .int t_plan_hasProfile, .ref h_t_plan_profile, .ref h_t_plan_palette, .ref h_t_plan_map, .ref h_t_plan_meanings, .ref h_t_plan_capture, .ref h_t_plan_display])), (h_t_plan_meanings, .inr (1, [.ref h_t_plan_meanings_parts, .int x.2.2.1])), (h_t_plan_meanings_parts, .inl (cI, n_t_plan_meanings_parts, .inl x.2.2.2))]) sz := by
  refine CtX.of (by decide) (Nat.le_of_ble_eq_true rfl) ?_
  intro p e R s m args below meth c A ls Q hx hb hr hlk hml hta hown hin hK hN hA hRf hRl hRc hRs hP hD hS hl hQ hTh hAs hnh
  have hl : lv_has ls 4 [(0, .ref h_t), (1, .int p1), (2, .int p2), (3, .int p3)] := hl
  obtain ⟨RES, E0⟩ : ∃ R, m_FB_channel t_plan_meanings_count n_t_plan_meanings_parts f_t_plan_meanings_parts p1 p2 p3 = R := ⟨_, rfl⟩
  have E := E0
  refine lv_iload_n hx hb d_FB_channel_0 rfl (lv_at hl 1 rfl) ?_
  have J_10 : j_FB_channel_10 t_plan_meanings_count f_t_plan_meanings_parts = RES → ∀ (H : Heap) (locs : List Loc), va_P D classes [(h_t, .inr (6, [.ref h_t_file, .ref h_t_scanner, .ref h_t_writer, .ref h_t_plan, .int t_scanned, .int t_refusedAt])), (h_t_plan, .inr (3, [.int t_plan_high, .int t_plan_wide, .int t_plan_components, .int t_plan_unknown, .int t_plan_rights, .ref h_t_plan_bits, .int t_plan_colours, .int t_plan_hasProfile, .ref h_t_plan_profile, .ref h_t_plan_palette, .ref h_t_plan_map, .ref h_t_plan_meanings, .ref h_t_plan_capture, .ref h_t_plan_display])), (h_t_plan_meanings, .inr (1, [.ref h_t_plan_meanings_parts, .int t_plan_meanings_count])), (h_t_plan_meanings_parts, .inl (cI, n_t_plan_meanings_parts, .inl f_t_plan_meanings_parts))] H → va_D A [(h_t, .inr (6, [.ref h_t_file, .ref h_t_scanner, .ref h_t_writer, .ref h_t_plan, .int t_scanned, .int t_refusedAt])), (h_t_plan, .inr (3, [.int t_plan_high, .int t_plan_wide, .int t_plan_components, .int t_plan_unknown, .int t_plan_rights, .ref h_t_plan_bits, .int t_plan_colours, .int t_plan_hasProfile, .ref h_t_plan_profile, .ref h_t_plan_palette, .ref h_t_plan_map, .ref h_t_plan_meanings, .ref h_t_plan_capture, .ref h_t_plan_display])), (h_t_plan_meanings, .inr (1, [.ref h_t_plan_meanings_parts, .int t_plan_meanings_count])), (h_t_plan_meanings_parts, .inl (cI, n_t_plan_meanings_parts, .inl f_t_plan_meanings_parts))] → va_S A s.heap H locs → ∀ ls : Array Slot, lv_has ls 4 [] → W p l e R s m args below meth c H locs 0 0 Q (F0 m 10 ls []) := by
    intro E H locs hP hD hS ls hl
    exact kt_of exF_1 exD0_1 exD1_1 exD2_1 exD5_1 xw3_1 xw5_1 exW6_1 exW7_1 hLt hx hb hlk hQ hml hown hta hTh hAs hnh hP hD hS hA hl.1 ⟨((1, (0, t_plan_meanings_count, f_t_plan_meanings_parts)) : Nat × Int32 × Int32 × (Nat → Int32)), E.trans E0.symm, rfl, rfl⟩ lk_FB_53 lk_FB_206 d_FB_channel_10 d_FB_channel_13 d_FB_channel_14 d_FB_channel_16 d_FB_channel_19 hRc hRs (by omega) (by omega) (by omega) (by omega)
  refine lv_if_lt (tgt := 10) hx hb d_FB_channel_1 (by decide) (fun c_1 => ?_) (fun c_1 => ?_)
  · have E := (if_pos c_1).symm.trans E
    exact J_10  E _ _ hP hD hS ls (lv_sub hl [] rfl)
  · have E := (if_neg c_1).symm.trans E
    refine lv_iload_n hx hb d_FB_channel_4 rfl (lv_at hl 1 rfl) ?_
    refine lv_bipush (v := 16) hx hb d_FB_channel_5 (by decide) ?_
    refine lv_icmp_lt (tgt := 20) hx hb d_FB_channel_7 (by decide) (fun c_7 => ?_) (fun c_7 => ?_)
    · have E := (if_pos c_7).symm.trans E
      refine lv_iload_n hx hb d_FB_channel_20 rfl (lv_at hl 2 rfl) ?_
      refine kc_S (As := [.int p2]) (rest := []) (wr := [(h_t, .inr (6, [.ref h_t_file, .ref h_t_scanner, .ref h_t_writer, .ref h_t_plan, .int t_scanned, .int t_refusedAt])), (h_t_plan, .inr (3, [.int t_plan_high, .int t_plan_wide, .int t_plan_components, .int t_plan_unknown, .int t_plan_rights, .ref h_t_plan_bits, .int t_plan_colours, .int t_plan_hasProfile, .ref h_t_plan_profile, .ref h_t_plan_palette, .ref h_t_plan_map, .ref h_t_plan_meanings, .ref h_t_plan_capture, .ref h_t_plan_display])), (h_t_plan_meanings, .inr (1, [.ref h_t_plan_meanings_parts, .int t_plan_meanings_count])), (h_t_plan_meanings_parts, .inl (cI, n_t_plan_meanings_parts, .inl f_t_plan_meanings_parts))]) [] [0, 1, 2, 3] ⟨hx, hb, hml, hown, hta⟩ hK hN hP hD hS hA (c_FB_isType l D cB cI cJ p2 _) (hta _ lk_FB_208) (hta _ ini_FB) (hta _ code_FB_isType) code_FB_isType (hta _ stat_FB_isType) hd_FB_isType rfl ⟨by omega, by omega⟩ rfl rfl (by decide) (by decide) (by decide) rfl hl.1 (lv_room (Nat.le_of_ble_eq_true rfl)) d_FB_channel_21 ⟨by omega, by omega⟩ (fun v w1 H locs hw hP hD hS => ?_)
      obtain ⟨x21, hx21, rfl, rfl⟩ := hw
      have hP : va_P D classes [(h_t, .inr (6, [.ref h_t_file, .ref h_t_scanner, .ref h_t_writer, .ref h_t_plan, .int t_scanned, .int t_refusedAt])), (h_t_plan, .inr (3, [.int t_plan_high, .int t_plan_wide, .int t_plan_components, .int t_plan_unknown, .int t_plan_rights, .ref h_t_plan_bits, .int t_plan_colours, .int t_plan_hasProfile, .ref h_t_plan_profile, .ref h_t_plan_palette, .ref h_t_plan_map, .ref h_t_plan_meanings, .ref h_t_plan_capture, .ref h_t_plan_display])), (h_t_plan_meanings, .inr (1, [.ref h_t_plan_meanings_parts, .int t_plan_meanings_count])), (h_t_plan_meanings_parts, .inl (cI, n_t_plan_meanings_parts, .inl f_t_plan_meanings_parts))] H := hP.sub [0, 1, 2, 3] rfl
      have hD : va_D A [(h_t, .inr (6, [.ref h_t_file, .ref h_t_scanner, .ref h_t_writer, .ref h_t_plan, .int t_scanned, .int t_refusedAt])), (h_t_plan, .inr (3, [.int t_plan_high, .int t_plan_wide, .int t_plan_components, .int t_plan_unknown, .int t_plan_rights, .ref h_t_plan_bits, .int t_plan_colours, .int t_plan_hasProfile, .ref h_t_plan_profile, .ref h_t_plan_palette, .ref h_t_plan_map, .ref h_t_plan_meanings, .ref h_t_plan_capture, .ref h_t_plan_display])), (h_t_plan_meanings, .inr (1, [.ref h_t_plan_meanings_parts, .int t_plan_meanings_count])), (h_t_plan_meanings_parts, .inl (cI, n_t_plan_meanings_parts, .inl f_t_plan_meanings_parts))] := hD.sub [0, 1, 2, 3] (by decide) rfl
      refine W.eq (g2 := F0 m 24 ls [.int x21]) rfl ?_
      have E : k_FB_channel_21 t_plan_meanings_count n_t_plan_meanings_parts f_t_plan_meanings_parts p1 p2 p3 x21 = RES := (congrArg (k_FB_channel_21 t_plan_meanings_count n_t_plan_meanings_parts f_t_plan_meanings_parts p1 p2 p3) hx21).trans E
      have J_37 : j_FB_channel_37 t_plan_meanings_count f_t_plan_meanings_parts = RES → ∀ (H : Heap) (locs : List Loc), va_P D classes [(h_t, .inr (6, [.ref h_t_file, .ref h_t_scanner, .ref h_t_writer, .ref h_t_plan, .int t_scanned, .int t_refusedAt])), (h_t_plan, .inr (3, [.int t_plan_high, .int t_plan_wide, .int t_plan_components, .int t_plan_unknown, .int t_plan_rights, .ref h_t_plan_bits, .int t_plan_colours, .int t_plan_hasProfile, .ref h_t_plan_profile, .ref h_t_plan_palette, .ref h_t_plan_map, .ref h_t_plan_meanings, .ref h_t_plan_capture, .ref h_t_plan_display])), (h_t_plan_meanings, .inr (1, [.ref h_t_plan_meanings_parts, .int t_plan_meanings_count])), (h_t_plan_meanings_parts, .inl (cI, n_t_plan_meanings_parts, .inl f_t_plan_meanings_parts))] H → va_D A [(h_t, .inr (6, [.ref h_t_file, .ref h_t_scanner, .ref h_t_writer, .ref h_t_plan, .int t_scanned, .int t_refusedAt])), (h_t_plan, .inr (3, [.int t_plan_high, .int t_plan_wide, .int t_plan_components, .int t_plan_unknown, .int t_plan_rights, .ref h_t_plan_bits, .int t_plan_colours, .int t_plan_hasProfile, .ref h_t_plan_profile, .ref h_t_plan_palette, .ref h_t_plan_map, .ref h_t_plan_meanings, .ref h_t_plan_capture, .ref h_t_plan_display])), (h_t_plan_meanings, .inr (1, [.ref h_t_plan_meanings_parts, .int t_plan_meanings_count])), (h_t_plan_meanings_parts, .inl (cI, n_t_plan_meanings_parts, .inl f_t_plan_meanings_parts))] → va_S A s.heap H locs → ∀ ls : Array Slot, lv_has ls 4 [] → W p l e R s m args below meth c H locs 0 0 Q (F0 m 37 ls []) := by
        intro E H locs hP hD hS ls hl
        exact kt_of exF_1 exD0_1 exD1_1 exD2_1 exD5_1 xw3_1 xw5_1 exW6_1 exW7_1 hLt hx hb hlk hQ hml hown hta hTh hAs hnh hP hD hS hA hl.1 ⟨((1, (0, t_plan_meanings_count, f_t_plan_meanings_parts)) : Nat × Int32 × Int32 × (Nat → Int32)), E.trans E0.symm, rfl, rfl⟩ lk_FB_53 lk_FB_212 d_FB_channel_37 d_FB_channel_40 d_FB_channel_41 d_FB_channel_43 d_FB_channel_46 hRc hRs (by omega) (by omega) (by omega) (by omega)
      refine lv_if_eq (tgt := 37) hx hb d_FB_channel_24 (by decide) (fun c_24 => ?_) (fun c_24 => ?_)
      · have E := (if_pos c_24).symm.trans E
        exact J_37  E _ _ hP hD hS ls (lv_sub hl [] rfl)
      · have E := (if_neg c_24).symm.trans E
        refine lv_iload_n hx hb d_FB_channel_27 rfl (lv_at hl 3 rfl) ?_
        refine lv_if_lt (tgt := 37) hx hb d_FB_channel_28 (by decide) (fun c_28 => ?_) (fun c_28 => ?_)
        · have E := (if_pos c_28).symm.trans E
          exact J_37  E _ _ hP hD hS ls (lv_sub hl [] rfl)
        · have E := (if_neg c_28).symm.trans E
          refine lv_iload_n hx hb d_FB_channel_31 rfl (lv_at hl 3 rfl) ?_
          refine lv_ldc (v := 65535) hx hb hown (hta _ lk_FB_211) d_FB_channel_32 ?_
          refine lv_icmp_le (tgt := 47) hx hb d_FB_channel_34 (by decide) (fun c_34 => ?_) (fun c_34 => ?_)
          · have E := (if_pos c_34).symm.trans E
            refine lv_aload_n hx hb d_FB_channel_47 rfl (lv_at hl 0 rfl) ?_
            refine va_get (D := D) (v := .ref h_t_plan) hx hb hta i_FB hown hK hP 0 rfl rfl 3 (by decide) (hta _ lk_FB_38) (fun _ h9 => h9) rfl d_FB_channel_48 ?_
            refine va_get (D := D) (v := .ref h_t_plan_meanings) hx hb hta i_Pl hown hK hP 1 rfl rfl 11 (by decide) (hta _ lk_FB_214) (fun _ h9 => h9) rfl d_FB_channel_51 ?_
            refine va_get (D := D) (v := .int t_plan_meanings_count) hx hb hta i_Li hown hK hP 2 rfl rfl 1 (by decide) (hta _ lk_FB_192) (fun _ h9 => h9) rfl d_FB_channel_54 ?_
            refine lv_bipush (v := 16) hx hb d_FB_channel_57 (by decide) ?_
            have J_76 : j_FB_channel_76 t_plan_meanings_count f_t_plan_meanings_parts = RES → ∀ (H : Heap) (locs : List Loc), va_P D classes [(h_t, .inr (6, [.ref h_t_file, .ref h_t_scanner, .ref h_t_writer, .ref h_t_plan, .int t_scanned, .int t_refusedAt])), (h_t_plan, .inr (3, [.int t_plan_high, .int t_plan_wide, .int t_plan_components, .int t_plan_unknown, .int t_plan_rights, .ref h_t_plan_bits, .int t_plan_colours, .int t_plan_hasProfile, .ref h_t_plan_profile, .ref h_t_plan_palette, .ref h_t_plan_map, .ref h_t_plan_meanings, .ref h_t_plan_capture, .ref h_t_plan_display])), (h_t_plan_meanings, .inr (1, [.ref h_t_plan_meanings_parts, .int t_plan_meanings_count])), (h_t_plan_meanings_parts, .inl (cI, n_t_plan_meanings_parts, .inl f_t_plan_meanings_parts))] H → va_D A [(h_t, .inr (6, [.ref h_t_file, .ref h_t_scanner, .ref h_t_writer, .ref h_t_plan, .int t_scanned, .int t_refusedAt])), (h_t_plan, .inr (3, [.int t_plan_high, .int t_plan_wide, .int t_plan_components, .int t_plan_unknown, .int t_plan_rights, .ref h_t_plan_bits, .int t_plan_colours, .int t_plan_hasProfile, .ref h_t_plan_profile, .ref h_t_plan_palette, .ref h_t_plan_map, .ref h_t_plan_meanings, .ref h_t_plan_capture, .ref h_t_plan_display])), (h_t_plan_meanings, .inr (1, [.ref h_t_plan_meanings_parts, .int t_plan_meanings_count])), (h_t_plan_meanings_parts, .inl (cI, n_t_plan_meanings_parts, .inl f_t_plan_meanings_parts))] → va_S A s.heap H locs → ∀ ls : Array Slot, lv_has ls 4 [] → W p l e R s m args below meth c H locs 0 0 Q (F0 m 76 ls []) := by
              intro E H locs hP hD hS ls hl
              exact kt_of exF_3 exD0_3 exD1_3 exD2_3 exD5_3 xw3_3 xw5_3 exW6_3 exW7_3 hLt hx hb hlk hQ hml hown hta hTh hAs hnh hP hD hS hA hl.1 ⟨((3, (0, t_plan_meanings_count, f_t_plan_meanings_parts)) : Nat × Int32 × Int32 × (Nat → Int32)), E.trans E0.symm, rfl, rfl⟩ lk_FB_113 lk_FB_220 d_FB_channel_76 d_FB_channel_79 d_FB_channel_80 d_FB_channel_82 d_FB_channel_85 hRc hRs (by omega) (by omega) (by omega) (by omega)
            refine lv_icmp_ge (tgt := 76) hx hb d_FB_channel_59 (by decide) (fun c_59 => ?_) (fun c_59 => ?_)
            · have E := (if_pos c_59).symm.trans E
              exact J_76  E _ _ hP hD hS ls (lv_sub hl [] rfl)
            · have E := (if_neg c_59).symm.trans E
              refine lv_aload_n hx hb d_FB_channel_62 rfl (lv_at hl 0 rfl) ?_
              refine va_get (D := D) (v := .ref h_t_plan) hx hb hta i_FB hown hK hP 0 rfl rfl 3 (by decide) (hta _ lk_FB_38) (fun _ h9 => h9) rfl d_FB_channel_63 ?_
              refine va_get (D := D) (v := .ref h_t_plan_meanings) hx hb hta i_Pl hown hK hP 1 rfl rfl 11 (by decide) (hta _ lk_FB_214) (fun _ h9 => h9) rfl d_FB_channel_66 ?_
              refine lv_iload_n hx hb d_FB_channel_69 rfl (lv_at hl 1 rfl) ?_
              refine kc_V (As := [.int p1]) (rest := []) (wr := [(h_t, .inr (6, [.ref h_t_file, .ref h_t_scanner, .ref h_t_writer, .ref h_t_plan, .int t_scanned, .int t_refusedAt])), (h_t_plan, .inr (3, [.int t_plan_high, .int t_plan_wide, .int t_plan_components, .int t_plan_unknown, .int t_plan_rights, .ref h_t_plan_bits, .int t_plan_colours, .int t_plan_hasProfile, .ref h_t_plan_profile, .ref h_t_plan_palette, .ref h_t_plan_map, .ref h_t_plan_meanings, .ref h_t_plan_capture, .ref h_t_plan_display]))]) [2, 3] [0, 1] ⟨hx, hb, hml, hown, hta⟩ hK hN hP hD hS hA (c_Li_tells l D cB cI cJ h_t_plan_meanings h_t_plan_meanings_parts t_plan_meanings_count n_t_plan_meanings_parts f_t_plan_meanings_parts p1 hn_t_plan_meanings_parts _) (hta _ lk_FB_217) (hta _ ini_Li) (hta _ code_Li_tells) code_Li_tells (hta _ inst_Li_tells) (hta _ sel_Li_tells) hd_Li_tells rfl ⟨by omega, by omega⟩ (ci := 1) 2 rfl rfl rfl rfl (by decide) (by decide) (by decide) rfl hl.1 (lv_room (Nat.le_of_ble_eq_true rfl)) d_FB_channel_70 ⟨by omega, by omega⟩ (fun v w1 H locs hw hP hD hS => ?_)
              obtain ⟨x70, hx70, rfl, rfl⟩ := hw
              have hP : va_P D classes [(h_t, .inr (6, [.ref h_t_file, .ref h_t_scanner, .ref h_t_writer, .ref h_t_plan, .int t_scanned, .int t_refusedAt])), (h_t_plan, .inr (3, [.int t_plan_high, .int t_plan_wide, .int t_plan_components, .int t_plan_unknown, .int t_plan_rights, .ref h_t_plan_bits, .int t_plan_colours, .int t_plan_hasProfile, .ref h_t_plan_profile, .ref h_t_plan_palette, .ref h_t_plan_map, .ref h_t_plan_meanings, .ref h_t_plan_capture, .ref h_t_plan_display])), (h_t_plan_meanings, .inr (1, [.ref h_t_plan_meanings_parts, .int t_plan_meanings_count])), (h_t_plan_meanings_parts, .inl (cI, n_t_plan_meanings_parts, .inl f_t_plan_meanings_parts))] H := hP.sub [0, 1, 2, 3] rfl
              have hD : va_D A [(h_t, .inr (6, [.ref h_t_file, .ref h_t_scanner, .ref h_t_writer, .ref h_t_plan, .int t_scanned, .int t_refusedAt])), (h_t_plan, .inr (3, [.int t_plan_high, .int t_plan_wide, .int t_plan_components, .int t_plan_unknown, .int t_plan_rights, .ref h_t_plan_bits, .int t_plan_colours, .int t_plan_hasProfile, .ref h_t_plan_profile, .ref h_t_plan_palette, .ref h_t_plan_map, .ref h_t_plan_meanings, .ref h_t_plan_capture, .ref h_t_plan_display])), (h_t_plan_meanings, .inr (1, [.ref h_t_plan_meanings_parts, .int t_plan_meanings_count])), (h_t_plan_meanings_parts, .inl (cI, n_t_plan_meanings_parts, .inl f_t_plan_meanings_parts))] := hD.sub [0, 1, 2, 3] (by decide) rfl
              refine W.eq (g2 := F0 m 73 ls [.int x70]) rfl ?_
              have E : k_FB_channel_70 t_plan_meanings_count n_t_plan_meanings_parts f_t_plan_meanings_parts p1 p2 p3 x70 = RES := (congrArg (k_FB_channel_70 t_plan_meanings_count n_t_plan_meanings_parts f_t_plan_meanings_parts p1 p2 p3) hx70).trans E
              refine lv_if_eq (tgt := 86) hx hb d_FB_channel_73 (by decide) (fun c_73 => ?_) (fun c_73 => ?_)
              · have E := (if_pos c_73).symm.trans E
                refine lv_aload_n hx hb d_FB_channel_86 rfl (lv_at hl 0 rfl) ?_
                refine va_get (D := D) (v := .ref h_t_plan) hx hb hta i_FB hown hK hP 0 rfl rfl 3 (by decide) (hta _ lk_FB_38) (fun _ h9 => h9) rfl d_FB_channel_87 ?_
                refine va_get (D := D) (v := .ref h_t_plan_meanings) hx hb hta i_Pl hown hK hP 1 rfl rfl 11 (by decide) (hta _ lk_FB_214) (fun _ h9 => h9) rfl d_FB_channel_90 ?_
                refine lv_iload_n hx hb d_FB_channel_93 rfl (lv_at hl 1 rfl) ?_
                refine lv_iload_n hx hb d_FB_channel_94 rfl (lv_at hl 2 rfl) ?_
                refine lv_iload_n hx hb d_FB_channel_95 rfl (lv_at hl 3 rfl) ?_
                refine kc_V (As := [.int p1, .int p2, .int p3]) (rest := []) (wr := [(h_t, .inr (6, [.ref h_t_file, .ref h_t_scanner, .ref h_t_writer, .ref h_t_plan, .int t_scanned, .int t_refusedAt])), (h_t_plan, .inr (3, [.int t_plan_high, .int t_plan_wide, .int t_plan_components, .int t_plan_unknown, .int t_plan_rights, .ref h_t_plan_bits, .int t_plan_colours, .int t_plan_hasProfile, .ref h_t_plan_profile, .ref h_t_plan_palette, .ref h_t_plan_map, .ref h_t_plan_meanings, .ref h_t_plan_capture, .ref h_t_plan_display]))]) [2, 3] [0, 1] ⟨hx, hb, hml, hown, hta⟩ hK hN hP hD hS hA (c_Li_add l D cB cI cJ h_t_plan_meanings h_t_plan_meanings_parts t_plan_meanings_count n_t_plan_meanings_parts f_t_plan_meanings_parts p1 p2 p3 hn_t_plan_meanings_parts _) (hta _ lk_FB_203) (hta _ ini_Li) (hta _ code_Li_add) code_Li_add (hta _ inst_Li_add) (hta _ sel_Li_add) hd_Li_add rfl ⟨by omega, by omega⟩ (ci := 1) 2 rfl rfl rfl rfl (by decide) (by decide) (by decide) rfl hl.1 (lv_room (Nat.le_of_ble_eq_true rfl)) d_FB_channel_96 ⟨by omega, by omega⟩ (fun v w1 H locs hw hP hD hS => ?_)
                obtain ⟨x96, hx96, rfl, rfl⟩ := hw
                have hP : va_P D classes [(h_t, .inr (6, [.ref h_t_file, .ref h_t_scanner, .ref h_t_writer, .ref h_t_plan, .int t_scanned, .int t_refusedAt])), (h_t_plan, .inr (3, [.int t_plan_high, .int t_plan_wide, .int t_plan_components, .int t_plan_unknown, .int t_plan_rights, .ref h_t_plan_bits, .int t_plan_colours, .int t_plan_hasProfile, .ref h_t_plan_profile, .ref h_t_plan_palette, .ref h_t_plan_map, .ref h_t_plan_meanings, .ref h_t_plan_capture, .ref h_t_plan_display])), (h_t_plan_meanings, .inr (1, [.ref h_t_plan_meanings_parts, .int x96.1])), (h_t_plan_meanings_parts, .inl (cI, n_t_plan_meanings_parts, .inl x96.2))] H := hP.sub [0, 1, 2, 3] rfl
                have hD : va_D A [(h_t, .inr (6, [.ref h_t_file, .ref h_t_scanner, .ref h_t_writer, .ref h_t_plan, .int t_scanned, .int t_refusedAt])), (h_t_plan, .inr (3, [.int t_plan_high, .int t_plan_wide, .int t_plan_components, .int t_plan_unknown, .int t_plan_rights, .ref h_t_plan_bits, .int t_plan_colours, .int t_plan_hasProfile, .ref h_t_plan_profile, .ref h_t_plan_palette, .ref h_t_plan_map, .ref h_t_plan_meanings, .ref h_t_plan_capture, .ref h_t_plan_display])), (h_t_plan_meanings, .inr (1, [.ref h_t_plan_meanings_parts, .int x96.1])), (h_t_plan_meanings_parts, .inl (cI, n_t_plan_meanings_parts, .inl x96.2))] := hD.sub [0, 1, 2, 3] (by decide) rfl
                refine W.eq (g2 := F0 m 99 ls []) rfl ?_
                have E : k_FB_channel_96 x96 = RES := (congrArg (k_FB_channel_96) hx96).trans E
                refine lv_aload_n hx hb d_FB_channel_99 rfl (lv_at hl 0 rfl) ?_
                refine va_get (D := D) (v := .ref h_t_plan) hx hb hta i_FB hown hK hP 0 rfl rfl 3 (by decide) (hta _ lk_FB_38) (fun _ h9 => h9) rfl d_FB_channel_100 ?_
                refine va_get (D := D) (v := .ref h_t_plan_meanings) hx hb hta i_Pl hown hK hP 1 rfl rfl 11 (by decide) (hta _ lk_FB_214) (fun _ h9 => h9) rfl d_FB_channel_103 ?_
                refine va_get (D := D) (v := .int x96.1) hx hb hta i_Li hown hK hP 2 rfl rfl 1 (by decide) (hta _ lk_FB_192) (fun _ h9 => h9) rfl d_FB_channel_106 ?_
                exact kr_iX hx hb hr hlk hQ hK hP hD hS ⟨((0, (x96.1, x96.1, x96.2)) : Nat × Int32 × Int32 × (Nat → Int32)), E.trans E0.symm, rfl, rfl⟩ (by omega) (by omega) d_FB_channel_109
              · have E := (if_neg c_73).symm.trans E
                exact J_76  E _ _ hP hD hS ls (lv_sub hl [] rfl)
          · have E := (if_neg c_34).symm.trans E
            exact J_37  E _ _ hP hD hS ls (lv_sub hl [] rfl)
    · have E := (if_neg c_7).symm.trans E
      exact J_10  E _ _ hP hD hS ls (lv_sub hl [] rfl)
