theorem d_La_size_0 : decode b_La_size 0 = .ok (.aload_n 0, 1) := by decide +kernel
theorem d_La_size_1 : decode b_La_size 1 = .ok (.iload_n 1, 1) := by decide +kernel
theorem d_La_size_2 : decode b_La_size 2 = .ok (.iload_n 2, 1) := by decide +kernel
theorem d_La_size_3 : decode b_La_size 3 = .ok (.iload_n 3, 1) := by decide +kernel
theorem d_La_size_4 : decode b_La_size 4 = .ok (.iload 4, 2) := by decide +kernel
theorem d_La_size_6 : decode b_La_size 6 = .ok (.iload 5, 2) := by decide +kernel
theorem d_La_size_8 : decode b_La_size 8 = .ok (.iload 6, 2) := by decide +kernel
theorem d_La_size_10 : decode b_La_size 10 = .ok (.invokevirtual 7, 3) := by decide +kernel
theorem d_La_size_13 : decode b_La_size 13 = .ok (.goto 7, 3) := by decide +kernel
theorem d_La_size_16 : decode b_La_size 16 = .ok (.astore 7, 2) := by decide +kernel
theorem d_La_size_18 : decode b_La_size 18 = .ok (.iconst 1, 1) := by decide +kernel
theorem d_La_size_19 : decode b_La_size 19 = .ok (.ireturn, 1) := by decide +kernel
theorem d_La_size_20 : decode b_La_size 20 = .ok (.iconst 0, 1) := by decide +kernel
theorem d_La_size_21 : decode b_La_size 21 = .ok (.ireturn, 1) := by decide +kernel
def k_La_size_10 (x10 : Nat × Int32 × Int32 × Int32 × Int32 × Int32 × (Nat → Int32)) : Int32 × Int32 × Int32 × Int32 × Int32 × Int32 × (Nat → Int32) :=
  if x10.1 = 0 then (0, x10.2.1, x10.2.2.1, x10.2.2.2.1, x10.2.2.2.2.1, x10.2.2.2.2.2.1, x10.2.2.2.2.2.2) else (1, x10.2.1, x10.2.2.1, x10.2.2.2.1, x10.2.2.2.2.1, x10.2.2.2.2.2.1, x10.2.2.2.2.2.2)
def m_La_size (a0_plan_high : Int32) (a0_plan_wide : Int32) (a0_plan_components : Int32) (a0_plan_unknown : Int32) (a0_plan_rights : Int32) (n_a0_plan_bits : Nat) (f_a0_plan_bits : Nat → Int32) (p1 : Int32) (p2 : Int32) (p3 : Int32) (p4 : Int32) (p5 : Int32) (p6 : Int32) : Int32 × Int32 × Int32 × Int32 × Int32 × Int32 × (Nat → Int32) :=
  k_La_size_10 (m_FB_size a0_plan_high a0_plan_wide a0_plan_components a0_plan_unknown a0_plan_rights n_a0_plan_bits f_a0_plan_bits p1 p2 p3 p4 p5 p6)
set_option maxHeartbeats 4000000 in
set_option maxRecDepth 100000 in
theorem c_La_size (l : Launch) (D : va_G) (cB cI cJ : ClassId) (h_a0 h_a0_file h_a0_scanner h_a0_writer h_a0_plan h_a0_plan_bits h_a0_plan_profile h_a0_plan_palette h_a0_plan_map h_a0_plan_meanings h_a0_plan_capture h_a0_plan_display : Nat) (a0_scanned : Int32) (a0_refusedAt : Int32) (a0_plan_high : Int32) (a0_plan_wide : Int32) (a0_plan_components : Int32) (a0_plan_unknown : Int32) (a0_plan_rights : Int32) (a0_plan_colours : Int32) (a0_plan_hasProfile : Int32) (n_a0_plan_bits : Nat) (f_a0_plan_bits : Nat → Int32) (p1 : Int32) (p2 : Int32) (p3 : Int32) (p4 : Int32) (p5 : Int32) (p6 : Int32) (hLt : kL l) (hz_p5 : narrow .boolean (.int p5) = .int p5 ∧ fits .boolean (.int p5) = true) (hz_p6 : narrow .boolean (.int p6) = .int p6 ∧ fits .boolean (.int p6) = true) (hn_a0_plan_bits : n_a0_plan_bits < 2147483648) (sz : Nat) : CtW l D cB cI cJ y_La_size b_La_size 8 (some .int) [(0, 13, 16, 13)] 7 108 1 6 [.ref h_a0, .int p1, .int p2, .int p3, .int p4, .int p5, .int p6] [(h_a0, .inr (6, [.ref h_a0_file, .ref h_a0_scanner, .ref h_a0_writer, .ref h_a0_plan, .int a0_scanned, .int a0_refusedAt])), (h_a0_plan, .inr (3, [.int a0_plan_high, .int a0_plan_wide, .int a0_plan_components, .int a0_plan_unknown, .int a0_plan_rights, .ref h_a0_plan_bits, .int a0_plan_colours, .int a0_plan_hasProfile, .ref h_a0_plan_profile, .ref h_a0_plan_palette, .ref h_a0_plan_map, .ref h_a0_plan_meanings, .ref h_a0_plan_capture, .ref h_a0_plan_display])), (h_a0_plan_bits, .inl (cI, n_a0_plan_bits, .inl f_a0_plan_bits))] (fun v w1 => ∃ (x : Int32 × Int32 × Int32 × Int32 × Int32 × Int32 × (Nat → Int32)), x = m_La_size a0_plan_high a0_plan_wide a0_plan_components a0_plan_unknown a0_plan_rights n_a0_plan_bits f_a0_plan_bits p1 p2 p3 p4 p5 p6 ∧ v = some (.int x.1) ∧ w1 = [(h_a0, .inr (6, [.ref h_a0_file, .ref h_a0_scanner, .ref h_a0_writer, .ref h_a0_plan, .int a0_scanned, .int a0_refusedAt])), (h_a0_plan, .inr (3, [.int x.2.1, .int x.2.2.1, .int x.2.2.2.1, .int x.2.2.2.2.1, .int x.2.2.2.2.2.1, .ref h_a0_plan_bits, .int a0_plan_colours, .int a0_plan_hasProfile, .ref h_a0_plan_profile, .ref h_a0_plan_palette, .ref h_a0_plan_map, .ref h_a0_plan_meanings, .ref h_a0_plan_capture, .ref h_a0_plan_display])), (h_a0_plan_bits, .inl (cI, n_a0_plan_bits, .inl x.2.2.2.2.2.2))]) sz := by
  refine CtW.of (by decide) (Nat.le_of_ble_eq_true rfl) ?_
  intro p e R s m args below meth c A ls Q hx hb hr hlk hml hta hown hin hK hN hA hRf hRl hRc hRs hP hD hS hl hQ hTh hAs htab
  have hl : lv_has ls 8 [(0, .ref h_a0), (1, .int p1), (2, .int p2), (3, .int p3), (4, .int p4), (5, .int p5), (6, .int p6)] := hl
  obtain ⟨RES, E0⟩ : ∃ R, m_La_size a0_plan_high a0_plan_wide a0_plan_components a0_plan_unknown a0_plan_rights n_a0_plan_bits f_a0_plan_bits p1 p2 p3 p4 p5 p6 = R := ⟨_, rfl⟩
  have E := E0
  refine lv_aload_n hx hb d_La_size_0 rfl (lv_at hl 0 rfl) ?_
  refine lv_iload_n hx hb d_La_size_1 rfl (lv_at hl 1 rfl) ?_
  refine lv_iload_n hx hb d_La_size_2 rfl (lv_at hl 2 rfl) ?_
  refine lv_iload_n hx hb d_La_size_3 rfl (lv_at hl 3 rfl) ?_
  refine lv_iload hx hb d_La_size_4 (lv_at hl 4 rfl) ?_
  refine lv_iload hx hb d_La_size_6 (lv_at hl 5 rfl) ?_
  refine lv_iload hx hb d_La_size_8 (lv_at hl 6 rfl) ?_
  refine kc_VX (As := [.int p1, .int p2, .int p3, .int p4, .int p5, .int p6]) (rest := []) (wr := []) [0, 1, 2] [] ⟨hx, hb, hml, hown, hta⟩ hK hN hTh hAs hP hD hS hA (c_FB_size l D cB cI cJ h_a0 h_a0_file h_a0_scanner h_a0_writer h_a0_plan h_a0_plan_bits h_a0_plan_profile h_a0_plan_palette h_a0_plan_map h_a0_plan_meanings h_a0_plan_capture h_a0_plan_display a0_scanned a0_refusedAt a0_plan_high a0_plan_wide a0_plan_components a0_plan_unknown a0_plan_rights a0_plan_colours a0_plan_hasProfile n_a0_plan_bits f_a0_plan_bits p1 p2 p3 p4 p5 p6 hLt hz_p5 hz_p6 hn_a0_plan_bits _) (hta _ lk_La_7) (hta _ ini_FB) (hta _ code_FB_size) code_FB_size (hta _ inst_FB_size) (hta _ sel_FB_size) hd_FB_size rfl ⟨by omega, by omega⟩ (ci := 6) 0 rfl rfl rfl rfl (by decide) (by decide) (by decide) rfl hl.1 (lv_room (Nat.le_of_ble_eq_true rfl)) d_La_size_10 ⟨by omega, by omega⟩ (m_FB_size a0_plan_high a0_plan_wide a0_plan_components a0_plan_unknown a0_plan_rights n_a0_plan_bits f_a0_plan_bits p1 p2 p3 p4 p5 p6).1 (fun o w1 hw => ?_) (fun h0 v w1 H locs hw hP hD hS => ?_) (fun h0 q_x10 w1 H locs hw hP hD hS hex => ?_)
  · obtain ⟨x10, hx10, hko, hw1⟩ := hw
    exact ⟨_, by rw [← hx10]; exact hko⟩
  · obtain ⟨x10, hx10, hko, hw1⟩ := hw
    have h1 : x10.1 = 0 := by rw [hx10]; exact h0
    subst hw1
    have hv : v = none := by rw [kO, if_pos h1] at hko; exact Sum.inl.inj hko
    subst hv
    have hP : va_P D classes [(h_a0, .inr (6, [.ref h_a0_file, .ref h_a0_scanner, .ref h_a0_writer, .ref h_a0_plan, .int a0_scanned, .int a0_refusedAt])), (h_a0_plan, .inr (3, [.int x10.2.1, .int x10.2.2.1, .int x10.2.2.2.1, .int x10.2.2.2.2.1, .int x10.2.2.2.2.2.1, .ref h_a0_plan_bits, .int a0_plan_colours, .int a0_plan_hasProfile, .ref h_a0_plan_profile, .ref h_a0_plan_palette, .ref h_a0_plan_map, .ref h_a0_plan_meanings, .ref h_a0_plan_capture, .ref h_a0_plan_display])), (h_a0_plan_bits, .inl (cI, n_a0_plan_bits, .inl x10.2.2.2.2.2.2))] H := hP.sub [0, 1, 2] rfl
    have hD : va_D A [(h_a0, .inr (6, [.ref h_a0_file, .ref h_a0_scanner, .ref h_a0_writer, .ref h_a0_plan, .int a0_scanned, .int a0_refusedAt])), (h_a0_plan, .inr (3, [.int x10.2.1, .int x10.2.2.1, .int x10.2.2.2.1, .int x10.2.2.2.2.1, .int x10.2.2.2.2.2.1, .ref h_a0_plan_bits, .int a0_plan_colours, .int a0_plan_hasProfile, .ref h_a0_plan_profile, .ref h_a0_plan_palette, .ref h_a0_plan_map, .ref h_a0_plan_meanings, .ref h_a0_plan_capture, .ref h_a0_plan_display])), (h_a0_plan_bits, .inl (cI, n_a0_plan_bits, .inl x10.2.2.2.2.2.2))] := hD.sub [0, 1, 2] (by decide) rfl
    have E : k_La_size_10 x10 = RES := (congrArg (k_La_size_10) hx10).trans E
    have E := (if_pos h1).symm.trans E
    refine W.eq (g2 := F0 m 13 ls []) rfl ?_
    refine lv_goto (tgt := 20) hx hb d_La_size_13 (by decide) ?_
    refine lv_iconst (v := 0) hx hb d_La_size_20 (by decide) ?_
    exact kr_i hx hb hr hlk hQ hK hP hD hS ⟨((0, x10.2.1, x10.2.2.1, x10.2.2.2.1, x10.2.2.2.2.1, x10.2.2.2.2.2.1, x10.2.2.2.2.2.2) : Int32 × Int32 × Int32 × Int32 × Int32 × Int32 × (Nat → Int32)), E.trans E0.symm, rfl, rfl⟩ (by omega) (by omega) d_La_size_21
  · obtain ⟨x10, hx10, hko, hw1⟩ := hw
    have h1 : ¬ x10.1 = 0 := by rw [hx10]; exact h0
    subst hw1
    have hP : va_P D classes [(h_a0, .inr (6, [.ref h_a0_file, .ref h_a0_scanner, .ref h_a0_writer, .ref h_a0_plan, .int a0_scanned, .int a0_refusedAt])), (h_a0_plan, .inr (3, [.int x10.2.1, .int x10.2.2.1, .int x10.2.2.2.1, .int x10.2.2.2.2.1, .int x10.2.2.2.2.2.1, .ref h_a0_plan_bits, .int a0_plan_colours, .int a0_plan_hasProfile, .ref h_a0_plan_profile, .ref h_a0_plan_palette, .ref h_a0_plan_map, .ref h_a0_plan_meanings, .ref h_a0_plan_capture, .ref h_a0_plan_display])), (h_a0_plan_bits, .inl (cI, n_a0_plan_bits, .inl x10.2.2.2.2.2.2))] H := hP.sub [0, 1, 2] rfl
    have hD : va_D A [(h_a0, .inr (6, [.ref h_a0_file, .ref h_a0_scanner, .ref h_a0_writer, .ref h_a0_plan, .int a0_scanned, .int a0_refusedAt])), (h_a0_plan, .inr (3, [.int x10.2.1, .int x10.2.2.1, .int x10.2.2.2.1, .int x10.2.2.2.2.1, .int x10.2.2.2.2.2.1, .ref h_a0_plan_bits, .int a0_plan_colours, .int a0_plan_hasProfile, .ref h_a0_plan_profile, .ref h_a0_plan_palette, .ref h_a0_plan_map, .ref h_a0_plan_meanings, .ref h_a0_plan_capture, .ref h_a0_plan_display])), (h_a0_plan_bits, .inl (cI, n_a0_plan_bits, .inl x10.2.2.2.2.2.2))] := hD.sub [0, 1, 2] (by decide) rfl
    have E : k_La_size_10 x10 = RES := (congrArg (k_La_size_10) hx10).trans E
    have E := (if_neg h1).symm.trans E
    have c_x0 : x10.1 = 1 := by
      have hkd : ((m_FB_size a0_plan_high a0_plan_wide a0_plan_components a0_plan_unknown a0_plan_rights n_a0_plan_bits f_a0_plan_bits p1 p2 p3 p4 p5 p6).1 = 0 ∨ (m_FB_size a0_plan_high a0_plan_wide a0_plan_components a0_plan_unknown a0_plan_rights n_a0_plan_bits f_a0_plan_bits p1 p2 p3 p4 p5 p6).1 = 1) := kd_m_FB_size
      rw [hx10] at h1 ⊢
      omega
    have hk : (m_FB_size a0_plan_high a0_plan_wide a0_plan_components a0_plan_unknown a0_plan_rights n_a0_plan_bits f_a0_plan_bits p1 p2 p3 p4 p5 p6).1 = 1 := by rw [← hx10]; exact c_x0
    rw [hk] at hex
    refine kq_catch (pre := []) (x := ⟨0, 13, 16, 13⟩) (rs := []) hown hta hTh hex htab (fun y hy => by cases hy) (by decide) (by decide) lk_La_13 th_c1 ?_
    refine W.eq (g2 := F0 m 16 ls [.ref q_x10]) rfl ?_
    refine lv_astore (lv' := [(7, .ref q_x10), (0, .ref h_a0), (1, .int p1), (2, .int p2), (3, .int p3), (4, .int p4), (5, .int p5), (6, .int p6)]) hx hb d_La_size_16 hl (by decide) rfl (fun ls hl => ?_)
    refine lv_iconst (v := 1) hx hb d_La_size_18 (by decide) ?_
    exact kr_i hx hb hr hlk hQ hK hP hD hS ⟨((1, x10.2.1, x10.2.2.1, x10.2.2.2.1, x10.2.2.2.2.1, x10.2.2.2.2.2.1, x10.2.2.2.2.2.2) : Int32 × Int32 × Int32 × Int32 × Int32 × Int32 × (Nat → Int32)), E.trans E0.symm, rfl, rfl⟩ (by omega) (by omega) d_La_size_19
theorem d_La_bits_0 : decode b_La_bits 0 = .ok (.aload_n 0, 1) := by decide +kernel
theorem d_La_bits_1 : decode b_La_bits 1 = .ok (.iload_n 1, 1) := by decide +kernel
theorem d_La_bits_2 : decode b_La_bits 2 = .ok (.iload_n 2, 1) := by decide +kernel
theorem d_La_bits_3 : decode b_La_bits 3 = .ok (.invokevirtual 15, 3) := by decide +kernel
theorem d_La_bits_6 : decode b_La_bits 6 = .ok (.goto 9, 3) := by decide +kernel
theorem d_La_bits_9 : decode b_La_bits 9 = .ok (.astore_n 3, 1) := by decide +kernel
theorem d_La_bits_10 : decode b_La_bits 10 = .ok (.iconst 1, 1) := by decide +kernel
theorem d_La_bits_11 : decode b_La_bits 11 = .ok (.ireturn, 1) := by decide +kernel
theorem d_La_bits_12 : decode b_La_bits 12 = .ok (.astore_n 3, 1) := by decide +kernel
theorem d_La_bits_13 : decode b_La_bits 13 = .ok (.iconst 2, 1) := by decide +kernel
theorem d_La_bits_14 : decode b_La_bits 14 = .ok (.ireturn, 1) := by decide +kernel
theorem d_La_bits_15 : decode b_La_bits 15 = .ok (.iconst 0, 1) := by decide +kernel
theorem d_La_bits_16 : decode b_La_bits 16 = .ok (.ireturn, 1) := by decide +kernel
def k_La_bits_3 (x3 : Nat × ((Nat → Int32))) : Int32 × (Nat → Int32) :=
  if x3.1 = 0 then (0, x3.2) else (if x3.1 = 2 then (1, x3.2) else (2, x3.2))
def m_La_bits (a0_plan_components : Int32) (n_a0_plan_bits : Nat) (f_a0_plan_bits : Nat → Int32) (p1 : Int32) (p2 : Int32) : Int32 × (Nat → Int32) :=
  k_La_bits_3 (m_FB_bits a0_plan_components n_a0_plan_bits f_a0_plan_bits p1 p2)
set_option maxHeartbeats 4000000 in
set_option maxRecDepth 100000 in
theorem c_La_bits (l : Launch) (D : va_G) (cB cI cJ : ClassId) (h_a0 h_a0_file h_a0_scanner h_a0_writer h_a0_plan h_a0_plan_bits h_a0_plan_profile h_a0_plan_palette h_a0_plan_map h_a0_plan_meanings h_a0_plan_capture h_a0_plan_display : Nat) (a0_scanned : Int32) (a0_refusedAt : Int32) (a0_plan_high : Int32) (a0_plan_wide : Int32) (a0_plan_components : Int32) (a0_plan_unknown : Int32) (a0_plan_rights : Int32) (a0_plan_colours : Int32) (a0_plan_hasProfile : Int32) (n_a0_plan_bits : Nat) (f_a0_plan_bits : Nat → Int32) (p1 : Int32) (p2 : Int32) (hLt : kL l) (hn_a0_plan_bits : n_a0_plan_bits < 2147483648) (sz : Nat) : CtW l D cB cI cJ y_La_bits b_La_bits 4 (some .int) [(0, 6, 9, 19), (0, 6, 12, 13)] 7 104 1 6 [.ref h_a0, .int p1, .int p2] [(h_a0, .inr (6, [.ref h_a0_file, .ref h_a0_scanner, .ref h_a0_writer, .ref h_a0_plan, .int a0_scanned, .int a0_refusedAt])), (h_a0_plan, .inr (3, [.int a0_plan_high, .int a0_plan_wide, .int a0_plan_components, .int a0_plan_unknown, .int a0_plan_rights, .ref h_a0_plan_bits, .int a0_plan_colours, .int a0_plan_hasProfile, .ref h_a0_plan_profile, .ref h_a0_plan_palette, .ref h_a0_plan_map, .ref h_a0_plan_meanings, .ref h_a0_plan_capture, .ref h_a0_plan_display])), (h_a0_plan_bits, .inl (cI, n_a0_plan_bits, .inl f_a0_plan_bits))] (fun v w1 => ∃ (x : Int32 × (Nat → Int32)), x = m_La_bits a0_plan_components n_a0_plan_bits f_a0_plan_bits p1 p2 ∧ v = some (.int x.1) ∧ w1 = [(h_a0, .inr (6, [.ref h_a0_file, .ref h_a0_scanner, .ref h_a0_writer, .ref h_a0_plan, .int a0_scanned, .int a0_refusedAt])), (h_a0_plan, .inr (3, [.int a0_plan_high, .int a0_plan_wide, .int a0_plan_components, .int a0_plan_unknown, .int a0_plan_rights, .ref h_a0_plan_bits, .int a0_plan_colours, .int a0_plan_hasProfile, .ref h_a0_plan_profile, .ref h_a0_plan_palette, .ref h_a0_plan_map, .ref h_a0_plan_meanings, .ref h_a0_plan_capture, .ref h_a0_plan_display])), (h_a0_plan_bits, .inl (cI, n_a0_plan_bits, .inl x.2))]) sz := by
  refine CtW.of (by decide) (Nat.le_of_ble_eq_true rfl) ?_
  intro p e R s m args below meth c A ls Q hx hb hr hlk hml hta hown hin hK hN hA hRf hRl hRc hRs hP hD hS hl hQ hTh hAs htab
  have hl : lv_has ls 4 [(0, .ref h_a0), (1, .int p1), (2, .int p2)] := hl
  obtain ⟨RES, E0⟩ : ∃ R, m_La_bits a0_plan_components n_a0_plan_bits f_a0_plan_bits p1 p2 = R := ⟨_, rfl⟩
  have E := E0
  refine lv_aload_n hx hb d_La_bits_0 rfl (lv_at hl 0 rfl) ?_
  refine lv_iload_n hx hb d_La_bits_1 rfl (lv_at hl 1 rfl) ?_
  refine lv_iload_n hx hb d_La_bits_2 rfl (lv_at hl 2 rfl) ?_
  refine kc_VX (As := [.int p1, .int p2]) (rest := []) (wr := []) [0, 1, 2] [] ⟨hx, hb, hml, hown, hta⟩ hK hN hTh hAs hP hD hS hA (c_FB_bits l D cB cI cJ h_a0 h_a0_file h_a0_scanner h_a0_writer h_a0_plan h_a0_plan_bits h_a0_plan_profile h_a0_plan_palette h_a0_plan_map h_a0_plan_meanings h_a0_plan_capture h_a0_plan_display a0_scanned a0_refusedAt a0_plan_high a0_plan_wide a0_plan_components a0_plan_unknown a0_plan_rights a0_plan_colours a0_plan_hasProfile n_a0_plan_bits f_a0_plan_bits p1 p2 hLt hn_a0_plan_bits _) (hta _ lk_La_15) (hta _ ini_FB) (hta _ code_FB_bits) code_FB_bits (hta _ inst_FB_bits) (hta _ sel_FB_bits) hd_FB_bits rfl ⟨by omega, by omega⟩ (ci := 6) 0 rfl rfl rfl rfl (by decide) (by decide) (by decide) rfl hl.1 (lv_room (Nat.le_of_ble_eq_true rfl)) d_La_bits_3 ⟨by omega, by omega⟩ (m_FB_bits a0_plan_components n_a0_plan_bits f_a0_plan_bits p1 p2).1 (fun o w1 hw => ?_) (fun h0 v w1 H locs hw hP hD hS => ?_) (fun h0 q_x3 w1 H locs hw hP hD hS hex => ?_)
  · obtain ⟨x3, hx3, hko, hw1⟩ := hw
    exact ⟨_, by rw [← hx3]; exact hko⟩
  · obtain ⟨x3, hx3, hko, hw1⟩ := hw
    have h1 : x3.1 = 0 := by rw [hx3]; exact h0
    subst hw1
    have hv : v = none := by rw [kO, if_pos h1] at hko; exact Sum.inl.inj hko
    subst hv
    have hP : va_P D classes [(h_a0, .inr (6, [.ref h_a0_file, .ref h_a0_scanner, .ref h_a0_writer, .ref h_a0_plan, .int a0_scanned, .int a0_refusedAt])), (h_a0_plan, .inr (3, [.int a0_plan_high, .int a0_plan_wide, .int a0_plan_components, .int a0_plan_unknown, .int a0_plan_rights, .ref h_a0_plan_bits, .int a0_plan_colours, .int a0_plan_hasProfile, .ref h_a0_plan_profile, .ref h_a0_plan_palette, .ref h_a0_plan_map, .ref h_a0_plan_meanings, .ref h_a0_plan_capture, .ref h_a0_plan_display])), (h_a0_plan_bits, .inl (cI, n_a0_plan_bits, .inl x3.2))] H := hP.sub [0, 1, 2] rfl
    have hD : va_D A [(h_a0, .inr (6, [.ref h_a0_file, .ref h_a0_scanner, .ref h_a0_writer, .ref h_a0_plan, .int a0_scanned, .int a0_refusedAt])), (h_a0_plan, .inr (3, [.int a0_plan_high, .int a0_plan_wide, .int a0_plan_components, .int a0_plan_unknown, .int a0_plan_rights, .ref h_a0_plan_bits, .int a0_plan_colours, .int a0_plan_hasProfile, .ref h_a0_plan_profile, .ref h_a0_plan_palette, .ref h_a0_plan_map, .ref h_a0_plan_meanings, .ref h_a0_plan_capture, .ref h_a0_plan_display])), (h_a0_plan_bits, .inl (cI, n_a0_plan_bits, .inl x3.2))] := hD.sub [0, 1, 2] (by decide) rfl
    have E : k_La_bits_3 x3 = RES := (congrArg (k_La_bits_3) hx3).trans E
    have E := (if_pos h1).symm.trans E
    refine W.eq (g2 := F0 m 6 ls []) rfl ?_
    refine lv_goto (tgt := 15) hx hb d_La_bits_6 (by decide) ?_
    refine lv_iconst (v := 0) hx hb d_La_bits_15 (by decide) ?_
    exact kr_i hx hb hr hlk hQ hK hP hD hS ⟨((0, x3.2) : Int32 × (Nat → Int32)), E.trans E0.symm, rfl, rfl⟩ (by omega) (by omega) d_La_bits_16
  · obtain ⟨x3, hx3, hko, hw1⟩ := hw
    have h1 : ¬ x3.1 = 0 := by rw [hx3]; exact h0
    subst hw1
    have hP : va_P D classes [(h_a0, .inr (6, [.ref h_a0_file, .ref h_a0_scanner, .ref h_a0_writer, .ref h_a0_plan, .int a0_scanned, .int a0_refusedAt])), (h_a0_plan, .inr (3, [.int a0_plan_high, .int a0_plan_wide, .int a0_plan_components, .int a0_plan_unknown, .int a0_plan_rights, .ref h_a0_plan_bits, .int a0_plan_colours, .int a0_plan_hasProfile, .ref h_a0_plan_profile, .ref h_a0_plan_palette, .ref h_a0_plan_map, .ref h_a0_plan_meanings, .ref h_a0_plan_capture, .ref h_a0_plan_display])), (h_a0_plan_bits, .inl (cI, n_a0_plan_bits, .inl x3.2))] H := hP.sub [0, 1, 2] rfl
    have hD : va_D A [(h_a0, .inr (6, [.ref h_a0_file, .ref h_a0_scanner, .ref h_a0_writer, .ref h_a0_plan, .int a0_scanned, .int a0_refusedAt])), (h_a0_plan, .inr (3, [.int a0_plan_high, .int a0_plan_wide, .int a0_plan_components, .int a0_plan_unknown, .int a0_plan_rights, .ref h_a0_plan_bits, .int a0_plan_colours, .int a0_plan_hasProfile, .ref h_a0_plan_profile, .ref h_a0_plan_palette, .ref h_a0_plan_map, .ref h_a0_plan_meanings, .ref h_a0_plan_capture, .ref h_a0_plan_display])), (h_a0_plan_bits, .inl (cI, n_a0_plan_bits, .inl x3.2))] := hD.sub [0, 1, 2] (by decide) rfl
    have E : k_La_bits_3 x3 = RES := (congrArg (k_La_bits_3) hx3).trans E
    have E := (if_neg h1).symm.trans E
    by_cases c_x0 : x3.1 = 2
    · have E := (if_pos c_x0).symm.trans E
      have hk : (m_FB_bits a0_plan_components n_a0_plan_bits f_a0_plan_bits p1 p2).1 = 2 := by rw [← hx3]; exact c_x0
      rw [hk] at hex
      refine kq_catch (pre := []) (x := ⟨0, 6, 9, 19⟩) (rs := [⟨0, 6, 12, 13⟩]) hown hta hTh hex htab (fun y hy => by cases hy) (by decide) (by decide) lk_La_19 th_c2 ?_
      refine W.eq (g2 := F0 m 9 ls [.ref q_x3]) rfl ?_
      refine lv_astore_n (lv' := [(3, .ref q_x3), (0, .ref h_a0), (1, .int p1), (2, .int p2)]) hx hb d_La_bits_9 rfl hl (by decide) rfl (fun ls hl => ?_)
      refine lv_iconst (v := 1) hx hb d_La_bits_10 (by decide) ?_
      exact kr_i hx hb hr hlk hQ hK hP hD hS ⟨((1, x3.2) : Int32 × (Nat → Int32)), E.trans E0.symm, rfl, rfl⟩ (by omega) (by omega) d_La_bits_11
    have E := (if_neg c_x0).symm.trans E
    have c_x1 : x3.1 = 1 := by
      have hkd : ((m_FB_bits a0_plan_components n_a0_plan_bits f_a0_plan_bits p1 p2).1 = 0 ∨ (m_FB_bits a0_plan_components n_a0_plan_bits f_a0_plan_bits p1 p2).1 = 2 ∨ (m_FB_bits a0_plan_components n_a0_plan_bits f_a0_plan_bits p1 p2).1 = 1) := kd_m_FB_bits
      rw [hx3] at h1 c_x0 ⊢
      omega
    have hk : (m_FB_bits a0_plan_components n_a0_plan_bits f_a0_plan_bits p1 p2).1 = 1 := by rw [← hx3]; exact c_x1
    rw [hk] at hex
    refine kq_catch (pre := [⟨0, 6, 9, 19⟩]) (x := ⟨0, 6, 12, 13⟩) (rs := []) hown hta hTh hex htab (by
      refine List.forall_mem_cons.mpr ⟨⟨by decide, 2, lk_La_19, th_n12⟩, ?_⟩
      intro y hy; cases hy) (by decide) (by decide) lk_La_13 th_c1 ?_
    refine W.eq (g2 := F0 m 12 ls [.ref q_x3]) rfl ?_
    refine lv_astore_n (lv' := [(3, .ref q_x3), (0, .ref h_a0), (1, .int p1), (2, .int p2)]) hx hb d_La_bits_12 rfl hl (by decide) rfl (fun ls hl => ?_)
    refine lv_iconst (v := 2) hx hb d_La_bits_13 (by decide) ?_
    exact kr_i hx hb hr hlk hQ hK hP hD hS ⟨((2, x3.2) : Int32 × (Nat → Int32)), E.trans E0.symm, rfl, rfl⟩ (by omega) (by omega) d_La_bits_14
theorem d_La_colours_0 : decode b_La_colours 0 = .ok (.aload_n 0, 1) := by decide +kernel
theorem d_La_colours_1 : decode b_La_colours 1 = .ok (.iload_n 1, 1) := by decide +kernel
theorem d_La_colours_2 : decode b_La_colours 2 = .ok (.invokevirtual 21, 3) := by decide +kernel
theorem d_La_colours_5 : decode b_La_colours 5 = .ok (.goto 6, 3) := by decide +kernel
theorem d_La_colours_8 : decode b_La_colours 8 = .ok (.astore_n 2, 1) := by decide +kernel
theorem d_La_colours_9 : decode b_La_colours 9 = .ok (.iconst 1, 1) := by decide +kernel
theorem d_La_colours_10 : decode b_La_colours 10 = .ok (.ireturn, 1) := by decide +kernel
theorem d_La_colours_11 : decode b_La_colours 11 = .ok (.iconst 0, 1) := by decide +kernel
theorem d_La_colours_12 : decode b_La_colours 12 = .ok (.ireturn, 1) := by decide +kernel
def k_La_colours_2 (x2 : Nat × Int32 × Int32 × Int32) : Int32 × Int32 × Int32 × Int32 :=
  if x2.1 = 0 then (0, x2.2.1, x2.2.2.1, x2.2.2.2) else (1, x2.2.1, x2.2.2.1, x2.2.2.2)
def m_La_colours (a0_plan_colours : Int32) (a0_plan_hasProfile : Int32) (a0_plan_profile_count : Int32) (p1 : Int32) : Int32 × Int32 × Int32 × Int32 :=
  k_La_colours_2 (m_FB_colours a0_plan_colours a0_plan_hasProfile a0_plan_profile_count p1)
set_option maxHeartbeats 4000000 in
set_option maxRecDepth 100000 in
theorem c_La_colours (l : Launch) (D : va_G) (cB cI cJ : ClassId) (h_a0 h_a0_file h_a0_scanner h_a0_writer h_a0_plan h_a0_plan_bits h_a0_plan_profile h_a0_plan_palette h_a0_plan_map h_a0_plan_meanings h_a0_plan_capture h_a0_plan_display h_a0_plan_profile_row : Nat) (a0_scanned : Int32) (a0_refusedAt : Int32) (a0_plan_high : Int32) (a0_plan_wide : Int32) (a0_plan_components : Int32) (a0_plan_unknown : Int32) (a0_plan_rights : Int32) (a0_plan_colours : Int32) (a0_plan_hasProfile : Int32) (a0_plan_profile_most : Int32) (a0_plan_profile_count : Int32) (p1 : Int32) (hLt : kL l) (sz : Nat) : CtW l D cB cI cJ y_La_colours b_La_colours 3 (some .int) [(0, 5, 8, 13)] 7 103 1 6 [.ref h_a0, .int p1] [(h_a0, .inr (6, [.ref h_a0_file, .ref h_a0_scanner, .ref h_a0_writer, .ref h_a0_plan, .int a0_scanned, .int a0_refusedAt])), (h_a0_plan, .inr (3, [.int a0_plan_high, .int a0_plan_wide, .int a0_plan_components, .int a0_plan_unknown, .int a0_plan_rights, .ref h_a0_plan_bits, .int a0_plan_colours, .int a0_plan_hasProfile, .ref h_a0_plan_profile, .ref h_a0_plan_palette, .ref h_a0_plan_map, .ref h_a0_plan_meanings, .ref h_a0_plan_capture, .ref h_a0_plan_display])), (h_a0_plan_profile, .inr (0, [.int a0_plan_profile_most, .ref h_a0_plan_profile_row, .int a0_plan_profile_count]))] (fun v w1 => ∃ (x : Int32 × Int32 × Int32 × Int32), x = m_La_colours a0_plan_colours a0_plan_hasProfile a0_plan_profile_count p1 ∧ v = some (.int x.1) ∧ w1 = [(h_a0, .inr (6, [.ref h_a0_file, .ref h_a0_scanner, .ref h_a0_writer, .ref h_a0_plan, .int a0_scanned, .int a0_refusedAt])), (h_a0_plan, .inr (3, [.int a0_plan_high, .int a0_plan_wide, .int a0_plan_components, .int a0_plan_unknown, .int a0_plan_rights, .ref h_a0_plan_bits, .int x.2.1, .int x.2.2.1, .ref h_a0_plan_profile, .ref h_a0_plan_palette, .ref h_a0_plan_map, .ref h_a0_plan_meanings, .ref h_a0_plan_capture, .ref h_a0_plan_display])), (h_a0_plan_profile, .inr (0, [.int a0_plan_profile_most, .ref h_a0_plan_profile_row, .int x.2.2.2]))]) sz := by
  refine CtW.of (by decide) (Nat.le_of_ble_eq_true rfl) ?_
  intro p e R s m args below meth c A ls Q hx hb hr hlk hml hta hown hin hK hN hA hRf hRl hRc hRs hP hD hS hl hQ hTh hAs htab
  have hl : lv_has ls 3 [(0, .ref h_a0), (1, .int p1)] := hl
  obtain ⟨RES, E0⟩ : ∃ R, m_La_colours a0_plan_colours a0_plan_hasProfile a0_plan_profile_count p1 = R := ⟨_, rfl⟩
  have E := E0
  refine lv_aload_n hx hb d_La_colours_0 rfl (lv_at hl 0 rfl) ?_
  refine lv_iload_n hx hb d_La_colours_1 rfl (lv_at hl 1 rfl) ?_
  refine kc_VX (As := [.int p1]) (rest := []) (wr := []) [0, 1, 2] [] ⟨hx, hb, hml, hown, hta⟩ hK hN hTh hAs hP hD hS hA (c_FB_colours l D cB cI cJ h_a0 h_a0_file h_a0_scanner h_a0_writer h_a0_plan h_a0_plan_bits h_a0_plan_profile h_a0_plan_palette h_a0_plan_map h_a0_plan_meanings h_a0_plan_capture h_a0_plan_display h_a0_plan_profile_row a0_scanned a0_refusedAt a0_plan_high a0_plan_wide a0_plan_components a0_plan_unknown a0_plan_rights a0_plan_colours a0_plan_hasProfile a0_plan_profile_most a0_plan_profile_count p1 hLt _) (hta _ lk_La_21) (hta _ ini_FB) (hta _ code_FB_colours) code_FB_colours (hta _ inst_FB_colours) (hta _ sel_FB_colours) hd_FB_colours rfl ⟨by omega, by omega⟩ (ci := 6) 0 rfl rfl rfl rfl (by decide) (by decide) (by decide) rfl hl.1 (lv_room (Nat.le_of_ble_eq_true rfl)) d_La_colours_2 ⟨by omega, by omega⟩ (m_FB_colours a0_plan_colours a0_plan_hasProfile a0_plan_profile_count p1).1 (fun o w1 hw => ?_) (fun h0 v w1 H locs hw hP hD hS => ?_) (fun h0 q_x2 w1 H locs hw hP hD hS hex => ?_)
  · obtain ⟨x2, hx2, hko, hw1⟩ := hw
    exact ⟨_, by rw [← hx2]; exact hko⟩
  · obtain ⟨x2, hx2, hko, hw1⟩ := hw
    have h1 : x2.1 = 0 := by rw [hx2]; exact h0
    subst hw1
    have hv : v = none := by rw [kO, if_pos h1] at hko; exact Sum.inl.inj hko
    subst hv
    have hP : va_P D classes [(h_a0, .inr (6, [.ref h_a0_file, .ref h_a0_scanner, .ref h_a0_writer, .ref h_a0_plan, .int a0_scanned, .int a0_refusedAt])), (h_a0_plan, .inr (3, [.int a0_plan_high, .int a0_plan_wide, .int a0_plan_components, .int a0_plan_unknown, .int a0_plan_rights, .ref h_a0_plan_bits, .int x2.2.1, .int x2.2.2.1, .ref h_a0_plan_profile, .ref h_a0_plan_palette, .ref h_a0_plan_map, .ref h_a0_plan_meanings, .ref h_a0_plan_capture, .ref h_a0_plan_display])), (h_a0_plan_profile, .inr (0, [.int a0_plan_profile_most, .ref h_a0_plan_profile_row, .int x2.2.2.2]))] H := hP.sub [0, 1, 2] rfl
    have hD : va_D A [(h_a0, .inr (6, [.ref h_a0_file, .ref h_a0_scanner, .ref h_a0_writer, .ref h_a0_plan, .int a0_scanned, .int a0_refusedAt])), (h_a0_plan, .inr (3, [.int a0_plan_high, .int a0_plan_wide, .int a0_plan_components, .int a0_plan_unknown, .int a0_plan_rights, .ref h_a0_plan_bits, .int x2.2.1, .int x2.2.2.1, .ref h_a0_plan_profile, .ref h_a0_plan_palette, .ref h_a0_plan_map, .ref h_a0_plan_meanings, .ref h_a0_plan_capture, .ref h_a0_plan_display])), (h_a0_plan_profile, .inr (0, [.int a0_plan_profile_most, .ref h_a0_plan_profile_row, .int x2.2.2.2]))] := hD.sub [0, 1, 2] (by decide) rfl
    have E : k_La_colours_2 x2 = RES := (congrArg (k_La_colours_2) hx2).trans E
    have E := (if_pos h1).symm.trans E
    refine W.eq (g2 := F0 m 5 ls []) rfl ?_
    refine lv_goto (tgt := 11) hx hb d_La_colours_5 (by decide) ?_
    refine lv_iconst (v := 0) hx hb d_La_colours_11 (by decide) ?_
    exact kr_i hx hb hr hlk hQ hK hP hD hS ⟨((0, x2.2.1, x2.2.2.1, x2.2.2.2) : Int32 × Int32 × Int32 × Int32), E.trans E0.symm, rfl, rfl⟩ (by omega) (by omega) d_La_colours_12
  · obtain ⟨x2, hx2, hko, hw1⟩ := hw
    have h1 : ¬ x2.1 = 0 := by rw [hx2]; exact h0
    subst hw1
    have hP : va_P D classes [(h_a0, .inr (6, [.ref h_a0_file, .ref h_a0_scanner, .ref h_a0_writer, .ref h_a0_plan, .int a0_scanned, .int a0_refusedAt])), (h_a0_plan, .inr (3, [.int a0_plan_high, .int a0_plan_wide, .int a0_plan_components, .int a0_plan_unknown, .int a0_plan_rights, .ref h_a0_plan_bits, .int x2.2.1, .int x2.2.2.1, .ref h_a0_plan_profile, .ref h_a0_plan_palette, .ref h_a0_plan_map, .ref h_a0_plan_meanings, .ref h_a0_plan_capture, .ref h_a0_plan_display])), (h_a0_plan_profile, .inr (0, [.int a0_plan_profile_most, .ref h_a0_plan_profile_row, .int x2.2.2.2]))] H := hP.sub [0, 1, 2] rfl
    have hD : va_D A [(h_a0, .inr (6, [.ref h_a0_file, .ref h_a0_scanner, .ref h_a0_writer, .ref h_a0_plan, .int a0_scanned, .int a0_refusedAt])), (h_a0_plan, .inr (3, [.int a0_plan_high, .int a0_plan_wide, .int a0_plan_components, .int a0_plan_unknown, .int a0_plan_rights, .ref h_a0_plan_bits, .int x2.2.1, .int x2.2.2.1, .ref h_a0_plan_profile, .ref h_a0_plan_palette, .ref h_a0_plan_map, .ref h_a0_plan_meanings, .ref h_a0_plan_capture, .ref h_a0_plan_display])), (h_a0_plan_profile, .inr (0, [.int a0_plan_profile_most, .ref h_a0_plan_profile_row, .int x2.2.2.2]))] := hD.sub [0, 1, 2] (by decide) rfl
    have E : k_La_colours_2 x2 = RES := (congrArg (k_La_colours_2) hx2).trans E
    have E := (if_neg h1).symm.trans E
    have c_x0 : x2.1 = 1 := by
      have hkd : ((m_FB_colours a0_plan_colours a0_plan_hasProfile a0_plan_profile_count p1).1 = 0 ∨ (m_FB_colours a0_plan_colours a0_plan_hasProfile a0_plan_profile_count p1).1 = 1) := kd_m_FB_colours
      rw [hx2] at h1 ⊢
      omega
    have hk : (m_FB_colours a0_plan_colours a0_plan_hasProfile a0_plan_profile_count p1).1 = 1 := by rw [← hx2]; exact c_x0
    rw [hk] at hex
    refine kq_catch (pre := []) (x := ⟨0, 5, 8, 13⟩) (rs := []) hown hta hTh hex htab (fun y hy => by cases hy) (by decide) (by decide) lk_La_13 th_c1 ?_
    refine W.eq (g2 := F0 m 8 ls [.ref q_x2]) rfl ?_
    refine lv_astore_n (lv' := [(2, .ref q_x2), (0, .ref h_a0), (1, .int p1)]) hx hb d_La_colours_8 rfl hl (by decide) rfl (fun ls hl => ?_)
    refine lv_iconst (v := 1) hx hb d_La_colours_9 (by decide) ?_
    exact kr_i hx hb hr hlk hQ hK hP hD hS ⟨((1, x2.2.1, x2.2.2.1, x2.2.2.2) : Int32 × Int32 × Int32 × Int32), E.trans E0.symm, rfl, rfl⟩ (by omega) (by omega) d_La_colours_10
theorem d_La_profile_0 : decode b_La_profile 0 = .ok (.aload_n 2, 1) := by decide +kernel
theorem d_La_profile_1 : decode b_La_profile 1 = .ok (.iconst 0, 1) := by decide +kernel
theorem d_La_profile_2 : decode b_La_profile 2 = .ok (.aload_n 0, 1) := by decide +kernel
theorem d_La_profile_3 : decode b_La_profile 3 = .ok (.iload_n 1, 1) := by decide +kernel
theorem d_La_profile_4 : decode b_La_profile 4 = .ok (.invokevirtual 25, 3) := by decide +kernel
theorem d_La_profile_7 : decode b_La_profile 7 = .ok (.i2l, 1) := by decide +kernel
theorem d_La_profile_8 : decode b_La_profile 8 = .ok (.lastore, 1) := by decide +kernel
theorem d_La_profile_9 : decode b_La_profile 9 = .ok (.goto 12, 3) := by decide +kernel
theorem d_La_profile_12 : decode b_La_profile 12 = .ok (.astore_n 3, 1) := by decide +kernel
theorem d_La_profile_13 : decode b_La_profile 13 = .ok (.iconst 1, 1) := by decide +kernel
theorem d_La_profile_14 : decode b_La_profile 14 = .ok (.ireturn, 1) := by decide +kernel
theorem d_La_profile_15 : decode b_La_profile 15 = .ok (.astore_n 3, 1) := by decide +kernel
theorem d_La_profile_16 : decode b_La_profile 16 = .ok (.iconst 2, 1) := by decide +kernel
theorem d_La_profile_17 : decode b_La_profile 17 = .ok (.ireturn, 1) := by decide +kernel
theorem d_La_profile_18 : decode b_La_profile 18 = .ok (.astore_n 3, 1) := by decide +kernel
theorem d_La_profile_19 : decode b_La_profile 19 = .ok (.iconst 3, 1) := by decide +kernel
theorem d_La_profile_20 : decode b_La_profile 20 = .ok (.ireturn, 1) := by decide +kernel
theorem d_La_profile_21 : decode b_La_profile 21 = .ok (.iconst 0, 1) := by decide +kernel
theorem d_La_profile_22 : decode b_La_profile 22 = .ok (.ireturn, 1) := by decide +kernel
def k_La_profile_4 (f_a2 : Nat → Int64) (x4 : Nat × Int32 × Int32 × Nat × (Nat → Int32)) : Int32 × Int32 × Nat × (Nat → Int32) × (Nat → Int64) :=
  if x4.1 = 0 then ((0, x4.2.2.1, x4.2.2.2.1, x4.2.2.2.2, vp_updL f_a2 (0 : Int32).toNatClampNeg ((x4.2.1 : Int32).toInt64))) else (if x4.1 = 3 then (1, x4.2.2.1, x4.2.2.2.1, x4.2.2.2.2, f_a2) else (if x4.1 = 1 then (2, x4.2.2.1, x4.2.2.2.1, x4.2.2.2.2, f_a2) else (3, x4.2.2.1, x4.2.2.2.1, x4.2.2.2.2, f_a2)))
def m_La_profile (a0_plan_hasProfile : Int32) (a0_plan_profile_most : Int32) (a0_plan_profile_count : Int32) (n_a0_plan_profile_row : Nat) (f_a0_plan_profile_row : Nat → Int32) (f_a2 : Nat → Int64) (p1 : Int32) : Int32 × Int32 × Nat × (Nat → Int32) × (Nat → Int64) :=
  k_La_profile_4 f_a2 (m_FB_profile a0_plan_hasProfile a0_plan_profile_most a0_plan_profile_count n_a0_plan_profile_row f_a0_plan_profile_row p1)
set_option maxHeartbeats 4000000 in
set_option maxRecDepth 100000 in
theorem c_La_profile (l : Launch) (D : va_G) (cB cI cJ : ClassId) (h_a0 h_a2 h_a0_file h_a0_scanner h_a0_writer h_a0_plan h_a0_plan_bits h_a0_plan_profile h_a0_plan_palette h_a0_plan_map h_a0_plan_meanings h_a0_plan_capture h_a0_plan_display h_a0_plan_profile_row : Nat) (a0_scanned : Int32) (a0_refusedAt : Int32) (a0_plan_high : Int32) (a0_plan_wide : Int32) (a0_plan_components : Int32) (a0_plan_unknown : Int32) (a0_plan_rights : Int32) (a0_plan_colours : Int32) (a0_plan_hasProfile : Int32) (a0_plan_profile_most : Int32) (a0_plan_profile_count : Int32) (n_a0_plan_profile_row : Nat) (f_a0_plan_profile_row : Nat → Int32) (n_a2 : Nat) (f_a2 : Nat → Int64) (p1 : Int32) (hout : vp_in 0 n_a2) (hLt : kL l) (hmost : a0_plan_profile_most.toInt ≤ 65536) (hfit : sb_Fit f_a0_plan_profile_row) (hn_a0_plan_profile_row : n_a0_plan_profile_row < 2147483648) (sz : Nat) : CtW l D cB cI cJ y_La_profile b_La_profile 4 (some .int) [(0, 9, 12, 29), (0, 9, 15, 13), (0, 9, 18, 31)] 7 125 2 ((0 + (0 + (0 + (gr_By a0_plan_profile_most a0_plan_profile_count n_a0_plan_profile_row 1)) + 6))) [.ref h_a0, .int p1, .ref h_a2] [(h_a0, .inr (6, [.ref h_a0_file, .ref h_a0_scanner, .ref h_a0_writer, .ref h_a0_plan, .int a0_scanned, .int a0_refusedAt])), (h_a0_plan, .inr (3, [.int a0_plan_high, .int a0_plan_wide, .int a0_plan_components, .int a0_plan_unknown, .int a0_plan_rights, .ref h_a0_plan_bits, .int a0_plan_colours, .int a0_plan_hasProfile, .ref h_a0_plan_profile, .ref h_a0_plan_palette, .ref h_a0_plan_map, .ref h_a0_plan_meanings, .ref h_a0_plan_capture, .ref h_a0_plan_display])), (h_a0_plan_profile, .inr (0, [.int a0_plan_profile_most, .ref h_a0_plan_profile_row, .int a0_plan_profile_count])), (h_a0_plan_profile_row, .inl (cB, n_a0_plan_profile_row, .inl f_a0_plan_profile_row)), (h_a2, .inl (cJ, n_a2, .inr (.inl f_a2)))] (fun v w1 => ∃ (x : Int32 × Int32 × Nat × (Nat → Int32) × (Nat → Int64)) (q_a0_plan_profile_row : Nat), x = m_La_profile a0_plan_hasProfile a0_plan_profile_most a0_plan_profile_count n_a0_plan_profile_row f_a0_plan_profile_row f_a2 p1 ∧ v = some (.int x.1) ∧ w1 = [(h_a0, .inr (6, [.ref h_a0_file, .ref h_a0_scanner, .ref h_a0_writer, .ref h_a0_plan, .int a0_scanned, .int a0_refusedAt])), (h_a0_plan, .inr (3, [.int a0_plan_high, .int a0_plan_wide, .int a0_plan_components, .int a0_plan_unknown, .int a0_plan_rights, .ref h_a0_plan_bits, .int a0_plan_colours, .int a0_plan_hasProfile, .ref h_a0_plan_profile, .ref h_a0_plan_palette, .ref h_a0_plan_map, .ref h_a0_plan_meanings, .ref h_a0_plan_capture, .ref h_a0_plan_display])), (h_a0_plan_profile, .inr (0, [.int a0_plan_profile_most, .ref q_a0_plan_profile_row, .int x.2.1])), (q_a0_plan_profile_row, .inl (cB, x.2.2.1, .inl x.2.2.2.1)), (h_a2, .inl (cJ, n_a2, .inr (.inl x.2.2.2.2)))]) sz := by
  refine CtW.of (by decide) (Nat.le_of_ble_eq_true rfl) ?_
  intro p e R s m args below meth c A ls Q hx hb hr hlk hml hta hown hin hK hN hA hRf hRl hRc hRs hP hD hS hl hQ hTh hAs htab
  have hl : lv_has ls 4 [(0, .ref h_a0), (1, .int p1), (2, .ref h_a2)] := hl
  obtain ⟨RES, E0⟩ : ∃ R, m_La_profile a0_plan_hasProfile a0_plan_profile_most a0_plan_profile_count n_a0_plan_profile_row f_a0_plan_profile_row f_a2 p1 = R := ⟨_, rfl⟩
  have E := E0
  refine lv_aload_n hx hb d_La_profile_0 rfl (lv_at hl 2 rfl) ?_
  refine lv_iconst (v := 0) hx hb d_La_profile_1 (by decide) ?_
  refine lv_aload_n hx hb d_La_profile_2 rfl (lv_at hl 0 rfl) ?_
  refine lv_iload_n hx hb d_La_profile_3 rfl (lv_at hl 1 rfl) ?_
  refine kc_VX (As := [.int p1]) (rest := [.int 0, .ref h_a2]) (wr := [(h_a2, .inl (cJ, n_a2, .inr (.inl f_a2)))]) [0, 1, 2, 3] [4] ⟨hx, hb, hml, hown, hta⟩ hK hN hTh hAs hP hD hS hA (c_FB_profile l D cB cI cJ h_a0 h_a0_file h_a0_scanner h_a0_writer h_a0_plan h_a0_plan_bits h_a0_plan_profile h_a0_plan_palette h_a0_plan_map h_a0_plan_meanings h_a0_plan_capture h_a0_plan_display h_a0_plan_profile_row a0_scanned a0_refusedAt a0_plan_high a0_plan_wide a0_plan_components a0_plan_unknown a0_plan_rights a0_plan_colours a0_plan_hasProfile a0_plan_profile_most a0_plan_profile_count n_a0_plan_profile_row f_a0_plan_profile_row p1 hLt hmost hfit hn_a0_plan_profile_row _) (hta _ lk_La_25) (hta _ ini_FB) (hta _ code_FB_profile) code_FB_profile (hta _ inst_FB_profile) (hta _ sel_FB_profile) hd_FB_profile rfl ⟨by omega, by omega⟩ (ci := 6) 0 rfl rfl rfl rfl (by decide) (by decide) (by decide) rfl hl.1 (lv_room (Nat.le_of_ble_eq_true rfl)) d_La_profile_4 ⟨by omega, by omega⟩ (m_FB_profile a0_plan_hasProfile a0_plan_profile_most a0_plan_profile_count n_a0_plan_profile_row f_a0_plan_profile_row p1).1 (fun o w1 hw => ?_) (fun h0 v w1 H locs hw hP hD hS => ?_) (fun h0 q_x4 w1 H locs hw hP hD hS hex => ?_)
  · obtain ⟨x4, q_4_t_plan_profile_row, hx4, hko, hw1⟩ := hw
    exact ⟨_, by rw [← hx4]; exact hko⟩
  · obtain ⟨x4, q_4_t_plan_profile_row, hx4, hko, hw1⟩ := hw
    have h1 : x4.1 = 0 := by rw [hx4]; exact h0
    subst hw1
    have hv : v = some (.int x4.2.1) := by rw [kO, if_pos h1] at hko; exact Sum.inl.inj hko
    subst hv
    have hP : va_P D classes [(h_a0, .inr (6, [.ref h_a0_file, .ref h_a0_scanner, .ref h_a0_writer, .ref h_a0_plan, .int a0_scanned, .int a0_refusedAt])), (h_a0_plan, .inr (3, [.int a0_plan_high, .int a0_plan_wide, .int a0_plan_components, .int a0_plan_unknown, .int a0_plan_rights, .ref h_a0_plan_bits, .int a0_plan_colours, .int a0_plan_hasProfile, .ref h_a0_plan_profile, .ref h_a0_plan_palette, .ref h_a0_plan_map, .ref h_a0_plan_meanings, .ref h_a0_plan_capture, .ref h_a0_plan_display])), (h_a0_plan_profile, .inr (0, [.int a0_plan_profile_most, .ref q_4_t_plan_profile_row, .int x4.2.2.1])), (q_4_t_plan_profile_row, .inl (cB, x4.2.2.2.1, .inl x4.2.2.2.2)), (h_a2, .inl (cJ, n_a2, .inr (.inl f_a2)))] H := hP.sub [1, 2, 3, 4, 0] rfl
    have hD : va_D A [(h_a0, .inr (6, [.ref h_a0_file, .ref h_a0_scanner, .ref h_a0_writer, .ref h_a0_plan, .int a0_scanned, .int a0_refusedAt])), (h_a0_plan, .inr (3, [.int a0_plan_high, .int a0_plan_wide, .int a0_plan_components, .int a0_plan_unknown, .int a0_plan_rights, .ref h_a0_plan_bits, .int a0_plan_colours, .int a0_plan_hasProfile, .ref h_a0_plan_profile, .ref h_a0_plan_palette, .ref h_a0_plan_map, .ref h_a0_plan_meanings, .ref h_a0_plan_capture, .ref h_a0_plan_display])), (h_a0_plan_profile, .inr (0, [.int a0_plan_profile_most, .ref q_4_t_plan_profile_row, .int x4.2.2.1])), (q_4_t_plan_profile_row, .inl (cB, x4.2.2.2.1, .inl x4.2.2.2.2)), (h_a2, .inl (cJ, n_a2, .inr (.inl f_a2)))] := hD.sub [1, 2, 3, 4, 0] (by decide) rfl
    have E : k_La_profile_4 f_a2 x4 = RES := (congrArg (k_La_profile_4 f_a2) hx4).trans E
    have E := (if_pos h1).symm.trans E
    refine W.eq (g2 := F0 m 7 ls [.int x4.2.1, .int 0, .ref h_a2]) rfl ?_
    refine lv_i2l (v := (x4.2.1 : Int32).toInt64) hx hb d_La_profile_7 rfl ?_
    refine va_last hx hb hK hP hD hS 4 2 rfl rfl hout d_La_profile_8 (fun H locs (hP : va_P D classes [(h_a0, .inr (6, [.ref h_a0_file, .ref h_a0_scanner, .ref h_a0_writer, .ref h_a0_plan, .int a0_scanned, .int a0_refusedAt])), (h_a0_plan, .inr (3, [.int a0_plan_high, .int a0_plan_wide, .int a0_plan_components, .int a0_plan_unknown, .int a0_plan_rights, .ref h_a0_plan_bits, .int a0_plan_colours, .int a0_plan_hasProfile, .ref h_a0_plan_profile, .ref h_a0_plan_palette, .ref h_a0_plan_map, .ref h_a0_plan_meanings, .ref h_a0_plan_capture, .ref h_a0_plan_display])), (h_a0_plan_profile, .inr (0, [.int a0_plan_profile_most, .ref q_4_t_plan_profile_row, .int x4.2.2.1])), (q_4_t_plan_profile_row, .inl (cB, x4.2.2.2.1, .inl x4.2.2.2.2)), (h_a2, .inl (cJ, n_a2, .inr (.inl (vp_updL f_a2 (0 : Int32).toNatClampNeg ((x4.2.1 : Int32).toInt64)))))] H) (hD : va_D A [(h_a0, .inr (6, [.ref h_a0_file, .ref h_a0_scanner, .ref h_a0_writer, .ref h_a0_plan, .int a0_scanned, .int a0_refusedAt])), (h_a0_plan, .inr (3, [.int a0_plan_high, .int a0_plan_wide, .int a0_plan_components, .int a0_plan_unknown, .int a0_plan_rights, .ref h_a0_plan_bits, .int a0_plan_colours, .int a0_plan_hasProfile, .ref h_a0_plan_profile, .ref h_a0_plan_palette, .ref h_a0_plan_map, .ref h_a0_plan_meanings, .ref h_a0_plan_capture, .ref h_a0_plan_display])), (h_a0_plan_profile, .inr (0, [.int a0_plan_profile_most, .ref q_4_t_plan_profile_row, .int x4.2.2.1])), (q_4_t_plan_profile_row, .inl (cB, x4.2.2.2.1, .inl x4.2.2.2.2)), (h_a2, .inl (cJ, n_a2, .inr (.inl (vp_updL f_a2 (0 : Int32).toNatClampNeg ((x4.2.1 : Int32).toInt64)))))]) hS => ?_)
    refine lv_goto (tgt := 21) hx hb d_La_profile_9 (by decide) ?_
    refine lv_iconst (v := 0) hx hb d_La_profile_21 (by decide) ?_
    exact kr_i hx hb hr hlk hQ hK hP hD hS ⟨((0, x4.2.2.1, x4.2.2.2.1, x4.2.2.2.2, vp_updL f_a2 (0 : Int32).toNatClampNeg ((x4.2.1 : Int32).toInt64)) : Int32 × Int32 × Nat × (Nat → Int32) × (Nat → Int64)), q_4_t_plan_profile_row, E.trans E0.symm, rfl, rfl⟩ (by omega) (by omega) d_La_profile_22
  · obtain ⟨x4, q_4_t_plan_profile_row, hx4, hko, hw1⟩ := hw
    have h1 : ¬ x4.1 = 0 := by rw [hx4]; exact h0
    subst hw1
    have hP : va_P D classes [(h_a0, .inr (6, [.ref h_a0_file, .ref h_a0_scanner, .ref h_a0_writer, .ref h_a0_plan, .int a0_scanned, .int a0_refusedAt])), (h_a0_plan, .inr (3, [.int a0_plan_high, .int a0_plan_wide, .int a0_plan_components, .int a0_plan_unknown, .int a0_plan_rights, .ref h_a0_plan_bits, .int a0_plan_colours, .int a0_plan_hasProfile, .ref h_a0_plan_profile, .ref h_a0_plan_palette, .ref h_a0_plan_map, .ref h_a0_plan_meanings, .ref h_a0_plan_capture, .ref h_a0_plan_display])), (h_a0_plan_profile, .inr (0, [.int a0_plan_profile_most, .ref q_4_t_plan_profile_row, .int x4.2.2.1])), (q_4_t_plan_profile_row, .inl (cB, x4.2.2.2.1, .inl x4.2.2.2.2)), (h_a2, .inl (cJ, n_a2, .inr (.inl f_a2)))] H := hP.sub [1, 2, 3, 4, 0] rfl
    have hD : va_D A [(h_a0, .inr (6, [.ref h_a0_file, .ref h_a0_scanner, .ref h_a0_writer, .ref h_a0_plan, .int a0_scanned, .int a0_refusedAt])), (h_a0_plan, .inr (3, [.int a0_plan_high, .int a0_plan_wide, .int a0_plan_components, .int a0_plan_unknown, .int a0_plan_rights, .ref h_a0_plan_bits, .int a0_plan_colours, .int a0_plan_hasProfile, .ref h_a0_plan_profile, .ref h_a0_plan_palette, .ref h_a0_plan_map, .ref h_a0_plan_meanings, .ref h_a0_plan_capture, .ref h_a0_plan_display])), (h_a0_plan_profile, .inr (0, [.int a0_plan_profile_most, .ref q_4_t_plan_profile_row, .int x4.2.2.1])), (q_4_t_plan_profile_row, .inl (cB, x4.2.2.2.1, .inl x4.2.2.2.2)), (h_a2, .inl (cJ, n_a2, .inr (.inl f_a2)))] := hD.sub [1, 2, 3, 4, 0] (by decide) rfl
    have E : k_La_profile_4 f_a2 x4 = RES := (congrArg (k_La_profile_4 f_a2) hx4).trans E
    have E := (if_neg h1).symm.trans E
    by_cases c_x0 : x4.1 = 3
    · have E := (if_pos c_x0).symm.trans E
      have hk : (m_FB_profile a0_plan_hasProfile a0_plan_profile_most a0_plan_profile_count n_a0_plan_profile_row f_a0_plan_profile_row p1).1 = 3 := by rw [← hx4]; exact c_x0
      rw [hk] at hex
      refine kq_catch (pre := []) (x := ⟨0, 9, 12, 29⟩) (rs := [⟨0, 9, 15, 13⟩, ⟨0, 9, 18, 31⟩]) hown hta hTh hex htab (fun y hy => by cases hy) (by decide) (by decide) lk_La_29 th_c3 ?_
      refine W.eq (g2 := F0 m 12 ls [.ref q_x4]) rfl ?_
      refine lv_astore_n (lv' := [(3, .ref q_x4), (0, .ref h_a0), (1, .int p1), (2, .ref h_a2)]) hx hb d_La_profile_12 rfl hl (by decide) rfl (fun ls hl => ?_)
      refine lv_iconst (v := 1) hx hb d_La_profile_13 (by decide) ?_
      exact kr_i hx hb hr hlk hQ hK hP hD hS ⟨((1, x4.2.2.1, x4.2.2.2.1, x4.2.2.2.2, f_a2) : Int32 × Int32 × Nat × (Nat → Int32) × (Nat → Int64)), q_4_t_plan_profile_row, E.trans E0.symm, rfl, rfl⟩ (by omega) (by omega) d_La_profile_14
    have E := (if_neg c_x0).symm.trans E
    by_cases c_x1 : x4.1 = 1
    · have E := (if_pos c_x1).symm.trans E
      have hk : (m_FB_profile a0_plan_hasProfile a0_plan_profile_most a0_plan_profile_count n_a0_plan_profile_row f_a0_plan_profile_row p1).1 = 1 := by rw [← hx4]; exact c_x1
      rw [hk] at hex
      refine kq_catch (pre := [⟨0, 9, 12, 29⟩]) (x := ⟨0, 9, 15, 13⟩) (rs := [⟨0, 9, 18, 31⟩]) hown hta hTh hex htab (by
        refine List.forall_mem_cons.mpr ⟨⟨by decide, 3, lk_La_29, th_n13⟩, ?_⟩
        intro y hy; cases hy) (by decide) (by decide) lk_La_13 th_c1 ?_
      refine W.eq (g2 := F0 m 15 ls [.ref q_x4]) rfl ?_
      refine lv_astore_n (lv' := [(3, .ref q_x4), (0, .ref h_a0), (1, .int p1), (2, .ref h_a2)]) hx hb d_La_profile_15 rfl hl (by decide) rfl (fun ls hl => ?_)
      refine lv_iconst (v := 2) hx hb d_La_profile_16 (by decide) ?_
      exact kr_i hx hb hr hlk hQ hK hP hD hS ⟨((2, x4.2.2.1, x4.2.2.2.1, x4.2.2.2.2, f_a2) : Int32 × Int32 × Nat × (Nat → Int32) × (Nat → Int64)), q_4_t_plan_profile_row, E.trans E0.symm, rfl, rfl⟩ (by omega) (by omega) d_La_profile_17
    have E := (if_neg c_x1).symm.trans E
    have c_x2 : x4.1 = 4 := by
      have hkd : ((m_FB_profile a0_plan_hasProfile a0_plan_profile_most a0_plan_profile_count n_a0_plan_profile_row f_a0_plan_profile_row p1).1 = 0 ∨ (m_FB_profile a0_plan_hasProfile a0_plan_profile_most a0_plan_profile_count n_a0_plan_profile_row f_a0_plan_profile_row p1).1 = 3 ∨ (m_FB_profile a0_plan_hasProfile a0_plan_profile_most a0_plan_profile_count n_a0_plan_profile_row f_a0_plan_profile_row p1).1 = 1 ∨ (m_FB_profile a0_plan_hasProfile a0_plan_profile_most a0_plan_profile_count n_a0_plan_profile_row f_a0_plan_profile_row p1).1 = 4) := kd_m_FB_profile
      rw [hx4] at h1 c_x0 c_x1 ⊢
      omega
    have hk : (m_FB_profile a0_plan_hasProfile a0_plan_profile_most a0_plan_profile_count n_a0_plan_profile_row f_a0_plan_profile_row p1).1 = 4 := by rw [← hx4]; exact c_x2
    rw [hk] at hex
    refine kq_catch (pre := [⟨0, 9, 12, 29⟩, ⟨0, 9, 15, 13⟩]) (x := ⟨0, 9, 18, 31⟩) (rs := []) hown hta hTh hex htab (by
      refine List.forall_mem_cons.mpr ⟨⟨by decide, 3, lk_La_29, th_n43⟩, ?_⟩
      refine List.forall_mem_cons.mpr ⟨⟨by decide, 1, lk_La_13, th_n41⟩, ?_⟩
      intro y hy; cases hy) (by decide) (by decide) lk_La_31 th_c4 ?_
    refine W.eq (g2 := F0 m 18 ls [.ref q_x4]) rfl ?_
    refine lv_astore_n (lv' := [(3, .ref q_x4), (0, .ref h_a0), (1, .int p1), (2, .ref h_a2)]) hx hb d_La_profile_18 rfl hl (by decide) rfl (fun ls hl => ?_)
    refine lv_iconst (v := 3) hx hb d_La_profile_19 (by decide) ?_
    exact kr_i hx hb hr hlk hQ hK hP hD hS ⟨((3, x4.2.2.1, x4.2.2.2.1, x4.2.2.2.2, f_a2) : Int32 × Int32 × Nat × (Nat → Int32) × (Nat → Int64)), q_4_t_plan_profile_row, E.trans E0.symm, rfl, rfl⟩ (by omega) (by omega) d_La_profile_20
theorem d_La_palette_0 : decode b_La_palette 0 = .ok (.aload_n 0, 1) := by decide +kernel
theorem d_La_palette_1 : decode b_La_palette 1 = .ok (.iload_n 1, 1) := by decide +kernel
theorem d_La_palette_2 : decode b_La_palette 2 = .ok (.iload_n 2, 1) := by decide +kernel
theorem d_La_palette_3 : decode b_La_palette 3 = .ok (.invokevirtual 33, 3) := by decide +kernel
theorem d_La_palette_6 : decode b_La_palette 6 = .ok (.goto 6, 3) := by decide +kernel
theorem d_La_palette_9 : decode b_La_palette 9 = .ok (.astore_n 3, 1) := by decide +kernel
theorem d_La_palette_10 : decode b_La_palette 10 = .ok (.iconst 1, 1) := by decide +kernel
theorem d_La_palette_11 : decode b_La_palette 11 = .ok (.ireturn, 1) := by decide +kernel
theorem d_La_palette_12 : decode b_La_palette 12 = .ok (.iconst 0, 1) := by decide +kernel
theorem d_La_palette_13 : decode b_La_palette 13 = .ok (.ireturn, 1) := by decide +kernel
def k_La_palette_3 (x3 : Nat × Int32 × Int32 × (Nat → Int32) × Nat × (Nat → Int64) × Int32) : Int32 × Int32 × Int32 × (Nat → Int32) × Nat × (Nat → Int64) × Int32 :=
  if x3.1 = 0 then (0, x3.2.1, x3.2.2.1, x3.2.2.2.1, x3.2.2.2.2.1, x3.2.2.2.2.2.1, x3.2.2.2.2.2.2) else (1, x3.2.1, x3.2.2.1, x3.2.2.2.1, x3.2.2.2.2.1, x3.2.2.2.2.2.1, x3.2.2.2.2.2.2)
def m_La_palette (a0_plan_palette_entries : Int32) (a0_plan_palette_columns : Int32) (n_a0_plan_palette_bits : Nat) (f_a0_plan_palette_bits : Nat → Int32) (n_a0_plan_palette_numbers : Nat) (f_a0_plan_palette_numbers : Nat → Int64) (a0_plan_map_count : Int32) (p1 : Int32) (p2 : Int32) : Int32 × Int32 × Int32 × (Nat → Int32) × Nat × (Nat → Int64) × Int32 :=
  k_La_palette_3 (m_FB_palette a0_plan_palette_entries a0_plan_palette_columns n_a0_plan_palette_bits f_a0_plan_palette_bits n_a0_plan_palette_numbers f_a0_plan_palette_numbers a0_plan_map_count p1 p2)
set_option maxHeartbeats 4000000 in
set_option maxRecDepth 100000 in
theorem c_La_palette (l : Launch) (D : va_G) (cB cI cJ : ClassId) (h_a0 h_a0_file h_a0_scanner h_a0_writer h_a0_plan h_a0_plan_bits h_a0_plan_profile h_a0_plan_palette h_a0_plan_map h_a0_plan_meanings h_a0_plan_capture h_a0_plan_display h_a0_plan_palette_bits h_a0_plan_palette_numbers h_a0_plan_map_parts : Nat) (a0_scanned : Int32) (a0_refusedAt : Int32) (a0_plan_high : Int32) (a0_plan_wide : Int32) (a0_plan_components : Int32) (a0_plan_unknown : Int32) (a0_plan_rights : Int32) (a0_plan_colours : Int32) (a0_plan_hasProfile : Int32) (a0_plan_palette_entries : Int32) (a0_plan_palette_columns : Int32) (n_a0_plan_palette_bits : Nat) (f_a0_plan_palette_bits : Nat → Int32) (n_a0_plan_palette_numbers : Nat) (f_a0_plan_palette_numbers : Nat → Int64) (a0_plan_map_count : Int32) (p1 : Int32) (p2 : Int32) (hLt : kL l) (hn_a0_plan_palette_numbers : n_a0_plan_palette_numbers < 2147483648) (hn_a0_plan_palette_bits : n_a0_plan_palette_bits < 2147483648) (sz : Nat) : CtW l D cB cI cJ y_La_palette b_La_palette 4 (some .int) [(0, 6, 9, 13)] 7 104 2 4102 [.ref h_a0, .int p1, .int p2] [(h_a0, .inr (6, [.ref h_a0_file, .ref h_a0_scanner, .ref h_a0_writer, .ref h_a0_plan, .int a0_scanned, .int a0_refusedAt])), (h_a0_plan, .inr (3, [.int a0_plan_high, .int a0_plan_wide, .int a0_plan_components, .int a0_plan_unknown, .int a0_plan_rights, .ref h_a0_plan_bits, .int a0_plan_colours, .int a0_plan_hasProfile, .ref h_a0_plan_profile, .ref h_a0_plan_palette, .ref h_a0_plan_map, .ref h_a0_plan_meanings, .ref h_a0_plan_capture, .ref h_a0_plan_display])), (h_a0_plan_palette, .inr (2, [.int a0_plan_palette_entries, .int a0_plan_palette_columns, .ref h_a0_plan_palette_bits, .ref h_a0_plan_palette_numbers])), (h_a0_plan_palette_bits, .inl (cI, n_a0_plan_palette_bits, .inl f_a0_plan_palette_bits)), (h_a0_plan_palette_numbers, .inl (cJ, n_a0_plan_palette_numbers, .inr (.inl f_a0_plan_palette_numbers))), (h_a0_plan_map, .inr (1, [.ref h_a0_plan_map_parts, .int a0_plan_map_count]))] (fun v w1 => ∃ (x : Int32 × Int32 × Int32 × (Nat → Int32) × Nat × (Nat → Int64) × Int32) (q_a0_plan_palette_numbers : Nat), x = m_La_palette a0_plan_palette_entries a0_plan_palette_columns n_a0_plan_palette_bits f_a0_plan_palette_bits n_a0_plan_palette_numbers f_a0_plan_palette_numbers a0_plan_map_count p1 p2 ∧ v = some (.int x.1) ∧ w1 = [(h_a0, .inr (6, [.ref h_a0_file, .ref h_a0_scanner, .ref h_a0_writer, .ref h_a0_plan, .int a0_scanned, .int a0_refusedAt])), (h_a0_plan, .inr (3, [.int a0_plan_high, .int a0_plan_wide, .int a0_plan_components, .int a0_plan_unknown, .int a0_plan_rights, .ref h_a0_plan_bits, .int a0_plan_colours, .int a0_plan_hasProfile, .ref h_a0_plan_profile, .ref h_a0_plan_palette, .ref h_a0_plan_map, .ref h_a0_plan_meanings, .ref h_a0_plan_capture, .ref h_a0_plan_display])), (h_a0_plan_palette, .inr (2, [.int x.2.1, .int x.2.2.1, .ref h_a0_plan_palette_bits, .ref q_a0_plan_palette_numbers])), (h_a0_plan_palette_bits, .inl (cI, n_a0_plan_palette_bits, .inl x.2.2.2.1)), (q_a0_plan_palette_numbers, .inl (cJ, x.2.2.2.2.1, .inr (.inl x.2.2.2.2.2.1))), (h_a0_plan_map, .inr (1, [.ref h_a0_plan_map_parts, .int x.2.2.2.2.2.2]))]) sz := by
  refine CtW.of (by decide) (Nat.le_of_ble_eq_true rfl) ?_
  intro p e R s m args below meth c A ls Q hx hb hr hlk hml hta hown hin hK hN hA hRf hRl hRc hRs hP hD hS hl hQ hTh hAs htab
  have hl : lv_has ls 4 [(0, .ref h_a0), (1, .int p1), (2, .int p2)] := hl
  obtain ⟨RES, E0⟩ : ∃ R, m_La_palette a0_plan_palette_entries a0_plan_palette_columns n_a0_plan_palette_bits f_a0_plan_palette_bits n_a0_plan_palette_numbers f_a0_plan_palette_numbers a0_plan_map_count p1 p2 = R := ⟨_, rfl⟩
  have E := E0
  refine lv_aload_n hx hb d_La_palette_0 rfl (lv_at hl 0 rfl) ?_
  refine lv_iload_n hx hb d_La_palette_1 rfl (lv_at hl 1 rfl) ?_
  refine lv_iload_n hx hb d_La_palette_2 rfl (lv_at hl 2 rfl) ?_
  refine kc_VX (As := [.int p1, .int p2]) (rest := []) (wr := []) [0, 1, 2, 3, 4, 5] [] ⟨hx, hb, hml, hown, hta⟩ hK hN hTh hAs hP hD hS hA (c_FB_palette l D cB cI cJ h_a0 h_a0_file h_a0_scanner h_a0_writer h_a0_plan h_a0_plan_bits h_a0_plan_profile h_a0_plan_palette h_a0_plan_map h_a0_plan_meanings h_a0_plan_capture h_a0_plan_display h_a0_plan_palette_bits h_a0_plan_palette_numbers h_a0_plan_map_parts a0_scanned a0_refusedAt a0_plan_high a0_plan_wide a0_plan_components a0_plan_unknown a0_plan_rights a0_plan_colours a0_plan_hasProfile a0_plan_palette_entries a0_plan_palette_columns n_a0_plan_palette_bits f_a0_plan_palette_bits n_a0_plan_palette_numbers f_a0_plan_palette_numbers a0_plan_map_count p1 p2 hLt hn_a0_plan_palette_numbers hn_a0_plan_palette_bits _) (hta _ lk_La_33) (hta _ ini_FB) (hta _ code_FB_palette) code_FB_palette (hta _ inst_FB_palette) (hta _ sel_FB_palette) hd_FB_palette rfl ⟨by omega, by omega⟩ (ci := 6) 0 rfl rfl rfl rfl (by decide) (by decide) (by decide) rfl hl.1 (lv_room (Nat.le_of_ble_eq_true rfl)) d_La_palette_3 ⟨by omega, by omega⟩ (m_FB_palette a0_plan_palette_entries a0_plan_palette_columns n_a0_plan_palette_bits f_a0_plan_palette_bits n_a0_plan_palette_numbers f_a0_plan_palette_numbers a0_plan_map_count p1 p2).1 (fun o w1 hw => ?_) (fun h0 v w1 H locs hw hP hD hS => ?_) (fun h0 q_x3 w1 H locs hw hP hD hS hex => ?_)
  · obtain ⟨x3, q_3_t_plan_palette_numbers, hx3, hko, hw1⟩ := hw
    exact ⟨_, by rw [← hx3]; exact hko⟩
  · obtain ⟨x3, q_3_t_plan_palette_numbers, hx3, hko, hw1⟩ := hw
    have h1 : x3.1 = 0 := by rw [hx3]; exact h0
    subst hw1
    have hv : v = none := by rw [kO, if_pos h1] at hko; exact Sum.inl.inj hko
    subst hv
    have hP : va_P D classes [(h_a0, .inr (6, [.ref h_a0_file, .ref h_a0_scanner, .ref h_a0_writer, .ref h_a0_plan, .int a0_scanned, .int a0_refusedAt])), (h_a0_plan, .inr (3, [.int a0_plan_high, .int a0_plan_wide, .int a0_plan_components, .int a0_plan_unknown, .int a0_plan_rights, .ref h_a0_plan_bits, .int a0_plan_colours, .int a0_plan_hasProfile, .ref h_a0_plan_profile, .ref h_a0_plan_palette, .ref h_a0_plan_map, .ref h_a0_plan_meanings, .ref h_a0_plan_capture, .ref h_a0_plan_display])), (h_a0_plan_palette, .inr (2, [.int x3.2.1, .int x3.2.2.1, .ref h_a0_plan_palette_bits, .ref q_3_t_plan_palette_numbers])), (h_a0_plan_palette_bits, .inl (cI, n_a0_plan_palette_bits, .inl x3.2.2.2.1)), (q_3_t_plan_palette_numbers, .inl (cJ, x3.2.2.2.2.1, .inr (.inl x3.2.2.2.2.2.1))), (h_a0_plan_map, .inr (1, [.ref h_a0_plan_map_parts, .int x3.2.2.2.2.2.2]))] H := hP.sub [0, 1, 2, 3, 4, 5] rfl
    have hD : va_D A [(h_a0, .inr (6, [.ref h_a0_file, .ref h_a0_scanner, .ref h_a0_writer, .ref h_a0_plan, .int a0_scanned, .int a0_refusedAt])), (h_a0_plan, .inr (3, [.int a0_plan_high, .int a0_plan_wide, .int a0_plan_components, .int a0_plan_unknown, .int a0_plan_rights, .ref h_a0_plan_bits, .int a0_plan_colours, .int a0_plan_hasProfile, .ref h_a0_plan_profile, .ref h_a0_plan_palette, .ref h_a0_plan_map, .ref h_a0_plan_meanings, .ref h_a0_plan_capture, .ref h_a0_plan_display])), (h_a0_plan_palette, .inr (2, [.int x3.2.1, .int x3.2.2.1, .ref h_a0_plan_palette_bits, .ref q_3_t_plan_palette_numbers])), (h_a0_plan_palette_bits, .inl (cI, n_a0_plan_palette_bits, .inl x3.2.2.2.1)), (q_3_t_plan_palette_numbers, .inl (cJ, x3.2.2.2.2.1, .inr (.inl x3.2.2.2.2.2.1))), (h_a0_plan_map, .inr (1, [.ref h_a0_plan_map_parts, .int x3.2.2.2.2.2.2]))] := hD.sub [0, 1, 2, 3, 4, 5] (by decide) rfl
    have E : k_La_palette_3 x3 = RES := (congrArg (k_La_palette_3) hx3).trans E
    have E := (if_pos h1).symm.trans E
    refine W.eq (g2 := F0 m 6 ls []) rfl ?_
    refine lv_goto (tgt := 12) hx hb d_La_palette_6 (by decide) ?_
    refine lv_iconst (v := 0) hx hb d_La_palette_12 (by decide) ?_
    exact kr_i hx hb hr hlk hQ hK hP hD hS ⟨((0, x3.2.1, x3.2.2.1, x3.2.2.2.1, x3.2.2.2.2.1, x3.2.2.2.2.2.1, x3.2.2.2.2.2.2) : Int32 × Int32 × Int32 × (Nat → Int32) × Nat × (Nat → Int64) × Int32), q_3_t_plan_palette_numbers, E.trans E0.symm, rfl, rfl⟩ (by omega) (by omega) d_La_palette_13
  · obtain ⟨x3, q_3_t_plan_palette_numbers, hx3, hko, hw1⟩ := hw
    have h1 : ¬ x3.1 = 0 := by rw [hx3]; exact h0
    subst hw1
    have hP : va_P D classes [(h_a0, .inr (6, [.ref h_a0_file, .ref h_a0_scanner, .ref h_a0_writer, .ref h_a0_plan, .int a0_scanned, .int a0_refusedAt])), (h_a0_plan, .inr (3, [.int a0_plan_high, .int a0_plan_wide, .int a0_plan_components, .int a0_plan_unknown, .int a0_plan_rights, .ref h_a0_plan_bits, .int a0_plan_colours, .int a0_plan_hasProfile, .ref h_a0_plan_profile, .ref h_a0_plan_palette, .ref h_a0_plan_map, .ref h_a0_plan_meanings, .ref h_a0_plan_capture, .ref h_a0_plan_display])), (h_a0_plan_palette, .inr (2, [.int x3.2.1, .int x3.2.2.1, .ref h_a0_plan_palette_bits, .ref q_3_t_plan_palette_numbers])), (h_a0_plan_palette_bits, .inl (cI, n_a0_plan_palette_bits, .inl x3.2.2.2.1)), (q_3_t_plan_palette_numbers, .inl (cJ, x3.2.2.2.2.1, .inr (.inl x3.2.2.2.2.2.1))), (h_a0_plan_map, .inr (1, [.ref h_a0_plan_map_parts, .int x3.2.2.2.2.2.2]))] H := hP.sub [0, 1, 2, 3, 4, 5] rfl
    have hD : va_D A [(h_a0, .inr (6, [.ref h_a0_file, .ref h_a0_scanner, .ref h_a0_writer, .ref h_a0_plan, .int a0_scanned, .int a0_refusedAt])), (h_a0_plan, .inr (3, [.int a0_plan_high, .int a0_plan_wide, .int a0_plan_components, .int a0_plan_unknown, .int a0_plan_rights, .ref h_a0_plan_bits, .int a0_plan_colours, .int a0_plan_hasProfile, .ref h_a0_plan_profile, .ref h_a0_plan_palette, .ref h_a0_plan_map, .ref h_a0_plan_meanings, .ref h_a0_plan_capture, .ref h_a0_plan_display])), (h_a0_plan_palette, .inr (2, [.int x3.2.1, .int x3.2.2.1, .ref h_a0_plan_palette_bits, .ref q_3_t_plan_palette_numbers])), (h_a0_plan_palette_bits, .inl (cI, n_a0_plan_palette_bits, .inl x3.2.2.2.1)), (q_3_t_plan_palette_numbers, .inl (cJ, x3.2.2.2.2.1, .inr (.inl x3.2.2.2.2.2.1))), (h_a0_plan_map, .inr (1, [.ref h_a0_plan_map_parts, .int x3.2.2.2.2.2.2]))] := hD.sub [0, 1, 2, 3, 4, 5] (by decide) rfl
    have E : k_La_palette_3 x3 = RES := (congrArg (k_La_palette_3) hx3).trans E
    have E := (if_neg h1).symm.trans E
    have c_x0 : x3.1 = 1 := by
      have hkd : ((m_FB_palette a0_plan_palette_entries a0_plan_palette_columns n_a0_plan_palette_bits f_a0_plan_palette_bits n_a0_plan_palette_numbers f_a0_plan_palette_numbers a0_plan_map_count p1 p2).1 = 0 ∨ (m_FB_palette a0_plan_palette_entries a0_plan_palette_columns n_a0_plan_palette_bits f_a0_plan_palette_bits n_a0_plan_palette_numbers f_a0_plan_palette_numbers a0_plan_map_count p1 p2).1 = 1) := kd_m_FB_palette
      rw [hx3] at h1 ⊢
      omega
    have hk : (m_FB_palette a0_plan_palette_entries a0_plan_palette_columns n_a0_plan_palette_bits f_a0_plan_palette_bits n_a0_plan_palette_numbers f_a0_plan_palette_numbers a0_plan_map_count p1 p2).1 = 1 := by rw [← hx3]; exact c_x0
    rw [hk] at hex
    refine kq_catch (pre := []) (x := ⟨0, 6, 9, 13⟩) (rs := []) hown hta hTh hex htab (fun y hy => by cases hy) (by decide) (by decide) lk_La_13 th_c1 ?_
    refine W.eq (g2 := F0 m 9 ls [.ref q_x3]) rfl ?_
    refine lv_astore_n (lv' := [(3, .ref q_x3), (0, .ref h_a0), (1, .int p1), (2, .int p2)]) hx hb d_La_palette_9 rfl hl (by decide) rfl (fun ls hl => ?_)
    refine lv_iconst (v := 1) hx hb d_La_palette_10 (by decide) ?_
    exact kr_i hx hb hr hlk hQ hK hP hD hS ⟨((1, x3.2.1, x3.2.2.1, x3.2.2.2.1, x3.2.2.2.2.1, x3.2.2.2.2.2.1, x3.2.2.2.2.2.2) : Int32 × Int32 × Int32 × (Nat → Int32) × Nat × (Nat → Int64) × Int32), q_3_t_plan_palette_numbers, E.trans E0.symm, rfl, rfl⟩ (by omega) (by omega) d_La_palette_11
theorem d_La_column_0 : decode b_La_column 0 = .ok (.aload_n 0, 1) := by decide +kernel
theorem d_La_column_1 : decode b_La_column 1 = .ok (.iload_n 1, 1) := by decide +kernel
theorem d_La_column_2 : decode b_La_column 2 = .ok (.iload_n 2, 1) := by decide +kernel
theorem d_La_column_3 : decode b_La_column 3 = .ok (.invokevirtual 36, 3) := by decide +kernel
theorem d_La_column_6 : decode b_La_column 6 = .ok (.goto 9, 3) := by decide +kernel
theorem d_La_column_9 : decode b_La_column 9 = .ok (.astore_n 3, 1) := by decide +kernel
theorem d_La_column_10 : decode b_La_column 10 = .ok (.iconst 1, 1) := by decide +kernel
theorem d_La_column_11 : decode b_La_column 11 = .ok (.ireturn, 1) := by decide +kernel
theorem d_La_column_12 : decode b_La_column 12 = .ok (.astore_n 3, 1) := by decide +kernel
theorem d_La_column_13 : decode b_La_column 13 = .ok (.iconst 2, 1) := by decide +kernel
theorem d_La_column_14 : decode b_La_column 14 = .ok (.ireturn, 1) := by decide +kernel
theorem d_La_column_15 : decode b_La_column 15 = .ok (.iconst 0, 1) := by decide +kernel
theorem d_La_column_16 : decode b_La_column 16 = .ok (.ireturn, 1) := by decide +kernel
def k_La_column_3 (x3 : Nat × ((Nat → Int32))) : Int32 × (Nat → Int32) :=
  if x3.1 = 0 then (0, x3.2) else (if x3.1 = 2 then (1, x3.2) else (2, x3.2))
def m_La_column (a0_plan_palette_columns : Int32) (n_a0_plan_palette_bits : Nat) (f_a0_plan_palette_bits : Nat → Int32) (p1 : Int32) (p2 : Int32) : Int32 × (Nat → Int32) :=
  k_La_column_3 (m_FB_column a0_plan_palette_columns n_a0_plan_palette_bits f_a0_plan_palette_bits p1 p2)
set_option maxHeartbeats 4000000 in
set_option maxRecDepth 100000 in
theorem c_La_column (l : Launch) (D : va_G) (cB cI cJ : ClassId) (h_a0 h_a0_file h_a0_scanner h_a0_writer h_a0_plan h_a0_plan_bits h_a0_plan_profile h_a0_plan_palette h_a0_plan_map h_a0_plan_meanings h_a0_plan_capture h_a0_plan_display h_a0_plan_palette_bits h_a0_plan_palette_numbers : Nat) (a0_scanned : Int32) (a0_refusedAt : Int32) (a0_plan_high : Int32) (a0_plan_wide : Int32) (a0_plan_components : Int32) (a0_plan_unknown : Int32) (a0_plan_rights : Int32) (a0_plan_colours : Int32) (a0_plan_hasProfile : Int32) (a0_plan_palette_entries : Int32) (a0_plan_palette_columns : Int32) (n_a0_plan_palette_bits : Nat) (f_a0_plan_palette_bits : Nat → Int32) (p1 : Int32) (p2 : Int32) (hLt : kL l) (hn_a0_plan_palette_bits : n_a0_plan_palette_bits < 2147483648) (sz : Nat) : CtW l D cB cI cJ y_La_column b_La_column 4 (some .int) [(0, 6, 9, 19), (0, 6, 12, 13)] 7 104 1 6 [.ref h_a0, .int p1, .int p2] [(h_a0, .inr (6, [.ref h_a0_file, .ref h_a0_scanner, .ref h_a0_writer, .ref h_a0_plan, .int a0_scanned, .int a0_refusedAt])), (h_a0_plan, .inr (3, [.int a0_plan_high, .int a0_plan_wide, .int a0_plan_components, .int a0_plan_unknown, .int a0_plan_rights, .ref h_a0_plan_bits, .int a0_plan_colours, .int a0_plan_hasProfile, .ref h_a0_plan_profile, .ref h_a0_plan_palette, .ref h_a0_plan_map, .ref h_a0_plan_meanings, .ref h_a0_plan_capture, .ref h_a0_plan_display])), (h_a0_plan_palette, .inr (2, [.int a0_plan_palette_entries, .int a0_plan_palette_columns, .ref h_a0_plan_palette_bits, .ref h_a0_plan_palette_numbers])), (h_a0_plan_palette_bits, .inl (cI, n_a0_plan_palette_bits, .inl f_a0_plan_palette_bits))] (fun v w1 => ∃ (x : Int32 × (Nat → Int32)), x = m_La_column a0_plan_palette_columns n_a0_plan_palette_bits f_a0_plan_palette_bits p1 p2 ∧ v = some (.int x.1) ∧ w1 = [(h_a0, .inr (6, [.ref h_a0_file, .ref h_a0_scanner, .ref h_a0_writer, .ref h_a0_plan, .int a0_scanned, .int a0_refusedAt])), (h_a0_plan, .inr (3, [.int a0_plan_high, .int a0_plan_wide, .int a0_plan_components, .int a0_plan_unknown, .int a0_plan_rights, .ref h_a0_plan_bits, .int a0_plan_colours, .int a0_plan_hasProfile, .ref h_a0_plan_profile, .ref h_a0_plan_palette, .ref h_a0_plan_map, .ref h_a0_plan_meanings, .ref h_a0_plan_capture, .ref h_a0_plan_display])), (h_a0_plan_palette, .inr (2, [.int a0_plan_palette_entries, .int a0_plan_palette_columns, .ref h_a0_plan_palette_bits, .ref h_a0_plan_palette_numbers])), (h_a0_plan_palette_bits, .inl (cI, n_a0_plan_palette_bits, .inl x.2))]) sz := by
  refine CtW.of (by decide) (Nat.le_of_ble_eq_true rfl) ?_
  intro p e R s m args below meth c A ls Q hx hb hr hlk hml hta hown hin hK hN hA hRf hRl hRc hRs hP hD hS hl hQ hTh hAs htab
  have hl : lv_has ls 4 [(0, .ref h_a0), (1, .int p1), (2, .int p2)] := hl
  obtain ⟨RES, E0⟩ : ∃ R, m_La_column a0_plan_palette_columns n_a0_plan_palette_bits f_a0_plan_palette_bits p1 p2 = R := ⟨_, rfl⟩
  have E := E0
  refine lv_aload_n hx hb d_La_column_0 rfl (lv_at hl 0 rfl) ?_
  refine lv_iload_n hx hb d_La_column_1 rfl (lv_at hl 1 rfl) ?_
  refine lv_iload_n hx hb d_La_column_2 rfl (lv_at hl 2 rfl) ?_
  refine kc_VX (As := [.int p1, .int p2]) (rest := []) (wr := []) [0, 1, 2, 3] [] ⟨hx, hb, hml, hown, hta⟩ hK hN hTh hAs hP hD hS hA (c_FB_column l D cB cI cJ h_a0 h_a0_file h_a0_scanner h_a0_writer h_a0_plan h_a0_plan_bits h_a0_plan_profile h_a0_plan_palette h_a0_plan_map h_a0_plan_meanings h_a0_plan_capture h_a0_plan_display h_a0_plan_palette_bits h_a0_plan_palette_numbers a0_scanned a0_refusedAt a0_plan_high a0_plan_wide a0_plan_components a0_plan_unknown a0_plan_rights a0_plan_colours a0_plan_hasProfile a0_plan_palette_entries a0_plan_palette_columns n_a0_plan_palette_bits f_a0_plan_palette_bits p1 p2 hLt hn_a0_plan_palette_bits _) (hta _ lk_La_36) (hta _ ini_FB) (hta _ code_FB_column) code_FB_column (hta _ inst_FB_column) (hta _ sel_FB_column) hd_FB_column rfl ⟨by omega, by omega⟩ (ci := 6) 0 rfl rfl rfl rfl (by decide) (by decide) (by decide) rfl hl.1 (lv_room (Nat.le_of_ble_eq_true rfl)) d_La_column_3 ⟨by omega, by omega⟩ (m_FB_column a0_plan_palette_columns n_a0_plan_palette_bits f_a0_plan_palette_bits p1 p2).1 (fun o w1 hw => ?_) (fun h0 v w1 H locs hw hP hD hS => ?_) (fun h0 q_x3 w1 H locs hw hP hD hS hex => ?_)
  · obtain ⟨x3, hx3, hko, hw1⟩ := hw
    exact ⟨_, by rw [← hx3]; exact hko⟩
  · obtain ⟨x3, hx3, hko, hw1⟩ := hw
    have h1 : x3.1 = 0 := by rw [hx3]; exact h0
    subst hw1
    have hv : v = none := by rw [kO, if_pos h1] at hko; exact Sum.inl.inj hko
    subst hv
    have hP : va_P D classes [(h_a0, .inr (6, [.ref h_a0_file, .ref h_a0_scanner, .ref h_a0_writer, .ref h_a0_plan, .int a0_scanned, .int a0_refusedAt])), (h_a0_plan, .inr (3, [.int a0_plan_high, .int a0_plan_wide, .int a0_plan_components, .int a0_plan_unknown, .int a0_plan_rights, .ref h_a0_plan_bits, .int a0_plan_colours, .int a0_plan_hasProfile, .ref h_a0_plan_profile, .ref h_a0_plan_palette, .ref h_a0_plan_map, .ref h_a0_plan_meanings, .ref h_a0_plan_capture, .ref h_a0_plan_display])), (h_a0_plan_palette, .inr (2, [.int a0_plan_palette_entries, .int a0_plan_palette_columns, .ref h_a0_plan_palette_bits, .ref h_a0_plan_palette_numbers])), (h_a0_plan_palette_bits, .inl (cI, n_a0_plan_palette_bits, .inl x3.2))] H := hP.sub [0, 1, 2, 3] rfl
    have hD : va_D A [(h_a0, .inr (6, [.ref h_a0_file, .ref h_a0_scanner, .ref h_a0_writer, .ref h_a0_plan, .int a0_scanned, .int a0_refusedAt])), (h_a0_plan, .inr (3, [.int a0_plan_high, .int a0_plan_wide, .int a0_plan_components, .int a0_plan_unknown, .int a0_plan_rights, .ref h_a0_plan_bits, .int a0_plan_colours, .int a0_plan_hasProfile, .ref h_a0_plan_profile, .ref h_a0_plan_palette, .ref h_a0_plan_map, .ref h_a0_plan_meanings, .ref h_a0_plan_capture, .ref h_a0_plan_display])), (h_a0_plan_palette, .inr (2, [.int a0_plan_palette_entries, .int a0_plan_palette_columns, .ref h_a0_plan_palette_bits, .ref h_a0_plan_palette_numbers])), (h_a0_plan_palette_bits, .inl (cI, n_a0_plan_palette_bits, .inl x3.2))] := hD.sub [0, 1, 2, 3] (by decide) rfl
    have E : k_La_column_3 x3 = RES := (congrArg (k_La_column_3) hx3).trans E
    have E := (if_pos h1).symm.trans E
    refine W.eq (g2 := F0 m 6 ls []) rfl ?_
    refine lv_goto (tgt := 15) hx hb d_La_column_6 (by decide) ?_
    refine lv_iconst (v := 0) hx hb d_La_column_15 (by decide) ?_
    exact kr_i hx hb hr hlk hQ hK hP hD hS ⟨((0, x3.2) : Int32 × (Nat → Int32)), E.trans E0.symm, rfl, rfl⟩ (by omega) (by omega) d_La_column_16
  · obtain ⟨x3, hx3, hko, hw1⟩ := hw
    have h1 : ¬ x3.1 = 0 := by rw [hx3]; exact h0
    subst hw1
    have hP : va_P D classes [(h_a0, .inr (6, [.ref h_a0_file, .ref h_a0_scanner, .ref h_a0_writer, .ref h_a0_plan, .int a0_scanned, .int a0_refusedAt])), (h_a0_plan, .inr (3, [.int a0_plan_high, .int a0_plan_wide, .int a0_plan_components, .int a0_plan_unknown, .int a0_plan_rights, .ref h_a0_plan_bits, .int a0_plan_colours, .int a0_plan_hasProfile, .ref h_a0_plan_profile, .ref h_a0_plan_palette, .ref h_a0_plan_map, .ref h_a0_plan_meanings, .ref h_a0_plan_capture, .ref h_a0_plan_display])), (h_a0_plan_palette, .inr (2, [.int a0_plan_palette_entries, .int a0_plan_palette_columns, .ref h_a0_plan_palette_bits, .ref h_a0_plan_palette_numbers])), (h_a0_plan_palette_bits, .inl (cI, n_a0_plan_palette_bits, .inl x3.2))] H := hP.sub [0, 1, 2, 3] rfl
    have hD : va_D A [(h_a0, .inr (6, [.ref h_a0_file, .ref h_a0_scanner, .ref h_a0_writer, .ref h_a0_plan, .int a0_scanned, .int a0_refusedAt])), (h_a0_plan, .inr (3, [.int a0_plan_high, .int a0_plan_wide, .int a0_plan_components, .int a0_plan_unknown, .int a0_plan_rights, .ref h_a0_plan_bits, .int a0_plan_colours, .int a0_plan_hasProfile, .ref h_a0_plan_profile, .ref h_a0_plan_palette, .ref h_a0_plan_map, .ref h_a0_plan_meanings, .ref h_a0_plan_capture, .ref h_a0_plan_display])), (h_a0_plan_palette, .inr (2, [.int a0_plan_palette_entries, .int a0_plan_palette_columns, .ref h_a0_plan_palette_bits, .ref h_a0_plan_palette_numbers])), (h_a0_plan_palette_bits, .inl (cI, n_a0_plan_palette_bits, .inl x3.2))] := hD.sub [0, 1, 2, 3] (by decide) rfl
    have E : k_La_column_3 x3 = RES := (congrArg (k_La_column_3) hx3).trans E
    have E := (if_neg h1).symm.trans E
    by_cases c_x0 : x3.1 = 2
    · have E := (if_pos c_x0).symm.trans E
      have hk : (m_FB_column a0_plan_palette_columns n_a0_plan_palette_bits f_a0_plan_palette_bits p1 p2).1 = 2 := by rw [← hx3]; exact c_x0
      rw [hk] at hex
      refine kq_catch (pre := []) (x := ⟨0, 6, 9, 19⟩) (rs := [⟨0, 6, 12, 13⟩]) hown hta hTh hex htab (fun y hy => by cases hy) (by decide) (by decide) lk_La_19 th_c2 ?_
      refine W.eq (g2 := F0 m 9 ls [.ref q_x3]) rfl ?_
      refine lv_astore_n (lv' := [(3, .ref q_x3), (0, .ref h_a0), (1, .int p1), (2, .int p2)]) hx hb d_La_column_9 rfl hl (by decide) rfl (fun ls hl => ?_)
      refine lv_iconst (v := 1) hx hb d_La_column_10 (by decide) ?_
      exact kr_i hx hb hr hlk hQ hK hP hD hS ⟨((1, x3.2) : Int32 × (Nat → Int32)), E.trans E0.symm, rfl, rfl⟩ (by omega) (by omega) d_La_column_11
    have E := (if_neg c_x0).symm.trans E
    have c_x1 : x3.1 = 1 := by
      have hkd : ((m_FB_column a0_plan_palette_columns n_a0_plan_palette_bits f_a0_plan_palette_bits p1 p2).1 = 0 ∨ (m_FB_column a0_plan_palette_columns n_a0_plan_palette_bits f_a0_plan_palette_bits p1 p2).1 = 2 ∨ (m_FB_column a0_plan_palette_columns n_a0_plan_palette_bits f_a0_plan_palette_bits p1 p2).1 = 1) := kd_m_FB_column
      rw [hx3] at h1 c_x0 ⊢
      omega
    have hk : (m_FB_column a0_plan_palette_columns n_a0_plan_palette_bits f_a0_plan_palette_bits p1 p2).1 = 1 := by rw [← hx3]; exact c_x1
    rw [hk] at hex
    refine kq_catch (pre := [⟨0, 6, 9, 19⟩]) (x := ⟨0, 6, 12, 13⟩) (rs := []) hown hta hTh hex htab (by
      refine List.forall_mem_cons.mpr ⟨⟨by decide, 2, lk_La_19, th_n12⟩, ?_⟩
      intro y hy; cases hy) (by decide) (by decide) lk_La_13 th_c1 ?_
    refine W.eq (g2 := F0 m 12 ls [.ref q_x3]) rfl ?_
    refine lv_astore_n (lv' := [(3, .ref q_x3), (0, .ref h_a0), (1, .int p1), (2, .int p2)]) hx hb d_La_column_12 rfl hl (by decide) rfl (fun ls hl => ?_)
    refine lv_iconst (v := 2) hx hb d_La_column_13 (by decide) ?_
    exact kr_i hx hb hr hlk hQ hK hP hD hS ⟨((2, x3.2) : Int32 × (Nat → Int32)), E.trans E0.symm, rfl, rfl⟩ (by omega) (by omega) d_La_column_14
theorem d_La_entry_0 : decode b_La_entry 0 = .ok (.aload_n 0, 1) := by decide +kernel
theorem d_La_entry_1 : decode b_La_entry 1 = .ok (.iload_n 1, 1) := by decide +kernel
theorem d_La_entry_2 : decode b_La_entry 2 = .ok (.iload_n 2, 1) := by decide +kernel
theorem d_La_entry_3 : decode b_La_entry 3 = .ok (.lload_n 3, 1) := by decide +kernel
theorem d_La_entry_4 : decode b_La_entry 4 = .ok (.invokevirtual 39, 3) := by decide +kernel
theorem d_La_entry_7 : decode b_La_entry 7 = .ok (.goto 11, 3) := by decide +kernel
theorem d_La_entry_10 : decode b_La_entry 10 = .ok (.astore 5, 2) := by decide +kernel
theorem d_La_entry_12 : decode b_La_entry 12 = .ok (.iconst 1, 1) := by decide +kernel
theorem d_La_entry_13 : decode b_La_entry 13 = .ok (.ireturn, 1) := by decide +kernel
theorem d_La_entry_14 : decode b_La_entry 14 = .ok (.astore 5, 2) := by decide +kernel
theorem d_La_entry_16 : decode b_La_entry 16 = .ok (.iconst 2, 1) := by decide +kernel
theorem d_La_entry_17 : decode b_La_entry 17 = .ok (.ireturn, 1) := by decide +kernel
theorem d_La_entry_18 : decode b_La_entry 18 = .ok (.iconst 0, 1) := by decide +kernel
theorem d_La_entry_19 : decode b_La_entry 19 = .ok (.ireturn, 1) := by decide +kernel
def k_La_entry_4 (x4 : Nat × ((Nat → Int64))) : Int32 × (Nat → Int64) :=
  if x4.1 = 0 then (0, x4.2) else (if x4.1 = 2 then (1, x4.2) else (2, x4.2))
def m_La_entry (a0_plan_palette_entries : Int32) (a0_plan_palette_columns : Int32) (n_a0_plan_palette_bits : Nat) (f_a0_plan_palette_bits : Nat → Int32) (n_a0_plan_palette_numbers : Nat) (f_a0_plan_palette_numbers : Nat → Int64) (p1 : Int32) (p2 : Int32) (p3 : Int64) : Int32 × (Nat → Int64) :=
  k_La_entry_4 (m_FB_entry a0_plan_palette_entries a0_plan_palette_columns n_a0_plan_palette_bits f_a0_plan_palette_bits n_a0_plan_palette_numbers f_a0_plan_palette_numbers p1 p2 p3)
set_option maxHeartbeats 4000000 in
set_option maxRecDepth 100000 in
theorem c_La_entry (l : Launch) (D : va_G) (cB cI cJ : ClassId) (h_a0 h_a0_file h_a0_scanner h_a0_writer h_a0_plan h_a0_plan_bits h_a0_plan_profile h_a0_plan_palette h_a0_plan_map h_a0_plan_meanings h_a0_plan_capture h_a0_plan_display h_a0_plan_palette_bits h_a0_plan_palette_numbers : Nat) (a0_scanned : Int32) (a0_refusedAt : Int32) (a0_plan_high : Int32) (a0_plan_wide : Int32) (a0_plan_components : Int32) (a0_plan_unknown : Int32) (a0_plan_rights : Int32) (a0_plan_colours : Int32) (a0_plan_hasProfile : Int32) (a0_plan_palette_entries : Int32) (a0_plan_palette_columns : Int32) (n_a0_plan_palette_bits : Nat) (f_a0_plan_palette_bits : Nat → Int32) (n_a0_plan_palette_numbers : Nat) (f_a0_plan_palette_numbers : Nat → Int64) (p1 : Int32) (p2 : Int32) (p3 : Int64) (hLt : kL l) (hn_a0_plan_palette_bits : n_a0_plan_palette_bits < 2147483648) (hn_a0_plan_palette_numbers : n_a0_plan_palette_numbers < 2147483648) (sz : Nat) : CtW l D cB cI cJ y_La_entry b_La_entry 6 (some .int) [(0, 7, 10, 19), (0, 7, 14, 13)] 7 106 1 6 [.ref h_a0, .int p1, .int p2, .long p3] [(h_a0, .inr (6, [.ref h_a0_file, .ref h_a0_scanner, .ref h_a0_writer, .ref h_a0_plan, .int a0_scanned, .int a0_refusedAt])), (h_a0_plan, .inr (3, [.int a0_plan_high, .int a0_plan_wide, .int a0_plan_components, .int a0_plan_unknown, .int a0_plan_rights, .ref h_a0_plan_bits, .int a0_plan_colours, .int a0_plan_hasProfile, .ref h_a0_plan_profile, .ref h_a0_plan_palette, .ref h_a0_plan_map, .ref h_a0_plan_meanings, .ref h_a0_plan_capture, .ref h_a0_plan_display])), (h_a0_plan_palette, .inr (2, [.int a0_plan_palette_entries, .int a0_plan_palette_columns, .ref h_a0_plan_palette_bits, .ref h_a0_plan_palette_numbers])), (h_a0_plan_palette_bits, .inl (cI, n_a0_plan_palette_bits, .inl f_a0_plan_palette_bits)), (h_a0_plan_palette_numbers, .inl (cJ, n_a0_plan_palette_numbers, .inr (.inl f_a0_plan_palette_numbers)))] (fun v w1 => ∃ (x : Int32 × (Nat → Int64)), x = m_La_entry a0_plan_palette_entries a0_plan_palette_columns n_a0_plan_palette_bits f_a0_plan_palette_bits n_a0_plan_palette_numbers f_a0_plan_palette_numbers p1 p2 p3 ∧ v = some (.int x.1) ∧ w1 = [(h_a0, .inr (6, [.ref h_a0_file, .ref h_a0_scanner, .ref h_a0_writer, .ref h_a0_plan, .int a0_scanned, .int a0_refusedAt])), (h_a0_plan, .inr (3, [.int a0_plan_high, .int a0_plan_wide, .int a0_plan_components, .int a0_plan_unknown, .int a0_plan_rights, .ref h_a0_plan_bits, .int a0_plan_colours, .int a0_plan_hasProfile, .ref h_a0_plan_profile, .ref h_a0_plan_palette, .ref h_a0_plan_map, .ref h_a0_plan_meanings, .ref h_a0_plan_capture, .ref h_a0_plan_display])), (h_a0_plan_palette, .inr (2, [.int a0_plan_palette_entries, .int a0_plan_palette_columns, .ref h_a0_plan_palette_bits, .ref h_a0_plan_palette_numbers])), (h_a0_plan_palette_bits, .inl (cI, n_a0_plan_palette_bits, .inl f_a0_plan_palette_bits)), (h_a0_plan_palette_numbers, .inl (cJ, n_a0_plan_palette_numbers, .inr (.inl x.2)))]) sz := by
  refine CtW.of (by decide) (Nat.le_of_ble_eq_true rfl) ?_
  intro p e R s m args below meth c A ls Q hx hb hr hlk hml hta hown hin hK hN hA hRf hRl hRc hRs hP hD hS hl hQ hTh hAs htab
  have hl : lv_has ls 6 [(0, .ref h_a0), (1, .int p1), (2, .int p2), (3, .long p3)] := hl
  obtain ⟨RES, E0⟩ : ∃ R, m_La_entry a0_plan_palette_entries a0_plan_palette_columns n_a0_plan_palette_bits f_a0_plan_palette_bits n_a0_plan_palette_numbers f_a0_plan_palette_numbers p1 p2 p3 = R := ⟨_, rfl⟩
  have E := E0
  refine lv_aload_n hx hb d_La_entry_0 rfl (lv_at hl 0 rfl) ?_
  refine lv_iload_n hx hb d_La_entry_1 rfl (lv_at hl 1 rfl) ?_
  refine lv_iload_n hx hb d_La_entry_2 rfl (lv_at hl 2 rfl) ?_
  refine lv_lload_n hx hb d_La_entry_3 rfl (lv_at hl 3 rfl) ?_
  refine kc_VX (As := [.int p1, .int p2, .long p3]) (rest := []) (wr := []) [0, 1, 2, 3, 4] [] ⟨hx, hb, hml, hown, hta⟩ hK hN hTh hAs hP hD hS hA (c_FB_entry l D cB cI cJ h_a0 h_a0_file h_a0_scanner h_a0_writer h_a0_plan h_a0_plan_bits h_a0_plan_profile h_a0_plan_palette h_a0_plan_map h_a0_plan_meanings h_a0_plan_capture h_a0_plan_display h_a0_plan_palette_bits h_a0_plan_palette_numbers a0_scanned a0_refusedAt a0_plan_high a0_plan_wide a0_plan_components a0_plan_unknown a0_plan_rights a0_plan_colours a0_plan_hasProfile a0_plan_palette_entries a0_plan_palette_columns n_a0_plan_palette_bits f_a0_plan_palette_bits n_a0_plan_palette_numbers f_a0_plan_palette_numbers p1 p2 p3 hLt hn_a0_plan_palette_bits hn_a0_plan_palette_numbers _) (hta _ lk_La_39) (hta _ ini_FB) (hta _ code_FB_entry) code_FB_entry (hta _ inst_FB_entry) (hta _ sel_FB_entry) hd_FB_entry rfl ⟨by omega, by omega⟩ (ci := 6) 0 rfl rfl rfl rfl (by decide) (by decide) (by decide) rfl hl.1 (lv_room (Nat.le_of_ble_eq_true rfl)) d_La_entry_4 ⟨by omega, by omega⟩ (m_FB_entry a0_plan_palette_entries a0_plan_palette_columns n_a0_plan_palette_bits f_a0_plan_palette_bits n_a0_plan_palette_numbers f_a0_plan_palette_numbers p1 p2 p3).1 (fun o w1 hw => ?_) (fun h0 v w1 H locs hw hP hD hS => ?_) (fun h0 q_x4 w1 H locs hw hP hD hS hex => ?_)
  · obtain ⟨x4, hx4, hko, hw1⟩ := hw
    exact ⟨_, by rw [← hx4]; exact hko⟩
  · obtain ⟨x4, hx4, hko, hw1⟩ := hw
    have h1 : x4.1 = 0 := by rw [hx4]; exact h0
    subst hw1
    have hv : v = none := by rw [kO, if_pos h1] at hko; exact Sum.inl.inj hko
    subst hv
    have hP : va_P D classes [(h_a0, .inr (6, [.ref h_a0_file, .ref h_a0_scanner, .ref h_a0_writer, .ref h_a0_plan, .int a0_scanned, .int a0_refusedAt])), (h_a0_plan, .inr (3, [.int a0_plan_high, .int a0_plan_wide, .int a0_plan_components, .int a0_plan_unknown, .int a0_plan_rights, .ref h_a0_plan_bits, .int a0_plan_colours, .int a0_plan_hasProfile, .ref h_a0_plan_profile, .ref h_a0_plan_palette, .ref h_a0_plan_map, .ref h_a0_plan_meanings, .ref h_a0_plan_capture, .ref h_a0_plan_display])), (h_a0_plan_palette, .inr (2, [.int a0_plan_palette_entries, .int a0_plan_palette_columns, .ref h_a0_plan_palette_bits, .ref h_a0_plan_palette_numbers])), (h_a0_plan_palette_bits, .inl (cI, n_a0_plan_palette_bits, .inl f_a0_plan_palette_bits)), (h_a0_plan_palette_numbers, .inl (cJ, n_a0_plan_palette_numbers, .inr (.inl x4.2)))] H := hP.sub [0, 1, 2, 3, 4] rfl
    have hD : va_D A [(h_a0, .inr (6, [.ref h_a0_file, .ref h_a0_scanner, .ref h_a0_writer, .ref h_a0_plan, .int a0_scanned, .int a0_refusedAt])), (h_a0_plan, .inr (3, [.int a0_plan_high, .int a0_plan_wide, .int a0_plan_components, .int a0_plan_unknown, .int a0_plan_rights, .ref h_a0_plan_bits, .int a0_plan_colours, .int a0_plan_hasProfile, .ref h_a0_plan_profile, .ref h_a0_plan_palette, .ref h_a0_plan_map, .ref h_a0_plan_meanings, .ref h_a0_plan_capture, .ref h_a0_plan_display])), (h_a0_plan_palette, .inr (2, [.int a0_plan_palette_entries, .int a0_plan_palette_columns, .ref h_a0_plan_palette_bits, .ref h_a0_plan_palette_numbers])), (h_a0_plan_palette_bits, .inl (cI, n_a0_plan_palette_bits, .inl f_a0_plan_palette_bits)), (h_a0_plan_palette_numbers, .inl (cJ, n_a0_plan_palette_numbers, .inr (.inl x4.2)))] := hD.sub [0, 1, 2, 3, 4] (by decide) rfl
    have E : k_La_entry_4 x4 = RES := (congrArg (k_La_entry_4) hx4).trans E
    have E := (if_pos h1).symm.trans E
    refine W.eq (g2 := F0 m 7 ls []) rfl ?_
    refine lv_goto (tgt := 18) hx hb d_La_entry_7 (by decide) ?_
    refine lv_iconst (v := 0) hx hb d_La_entry_18 (by decide) ?_
    exact kr_i hx hb hr hlk hQ hK hP hD hS ⟨((0, x4.2) : Int32 × (Nat → Int64)), E.trans E0.symm, rfl, rfl⟩ (by omega) (by omega) d_La_entry_19
  · obtain ⟨x4, hx4, hko, hw1⟩ := hw
    have h1 : ¬ x4.1 = 0 := by rw [hx4]; exact h0
    subst hw1
    have hP : va_P D classes [(h_a0, .inr (6, [.ref h_a0_file, .ref h_a0_scanner, .ref h_a0_writer, .ref h_a0_plan, .int a0_scanned, .int a0_refusedAt])), (h_a0_plan, .inr (3, [.int a0_plan_high, .int a0_plan_wide, .int a0_plan_components, .int a0_plan_unknown, .int a0_plan_rights, .ref h_a0_plan_bits, .int a0_plan_colours, .int a0_plan_hasProfile, .ref h_a0_plan_profile, .ref h_a0_plan_palette, .ref h_a0_plan_map, .ref h_a0_plan_meanings, .ref h_a0_plan_capture, .ref h_a0_plan_display])), (h_a0_plan_palette, .inr (2, [.int a0_plan_palette_entries, .int a0_plan_palette_columns, .ref h_a0_plan_palette_bits, .ref h_a0_plan_palette_numbers])), (h_a0_plan_palette_bits, .inl (cI, n_a0_plan_palette_bits, .inl f_a0_plan_palette_bits)), (h_a0_plan_palette_numbers, .inl (cJ, n_a0_plan_palette_numbers, .inr (.inl x4.2)))] H := hP.sub [0, 1, 2, 3, 4] rfl
    have hD : va_D A [(h_a0, .inr (6, [.ref h_a0_file, .ref h_a0_scanner, .ref h_a0_writer, .ref h_a0_plan, .int a0_scanned, .int a0_refusedAt])), (h_a0_plan, .inr (3, [.int a0_plan_high, .int a0_plan_wide, .int a0_plan_components, .int a0_plan_unknown, .int a0_plan_rights, .ref h_a0_plan_bits, .int a0_plan_colours, .int a0_plan_hasProfile, .ref h_a0_plan_profile, .ref h_a0_plan_palette, .ref h_a0_plan_map, .ref h_a0_plan_meanings, .ref h_a0_plan_capture, .ref h_a0_plan_display])), (h_a0_plan_palette, .inr (2, [.int a0_plan_palette_entries, .int a0_plan_palette_columns, .ref h_a0_plan_palette_bits, .ref h_a0_plan_palette_numbers])), (h_a0_plan_palette_bits, .inl (cI, n_a0_plan_palette_bits, .inl f_a0_plan_palette_bits)), (h_a0_plan_palette_numbers, .inl (cJ, n_a0_plan_palette_numbers, .inr (.inl x4.2)))] := hD.sub [0, 1, 2, 3, 4] (by decide) rfl
    have E : k_La_entry_4 x4 = RES := (congrArg (k_La_entry_4) hx4).trans E
    have E := (if_neg h1).symm.trans E
    by_cases c_x0 : x4.1 = 2
    · have E := (if_pos c_x0).symm.trans E
      have hk : (m_FB_entry a0_plan_palette_entries a0_plan_palette_columns n_a0_plan_palette_bits f_a0_plan_palette_bits n_a0_plan_palette_numbers f_a0_plan_palette_numbers p1 p2 p3).1 = 2 := by rw [← hx4]; exact c_x0
      rw [hk] at hex
      refine kq_catch (pre := []) (x := ⟨0, 7, 10, 19⟩) (rs := [⟨0, 7, 14, 13⟩]) hown hta hTh hex htab (fun y hy => by cases hy) (by decide) (by decide) lk_La_19 th_c2 ?_
      refine W.eq (g2 := F0 m 10 ls [.ref q_x4]) rfl ?_
      refine lv_astore (lv' := [(5, .ref q_x4), (0, .ref h_a0), (1, .int p1), (2, .int p2), (3, .long p3)]) hx hb d_La_entry_10 hl (by decide) rfl (fun ls hl => ?_)
      refine lv_iconst (v := 1) hx hb d_La_entry_12 (by decide) ?_
      exact kr_i hx hb hr hlk hQ hK hP hD hS ⟨((1, x4.2) : Int32 × (Nat → Int64)), E.trans E0.symm, rfl, rfl⟩ (by omega) (by omega) d_La_entry_13
    have E := (if_neg c_x0).symm.trans E
    have c_x1 : x4.1 = 1 := by
      have hkd : ((m_FB_entry a0_plan_palette_entries a0_plan_palette_columns n_a0_plan_palette_bits f_a0_plan_palette_bits n_a0_plan_palette_numbers f_a0_plan_palette_numbers p1 p2 p3).1 = 0 ∨ (m_FB_entry a0_plan_palette_entries a0_plan_palette_columns n_a0_plan_palette_bits f_a0_plan_palette_bits n_a0_plan_palette_numbers f_a0_plan_palette_numbers p1 p2 p3).1 = 2 ∨ (m_FB_entry a0_plan_palette_entries a0_plan_palette_columns n_a0_plan_palette_bits f_a0_plan_palette_bits n_a0_plan_palette_numbers f_a0_plan_palette_numbers p1 p2 p3).1 = 1) := kd_m_FB_entry
      rw [hx4] at h1 c_x0 ⊢
      omega
    have hk : (m_FB_entry a0_plan_palette_entries a0_plan_palette_columns n_a0_plan_palette_bits f_a0_plan_palette_bits n_a0_plan_palette_numbers f_a0_plan_palette_numbers p1 p2 p3).1 = 1 := by rw [← hx4]; exact c_x1
    rw [hk] at hex
    refine kq_catch (pre := [⟨0, 7, 10, 19⟩]) (x := ⟨0, 7, 14, 13⟩) (rs := []) hown hta hTh hex htab (by
      refine List.forall_mem_cons.mpr ⟨⟨by decide, 2, lk_La_19, th_n12⟩, ?_⟩
      intro y hy; cases hy) (by decide) (by decide) lk_La_13 th_c1 ?_
    refine W.eq (g2 := F0 m 14 ls [.ref q_x4]) rfl ?_
    refine lv_astore (lv' := [(5, .ref q_x4), (0, .ref h_a0), (1, .int p1), (2, .int p2), (3, .long p3)]) hx hb d_La_entry_14 hl (by decide) rfl (fun ls hl => ?_)
    refine lv_iconst (v := 2) hx hb d_La_entry_16 (by decide) ?_
    exact kr_i hx hb hr hlk hQ hK hP hD hS ⟨((2, x4.2) : Int32 × (Nat → Int64)), E.trans E0.symm, rfl, rfl⟩ (by omega) (by omega) d_La_entry_17
theorem d_La_map_0 : decode b_La_map 0 = .ok (.aload 4, 2) := by decide +kernel
theorem d_La_map_2 : decode b_La_map 2 = .ok (.iconst 0, 1) := by decide +kernel
theorem d_La_map_3 : decode b_La_map 3 = .ok (.aload_n 0, 1) := by decide +kernel
theorem d_La_map_4 : decode b_La_map 4 = .ok (.iload_n 1, 1) := by decide +kernel
theorem d_La_map_5 : decode b_La_map 5 = .ok (.iload_n 2, 1) := by decide +kernel
theorem d_La_map_6 : decode b_La_map 6 = .ok (.iload_n 3, 1) := by decide +kernel
theorem d_La_map_7 : decode b_La_map 7 = .ok (.invokevirtual 43, 3) := by decide +kernel
theorem d_La_map_10 : decode b_La_map 10 = .ok (.i2l, 1) := by decide +kernel
theorem d_La_map_11 : decode b_La_map 11 = .ok (.lastore, 1) := by decide +kernel
theorem d_La_map_12 : decode b_La_map 12 = .ok (.goto 11, 3) := by decide +kernel
theorem d_La_map_15 : decode b_La_map 15 = .ok (.astore 5, 2) := by decide +kernel
theorem d_La_map_17 : decode b_La_map 17 = .ok (.iconst 1, 1) := by decide +kernel
theorem d_La_map_18 : decode b_La_map 18 = .ok (.ireturn, 1) := by decide +kernel
theorem d_La_map_19 : decode b_La_map 19 = .ok (.astore 5, 2) := by decide +kernel
theorem d_La_map_21 : decode b_La_map 21 = .ok (.iconst 2, 1) := by decide +kernel
theorem d_La_map_22 : decode b_La_map 22 = .ok (.ireturn, 1) := by decide +kernel
theorem d_La_map_23 : decode b_La_map 23 = .ok (.iconst 0, 1) := by decide +kernel
theorem d_La_map_24 : decode b_La_map 24 = .ok (.ireturn, 1) := by decide +kernel
def k_La_map_7 (f_a4 : Nat → Int64) (x7 : Nat × Int32 × Int32 × (Nat → Int32)) : Int32 × Int32 × (Nat → Int32) × (Nat → Int64) :=
  if x7.1 = 0 then ((0, x7.2.2.1, x7.2.2.2, vp_updL f_a4 (0 : Int32).toNatClampNeg ((x7.2.1 : Int32).toInt64))) else (if x7.1 = 3 then (1, x7.2.2.1, x7.2.2.2, f_a4) else (2, x7.2.2.1, x7.2.2.2, f_a4))
def m_La_map (a0_plan_palette_entries : Int32) (a0_plan_palette_columns : Int32) (a0_plan_map_count : Int32) (n_a0_plan_map_parts : Nat) (f_a0_plan_map_parts : Nat → Int32) (f_a4 : Nat → Int64) (p1 : Int32) (p2 : Int32) (p3 : Int32) : Int32 × Int32 × (Nat → Int32) × (Nat → Int64) :=
  k_La_map_7 f_a4 (m_FB_map a0_plan_palette_entries a0_plan_palette_columns a0_plan_map_count n_a0_plan_map_parts f_a0_plan_map_parts p1 p2 p3)
set_option maxHeartbeats 4000000 in
set_option maxRecDepth 100000 in
theorem c_La_map (l : Launch) (D : va_G) (cB cI cJ : ClassId) (h_a0 h_a4 h_a0_file h_a0_scanner h_a0_writer h_a0_plan h_a0_plan_bits h_a0_plan_profile h_a0_plan_palette h_a0_plan_map h_a0_plan_meanings h_a0_plan_capture h_a0_plan_display h_a0_plan_palette_bits h_a0_plan_palette_numbers h_a0_plan_map_parts : Nat) (a0_scanned : Int32) (a0_refusedAt : Int32) (a0_plan_high : Int32) (a0_plan_wide : Int32) (a0_plan_components : Int32) (a0_plan_unknown : Int32) (a0_plan_rights : Int32) (a0_plan_colours : Int32) (a0_plan_hasProfile : Int32) (a0_plan_palette_entries : Int32) (a0_plan_palette_columns : Int32) (a0_plan_map_count : Int32) (n_a0_plan_map_parts : Nat) (f_a0_plan_map_parts : Nat → Int32) (n_a4 : Nat) (f_a4 : Nat → Int64) (p1 : Int32) (p2 : Int32) (p3 : Int32) (hout : vp_in 0 n_a4) (hLt : kL l) (hn_a0_plan_map_parts : n_a0_plan_map_parts < 2147483648) (sz : Nat) : CtW l D cB cI cJ y_La_map b_La_map 6 (some .int) [(0, 12, 15, 29), (0, 12, 19, 13)] 7 105 1 6 [.ref h_a0, .int p1, .int p2, .int p3, .ref h_a4] [(h_a0, .inr (6, [.ref h_a0_file, .ref h_a0_scanner, .ref h_a0_writer, .ref h_a0_plan, .int a0_scanned, .int a0_refusedAt])), (h_a0_plan, .inr (3, [.int a0_plan_high, .int a0_plan_wide, .int a0_plan_components, .int a0_plan_unknown, .int a0_plan_rights, .ref h_a0_plan_bits, .int a0_plan_colours, .int a0_plan_hasProfile, .ref h_a0_plan_profile, .ref h_a0_plan_palette, .ref h_a0_plan_map, .ref h_a0_plan_meanings, .ref h_a0_plan_capture, .ref h_a0_plan_display])), (h_a0_plan_palette, .inr (2, [.int a0_plan_palette_entries, .int a0_plan_palette_columns, .ref h_a0_plan_palette_bits, .ref h_a0_plan_palette_numbers])), (h_a0_plan_map, .inr (1, [.ref h_a0_plan_map_parts, .int a0_plan_map_count])), (h_a0_plan_map_parts, .inl (cI, n_a0_plan_map_parts, .inl f_a0_plan_map_parts)), (h_a4, .inl (cJ, n_a4, .inr (.inl f_a4)))] (fun v w1 => ∃ (x : Int32 × Int32 × (Nat → Int32) × (Nat → Int64)), x = m_La_map a0_plan_palette_entries a0_plan_palette_columns a0_plan_map_count n_a0_plan_map_parts f_a0_plan_map_parts f_a4 p1 p2 p3 ∧ v = some (.int x.1) ∧ w1 = [(h_a0, .inr (6, [.ref h_a0_file, .ref h_a0_scanner, .ref h_a0_writer, .ref h_a0_plan, .int a0_scanned, .int a0_refusedAt])), (h_a0_plan, .inr (3, [.int a0_plan_high, .int a0_plan_wide, .int a0_plan_components, .int a0_plan_unknown, .int a0_plan_rights, .ref h_a0_plan_bits, .int a0_plan_colours, .int a0_plan_hasProfile, .ref h_a0_plan_profile, .ref h_a0_plan_palette, .ref h_a0_plan_map, .ref h_a0_plan_meanings, .ref h_a0_plan_capture, .ref h_a0_plan_display])), (h_a0_plan_palette, .inr (2, [.int a0_plan_palette_entries, .int a0_plan_palette_columns, .ref h_a0_plan_palette_bits, .ref h_a0_plan_palette_numbers])), (h_a0_plan_map, .inr (1, [.ref h_a0_plan_map_parts, .int x.2.1])), (h_a0_plan_map_parts, .inl (cI, n_a0_plan_map_parts, .inl x.2.2.1)), (h_a4, .inl (cJ, n_a4, .inr (.inl x.2.2.2)))]) sz := by
  refine CtW.of (by decide) (Nat.le_of_ble_eq_true rfl) ?_
  intro p e R s m args below meth c A ls Q hx hb hr hlk hml hta hown hin hK hN hA hRf hRl hRc hRs hP hD hS hl hQ hTh hAs htab
  have hl : lv_has ls 6 [(0, .ref h_a0), (1, .int p1), (2, .int p2), (3, .int p3), (4, .ref h_a4)] := hl
  obtain ⟨RES, E0⟩ : ∃ R, m_La_map a0_plan_palette_entries a0_plan_palette_columns a0_plan_map_count n_a0_plan_map_parts f_a0_plan_map_parts f_a4 p1 p2 p3 = R := ⟨_, rfl⟩
  have E := E0
  refine lv_aload hx hb d_La_map_0 (lv_at hl 4 rfl) ?_
  refine lv_iconst (v := 0) hx hb d_La_map_2 (by decide) ?_
  refine lv_aload_n hx hb d_La_map_3 rfl (lv_at hl 0 rfl) ?_
  refine lv_iload_n hx hb d_La_map_4 rfl (lv_at hl 1 rfl) ?_
  refine lv_iload_n hx hb d_La_map_5 rfl (lv_at hl 2 rfl) ?_
  refine lv_iload_n hx hb d_La_map_6 rfl (lv_at hl 3 rfl) ?_
  refine kc_VX (As := [.int p1, .int p2, .int p3]) (rest := [.int 0, .ref h_a4]) (wr := [(h_a4, .inl (cJ, n_a4, .inr (.inl f_a4)))]) [0, 1, 2, 3, 4] [5] ⟨hx, hb, hml, hown, hta⟩ hK hN hTh hAs hP hD hS hA (c_FB_map l D cB cI cJ h_a0 h_a0_file h_a0_scanner h_a0_writer h_a0_plan h_a0_plan_bits h_a0_plan_profile h_a0_plan_palette h_a0_plan_map h_a0_plan_meanings h_a0_plan_capture h_a0_plan_display h_a0_plan_palette_bits h_a0_plan_palette_numbers h_a0_plan_map_parts a0_scanned a0_refusedAt a0_plan_high a0_plan_wide a0_plan_components a0_plan_unknown a0_plan_rights a0_plan_colours a0_plan_hasProfile a0_plan_palette_entries a0_plan_palette_columns a0_plan_map_count n_a0_plan_map_parts f_a0_plan_map_parts p1 p2 p3 hLt hn_a0_plan_map_parts _) (hta _ lk_La_43) (hta _ ini_FB) (hta _ code_FB_map) code_FB_map (hta _ inst_FB_map) (hta _ sel_FB_map) hd_FB_map rfl ⟨by omega, by omega⟩ (ci := 6) 0 rfl rfl rfl rfl (by decide) (by decide) (by decide) rfl hl.1 (lv_room (Nat.le_of_ble_eq_true rfl)) d_La_map_7 ⟨by omega, by omega⟩ (m_FB_map a0_plan_palette_entries a0_plan_palette_columns a0_plan_map_count n_a0_plan_map_parts f_a0_plan_map_parts p1 p2 p3).1 (fun o w1 hw => ?_) (fun h0 v w1 H locs hw hP hD hS => ?_) (fun h0 q_x7 w1 H locs hw hP hD hS hex => ?_)
  · obtain ⟨x7, hx7, hko, hw1⟩ := hw
    exact ⟨_, by rw [← hx7]; exact hko⟩
  · obtain ⟨x7, hx7, hko, hw1⟩ := hw
    have h1 : x7.1 = 0 := by rw [hx7]; exact h0
    subst hw1
    have hv : v = some (.int x7.2.1) := by rw [kO, if_pos h1] at hko; exact Sum.inl.inj hko
    subst hv
    have hP : va_P D classes [(h_a0, .inr (6, [.ref h_a0_file, .ref h_a0_scanner, .ref h_a0_writer, .ref h_a0_plan, .int a0_scanned, .int a0_refusedAt])), (h_a0_plan, .inr (3, [.int a0_plan_high, .int a0_plan_wide, .int a0_plan_components, .int a0_plan_unknown, .int a0_plan_rights, .ref h_a0_plan_bits, .int a0_plan_colours, .int a0_plan_hasProfile, .ref h_a0_plan_profile, .ref h_a0_plan_palette, .ref h_a0_plan_map, .ref h_a0_plan_meanings, .ref h_a0_plan_capture, .ref h_a0_plan_display])), (h_a0_plan_palette, .inr (2, [.int a0_plan_palette_entries, .int a0_plan_palette_columns, .ref h_a0_plan_palette_bits, .ref h_a0_plan_palette_numbers])), (h_a0_plan_map, .inr (1, [.ref h_a0_plan_map_parts, .int x7.2.2.1])), (h_a0_plan_map_parts, .inl (cI, n_a0_plan_map_parts, .inl x7.2.2.2)), (h_a4, .inl (cJ, n_a4, .inr (.inl f_a4)))] H := hP.sub [1, 2, 3, 4, 5, 0] rfl
    have hD : va_D A [(h_a0, .inr (6, [.ref h_a0_file, .ref h_a0_scanner, .ref h_a0_writer, .ref h_a0_plan, .int a0_scanned, .int a0_refusedAt])), (h_a0_plan, .inr (3, [.int a0_plan_high, .int a0_plan_wide, .int a0_plan_components, .int a0_plan_unknown, .int a0_plan_rights, .ref h_a0_plan_bits, .int a0_plan_colours, .int a0_plan_hasProfile, .ref h_a0_plan_profile, .ref h_a0_plan_palette, .ref h_a0_plan_map, .ref h_a0_plan_meanings, .ref h_a0_plan_capture, .ref h_a0_plan_display])), (h_a0_plan_palette, .inr (2, [.int a0_plan_palette_entries, .int a0_plan_palette_columns, .ref h_a0_plan_palette_bits, .ref h_a0_plan_palette_numbers])), (h_a0_plan_map, .inr (1, [.ref h_a0_plan_map_parts, .int x7.2.2.1])), (h_a0_plan_map_parts, .inl (cI, n_a0_plan_map_parts, .inl x7.2.2.2)), (h_a4, .inl (cJ, n_a4, .inr (.inl f_a4)))] := hD.sub [1, 2, 3, 4, 5, 0] (by decide) rfl
    have E : k_La_map_7 f_a4 x7 = RES := (congrArg (k_La_map_7 f_a4) hx7).trans E
    have E := (if_pos h1).symm.trans E
    refine W.eq (g2 := F0 m 10 ls [.int x7.2.1, .int 0, .ref h_a4]) rfl ?_
    refine lv_i2l (v := (x7.2.1 : Int32).toInt64) hx hb d_La_map_10 rfl ?_
    refine va_last hx hb hK hP hD hS 5 2 rfl rfl hout d_La_map_11 (fun H locs (hP : va_P D classes [(h_a0, .inr (6, [.ref h_a0_file, .ref h_a0_scanner, .ref h_a0_writer, .ref h_a0_plan, .int a0_scanned, .int a0_refusedAt])), (h_a0_plan, .inr (3, [.int a0_plan_high, .int a0_plan_wide, .int a0_plan_components, .int a0_plan_unknown, .int a0_plan_rights, .ref h_a0_plan_bits, .int a0_plan_colours, .int a0_plan_hasProfile, .ref h_a0_plan_profile, .ref h_a0_plan_palette, .ref h_a0_plan_map, .ref h_a0_plan_meanings, .ref h_a0_plan_capture, .ref h_a0_plan_display])), (h_a0_plan_palette, .inr (2, [.int a0_plan_palette_entries, .int a0_plan_palette_columns, .ref h_a0_plan_palette_bits, .ref h_a0_plan_palette_numbers])), (h_a0_plan_map, .inr (1, [.ref h_a0_plan_map_parts, .int x7.2.2.1])), (h_a0_plan_map_parts, .inl (cI, n_a0_plan_map_parts, .inl x7.2.2.2)), (h_a4, .inl (cJ, n_a4, .inr (.inl (vp_updL f_a4 (0 : Int32).toNatClampNeg ((x7.2.1 : Int32).toInt64)))))] H) (hD : va_D A [(h_a0, .inr (6, [.ref h_a0_file, .ref h_a0_scanner, .ref h_a0_writer, .ref h_a0_plan, .int a0_scanned, .int a0_refusedAt])), (h_a0_plan, .inr (3, [.int a0_plan_high, .int a0_plan_wide, .int a0_plan_components, .int a0_plan_unknown, .int a0_plan_rights, .ref h_a0_plan_bits, .int a0_plan_colours, .int a0_plan_hasProfile, .ref h_a0_plan_profile, .ref h_a0_plan_palette, .ref h_a0_plan_map, .ref h_a0_plan_meanings, .ref h_a0_plan_capture, .ref h_a0_plan_display])), (h_a0_plan_palette, .inr (2, [.int a0_plan_palette_entries, .int a0_plan_palette_columns, .ref h_a0_plan_palette_bits, .ref h_a0_plan_palette_numbers])), (h_a0_plan_map, .inr (1, [.ref h_a0_plan_map_parts, .int x7.2.2.1])), (h_a0_plan_map_parts, .inl (cI, n_a0_plan_map_parts, .inl x7.2.2.2)), (h_a4, .inl (cJ, n_a4, .inr (.inl (vp_updL f_a4 (0 : Int32).toNatClampNeg ((x7.2.1 : Int32).toInt64)))))]) hS => ?_)
    refine lv_goto (tgt := 23) hx hb d_La_map_12 (by decide) ?_
    refine lv_iconst (v := 0) hx hb d_La_map_23 (by decide) ?_
    exact kr_i hx hb hr hlk hQ hK hP hD hS ⟨((0, x7.2.2.1, x7.2.2.2, vp_updL f_a4 (0 : Int32).toNatClampNeg ((x7.2.1 : Int32).toInt64)) : Int32 × Int32 × (Nat → Int32) × (Nat → Int64)), E.trans E0.symm, rfl, rfl⟩ (by omega) (by omega) d_La_map_24
  · obtain ⟨x7, hx7, hko, hw1⟩ := hw
    have h1 : ¬ x7.1 = 0 := by rw [hx7]; exact h0
    subst hw1
    have hP : va_P D classes [(h_a0, .inr (6, [.ref h_a0_file, .ref h_a0_scanner, .ref h_a0_writer, .ref h_a0_plan, .int a0_scanned, .int a0_refusedAt])), (h_a0_plan, .inr (3, [.int a0_plan_high, .int a0_plan_wide, .int a0_plan_components, .int a0_plan_unknown, .int a0_plan_rights, .ref h_a0_plan_bits, .int a0_plan_colours, .int a0_plan_hasProfile, .ref h_a0_plan_profile, .ref h_a0_plan_palette, .ref h_a0_plan_map, .ref h_a0_plan_meanings, .ref h_a0_plan_capture, .ref h_a0_plan_display])), (h_a0_plan_palette, .inr (2, [.int a0_plan_palette_entries, .int a0_plan_palette_columns, .ref h_a0_plan_palette_bits, .ref h_a0_plan_palette_numbers])), (h_a0_plan_map, .inr (1, [.ref h_a0_plan_map_parts, .int x7.2.2.1])), (h_a0_plan_map_parts, .inl (cI, n_a0_plan_map_parts, .inl x7.2.2.2)), (h_a4, .inl (cJ, n_a4, .inr (.inl f_a4)))] H := hP.sub [1, 2, 3, 4, 5, 0] rfl
    have hD : va_D A [(h_a0, .inr (6, [.ref h_a0_file, .ref h_a0_scanner, .ref h_a0_writer, .ref h_a0_plan, .int a0_scanned, .int a0_refusedAt])), (h_a0_plan, .inr (3, [.int a0_plan_high, .int a0_plan_wide, .int a0_plan_components, .int a0_plan_unknown, .int a0_plan_rights, .ref h_a0_plan_bits, .int a0_plan_colours, .int a0_plan_hasProfile, .ref h_a0_plan_profile, .ref h_a0_plan_palette, .ref h_a0_plan_map, .ref h_a0_plan_meanings, .ref h_a0_plan_capture, .ref h_a0_plan_display])), (h_a0_plan_palette, .inr (2, [.int a0_plan_palette_entries, .int a0_plan_palette_columns, .ref h_a0_plan_palette_bits, .ref h_a0_plan_palette_numbers])), (h_a0_plan_map, .inr (1, [.ref h_a0_plan_map_parts, .int x7.2.2.1])), (h_a0_plan_map_parts, .inl (cI, n_a0_plan_map_parts, .inl x7.2.2.2)), (h_a4, .inl (cJ, n_a4, .inr (.inl f_a4)))] := hD.sub [1, 2, 3, 4, 5, 0] (by decide) rfl
    have E : k_La_map_7 f_a4 x7 = RES := (congrArg (k_La_map_7 f_a4) hx7).trans E
    have E := (if_neg h1).symm.trans E
    by_cases c_x0 : x7.1 = 3
    · have E := (if_pos c_x0).symm.trans E
      have hk : (m_FB_map a0_plan_palette_entries a0_plan_palette_columns a0_plan_map_count n_a0_plan_map_parts f_a0_plan_map_parts p1 p2 p3).1 = 3 := by rw [← hx7]; exact c_x0
      rw [hk] at hex
      refine kq_catch (pre := []) (x := ⟨0, 12, 15, 29⟩) (rs := [⟨0, 12, 19, 13⟩]) hown hta hTh hex htab (fun y hy => by cases hy) (by decide) (by decide) lk_La_29 th_c3 ?_
      refine W.eq (g2 := F0 m 15 ls [.ref q_x7]) rfl ?_
      refine lv_astore (lv' := [(5, .ref q_x7), (0, .ref h_a0), (1, .int p1), (2, .int p2), (3, .int p3), (4, .ref h_a4)]) hx hb d_La_map_15 hl (by decide) rfl (fun ls hl => ?_)
      refine lv_iconst (v := 1) hx hb d_La_map_17 (by decide) ?_
      exact kr_i hx hb hr hlk hQ hK hP hD hS ⟨((1, x7.2.2.1, x7.2.2.2, f_a4) : Int32 × Int32 × (Nat → Int32) × (Nat → Int64)), E.trans E0.symm, rfl, rfl⟩ (by omega) (by omega) d_La_map_18
    have E := (if_neg c_x0).symm.trans E
    have c_x1 : x7.1 = 1 := by
      have hkd : ((m_FB_map a0_plan_palette_entries a0_plan_palette_columns a0_plan_map_count n_a0_plan_map_parts f_a0_plan_map_parts p1 p2 p3).1 = 0 ∨ (m_FB_map a0_plan_palette_entries a0_plan_palette_columns a0_plan_map_count n_a0_plan_map_parts f_a0_plan_map_parts p1 p2 p3).1 = 3 ∨ (m_FB_map a0_plan_palette_entries a0_plan_palette_columns a0_plan_map_count n_a0_plan_map_parts f_a0_plan_map_parts p1 p2 p3).1 = 1) := kd_m_FB_map
      rw [hx7] at h1 c_x0 ⊢
      omega
    have hk : (m_FB_map a0_plan_palette_entries a0_plan_palette_columns a0_plan_map_count n_a0_plan_map_parts f_a0_plan_map_parts p1 p2 p3).1 = 1 := by rw [← hx7]; exact c_x1
    rw [hk] at hex
    refine kq_catch (pre := [⟨0, 12, 15, 29⟩]) (x := ⟨0, 12, 19, 13⟩) (rs := []) hown hta hTh hex htab (by
      refine List.forall_mem_cons.mpr ⟨⟨by decide, 3, lk_La_29, th_n13⟩, ?_⟩
      intro y hy; cases hy) (by decide) (by decide) lk_La_13 th_c1 ?_
    refine W.eq (g2 := F0 m 19 ls [.ref q_x7]) rfl ?_
    refine lv_astore (lv' := [(5, .ref q_x7), (0, .ref h_a0), (1, .int p1), (2, .int p2), (3, .int p3), (4, .ref h_a4)]) hx hb d_La_map_19 hl (by decide) rfl (fun ls hl => ?_)
    refine lv_iconst (v := 2) hx hb d_La_map_21 (by decide) ?_
    exact kr_i hx hb hr hlk hQ hK hP hD hS ⟨((2, x7.2.2.1, x7.2.2.2, f_a4) : Int32 × Int32 × (Nat → Int32) × (Nat → Int64)), E.trans E0.symm, rfl, rfl⟩ (by omega) (by omega) d_La_map_22
theorem d_La_channel_0 : decode b_La_channel 0 = .ok (.aload 4, 2) := by decide +kernel
theorem d_La_channel_2 : decode b_La_channel 2 = .ok (.iconst 0, 1) := by decide +kernel
theorem d_La_channel_3 : decode b_La_channel 3 = .ok (.aload_n 0, 1) := by decide +kernel
theorem d_La_channel_4 : decode b_La_channel 4 = .ok (.iload_n 1, 1) := by decide +kernel
theorem d_La_channel_5 : decode b_La_channel 5 = .ok (.iload_n 2, 1) := by decide +kernel
theorem d_La_channel_6 : decode b_La_channel 6 = .ok (.iload_n 3, 1) := by decide +kernel
theorem d_La_channel_7 : decode b_La_channel 7 = .ok (.invokevirtual 47, 3) := by decide +kernel
theorem d_La_channel_10 : decode b_La_channel 10 = .ok (.i2l, 1) := by decide +kernel
theorem d_La_channel_11 : decode b_La_channel 11 = .ok (.lastore, 1) := by decide +kernel
theorem d_La_channel_12 : decode b_La_channel 12 = .ok (.goto 11, 3) := by decide +kernel
theorem d_La_channel_15 : decode b_La_channel 15 = .ok (.astore 5, 2) := by decide +kernel
theorem d_La_channel_17 : decode b_La_channel 17 = .ok (.iconst 1, 1) := by decide +kernel
theorem d_La_channel_18 : decode b_La_channel 18 = .ok (.ireturn, 1) := by decide +kernel
theorem d_La_channel_19 : decode b_La_channel 19 = .ok (.astore 5, 2) := by decide +kernel
theorem d_La_channel_21 : decode b_La_channel 21 = .ok (.iconst 2, 1) := by decide +kernel
theorem d_La_channel_22 : decode b_La_channel 22 = .ok (.ireturn, 1) := by decide +kernel
theorem d_La_channel_23 : decode b_La_channel 23 = .ok (.iconst 0, 1) := by decide +kernel
theorem d_La_channel_24 : decode b_La_channel 24 = .ok (.ireturn, 1) := by decide +kernel
def k_La_channel_7 (f_a4 : Nat → Int64) (x7 : Nat × Int32 × Int32 × (Nat → Int32)) : Int32 × Int32 × (Nat → Int32) × (Nat → Int64) :=
  if x7.1 = 0 then ((0, x7.2.2.1, x7.2.2.2, vp_updL f_a4 (0 : Int32).toNatClampNeg ((x7.2.1 : Int32).toInt64))) else (if x7.1 = 1 then (1, x7.2.2.1, x7.2.2.2, f_a4) else (2, x7.2.2.1, x7.2.2.2, f_a4))
def m_La_channel (a0_plan_meanings_count : Int32) (n_a0_plan_meanings_parts : Nat) (f_a0_plan_meanings_parts : Nat → Int32) (f_a4 : Nat → Int64) (p1 : Int32) (p2 : Int32) (p3 : Int32) : Int32 × Int32 × (Nat → Int32) × (Nat → Int64) :=
  k_La_channel_7 f_a4 (m_FB_channel a0_plan_meanings_count n_a0_plan_meanings_parts f_a0_plan_meanings_parts p1 p2 p3)
set_option maxHeartbeats 4000000 in
set_option maxRecDepth 100000 in
theorem c_La_channel (l : Launch) (D : va_G) (cB cI cJ : ClassId) (h_a0 h_a4 h_a0_file h_a0_scanner h_a0_writer h_a0_plan h_a0_plan_bits h_a0_plan_profile h_a0_plan_palette h_a0_plan_map h_a0_plan_meanings h_a0_plan_capture h_a0_plan_display h_a0_plan_meanings_parts : Nat) (a0_scanned : Int32) (a0_refusedAt : Int32) (a0_plan_high : Int32) (a0_plan_wide : Int32) (a0_plan_components : Int32) (a0_plan_unknown : Int32) (a0_plan_rights : Int32) (a0_plan_colours : Int32) (a0_plan_hasProfile : Int32) (a0_plan_meanings_count : Int32) (n_a0_plan_meanings_parts : Nat) (f_a0_plan_meanings_parts : Nat → Int32) (n_a4 : Nat) (f_a4 : Nat → Int64) (p1 : Int32) (p2 : Int32) (p3 : Int32) (hout : vp_in 0 n_a4) (hLt : kL l) (hn_a0_plan_meanings_parts : n_a0_plan_meanings_parts < 2147483648) (sz : Nat) : CtW l D cB cI cJ y_La_channel b_La_channel 6 (some .int) [(0, 12, 15, 13), (0, 12, 19, 29)] 7 105 1 6 [.ref h_a0, .int p1, .int p2, .int p3, .ref h_a4] [(h_a0, .inr (6, [.ref h_a0_file, .ref h_a0_scanner, .ref h_a0_writer, .ref h_a0_plan, .int a0_scanned, .int a0_refusedAt])), (h_a0_plan, .inr (3, [.int a0_plan_high, .int a0_plan_wide, .int a0_plan_components, .int a0_plan_unknown, .int a0_plan_rights, .ref h_a0_plan_bits, .int a0_plan_colours, .int a0_plan_hasProfile, .ref h_a0_plan_profile, .ref h_a0_plan_palette, .ref h_a0_plan_map, .ref h_a0_plan_meanings, .ref h_a0_plan_capture, .ref h_a0_plan_display])), (h_a0_plan_meanings, .inr (1, [.ref h_a0_plan_meanings_parts, .int a0_plan_meanings_count])), (h_a0_plan_meanings_parts, .inl (cI, n_a0_plan_meanings_parts, .inl f_a0_plan_meanings_parts)), (h_a4, .inl (cJ, n_a4, .inr (.inl f_a4)))] (fun v w1 => ∃ (x : Int32 × Int32 × (Nat → Int32) × (Nat → Int64)), x = m_La_channel a0_plan_meanings_count n_a0_plan_meanings_parts f_a0_plan_meanings_parts f_a4 p1 p2 p3 ∧ v = some (.int x.1) ∧ w1 = [(h_a0, .inr (6, [.ref h_a0_file, .ref h_a0_scanner, .ref h_a0_writer, .ref h_a0_plan, .int a0_scanned, .int a0_refusedAt])), (h_a0_plan, .inr (3, [.int a0_plan_high, .int a0_plan_wide, .int a0_plan_components, .int a0_plan_unknown, .int a0_plan_rights, .ref h_a0_plan_bits, .int a0_plan_colours, .int a0_plan_hasProfile, .ref h_a0_plan_profile, .ref h_a0_plan_palette, .ref h_a0_plan_map, .ref h_a0_plan_meanings, .ref h_a0_plan_capture, .ref h_a0_plan_display])), (h_a0_plan_meanings, .inr (1, [.ref h_a0_plan_meanings_parts, .int x.2.1])), (h_a0_plan_meanings_parts, .inl (cI, n_a0_plan_meanings_parts, .inl x.2.2.1)), (h_a4, .inl (cJ, n_a4, .inr (.inl x.2.2.2)))]) sz := by
  refine CtW.of (by decide) (Nat.le_of_ble_eq_true rfl) ?_
  intro p e R s m args below meth c A ls Q hx hb hr hlk hml hta hown hin hK hN hA hRf hRl hRc hRs hP hD hS hl hQ hTh hAs htab
  have hl : lv_has ls 6 [(0, .ref h_a0), (1, .int p1), (2, .int p2), (3, .int p3), (4, .ref h_a4)] := hl
  obtain ⟨RES, E0⟩ : ∃ R, m_La_channel a0_plan_meanings_count n_a0_plan_meanings_parts f_a0_plan_meanings_parts f_a4 p1 p2 p3 = R := ⟨_, rfl⟩
  have E := E0
  refine lv_aload hx hb d_La_channel_0 (lv_at hl 4 rfl) ?_
  refine lv_iconst (v := 0) hx hb d_La_channel_2 (by decide) ?_
  refine lv_aload_n hx hb d_La_channel_3 rfl (lv_at hl 0 rfl) ?_
  refine lv_iload_n hx hb d_La_channel_4 rfl (lv_at hl 1 rfl) ?_
  refine lv_iload_n hx hb d_La_channel_5 rfl (lv_at hl 2 rfl) ?_
  refine lv_iload_n hx hb d_La_channel_6 rfl (lv_at hl 3 rfl) ?_
  refine kc_VX (As := [.int p1, .int p2, .int p3]) (rest := [.int 0, .ref h_a4]) (wr := [(h_a4, .inl (cJ, n_a4, .inr (.inl f_a4)))]) [0, 1, 2, 3] [4] ⟨hx, hb, hml, hown, hta⟩ hK hN hTh hAs hP hD hS hA (c_FB_channel l D cB cI cJ h_a0 h_a0_file h_a0_scanner h_a0_writer h_a0_plan h_a0_plan_bits h_a0_plan_profile h_a0_plan_palette h_a0_plan_map h_a0_plan_meanings h_a0_plan_capture h_a0_plan_display h_a0_plan_meanings_parts a0_scanned a0_refusedAt a0_plan_high a0_plan_wide a0_plan_components a0_plan_unknown a0_plan_rights a0_plan_colours a0_plan_hasProfile a0_plan_meanings_count n_a0_plan_meanings_parts f_a0_plan_meanings_parts p1 p2 p3 hLt hn_a0_plan_meanings_parts _) (hta _ lk_La_47) (hta _ ini_FB) (hta _ code_FB_channel) code_FB_channel (hta _ inst_FB_channel) (hta _ sel_FB_channel) hd_FB_channel rfl ⟨by omega, by omega⟩ (ci := 6) 0 rfl rfl rfl rfl (by decide) (by decide) (by decide) rfl hl.1 (lv_room (Nat.le_of_ble_eq_true rfl)) d_La_channel_7 ⟨by omega, by omega⟩ (m_FB_channel a0_plan_meanings_count n_a0_plan_meanings_parts f_a0_plan_meanings_parts p1 p2 p3).1 (fun o w1 hw => ?_) (fun h0 v w1 H locs hw hP hD hS => ?_) (fun h0 q_x7 w1 H locs hw hP hD hS hex => ?_)
  · obtain ⟨x7, hx7, hko, hw1⟩ := hw
    exact ⟨_, by rw [← hx7]; exact hko⟩
  · obtain ⟨x7, hx7, hko, hw1⟩ := hw
    have h1 : x7.1 = 0 := by rw [hx7]; exact h0
    subst hw1
    have hv : v = some (.int x7.2.1) := by rw [kO, if_pos h1] at hko; exact Sum.inl.inj hko
    subst hv
    have hP : va_P D classes [(h_a0, .inr (6, [.ref h_a0_file, .ref h_a0_scanner, .ref h_a0_writer, .ref h_a0_plan, .int a0_scanned, .int a0_refusedAt])), (h_a0_plan, .inr (3, [.int a0_plan_high, .int a0_plan_wide, .int a0_plan_components, .int a0_plan_unknown, .int a0_plan_rights, .ref h_a0_plan_bits, .int a0_plan_colours, .int a0_plan_hasProfile, .ref h_a0_plan_profile, .ref h_a0_plan_palette, .ref h_a0_plan_map, .ref h_a0_plan_meanings, .ref h_a0_plan_capture, .ref h_a0_plan_display])), (h_a0_plan_meanings, .inr (1, [.ref h_a0_plan_meanings_parts, .int x7.2.2.1])), (h_a0_plan_meanings_parts, .inl (cI, n_a0_plan_meanings_parts, .inl x7.2.2.2)), (h_a4, .inl (cJ, n_a4, .inr (.inl f_a4)))] H := hP.sub [1, 2, 3, 4, 0] rfl
    have hD : va_D A [(h_a0, .inr (6, [.ref h_a0_file, .ref h_a0_scanner, .ref h_a0_writer, .ref h_a0_plan, .int a0_scanned, .int a0_refusedAt])), (h_a0_plan, .inr (3, [.int a0_plan_high, .int a0_plan_wide, .int a0_plan_components, .int a0_plan_unknown, .int a0_plan_rights, .ref h_a0_plan_bits, .int a0_plan_colours, .int a0_plan_hasProfile, .ref h_a0_plan_profile, .ref h_a0_plan_palette, .ref h_a0_plan_map, .ref h_a0_plan_meanings, .ref h_a0_plan_capture, .ref h_a0_plan_display])), (h_a0_plan_meanings, .inr (1, [.ref h_a0_plan_meanings_parts, .int x7.2.2.1])), (h_a0_plan_meanings_parts, .inl (cI, n_a0_plan_meanings_parts, .inl x7.2.2.2)), (h_a4, .inl (cJ, n_a4, .inr (.inl f_a4)))] := hD.sub [1, 2, 3, 4, 0] (by decide) rfl
    have E : k_La_channel_7 f_a4 x7 = RES := (congrArg (k_La_channel_7 f_a4) hx7).trans E
    have E := (if_pos h1).symm.trans E
    refine W.eq (g2 := F0 m 10 ls [.int x7.2.1, .int 0, .ref h_a4]) rfl ?_
    refine lv_i2l (v := (x7.2.1 : Int32).toInt64) hx hb d_La_channel_10 rfl ?_
    refine va_last hx hb hK hP hD hS 4 2 rfl rfl hout d_La_channel_11 (fun H locs (hP : va_P D classes [(h_a0, .inr (6, [.ref h_a0_file, .ref h_a0_scanner, .ref h_a0_writer, .ref h_a0_plan, .int a0_scanned, .int a0_refusedAt])), (h_a0_plan, .inr (3, [.int a0_plan_high, .int a0_plan_wide, .int a0_plan_components, .int a0_plan_unknown, .int a0_plan_rights, .ref h_a0_plan_bits, .int a0_plan_colours, .int a0_plan_hasProfile, .ref h_a0_plan_profile, .ref h_a0_plan_palette, .ref h_a0_plan_map, .ref h_a0_plan_meanings, .ref h_a0_plan_capture, .ref h_a0_plan_display])), (h_a0_plan_meanings, .inr (1, [.ref h_a0_plan_meanings_parts, .int x7.2.2.1])), (h_a0_plan_meanings_parts, .inl (cI, n_a0_plan_meanings_parts, .inl x7.2.2.2)), (h_a4, .inl (cJ, n_a4, .inr (.inl (vp_updL f_a4 (0 : Int32).toNatClampNeg ((x7.2.1 : Int32).toInt64)))))] H) (hD : va_D A [(h_a0, .inr (6, [.ref h_a0_file, .ref h_a0_scanner, .ref h_a0_writer, .ref h_a0_plan, .int a0_scanned, .int a0_refusedAt])), (h_a0_plan, .inr (3, [.int a0_plan_high, .int a0_plan_wide, .int a0_plan_components, .int a0_plan_unknown, .int a0_plan_rights, .ref h_a0_plan_bits, .int a0_plan_colours, .int a0_plan_hasProfile, .ref h_a0_plan_profile, .ref h_a0_plan_palette, .ref h_a0_plan_map, .ref h_a0_plan_meanings, .ref h_a0_plan_capture, .ref h_a0_plan_display])), (h_a0_plan_meanings, .inr (1, [.ref h_a0_plan_meanings_parts, .int x7.2.2.1])), (h_a0_plan_meanings_parts, .inl (cI, n_a0_plan_meanings_parts, .inl x7.2.2.2)), (h_a4, .inl (cJ, n_a4, .inr (.inl (vp_updL f_a4 (0 : Int32).toNatClampNeg ((x7.2.1 : Int32).toInt64)))))]) hS => ?_)
    refine lv_goto (tgt := 23) hx hb d_La_channel_12 (by decide) ?_
    refine lv_iconst (v := 0) hx hb d_La_channel_23 (by decide) ?_
    exact kr_i hx hb hr hlk hQ hK hP hD hS ⟨((0, x7.2.2.1, x7.2.2.2, vp_updL f_a4 (0 : Int32).toNatClampNeg ((x7.2.1 : Int32).toInt64)) : Int32 × Int32 × (Nat → Int32) × (Nat → Int64)), E.trans E0.symm, rfl, rfl⟩ (by omega) (by omega) d_La_channel_24
  · obtain ⟨x7, hx7, hko, hw1⟩ := hw
    have h1 : ¬ x7.1 = 0 := by rw [hx7]; exact h0
    subst hw1
    have hP : va_P D classes [(h_a0, .inr (6, [.ref h_a0_file, .ref h_a0_scanner, .ref h_a0_writer, .ref h_a0_plan, .int a0_scanned, .int a0_refusedAt])), (h_a0_plan, .inr (3, [.int a0_plan_high, .int a0_plan_wide, .int a0_plan_components, .int a0_plan_unknown, .int a0_plan_rights, .ref h_a0_plan_bits, .int a0_plan_colours, .int a0_plan_hasProfile, .ref h_a0_plan_profile, .ref h_a0_plan_palette, .ref h_a0_plan_map, .ref h_a0_plan_meanings, .ref h_a0_plan_capture, .ref h_a0_plan_display])), (h_a0_plan_meanings, .inr (1, [.ref h_a0_plan_meanings_parts, .int x7.2.2.1])), (h_a0_plan_meanings_parts, .inl (cI, n_a0_plan_meanings_parts, .inl x7.2.2.2)), (h_a4, .inl (cJ, n_a4, .inr (.inl f_a4)))] H := hP.sub [1, 2, 3, 4, 0] rfl
    have hD : va_D A [(h_a0, .inr (6, [.ref h_a0_file, .ref h_a0_scanner, .ref h_a0_writer, .ref h_a0_plan, .int a0_scanned, .int a0_refusedAt])), (h_a0_plan, .inr (3, [.int a0_plan_high, .int a0_plan_wide, .int a0_plan_components, .int a0_plan_unknown, .int a0_plan_rights, .ref h_a0_plan_bits, .int a0_plan_colours, .int a0_plan_hasProfile, .ref h_a0_plan_profile, .ref h_a0_plan_palette, .ref h_a0_plan_map, .ref h_a0_plan_meanings, .ref h_a0_plan_capture, .ref h_a0_plan_display])), (h_a0_plan_meanings, .inr (1, [.ref h_a0_plan_meanings_parts, .int x7.2.2.1])), (h_a0_plan_meanings_parts, .inl (cI, n_a0_plan_meanings_parts, .inl x7.2.2.2)), (h_a4, .inl (cJ, n_a4, .inr (.inl f_a4)))] := hD.sub [1, 2, 3, 4, 0] (by decide) rfl
    have E : k_La_channel_7 f_a4 x7 = RES := (congrArg (k_La_channel_7 f_a4) hx7).trans E
    have E := (if_neg h1).symm.trans E
    by_cases c_x0 : x7.1 = 1
    · have E := (if_pos c_x0).symm.trans E
      have hk : (m_FB_channel a0_plan_meanings_count n_a0_plan_meanings_parts f_a0_plan_meanings_parts p1 p2 p3).1 = 1 := by rw [← hx7]; exact c_x0
      rw [hk] at hex
      refine kq_catch (pre := []) (x := ⟨0, 12, 15, 13⟩) (rs := [⟨0, 12, 19, 29⟩]) hown hta hTh hex htab (fun y hy => by cases hy) (by decide) (by decide) lk_La_13 th_c1 ?_
      refine W.eq (g2 := F0 m 15 ls [.ref q_x7]) rfl ?_
      refine lv_astore (lv' := [(5, .ref q_x7), (0, .ref h_a0), (1, .int p1), (2, .int p2), (3, .int p3), (4, .ref h_a4)]) hx hb d_La_channel_15 hl (by decide) rfl (fun ls hl => ?_)
      refine lv_iconst (v := 1) hx hb d_La_channel_17 (by decide) ?_
      exact kr_i hx hb hr hlk hQ hK hP hD hS ⟨((1, x7.2.2.1, x7.2.2.2, f_a4) : Int32 × Int32 × (Nat → Int32) × (Nat → Int64)), E.trans E0.symm, rfl, rfl⟩ (by omega) (by omega) d_La_channel_18
    have E := (if_neg c_x0).symm.trans E
    have c_x1 : x7.1 = 3 := by
      have hkd : ((m_FB_channel a0_plan_meanings_count n_a0_plan_meanings_parts f_a0_plan_meanings_parts p1 p2 p3).1 = 0 ∨ (m_FB_channel a0_plan_meanings_count n_a0_plan_meanings_parts f_a0_plan_meanings_parts p1 p2 p3).1 = 1 ∨ (m_FB_channel a0_plan_meanings_count n_a0_plan_meanings_parts f_a0_plan_meanings_parts p1 p2 p3).1 = 3) := kd_m_FB_channel
      rw [hx7] at h1 c_x0 ⊢
      omega
    have hk : (m_FB_channel a0_plan_meanings_count n_a0_plan_meanings_parts f_a0_plan_meanings_parts p1 p2 p3).1 = 3 := by rw [← hx7]; exact c_x1
    rw [hk] at hex
    refine kq_catch (pre := [⟨0, 12, 15, 13⟩]) (x := ⟨0, 12, 19, 29⟩) (rs := []) hown hta hTh hex htab (by
      refine List.forall_mem_cons.mpr ⟨⟨by decide, 1, lk_La_13, th_n31⟩, ?_⟩
      intro y hy; cases hy) (by decide) (by decide) lk_La_29 th_c3 ?_
    refine W.eq (g2 := F0 m 19 ls [.ref q_x7]) rfl ?_
    refine lv_astore (lv' := [(5, .ref q_x7), (0, .ref h_a0), (1, .int p1), (2, .int p2), (3, .int p3), (4, .ref h_a4)]) hx hb d_La_channel_19 hl (by decide) rfl (fun ls hl => ?_)
    refine lv_iconst (v := 2) hx hb d_La_channel_21 (by decide) ?_
    exact kr_i hx hb hr hlk hQ hK hP hD hS ⟨((2, x7.2.2.1, x7.2.2.2, f_a4) : Int32 × Int32 × (Nat → Int32) × (Nat → Int64)), E.trans E0.symm, rfl, rfl⟩ (by omega) (by omega) d_La_channel_22
