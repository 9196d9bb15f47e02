theorem d_Li_init_0 : decode b_Li_init 0 = .ok (.aload_n 0, 1) := by decide +kernel
theorem d_Li_init_1 : decode b_Li_init 1 = .ok (.invokespecial 3, 3) := by decide +kernel
theorem d_Li_init_4 : decode b_Li_init 4 = .ok (.aload_n 0, 1) := by decide +kernel
theorem d_Li_init_5 : decode b_Li_init 5 = .ok (.bipush 48, 2) := by decide +kernel
theorem d_Li_init_7 : decode b_Li_init 7 = .ok (.newarray .int, 2) := by decide +kernel
theorem d_Li_init_9 : decode b_Li_init 9 = .ok (.putfield 9, 3) := by decide +kernel
theorem d_Li_init_12 : decode b_Li_init 12 = .ok (.aload_n 0, 1) := by decide +kernel
theorem d_Li_init_13 : decode b_Li_init 13 = .ok (.iconst 0, 1) := by decide +kernel
theorem d_Li_init_14 : decode b_Li_init 14 = .ok (.putfield 15, 3) := by decide +kernel
theorem d_Li_init_17 : decode b_Li_init 17 = .ok (.return_, 1) := by decide +kernel

set_option maxHeartbeats 4000000 in
set_option maxRecDepth 100000 in
theorem c_Li_init (l : Launch) (D : va_G) (cB cI cJ : ClassId) (h_t : Nat) (sz : Nat) : Ct l D cB cI cJ y_Li_init b_Li_init 1 none 1 20 1 48 [.ref h_t] [(h_t, .inr (1, [.null, .int 0]))] (fun v w1 => ∃ (q_7 : Nat), v = none ∧ w1 = [(h_t, .inr (1, [.ref q_7, .int 0])), (q_7, .inl (cI, 48, .inl (fun _ => 0)))]) sz := by
  refine Ct.of (by decide) (Nat.le_of_ble_eq_true rfl) ?_
  intro p e R s m args below meth c A ls Q hx hb hr hlk hml hta hown hin hK hN hA hRf hRl hRc hRs hP hD hS hl hQ
  have hl : lv_has ls 1 [(0, .ref h_t)] := hl
  refine lv_aload_n hx hb d_Li_init_0 rfl (lv_at hl 0 rfl) ?_
  refine W.objInit hx hb hown (hta _ lk_Li_3) (hta _ inst_Object_init) (hta _ code_Object_init) rfl (by rw [hml]; exact hl.1) rfl d_Li_init_1 (by omega) (by first | omega | (simp only [List.map, List.sum_cons, List.sum_nil, F0, JFrame.monitorRoom]; omega)) ?_
  refine lv_aload_n hx hb d_Li_init_4 rfl (lv_at hl 0 rfl) ?_
  refine lv_bipush (v := 48) hx hb d_Li_init_5 (by decide) ?_
  refine kn_int hx hb (hta _ ac_int) hK hP hD hS hA (N := 48) (by decide) (by decide) (by decide) (by omega) (by omega) d_Li_init_7 (fun q_7 H (hP : va_P D classes [(h_t, .inr (1, [.null, .int 0])), (q_7, .inl (cI, 48, .inl (fun _ => 0)))] H) (hD : va_D A [(h_t, .inr (1, [.null, .int 0])), (q_7, .inl (cI, 48, .inl (fun _ => 0)))]) hS => ?_)
  refine va_putF (D := D) (ty := .array .int) hx hb hta i_Li t_Li t_Li_ok n_Li hown hK hP hD hS 0 rfl rfl 0 (by decide) (hta _ lk_Li_9) (fun _ h9 => h9) rfl hin rfl (by decide +kernel) rfl rfl (Nat.le_of_ble_eq_true rfl) d_Li_init_9 (fun H locs (hP : va_P D classes [(h_t, .inr (1, [.ref q_7, .int 0])), (q_7, .inl (cI, 48, .inl (fun _ => 0)))] H) (hD : va_D A [(h_t, .inr (1, [.ref q_7, .int 0])), (q_7, .inl (cI, 48, .inl (fun _ => 0)))]) hS => ?_)
  refine lv_aload_n hx hb d_Li_init_12 rfl (lv_at hl 0 rfl) ?_
  refine lv_iconst (v := 0) hx hb d_Li_init_13 (by decide) ?_
  refine va_put (D := D) (ty := .int) hx hb hta i_Li t_Li t_Li_ok n_Li hown hK hP hD hS 0 rfl rfl 1 (by decide) (hta _ lk_Li_15) (fun _ h9 => h9) rfl (by decide +kernel) rfl rfl (Nat.le_of_ble_eq_true rfl) d_Li_init_14 (fun H locs (hP : va_P D classes [(h_t, .inr (1, [.ref q_7, .int 0])), (q_7, .inl (cI, 48, .inl (fun _ => 0)))] H) (hD : va_D A [(h_t, .inr (1, [.ref q_7, .int 0])), (q_7, .inl (cI, 48, .inl (fun _ => 0)))]) hS => ?_)
  exact kr_v hx hb hr hlk hQ hK hP hD hS ⟨q_7, rfl, rfl⟩ (by omega) (by omega) d_Li_init_17
theorem d_Li_empty_0 : decode b_Li_empty 0 = .ok (.aload_n 0, 1) := by decide +kernel
theorem d_Li_empty_1 : decode b_Li_empty 1 = .ok (.iconst 0, 1) := by decide +kernel
theorem d_Li_empty_2 : decode b_Li_empty 2 = .ok (.putfield 15, 3) := by decide +kernel
theorem d_Li_empty_5 : decode b_Li_empty 5 = .ok (.return_, 1) := by decide +kernel

set_option maxHeartbeats 4000000 in
set_option maxRecDepth 100000 in
theorem c_Li_empty (l : Launch) (D : va_G) (cB cI cJ : ClassId) (h_t h_t_parts : Nat) (t_count : Int32) (sz : Nat) : Ct l D cB cI cJ y_Li_empty b_Li_empty 1 none 0 0 0 0 [.ref h_t] [(h_t, .inr (1, [.ref h_t_parts, .int t_count]))] (fun v w1 => v = none ∧ w1 = [(h_t, .inr (1, [.ref h_t_parts, .int 0]))]) sz := by
  refine Ct.of (by decide) (Nat.le_of_ble_eq_true rfl) ?_
  intro p e R s m args below meth c A ls Q hx hb hr hlk hml hta hown hin hK hN hA hRf hRl hRc hRs hP hD hS hl hQ
  have hl : lv_has ls 1 [(0, .ref h_t)] := hl
  refine lv_aload_n hx hb d_Li_empty_0 rfl (lv_at hl 0 rfl) ?_
  refine lv_iconst (v := 0) hx hb d_Li_empty_1 (by decide) ?_
  refine va_put (D := D) (ty := .int) hx hb hta i_Li t_Li t_Li_ok n_Li hown hK hP hD hS 0 rfl rfl 1 (by decide) (hta _ lk_Li_15) (fun _ h9 => h9) rfl (by decide +kernel) rfl rfl (Nat.le_of_ble_eq_true rfl) d_Li_empty_2 (fun H locs (hP : va_P D classes [(h_t, .inr (1, [.ref h_t_parts, .int 0]))] H) (hD : va_D A [(h_t, .inr (1, [.ref h_t_parts, .int 0]))]) hS => ?_)
  exact kr_v hx hb hr hlk hQ hK hP hD hS ⟨rfl, rfl⟩ (by omega) (by omega) d_Li_empty_5
theorem d_Li_add_0 : decode b_Li_add 0 = .ok (.aload_n 0, 1) := by decide +kernel
theorem d_Li_add_1 : decode b_Li_add 1 = .ok (.getfield 15, 3) := by decide +kernel
theorem d_Li_add_4 : decode b_Li_add 4 = .ok (.bipush 16, 2) := by decide +kernel
theorem d_Li_add_6 : decode b_Li_add 6 = .ok (.if_icmp .ge 59, 3) := by decide +kernel
theorem d_Li_add_9 : decode b_Li_add 9 = .ok (.aload_n 0, 1) := by decide +kernel
theorem d_Li_add_10 : decode b_Li_add 10 = .ok (.getfield 9, 3) := by decide +kernel
theorem d_Li_add_13 : decode b_Li_add 13 = .ok (.iconst 3, 1) := by decide +kernel
theorem d_Li_add_14 : decode b_Li_add 14 = .ok (.aload_n 0, 1) := by decide +kernel
theorem d_Li_add_15 : decode b_Li_add 15 = .ok (.getfield 15, 3) := by decide +kernel
theorem d_Li_add_18 : decode b_Li_add 18 = .ok (.imul, 1) := by decide +kernel
theorem d_Li_add_19 : decode b_Li_add 19 = .ok (.iload_n 1, 1) := by decide +kernel
theorem d_Li_add_20 : decode b_Li_add 20 = .ok (.invokestatic 19, 3) := by decide +kernel
theorem d_Li_add_23 : decode b_Li_add 23 = .ok (.aload_n 0, 1) := by decide +kernel
theorem d_Li_add_24 : decode b_Li_add 24 = .ok (.getfield 9, 3) := by decide +kernel
theorem d_Li_add_27 : decode b_Li_add 27 = .ok (.iconst 3, 1) := by decide +kernel
theorem d_Li_add_28 : decode b_Li_add 28 = .ok (.aload_n 0, 1) := by decide +kernel
theorem d_Li_add_29 : decode b_Li_add 29 = .ok (.getfield 15, 3) := by decide +kernel
theorem d_Li_add_32 : decode b_Li_add 32 = .ok (.imul, 1) := by decide +kernel
theorem d_Li_add_33 : decode b_Li_add 33 = .ok (.iconst 1, 1) := by decide +kernel
theorem d_Li_add_34 : decode b_Li_add 34 = .ok (.iadd, 1) := by decide +kernel
theorem d_Li_add_35 : decode b_Li_add 35 = .ok (.iload_n 2, 1) := by decide +kernel
theorem d_Li_add_36 : decode b_Li_add 36 = .ok (.invokestatic 19, 3) := by decide +kernel
theorem d_Li_add_39 : decode b_Li_add 39 = .ok (.aload_n 0, 1) := by decide +kernel
theorem d_Li_add_40 : decode b_Li_add 40 = .ok (.getfield 9, 3) := by decide +kernel
theorem d_Li_add_43 : decode b_Li_add 43 = .ok (.iconst 3, 1) := by decide +kernel
theorem d_Li_add_44 : decode b_Li_add 44 = .ok (.aload_n 0, 1) := by decide +kernel
theorem d_Li_add_45 : decode b_Li_add 45 = .ok (.getfield 15, 3) := by decide +kernel
theorem d_Li_add_48 : decode b_Li_add 48 = .ok (.imul, 1) := by decide +kernel
theorem d_Li_add_49 : decode b_Li_add 49 = .ok (.iconst 2, 1) := by decide +kernel
theorem d_Li_add_50 : decode b_Li_add 50 = .ok (.iadd, 1) := by decide +kernel
theorem d_Li_add_51 : decode b_Li_add 51 = .ok (.iload_n 3, 1) := by decide +kernel
theorem d_Li_add_52 : decode b_Li_add 52 = .ok (.invokestatic 19, 3) := by decide +kernel
theorem d_Li_add_55 : decode b_Li_add 55 = .ok (.aload_n 0, 1) := by decide +kernel
theorem d_Li_add_56 : decode b_Li_add 56 = .ok (.dup, 1) := by decide +kernel
theorem d_Li_add_57 : decode b_Li_add 57 = .ok (.getfield 15, 3) := by decide +kernel
theorem d_Li_add_60 : decode b_Li_add 60 = .ok (.iconst 1, 1) := by decide +kernel
theorem d_Li_add_61 : decode b_Li_add 61 = .ok (.iadd, 1) := by decide +kernel
theorem d_Li_add_62 : decode b_Li_add 62 = .ok (.putfield 15, 3) := by decide +kernel
theorem d_Li_add_65 : decode b_Li_add 65 = .ok (.return_, 1) := by decide +kernel
def k_Li_add_52 (t_count : Int32) (x52 : (Nat → Int32)) : Int32 × (Nat → Int32) :=
  (t_count + 1, x52)
def k_Li_add_36 (t_count : Int32) (n_t_parts : Nat) (p3 : Int32) (x36 : (Nat → Int32)) : Int32 × (Nat → Int32) :=
  k_Li_add_52 t_count (m_FB_setIn n_t_parts x36 ((3 * t_count) + 2) p3)
def k_Li_add_20 (t_count : Int32) (n_t_parts : Nat) (p2 : Int32) (p3 : Int32) (x20 : (Nat → Int32)) : Int32 × (Nat → Int32) :=
  k_Li_add_36 t_count n_t_parts p3 (m_FB_setIn n_t_parts x20 ((3 * t_count) + 1) p2)
def m_Li_add (t_count : Int32) (n_t_parts : Nat) (f_t_parts : Nat → Int32) (p1 : Int32) (p2 : Int32) (p3 : Int32) : Int32 × (Nat → Int32) :=
  if 16 ≤ t_count then (t_count, f_t_parts) else (k_Li_add_20 t_count n_t_parts p2 p3 (m_FB_setIn n_t_parts f_t_parts (3 * t_count) p1))
set_option maxHeartbeats 4000000 in
set_option maxRecDepth 100000 in
theorem c_Li_add (l : Launch) (D : va_G) (cB cI cJ : ClassId) (h_t h_t_parts : Nat) (t_count : Int32) (n_t_parts : Nat) (f_t_parts : Nat → Int32) (p1 : Int32) (p2 : Int32) (p3 : Int32) (hn_t_parts : n_t_parts < 2147483648) (sz : Nat) : Ct l D cB cI cJ y_Li_add b_Li_add 4 none 1 22 0 0 [.ref h_t, .int p1, .int p2, .int p3] [(h_t, .inr (1, [.ref h_t_parts, .int t_count])), (h_t_parts, .inl (cI, n_t_parts, .inl f_t_parts))] (fun v w1 => ∃ (x : Int32 × (Nat → Int32)), x = m_Li_add t_count n_t_parts f_t_parts p1 p2 p3 ∧ v = none ∧ w1 = [(h_t, .inr (1, [.ref h_t_parts, .int x.1])), (h_t_parts, .inl (cI, n_t_parts, .inl x.2))]) sz := by
  refine Ct.of (by decide) (Nat.le_of_ble_eq_true rfl) ?_
  intro p e R s m args below meth c A ls Q hx hb hr hlk hml hta hown hin hK hN hA hRf hRl hRc hRs hP hD hS hl hQ
  have hl : lv_has ls 4 [(0, .ref h_t), (1, .int p1), (2, .int p2), (3, .int p3)] := hl
  obtain ⟨RES, E0⟩ : ∃ R, m_Li_add t_count n_t_parts f_t_parts p1 p2 p3 = R := ⟨_, rfl⟩
  have E := E0
  refine lv_aload_n hx hb d_Li_add_0 rfl (lv_at hl 0 rfl) ?_
  refine va_get (D := D) (v := .int t_count) hx hb hta i_Li hown hK hP 0 rfl rfl 1 (by decide) (hta _ lk_Li_15) (fun _ h9 => h9) rfl d_Li_add_1 ?_
  refine lv_bipush (v := 16) hx hb d_Li_add_4 (by decide) ?_
  refine lv_icmp_ge (tgt := 65) hx hb d_Li_add_6 (by decide) (fun c_6 => ?_) (fun c_6 => ?_)
  · have E := (if_pos c_6).symm.trans E
    exact kr_v hx hb hr hlk hQ hK hP hD hS ⟨((t_count, f_t_parts) : Int32 × (Nat → Int32)), E.trans E0.symm, rfl, rfl⟩ (by omega) (by omega) d_Li_add_65
  · have E := (if_neg c_6).symm.trans E
    refine lv_aload_n hx hb d_Li_add_9 rfl (lv_at hl 0 rfl) ?_
    refine va_get (D := D) (v := .ref h_t_parts) hx hb hta i_Li hown hK hP 0 rfl rfl 0 (by decide) (hta _ lk_Li_9) (fun _ h9 => h9) rfl d_Li_add_10 ?_
    refine lv_iconst (v := 3) hx hb d_Li_add_13 (by decide) ?_
    refine lv_aload_n hx hb d_Li_add_14 rfl (lv_at hl 0 rfl) ?_
    refine va_get (D := D) (v := .int t_count) hx hb hta i_Li hown hK hP 0 rfl rfl 1 (by decide) (hta _ lk_Li_15) (fun _ h9 => h9) rfl d_Li_add_15 ?_
    refine lv_imul hx hb d_Li_add_18 ?_
    refine lv_iload_n hx hb d_Li_add_19 rfl (lv_at hl 1 rfl) ?_
    refine kc_SN (As := [.ref h_t_parts, .int (3 * t_count), .int p1]) (rest := []) (wr := [(h_t, .inr (1, [.ref h_t_parts, .int t_count]))]) [1] [0] ⟨hx, hb, hml, hown, hta⟩ hK hN hP hD hS hA (c_FB_setIn l D cB cI cJ h_t_parts n_t_parts f_t_parts (3 * t_count) p1 hn_t_parts _) (hN _ nk_Li_19) (hta _ ini_FB) (hta _ code_FB_setIn) code_FB_setIn (hta _ stat_FB_setIn) hd_FB_setIn rfl ⟨by omega, by omega⟩ rfl rfl (by decide) (by decide) (by decide) rfl hl.1 (lv_room (Nat.le_of_ble_eq_true rfl)) d_Li_add_20 ⟨by omega, by omega⟩ (fun v w1 H locs hw hP hD hS => ?_)
    obtain ⟨x20, hx20, rfl, rfl⟩ := hw
    have hP : va_P D classes [(h_t, .inr (1, [.ref h_t_parts, .int t_count])), (h_t_parts, .inl (cI, n_t_parts, .inl x20))] H := hP.sub [0, 1] rfl
    have hD : va_D A [(h_t, .inr (1, [.ref h_t_parts, .int t_count])), (h_t_parts, .inl (cI, n_t_parts, .inl x20))] := hD.sub [0, 1] (by decide) rfl
    refine W.eq (g2 := F0 m 23 ls []) rfl ?_
    have E : k_Li_add_20 t_count n_t_parts p2 p3 x20 = RES := (congrArg (k_Li_add_20 t_count n_t_parts p2 p3) hx20).trans E
    refine lv_aload_n hx hb d_Li_add_23 rfl (lv_at hl 0 rfl) ?_
    refine va_get (D := D) (v := .ref h_t_parts) hx hb hta i_Li hown hK hP 0 rfl rfl 0 (by decide) (hta _ lk_Li_9) (fun _ h9 => h9) rfl d_Li_add_24 ?_
    refine lv_iconst (v := 3) hx hb d_Li_add_27 (by decide) ?_
    refine lv_aload_n hx hb d_Li_add_28 rfl (lv_at hl 0 rfl) ?_
    refine va_get (D := D) (v := .int t_count) hx hb hta i_Li hown hK hP 0 rfl rfl 1 (by decide) (hta _ lk_Li_15) (fun _ h9 => h9) rfl d_Li_add_29 ?_
    refine lv_imul hx hb d_Li_add_32 ?_
    refine lv_iconst (v := 1) hx hb d_Li_add_33 (by decide) ?_
    refine lv_iadd hx hb d_Li_add_34 ?_
    refine lv_iload_n hx hb d_Li_add_35 rfl (lv_at hl 2 rfl) ?_
    refine kc_SN (As := [.ref h_t_parts, .int ((3 * t_count) + 1), .int p2]) (rest := []) (wr := [(h_t, .inr (1, [.ref h_t_parts, .int t_count]))]) [1] [0] ⟨hx, hb, hml, hown, hta⟩ hK hN hP hD hS hA (c_FB_setIn l D cB cI cJ h_t_parts n_t_parts x20 ((3 * t_count) + 1) p2 hn_t_parts _) (hN _ nk_Li_19) (hta _ ini_FB) (hta _ code_FB_setIn) code_FB_setIn (hta _ stat_FB_setIn) hd_FB_setIn rfl ⟨by omega, by omega⟩ rfl rfl (by decide) (by decide) (by decide) rfl hl.1 (lv_room (Nat.le_of_ble_eq_true rfl)) d_Li_add_36 ⟨by omega, by omega⟩ (fun v w1 H locs hw hP hD hS => ?_)
    obtain ⟨x36, hx36, rfl, rfl⟩ := hw
    have hP : va_P D classes [(h_t, .inr (1, [.ref h_t_parts, .int t_count])), (h_t_parts, .inl (cI, n_t_parts, .inl x36))] H := hP.sub [0, 1] rfl
    have hD : va_D A [(h_t, .inr (1, [.ref h_t_parts, .int t_count])), (h_t_parts, .inl (cI, n_t_parts, .inl x36))] := hD.sub [0, 1] (by decide) rfl
    refine W.eq (g2 := F0 m 39 ls []) rfl ?_
    have E : k_Li_add_36 t_count n_t_parts p3 x36 = RES := (congrArg (k_Li_add_36 t_count n_t_parts p3) hx36).trans E
    refine lv_aload_n hx hb d_Li_add_39 rfl (lv_at hl 0 rfl) ?_
    refine va_get (D := D) (v := .ref h_t_parts) hx hb hta i_Li hown hK hP 0 rfl rfl 0 (by decide) (hta _ lk_Li_9) (fun _ h9 => h9) rfl d_Li_add_40 ?_
    refine lv_iconst (v := 3) hx hb d_Li_add_43 (by decide) ?_
    refine lv_aload_n hx hb d_Li_add_44 rfl (lv_at hl 0 rfl) ?_
    refine va_get (D := D) (v := .int t_count) hx hb hta i_Li hown hK hP 0 rfl rfl 1 (by decide) (hta _ lk_Li_15) (fun _ h9 => h9) rfl d_Li_add_45 ?_
    refine lv_imul hx hb d_Li_add_48 ?_
    refine lv_iconst (v := 2) hx hb d_Li_add_49 (by decide) ?_
    refine lv_iadd hx hb d_Li_add_50 ?_
    refine lv_iload_n hx hb d_Li_add_51 rfl (lv_at hl 3 rfl) ?_
    refine kc_SN (As := [.ref h_t_parts, .int ((3 * t_count) + 2), .int p3]) (rest := []) (wr := [(h_t, .inr (1, [.ref h_t_parts, .int t_count]))]) [1] [0] ⟨hx, hb, hml, hown, hta⟩ hK hN hP hD hS hA (c_FB_setIn l D cB cI cJ h_t_parts n_t_parts x36 ((3 * t_count) + 2) p3 hn_t_parts _) (hN _ nk_Li_19) (hta _ ini_FB) (hta _ code_FB_setIn) code_FB_setIn (hta _ stat_FB_setIn) hd_FB_setIn rfl ⟨by omega, by omega⟩ rfl rfl (by decide) (by decide) (by decide) rfl hl.1 (lv_room (Nat.le_of_ble_eq_true rfl)) d_Li_add_52 ⟨by omega, by omega⟩ (fun v w1 H locs hw hP hD hS => ?_)
    obtain ⟨x52, hx52, rfl, rfl⟩ := hw
    have hP : va_P D classes [(h_t, .inr (1, [.ref h_t_parts, .int t_count])), (h_t_parts, .inl (cI, n_t_parts, .inl x52))] H := hP.sub [0, 1] rfl
    have hD : va_D A [(h_t, .inr (1, [.ref h_t_parts, .int t_count])), (h_t_parts, .inl (cI, n_t_parts, .inl x52))] := hD.sub [0, 1] (by decide) rfl
    refine W.eq (g2 := F0 m 55 ls []) rfl ?_
    have E : k_Li_add_52 t_count x52 = RES := (congrArg (k_Li_add_52 t_count) hx52).trans E
    refine lv_aload_n hx hb d_Li_add_55 rfl (lv_at hl 0 rfl) ?_
    refine lv_dup hx hb d_Li_add_56 rfl ?_
    refine va_get (D := D) (v := .int t_count) hx hb hta i_Li hown hK hP 0 rfl rfl 1 (by decide) (hta _ lk_Li_15) (fun _ h9 => h9) rfl d_Li_add_57 ?_
    refine lv_iconst (v := 1) hx hb d_Li_add_60 (by decide) ?_
    refine lv_iadd hx hb d_Li_add_61 ?_
    refine va_put (D := D) (ty := .int) hx hb hta i_Li t_Li t_Li_ok n_Li hown hK hP hD hS 0 rfl rfl 1 (by decide) (hta _ lk_Li_15) (fun _ h9 => h9) rfl (by decide +kernel) rfl rfl (Nat.le_of_ble_eq_true rfl) d_Li_add_62 (fun H locs (hP : va_P D classes [(h_t, .inr (1, [.ref h_t_parts, .int (t_count + 1)])), (h_t_parts, .inl (cI, n_t_parts, .inl x52))] H) (hD : va_D A [(h_t, .inr (1, [.ref h_t_parts, .int (t_count + 1)])), (h_t_parts, .inl (cI, n_t_parts, .inl x52))]) hS => ?_)
    exact kr_v hx hb hr hlk hQ hK hP hD hS ⟨((t_count + 1, x52) : Int32 × (Nat → Int32)), E.trans E0.symm, rfl, rfl⟩ (by omega) (by omega) d_Li_add_65
theorem d_Li_part_0 : decode b_Li_part 0 = .ok (.aload_n 0, 1) := by decide +kernel
theorem d_Li_part_1 : decode b_Li_part 1 = .ok (.getfield 9, 3) := by decide +kernel
theorem d_Li_part_4 : decode b_Li_part 4 = .ok (.iconst 3, 1) := by decide +kernel
theorem d_Li_part_5 : decode b_Li_part 5 = .ok (.iload_n 1, 1) := by decide +kernel
theorem d_Li_part_6 : decode b_Li_part 6 = .ok (.imul, 1) := by decide +kernel
theorem d_Li_part_7 : decode b_Li_part 7 = .ok (.iload_n 2, 1) := by decide +kernel
theorem d_Li_part_8 : decode b_Li_part 8 = .ok (.iadd, 1) := by decide +kernel
theorem d_Li_part_9 : decode b_Li_part 9 = .ok (.invokestatic 23, 3) := by decide +kernel
theorem d_Li_part_12 : decode b_Li_part 12 = .ok (.ireturn, 1) := by decide +kernel
def k_Li_part_9 (x9 : Int32) : Int32 :=
  x9
def m_Li_part (n_t_parts : Nat) (f_t_parts : Nat → Int32) (p1 : Int32) (p2 : Int32) : Int32 :=
  k_Li_part_9 (m_FB_valueIn n_t_parts f_t_parts ((3 * p1) + p2))
set_option maxHeartbeats 4000000 in
set_option maxRecDepth 100000 in
theorem c_Li_part (l : Launch) (D : va_G) (cB cI cJ : ClassId) (h_t h_t_parts : Nat) (t_count : Int32) (n_t_parts : Nat) (f_t_parts : Nat → Int32) (p1 : Int32) (p2 : Int32) (hn_t_parts : n_t_parts < 2147483648) (sz : Nat) : Ct l D cB cI cJ y_Li_part b_Li_part 3 (some .int) 1 21 0 0 [.ref h_t, .int p1, .int p2] [(h_t, .inr (1, [.ref h_t_parts, .int t_count])), (h_t_parts, .inl (cI, n_t_parts, .inl f_t_parts))] (fun v w1 => ∃ (x : Int32), x = m_Li_part n_t_parts f_t_parts p1 p2 ∧ v = some (.int x) ∧ w1 = [(h_t, .inr (1, [.ref h_t_parts, .int t_count])), (h_t_parts, .inl (cI, n_t_parts, .inl f_t_parts))]) sz := by
  refine Ct.of (by decide) (Nat.le_of_ble_eq_true rfl) ?_
  intro p e R s m args below meth c A ls Q hx hb hr hlk hml hta hown hin hK hN hA hRf hRl hRc hRs hP hD hS hl hQ
  have hl : lv_has ls 3 [(0, .ref h_t), (1, .int p1), (2, .int p2)] := hl
  obtain ⟨RES, E0⟩ : ∃ R, m_Li_part n_t_parts f_t_parts p1 p2 = R := ⟨_, rfl⟩
  have E := E0
  refine lv_aload_n hx hb d_Li_part_0 rfl (lv_at hl 0 rfl) ?_
  refine va_get (D := D) (v := .ref h_t_parts) hx hb hta i_Li hown hK hP 0 rfl rfl 0 (by decide) (hta _ lk_Li_9) (fun _ h9 => h9) rfl d_Li_part_1 ?_
  refine lv_iconst (v := 3) hx hb d_Li_part_4 (by decide) ?_
  refine lv_iload_n hx hb d_Li_part_5 rfl (lv_at hl 1 rfl) ?_
  refine lv_imul hx hb d_Li_part_6 ?_
  refine lv_iload_n hx hb d_Li_part_7 rfl (lv_at hl 2 rfl) ?_
  refine lv_iadd hx hb d_Li_part_8 ?_
  refine kc_SN (As := [.ref h_t_parts, .int ((3 * p1) + p2)]) (rest := []) (wr := [(h_t, .inr (1, [.ref h_t_parts, .int t_count]))]) [1] [0] ⟨hx, hb, hml, hown, hta⟩ hK hN hP hD hS hA (c_FB_valueIn l D cB cI cJ h_t_parts n_t_parts f_t_parts ((3 * p1) + p2) hn_t_parts _) (hN _ nk_Li_23) (hta _ ini_FB) (hta _ code_FB_valueIn) code_FB_valueIn (hta _ stat_FB_valueIn) hd_FB_valueIn rfl ⟨by omega, by omega⟩ rfl rfl (by decide) (by decide) (by decide) rfl hl.1 (lv_room (Nat.le_of_ble_eq_true rfl)) d_Li_part_9 ⟨by omega, by omega⟩ (fun v w1 H locs hw hP hD hS => ?_)
  obtain ⟨x9, hx9, rfl, rfl⟩ := hw
  have hP : va_P D classes [(h_t, .inr (1, [.ref h_t_parts, .int t_count])), (h_t_parts, .inl (cI, n_t_parts, .inl f_t_parts))] H := hP.sub [0, 1] rfl
  have hD : va_D A [(h_t, .inr (1, [.ref h_t_parts, .int t_count])), (h_t_parts, .inl (cI, n_t_parts, .inl f_t_parts))] := hD.sub [0, 1] (by decide) rfl
  refine W.eq (g2 := F0 m 12 ls [.int x9]) rfl ?_
  have E : k_Li_part_9 x9 = RES := (congrArg (k_Li_part_9) hx9).trans E
  exact kr_i hx hb hr hlk hQ hK hP hD hS ⟨(x9 : Int32), E.trans E0.symm, rfl, rfl⟩ (by omega) (by omega) d_Li_part_12
theorem d_Li_tells_0 : decode b_Li_tells 0 = .ok (.iconst 0, 1) := by decide +kernel
theorem d_Li_tells_1 : decode b_Li_tells 1 = .ok (.istore_n 2, 1) := by decide +kernel
theorem d_Li_tells_2 : decode b_Li_tells 2 = .ok (.iload_n 2, 1) := by decide +kernel
theorem d_Li_tells_3 : decode b_Li_tells 3 = .ok (.aload_n 0, 1) := by decide +kernel
theorem d_Li_tells_4 : decode b_Li_tells 4 = .ok (.getfield 15, 3) := by decide +kernel
theorem d_Li_tells_7 : decode b_Li_tells 7 = .ok (.if_icmp .ge 21, 3) := by decide +kernel
theorem d_Li_tells_10 : decode b_Li_tells 10 = .ok (.aload_n 0, 1) := by decide +kernel
theorem d_Li_tells_11 : decode b_Li_tells 11 = .ok (.iload_n 2, 1) := by decide +kernel
theorem d_Li_tells_12 : decode b_Li_tells 12 = .ok (.iconst 0, 1) := by decide +kernel
theorem d_Li_tells_13 : decode b_Li_tells 13 = .ok (.invokevirtual 27, 3) := by decide +kernel
theorem d_Li_tells_16 : decode b_Li_tells 16 = .ok (.iload_n 1, 1) := by decide +kernel
theorem d_Li_tells_17 : decode b_Li_tells 17 = .ok (.if_icmp .ne 5, 3) := by decide +kernel
theorem d_Li_tells_20 : decode b_Li_tells 20 = .ok (.iconst 1, 1) := by decide +kernel
theorem d_Li_tells_21 : decode b_Li_tells 21 = .ok (.ireturn, 1) := by decide +kernel
theorem d_Li_tells_22 : decode b_Li_tells 22 = .ok (.iinc 2 1, 3) := by decide +kernel
theorem d_Li_tells_25 : decode b_Li_tells 25 = .ok (.goto (-23), 3) := by decide +kernel
theorem d_Li_tells_28 : decode b_Li_tells 28 = .ok (.iconst 0, 1) := by decide +kernel
theorem d_Li_tells_29 : decode b_Li_tells 29 = .ok (.ireturn, 1) := by decide +kernel
def k_Li_tells_13 (p1 : Int32) (kk_2 : Int32 → Int32) (v2_2 : Int32) (x13 : Int32) : Int32 :=
  if x13 = p1 then 1 else (kk_2 (v2_2 + 1))
def lb_Li_tells_2 (t_count : Int32) (n_t_parts : Nat) (f_t_parts : Nat → Int32) (p1 : Int32) (kk_2 : Int32 → Int32) (v2_2 : Int32) : Int32 :=
  if t_count ≤ v2_2 then 0 else (k_Li_tells_13 p1 kk_2 v2_2 (m_Li_part n_t_parts f_t_parts v2_2 0))
def lp_Li_tells_2 (t_count : Int32) (n_t_parts : Nat) (f_t_parts : Nat → Int32) (p1 : Int32) : Nat → Int32 → Int32
  | 0, v2_2 => 0
  | n + 1, v2_2 => lb_Li_tells_2 t_count n_t_parts f_t_parts p1 (lp_Li_tells_2 t_count n_t_parts f_t_parts p1 n) v2_2
def m_Li_tells (t_count : Int32) (n_t_parts : Nat) (f_t_parts : Nat → Int32) (p1 : Int32) : Int32 :=
  lp_Li_tells_2 t_count n_t_parts f_t_parts p1 ((t_count.toInt - (0 : Int32).toInt).toNat + 1) 0
set_option maxHeartbeats 4000000 in
set_option maxRecDepth 100000 in
theorem c_Li_tells (l : Launch) (D : va_G) (cB cI cJ : ClassId) (h_t h_t_parts : Nat) (t_count : Int32) (n_t_parts : Nat) (f_t_parts : Nat → Int32) (p1 : Int32) (hn_t_parts : n_t_parts < 2147483648) (sz : Nat) : Ct l D cB cI cJ y_Li_tells b_Li_tells 3 (some .boolean) 2 43 0 0 [.ref h_t, .int p1] [(h_t, .inr (1, [.ref h_t_parts, .int t_count])), (h_t_parts, .inl (cI, n_t_parts, .inl f_t_parts))] (fun v w1 => ∃ (x : Int32), x = m_Li_tells t_count n_t_parts f_t_parts p1 ∧ v = some (.int x) ∧ w1 = [(h_t, .inr (1, [.ref h_t_parts, .int t_count])), (h_t_parts, .inl (cI, n_t_parts, .inl f_t_parts))]) sz := by
  refine Ct.of (by decide) (Nat.le_of_ble_eq_true rfl) ?_
  intro p e R s m args below meth c A ls Q hx hb hr hlk hml hta hown hin hK hN hA hRf hRl hRc hRs hP hD hS hl hQ
  have hl : lv_has ls 3 [(0, .ref h_t), (1, .int p1)] := hl
  obtain ⟨RES, E0⟩ : ∃ R, m_Li_tells t_count n_t_parts f_t_parts p1 = R := ⟨_, rfl⟩
  have E := E0
  refine lv_iconst (v := 0) hx hb d_Li_tells_0 (by decide) ?_
  refine lv_istore_n (lv' := [(2, .int 0), (0, .ref h_t), (1, .int p1)]) hx hb d_Li_tells_1 rfl hl (by decide) rfl (fun ls hl => ?_)
  have L_2 : ∀ (n : Nat) (v2_2 : Int32), (t_count.toInt - v2_2.toInt).toNat < n → lp_Li_tells_2 t_count n_t_parts f_t_parts p1 n v2_2 = RES → ∀ (H : Heap) (locs : List Loc), va_P D classes [(h_t, .inr (1, [.ref h_t_parts, .int t_count])), (h_t_parts, .inl (cI, n_t_parts, .inl f_t_parts))] H → va_D A [(h_t, .inr (1, [.ref h_t_parts, .int t_count])), (h_t_parts, .inl (cI, n_t_parts, .inl f_t_parts))] → va_S A s.heap H locs → ∀ ls : Array Slot, lv_has ls 3 [(2, .int v2_2), (0, .ref h_t), (1, .int p1)] → W p l e R s m args below meth c H locs 0 0 Q (F0 m 2 ls []) := by
    intro n
    induction n with
    | zero => intro v2_2 hlt; exact absurd hlt (Nat.not_lt_zero _)
    | succ n ih =>
      intro v2_2 hlt_2 E H locs hP hD hS ls hl
      have E : lb_Li_tells_2 t_count n_t_parts f_t_parts p1 (lp_Li_tells_2 t_count n_t_parts f_t_parts p1 n) v2_2 = RES := E
      generalize lp_Li_tells_2 t_count n_t_parts f_t_parts p1 n = kk_2 at ih E
      have ih_2 := ih
      clear ih
      refine lv_iload_n hx hb d_Li_tells_2 rfl (lv_at hl 0 rfl) ?_
      refine lv_aload_n hx hb d_Li_tells_3 rfl (lv_at hl 1 rfl) ?_
      refine va_get (D := D) (v := .int t_count) hx hb hta i_Li hown hK hP 0 rfl rfl 1 (by decide) (hta _ lk_Li_15) (fun _ h9 => h9) rfl d_Li_tells_4 ?_
      refine lv_icmp_ge (tgt := 28) hx hb d_Li_tells_7 (by decide) (fun c_7 => ?_) (fun c_7 => ?_)
      · have E := (if_pos c_7).symm.trans E
        refine lv_iconst (v := 0) hx hb d_Li_tells_28 (by decide) ?_
        exact kr_z hx hb hr hlk hQ hK hP hD hS ⟨(0 : Int32), E.trans E0.symm, rfl, rfl⟩ (by omega) (by omega) rfl d_Li_tells_29
      · have E := (if_neg c_7).symm.trans E
        refine lv_aload_n hx hb d_Li_tells_10 rfl (lv_at hl 1 rfl) ?_
        refine lv_iload_n hx hb d_Li_tells_11 rfl (lv_at hl 0 rfl) ?_
        refine lv_iconst (v := 0) hx hb d_Li_tells_12 (by decide) ?_
        refine kc_V (As := [.int v2_2, .int 0]) (rest := []) (wr := []) [0, 1] [] ⟨hx, hb, hml, hown, hta⟩ hK hN hP hD hS hA (c_Li_part l D cB cI cJ h_t h_t_parts t_count n_t_parts f_t_parts v2_2 0 hn_t_parts _) (hta _ lk_Li_27) (hta _ ini_Li) (hta _ code_Li_part) code_Li_part (hta _ inst_Li_part) (hta _ sel_Li_part) hd_Li_part rfl ⟨by omega, by omega⟩ (ci := 1) 0 rfl rfl rfl rfl (by decide) (by decide) (by decide) rfl hl.1 (lv_room (Nat.le_of_ble_eq_true rfl)) d_Li_tells_13 ⟨by omega, by omega⟩ (fun v w1 H locs hw hP hD hS => ?_)
        obtain ⟨x13, hx13, rfl, rfl⟩ := hw
        have hP : va_P D classes [(h_t, .inr (1, [.ref h_t_parts, .int t_count])), (h_t_parts, .inl (cI, n_t_parts, .inl f_t_parts))] H := hP.sub [0, 1] rfl
        have hD : va_D A [(h_t, .inr (1, [.ref h_t_parts, .int t_count])), (h_t_parts, .inl (cI, n_t_parts, .inl f_t_parts))] := hD.sub [0, 1] (by decide) rfl
        refine W.eq (g2 := F0 m 16 ls [.int x13]) rfl ?_
        have E : k_Li_tells_13 p1 kk_2 v2_2 x13 = RES := (congrArg (k_Li_tells_13 p1 kk_2 v2_2) hx13).trans E
        refine lv_iload_n hx hb d_Li_tells_16 rfl (lv_at hl 2 rfl) ?_
        refine lv_icmp_ne (tgt := 22) hx hb d_Li_tells_17 (by decide) (fun c_17 => ?_) (fun c_17 => ?_)
        · have E := (if_neg c_17).symm.trans E
          refine lv_iinc (v := v2_2 + 1) (lv' := [(2, .int (v2_2 + 1)), (0, .ref h_t), (1, .int p1)]) hx hb d_Li_tells_22 hl (k := 0) rfl rfl (by decide) rfl (fun ls hl => ?_)
          refine lv_goto (tgt := 2) hx hb d_Li_tells_25 (by decide) ?_
          exact ih_2 (v2_2 + 1) (Nat.lt_of_lt_of_le (tm_up c_7) (Nat.le_of_lt_succ hlt_2)) E _ _ hP hD hS ls (lv_sub hl [0, 1, 2] rfl)
        · have E := (if_pos c_17).symm.trans E
          refine lv_iconst (v := 1) hx hb d_Li_tells_20 (by decide) ?_
          exact kr_z hx hb hr hlk hQ hK hP hD hS ⟨(1 : Int32), E.trans E0.symm, rfl, rfl⟩ (by omega) (by omega) rfl d_Li_tells_21
  exact L_2 _ 0 (Nat.lt_succ_self _) E _ _ hP hD hS ls (lv_sub hl [0, 1, 2] rfl)
theorem d_Li_allFirstBelow_0 : decode b_Li_allFirstBelow 0 = .ok (.iconst 0, 1) := by decide +kernel
theorem d_Li_allFirstBelow_1 : decode b_Li_allFirstBelow 1 = .ok (.istore_n 2, 1) := by decide +kernel
theorem d_Li_allFirstBelow_2 : decode b_Li_allFirstBelow 2 = .ok (.iload_n 2, 1) := by decide +kernel
theorem d_Li_allFirstBelow_3 : decode b_Li_allFirstBelow 3 = .ok (.aload_n 0, 1) := by decide +kernel
theorem d_Li_allFirstBelow_4 : decode b_Li_allFirstBelow 4 = .ok (.getfield 15, 3) := by decide +kernel
theorem d_Li_allFirstBelow_7 : decode b_Li_allFirstBelow 7 = .ok (.if_icmp .ge 21, 3) := by decide +kernel
theorem d_Li_allFirstBelow_10 : decode b_Li_allFirstBelow 10 = .ok (.aload_n 0, 1) := by decide +kernel
theorem d_Li_allFirstBelow_11 : decode b_Li_allFirstBelow 11 = .ok (.iload_n 2, 1) := by decide +kernel
theorem d_Li_allFirstBelow_12 : decode b_Li_allFirstBelow 12 = .ok (.iconst 0, 1) := by decide +kernel
theorem d_Li_allFirstBelow_13 : decode b_Li_allFirstBelow 13 = .ok (.invokevirtual 27, 3) := by decide +kernel
theorem d_Li_allFirstBelow_16 : decode b_Li_allFirstBelow 16 = .ok (.iload_n 1, 1) := by decide +kernel
theorem d_Li_allFirstBelow_17 : decode b_Li_allFirstBelow 17 = .ok (.if_icmp .lt 5, 3) := by decide +kernel
theorem d_Li_allFirstBelow_20 : decode b_Li_allFirstBelow 20 = .ok (.iconst 0, 1) := by decide +kernel
theorem d_Li_allFirstBelow_21 : decode b_Li_allFirstBelow 21 = .ok (.ireturn, 1) := by decide +kernel
theorem d_Li_allFirstBelow_22 : decode b_Li_allFirstBelow 22 = .ok (.iinc 2 1, 3) := by decide +kernel
theorem d_Li_allFirstBelow_25 : decode b_Li_allFirstBelow 25 = .ok (.goto (-23), 3) := by decide +kernel
theorem d_Li_allFirstBelow_28 : decode b_Li_allFirstBelow 28 = .ok (.iconst 1, 1) := by decide +kernel
theorem d_Li_allFirstBelow_29 : decode b_Li_allFirstBelow 29 = .ok (.ireturn, 1) := by decide +kernel
def k_Li_allFirstBelow_13 (p1 : Int32) (kk_2 : Int32 → Int32) (v2_2 : Int32) (x13 : Int32) : Int32 :=
  if x13 < p1 then (kk_2 (v2_2 + 1)) else 0
def lb_Li_allFirstBelow_2 (t_count : Int32) (n_t_parts : Nat) (f_t_parts : Nat → Int32) (p1 : Int32) (kk_2 : Int32 → Int32) (v2_2 : Int32) : Int32 :=
  if t_count ≤ v2_2 then 1 else (k_Li_allFirstBelow_13 p1 kk_2 v2_2 (m_Li_part n_t_parts f_t_parts v2_2 0))
def lp_Li_allFirstBelow_2 (t_count : Int32) (n_t_parts : Nat) (f_t_parts : Nat → Int32) (p1 : Int32) : Nat → Int32 → Int32
  | 0, v2_2 => 0
  | n + 1, v2_2 => lb_Li_allFirstBelow_2 t_count n_t_parts f_t_parts p1 (lp_Li_allFirstBelow_2 t_count n_t_parts f_t_parts p1 n) v2_2
def m_Li_allFirstBelow (t_count : Int32) (n_t_parts : Nat) (f_t_parts : Nat → Int32) (p1 : Int32) : Int32 :=
  lp_Li_allFirstBelow_2 t_count n_t_parts f_t_parts p1 ((t_count.toInt - (0 : Int32).toInt).toNat + 1) 0
set_option maxHeartbeats 4000000 in
set_option maxRecDepth 100000 in
theorem c_Li_allFirstBelow (l : Launch) (D : va_G) (cB cI cJ : ClassId) (h_t h_t_parts : Nat) (t_count : Int32) (n_t_parts : Nat) (f_t_parts : Nat → Int32) (p1 : Int32) (hn_t_parts : n_t_parts < 2147483648) (sz : Nat) : Ct l D cB cI cJ y_Li_allFirstBelow b_Li_allFirstBelow 3 (some .boolean) 2 43 0 0 [.ref h_t, .int p1] [(h_t, .inr (1, [.ref h_t_parts, .int t_count])), (h_t_parts, .inl (cI, n_t_parts, .inl f_t_parts))] (fun v w1 => ∃ (x : Int32), x = m_Li_allFirstBelow t_count n_t_parts f_t_parts p1 ∧ v = some (.int x) ∧ w1 = [(h_t, .inr (1, [.ref h_t_parts, .int t_count])), (h_t_parts, .inl (cI, n_t_parts, .inl f_t_parts))]) sz := by
  refine Ct.of (by decide) (Nat.le_of_ble_eq_true rfl) ?_
  intro p e R s m args below meth c A ls Q hx hb hr hlk hml hta hown hin hK hN hA hRf hRl hRc hRs hP hD hS hl hQ
  have hl : lv_has ls 3 [(0, .ref h_t), (1, .int p1)] := hl
  obtain ⟨RES, E0⟩ : ∃ R, m_Li_allFirstBelow t_count n_t_parts f_t_parts p1 = R := ⟨_, rfl⟩
  have E := E0
  refine lv_iconst (v := 0) hx hb d_Li_allFirstBelow_0 (by decide) ?_
  refine lv_istore_n (lv' := [(2, .int 0), (0, .ref h_t), (1, .int p1)]) hx hb d_Li_allFirstBelow_1 rfl hl (by decide) rfl (fun ls hl => ?_)
  have L_2 : ∀ (n : Nat) (v2_2 : Int32), (t_count.toInt - v2_2.toInt).toNat < n → lp_Li_allFirstBelow_2 t_count n_t_parts f_t_parts p1 n v2_2 = RES → ∀ (H : Heap) (locs : List Loc), va_P D classes [(h_t, .inr (1, [.ref h_t_parts, .int t_count])), (h_t_parts, .inl (cI, n_t_parts, .inl f_t_parts))] H → va_D A [(h_t, .inr (1, [.ref h_t_parts, .int t_count])), (h_t_parts, .inl (cI, n_t_parts, .inl f_t_parts))] → va_S A s.heap H locs → ∀ ls : Array Slot, lv_has ls 3 [(2, .int v2_2), (0, .ref h_t), (1, .int p1)] → W p l e R s m args below meth c H locs 0 0 Q (F0 m 2 ls []) := by
    intro n
    induction n with
    | zero => intro v2_2 hlt; exact absurd hlt (Nat.not_lt_zero _)
    | succ n ih =>
      intro v2_2 hlt_2 E H locs hP hD hS ls hl
      have E : lb_Li_allFirstBelow_2 t_count n_t_parts f_t_parts p1 (lp_Li_allFirstBelow_2 t_count n_t_parts f_t_parts p1 n) v2_2 = RES := E
      generalize lp_Li_allFirstBelow_2 t_count n_t_parts f_t_parts p1 n = kk_2 at ih E
      have ih_2 := ih
      clear ih
      refine lv_iload_n hx hb d_Li_allFirstBelow_2 rfl (lv_at hl 0 rfl) ?_
      refine lv_aload_n hx hb d_Li_allFirstBelow_3 rfl (lv_at hl 1 rfl) ?_
      refine va_get (D := D) (v := .int t_count) hx hb hta i_Li hown hK hP 0 rfl rfl 1 (by decide) (hta _ lk_Li_15) (fun _ h9 => h9) rfl d_Li_allFirstBelow_4 ?_
      refine lv_icmp_ge (tgt := 28) hx hb d_Li_allFirstBelow_7 (by decide) (fun c_7 => ?_) (fun c_7 => ?_)
      · have E := (if_pos c_7).symm.trans E
        refine lv_iconst (v := 1) hx hb d_Li_allFirstBelow_28 (by decide) ?_
        exact kr_z hx hb hr hlk hQ hK hP hD hS ⟨(1 : Int32), E.trans E0.symm, rfl, rfl⟩ (by omega) (by omega) rfl d_Li_allFirstBelow_29
      · have E := (if_neg c_7).symm.trans E
        refine lv_aload_n hx hb d_Li_allFirstBelow_10 rfl (lv_at hl 1 rfl) ?_
        refine lv_iload_n hx hb d_Li_allFirstBelow_11 rfl (lv_at hl 0 rfl) ?_
        refine lv_iconst (v := 0) hx hb d_Li_allFirstBelow_12 (by decide) ?_
        refine kc_V (As := [.int v2_2, .int 0]) (rest := []) (wr := []) [0, 1] [] ⟨hx, hb, hml, hown, hta⟩ hK hN hP hD hS hA (c_Li_part l D cB cI cJ h_t h_t_parts t_count n_t_parts f_t_parts v2_2 0 hn_t_parts _) (hta _ lk_Li_27) (hta _ ini_Li) (hta _ code_Li_part) code_Li_part (hta _ inst_Li_part) (hta _ sel_Li_part) hd_Li_part rfl ⟨by omega, by omega⟩ (ci := 1) 0 rfl rfl rfl rfl (by decide) (by decide) (by decide) rfl hl.1 (lv_room (Nat.le_of_ble_eq_true rfl)) d_Li_allFirstBelow_13 ⟨by omega, by omega⟩ (fun v w1 H locs hw hP hD hS => ?_)
        obtain ⟨x13, hx13, rfl, rfl⟩ := hw
        have hP : va_P D classes [(h_t, .inr (1, [.ref h_t_parts, .int t_count])), (h_t_parts, .inl (cI, n_t_parts, .inl f_t_parts))] H := hP.sub [0, 1] rfl
        have hD : va_D A [(h_t, .inr (1, [.ref h_t_parts, .int t_count])), (h_t_parts, .inl (cI, n_t_parts, .inl f_t_parts))] := hD.sub [0, 1] (by decide) rfl
        refine W.eq (g2 := F0 m 16 ls [.int x13]) rfl ?_
        have E : k_Li_allFirstBelow_13 p1 kk_2 v2_2 x13 = RES := (congrArg (k_Li_allFirstBelow_13 p1 kk_2 v2_2) hx13).trans E
        refine lv_iload_n hx hb d_Li_allFirstBelow_16 rfl (lv_at hl 2 rfl) ?_
        refine lv_icmp_lt (tgt := 22) hx hb d_Li_allFirstBelow_17 (by decide) (fun c_17 => ?_) (fun c_17 => ?_)
        · have E := (if_pos c_17).symm.trans E
          refine lv_iinc (v := v2_2 + 1) (lv' := [(2, .int (v2_2 + 1)), (0, .ref h_t), (1, .int p1)]) hx hb d_Li_allFirstBelow_22 hl (k := 0) rfl rfl (by decide) rfl (fun ls hl => ?_)
          refine lv_goto (tgt := 2) hx hb d_Li_allFirstBelow_25 (by decide) ?_
          exact ih_2 (v2_2 + 1) (Nat.lt_of_lt_of_le (tm_up c_7) (Nat.le_of_lt_succ hlt_2)) E _ _ hP hD hS ls (lv_sub hl [0, 1, 2] rfl)
        · have E := (if_neg c_17).symm.trans E
          refine lv_iconst (v := 0) hx hb d_Li_allFirstBelow_20 (by decide) ?_
          exact kr_z hx hb hr hlk hQ hK hP hD hS ⟨(0 : Int32), E.trans E0.symm, rfl, rfl⟩ (by omega) (by omega) rfl d_Li_allFirstBelow_21
  exact L_2 _ 0 (Nat.lt_succ_self _) E _ _ hP hD hS ls (lv_sub hl [0, 1, 2] rfl)
theorem d_Li_someFirstTwice_0 : decode b_Li_someFirstTwice 0 = .ok (.iconst 0, 1) := by decide +kernel
theorem d_Li_someFirstTwice_1 : decode b_Li_someFirstTwice 1 = .ok (.istore_n 1, 1) := by decide +kernel
theorem d_Li_someFirstTwice_2 : decode b_Li_someFirstTwice 2 = .ok (.iload_n 1, 1) := by decide +kernel
theorem d_Li_someFirstTwice_3 : decode b_Li_someFirstTwice 3 = .ok (.aload_n 0, 1) := by decide +kernel
theorem d_Li_someFirstTwice_4 : decode b_Li_someFirstTwice 4 = .ok (.getfield 15, 3) := by decide +kernel
theorem d_Li_someFirstTwice_7 : decode b_Li_someFirstTwice 7 = .ok (.if_icmp .ge 39, 3) := by decide +kernel
theorem d_Li_someFirstTwice_10 : decode b_Li_someFirstTwice 10 = .ok (.iconst 0, 1) := by decide +kernel
theorem d_Li_someFirstTwice_11 : decode b_Li_someFirstTwice 11 = .ok (.istore_n 2, 1) := by decide +kernel
theorem d_Li_someFirstTwice_12 : decode b_Li_someFirstTwice 12 = .ok (.iload_n 2, 1) := by decide +kernel
theorem d_Li_someFirstTwice_13 : decode b_Li_someFirstTwice 13 = .ok (.iload_n 1, 1) := by decide +kernel
theorem d_Li_someFirstTwice_14 : decode b_Li_someFirstTwice 14 = .ok (.if_icmp .ge 26, 3) := by decide +kernel
theorem d_Li_someFirstTwice_17 : decode b_Li_someFirstTwice 17 = .ok (.aload_n 0, 1) := by decide +kernel
theorem d_Li_someFirstTwice_18 : decode b_Li_someFirstTwice 18 = .ok (.iload_n 1, 1) := by decide +kernel
theorem d_Li_someFirstTwice_19 : decode b_Li_someFirstTwice 19 = .ok (.iconst 0, 1) := by decide +kernel
theorem d_Li_someFirstTwice_20 : decode b_Li_someFirstTwice 20 = .ok (.invokevirtual 27, 3) := by decide +kernel
theorem d_Li_someFirstTwice_23 : decode b_Li_someFirstTwice 23 = .ok (.aload_n 0, 1) := by decide +kernel
theorem d_Li_someFirstTwice_24 : decode b_Li_someFirstTwice 24 = .ok (.iload_n 2, 1) := by decide +kernel
theorem d_Li_someFirstTwice_25 : decode b_Li_someFirstTwice 25 = .ok (.iconst 0, 1) := by decide +kernel
theorem d_Li_someFirstTwice_26 : decode b_Li_someFirstTwice 26 = .ok (.invokevirtual 27, 3) := by decide +kernel
theorem d_Li_someFirstTwice_29 : decode b_Li_someFirstTwice 29 = .ok (.if_icmp .ne 5, 3) := by decide +kernel
theorem d_Li_someFirstTwice_32 : decode b_Li_someFirstTwice 32 = .ok (.iconst 1, 1) := by decide +kernel
theorem d_Li_someFirstTwice_33 : decode b_Li_someFirstTwice 33 = .ok (.ireturn, 1) := by decide +kernel
theorem d_Li_someFirstTwice_34 : decode b_Li_someFirstTwice 34 = .ok (.iinc 2 1, 3) := by decide +kernel
theorem d_Li_someFirstTwice_37 : decode b_Li_someFirstTwice 37 = .ok (.goto (-25), 3) := by decide +kernel
theorem d_Li_someFirstTwice_40 : decode b_Li_someFirstTwice 40 = .ok (.iinc 1 1, 3) := by decide +kernel
theorem d_Li_someFirstTwice_43 : decode b_Li_someFirstTwice 43 = .ok (.goto (-41), 3) := by decide +kernel
theorem d_Li_someFirstTwice_46 : decode b_Li_someFirstTwice 46 = .ok (.iconst 0, 1) := by decide +kernel
theorem d_Li_someFirstTwice_47 : decode b_Li_someFirstTwice 47 = .ok (.ireturn, 1) := by decide +kernel
def k_Li_someFirstTwice_26 (kk_12 : Int32 → Int32) (v12_2 : Int32) (x20 : Int32) (x26 : Int32) : Int32 :=
  if x20 = x26 then 1 else (kk_12 (v12_2 + 1))
def k_Li_someFirstTwice_20 (n_t_parts : Nat) (f_t_parts : Nat → Int32) (kk_12 : Int32 → Int32) (v12_2 : Int32) (x20 : Int32) : Int32 :=
  k_Li_someFirstTwice_26 kk_12 v12_2 x20 (m_Li_part n_t_parts f_t_parts v12_2 0)
def lb_Li_someFirstTwice_12 (n_t_parts : Nat) (f_t_parts : Nat → Int32) (kk_2 : Int32 → Int32) (v2_1 : Int32) (kk_12 : Int32 → Int32) (v12_2 : Int32) : Int32 :=
  if v2_1 ≤ v12_2 then (kk_2 (v2_1 + 1)) else (k_Li_someFirstTwice_20 n_t_parts f_t_parts kk_12 v12_2 (m_Li_part n_t_parts f_t_parts v2_1 0))
def lp_Li_someFirstTwice_12 (n_t_parts : Nat) (f_t_parts : Nat → Int32) (kk_2 : Int32 → Int32) (v2_1 : Int32) : Nat → Int32 → Int32
  | 0, v12_2 => 0
  | n + 1, v12_2 => lb_Li_someFirstTwice_12 n_t_parts f_t_parts kk_2 v2_1 (lp_Li_someFirstTwice_12 n_t_parts f_t_parts kk_2 v2_1 n) v12_2
def lb_Li_someFirstTwice_2 (t_count : Int32) (n_t_parts : Nat) (f_t_parts : Nat → Int32) (kk_2 : Int32 → Int32) (v2_1 : Int32) : Int32 :=
  if t_count ≤ v2_1 then 0 else (lp_Li_someFirstTwice_12 n_t_parts f_t_parts kk_2 v2_1 ((v2_1.toInt - (0 : Int32).toInt).toNat + 1) 0)
def lp_Li_someFirstTwice_2 (t_count : Int32) (n_t_parts : Nat) (f_t_parts : Nat → Int32) : Nat → Int32 → Int32
  | 0, v2_1 => 0
  | n + 1, v2_1 => lb_Li_someFirstTwice_2 t_count n_t_parts f_t_parts (lp_Li_someFirstTwice_2 t_count n_t_parts f_t_parts n) v2_1
def m_Li_someFirstTwice (t_count : Int32) (n_t_parts : Nat) (f_t_parts : Nat → Int32) : Int32 :=
  lp_Li_someFirstTwice_2 t_count n_t_parts f_t_parts ((t_count.toInt - (0 : Int32).toInt).toNat + 1) 0
set_option maxHeartbeats 4000000 in
set_option maxRecDepth 100000 in
theorem c_Li_someFirstTwice (l : Launch) (D : va_G) (cB cI cJ : ClassId) (h_t h_t_parts : Nat) (t_count : Int32) (n_t_parts : Nat) (f_t_parts : Nat → Int32) (hn_t_parts : n_t_parts < 2147483648) (sz : Nat) : Ct l D cB cI cJ y_Li_someFirstTwice b_Li_someFirstTwice 3 (some .boolean) 2 43 0 0 [.ref h_t] [(h_t, .inr (1, [.ref h_t_parts, .int t_count])), (h_t_parts, .inl (cI, n_t_parts, .inl f_t_parts))] (fun v w1 => ∃ (x : Int32), x = m_Li_someFirstTwice t_count n_t_parts f_t_parts ∧ v = some (.int x) ∧ w1 = [(h_t, .inr (1, [.ref h_t_parts, .int t_count])), (h_t_parts, .inl (cI, n_t_parts, .inl f_t_parts))]) sz := by
  refine Ct.of (by decide) (Nat.le_of_ble_eq_true rfl) ?_
  intro p e R s m args below meth c A ls Q hx hb hr hlk hml hta hown hin hK hN hA hRf hRl hRc hRs hP hD hS hl hQ
  have hl : lv_has ls 3 [(0, .ref h_t)] := hl
  obtain ⟨RES, E0⟩ : ∃ R, m_Li_someFirstTwice t_count n_t_parts f_t_parts = R := ⟨_, rfl⟩
  have E := E0
  refine lv_iconst (v := 0) hx hb d_Li_someFirstTwice_0 (by decide) ?_
  refine lv_istore_n (lv' := [(1, .int 0), (0, .ref h_t)]) hx hb d_Li_someFirstTwice_1 rfl hl (by decide) rfl (fun ls hl => ?_)
  have L_2 : ∀ (n : Nat) (v2_1 : Int32), (t_count.toInt - v2_1.toInt).toNat < n → lp_Li_someFirstTwice_2 t_count n_t_parts f_t_parts n v2_1 = RES → ∀ (H : Heap) (locs : List Loc), va_P D classes [(h_t, .inr (1, [.ref h_t_parts, .int t_count])), (h_t_parts, .inl (cI, n_t_parts, .inl f_t_parts))] H → va_D A [(h_t, .inr (1, [.ref h_t_parts, .int t_count])), (h_t_parts, .inl (cI, n_t_parts, .inl f_t_parts))] → va_S A s.heap H locs → ∀ ls : Array Slot, lv_has ls 3 [(1, .int v2_1), (0, .ref h_t)] → W p l e R s m args below meth c H locs 0 0 Q (F0 m 2 ls []) := by
    intro n
    induction n with
    | zero => intro v2_1 hlt; exact absurd hlt (Nat.not_lt_zero _)
    | succ n ih =>
      intro v2_1 hlt_2 E H locs hP hD hS ls hl
      have E : lb_Li_someFirstTwice_2 t_count n_t_parts f_t_parts (lp_Li_someFirstTwice_2 t_count n_t_parts f_t_parts n) v2_1 = RES := E
      generalize lp_Li_someFirstTwice_2 t_count n_t_parts f_t_parts n = kk_2 at ih E
      have ih_2 := ih
      clear ih
      refine lv_iload_n hx hb d_Li_someFirstTwice_2 rfl (lv_at hl 0 rfl) ?_
      refine lv_aload_n hx hb d_Li_someFirstTwice_3 rfl (lv_at hl 1 rfl) ?_
      refine va_get (D := D) (v := .int t_count) hx hb hta i_Li hown hK hP 0 rfl rfl 1 (by decide) (hta _ lk_Li_15) (fun _ h9 => h9) rfl d_Li_someFirstTwice_4 ?_
      refine lv_icmp_ge (tgt := 46) hx hb d_Li_someFirstTwice_7 (by decide) (fun c_7 => ?_) (fun c_7 => ?_)
      · have E := (if_pos c_7).symm.trans E
        refine lv_iconst (v := 0) hx hb d_Li_someFirstTwice_46 (by decide) ?_
        exact kr_z hx hb hr hlk hQ hK hP hD hS ⟨(0 : Int32), E.trans E0.symm, rfl, rfl⟩ (by omega) (by omega) rfl d_Li_someFirstTwice_47
      · have E := (if_neg c_7).symm.trans E
        refine lv_iconst (v := 0) hx hb d_Li_someFirstTwice_10 (by decide) ?_
        refine lv_istore_n (lv' := [(2, .int 0), (1, .int v2_1), (0, .ref h_t)]) hx hb d_Li_someFirstTwice_11 rfl hl (by decide) rfl (fun ls hl => ?_)
        have L_12 : ∀ (n : Nat) (v12_2 : Int32), (v2_1.toInt - v12_2.toInt).toNat < n → lp_Li_someFirstTwice_12 n_t_parts f_t_parts kk_2 v2_1 n v12_2 = RES → ∀ (H : Heap) (locs : List Loc), va_P D classes [(h_t, .inr (1, [.ref h_t_parts, .int t_count])), (h_t_parts, .inl (cI, n_t_parts, .inl f_t_parts))] H → va_D A [(h_t, .inr (1, [.ref h_t_parts, .int t_count])), (h_t_parts, .inl (cI, n_t_parts, .inl f_t_parts))] → va_S A s.heap H locs → ∀ ls : Array Slot, lv_has ls 3 [(2, .int v12_2), (1, .int v2_1), (0, .ref h_t)] → W p l e R s m args below meth c H locs 0 0 Q (F0 m 12 ls []) := by
          intro n
          induction n with
          | zero => intro v12_2 hlt; exact absurd hlt (Nat.not_lt_zero _)
          | succ n ih =>
            intro v12_2 hlt_12 E H locs hP hD hS ls hl
            have E : lb_Li_someFirstTwice_12 n_t_parts f_t_parts kk_2 v2_1 (lp_Li_someFirstTwice_12 n_t_parts f_t_parts kk_2 v2_1 n) v12_2 = RES := E
            generalize lp_Li_someFirstTwice_12 n_t_parts f_t_parts kk_2 v2_1 n = kk_12 at ih E
            have ih_12 := ih
            clear ih
            refine lv_iload_n hx hb d_Li_someFirstTwice_12 rfl (lv_at hl 0 rfl) ?_
            refine lv_iload_n hx hb d_Li_someFirstTwice_13 rfl (lv_at hl 1 rfl) ?_
            refine lv_icmp_ge (tgt := 40) hx hb d_Li_someFirstTwice_14 (by decide) (fun c_14 => ?_) (fun c_14 => ?_)
            · have E := (if_pos c_14).symm.trans E
              refine lv_iinc (v := v2_1 + 1) (lv' := [(1, .int (v2_1 + 1)), (2, .int v12_2), (0, .ref h_t)]) hx hb d_Li_someFirstTwice_40 hl (k := 1) rfl rfl (by decide) rfl (fun ls hl => ?_)
              refine lv_goto (tgt := 2) hx hb d_Li_someFirstTwice_43 (by decide) ?_
              exact ih_2 (v2_1 + 1) (Nat.lt_of_lt_of_le (tm_up c_7) (Nat.le_of_lt_succ hlt_2)) E _ _ hP hD hS ls (lv_sub hl [0, 2] rfl)
            · have E := (if_neg c_14).symm.trans E
              refine lv_aload_n hx hb d_Li_someFirstTwice_17 rfl (lv_at hl 2 rfl) ?_
              refine lv_iload_n hx hb d_Li_someFirstTwice_18 rfl (lv_at hl 1 rfl) ?_
              refine lv_iconst (v := 0) hx hb d_Li_someFirstTwice_19 (by decide) ?_
              refine kc_V (As := [.int v2_1, .int 0]) (rest := []) (wr := []) [0, 1] [] ⟨hx, hb, hml, hown, hta⟩ hK hN hP hD hS hA (c_Li_part l D cB cI cJ h_t h_t_parts t_count n_t_parts f_t_parts v2_1 0 hn_t_parts _) (hta _ lk_Li_27) (hta _ ini_Li) (hta _ code_Li_part) code_Li_part (hta _ inst_Li_part) (hta _ sel_Li_part) hd_Li_part rfl ⟨by omega, by omega⟩ (ci := 1) 0 rfl rfl rfl rfl (by decide) (by decide) (by decide) rfl hl.1 (lv_room (Nat.le_of_ble_eq_true rfl)) d_Li_someFirstTwice_20 ⟨by omega, by omega⟩ (fun v w1 H locs hw hP hD hS => ?_)
              obtain ⟨x20, hx20, rfl, rfl⟩ := hw
              have hP : va_P D classes [(h_t, .inr (1, [.ref h_t_parts, .int t_count])), (h_t_parts, .inl (cI, n_t_parts, .inl f_t_parts))] H := hP.sub [0, 1] rfl
              have hD : va_D A [(h_t, .inr (1, [.ref h_t_parts, .int t_count])), (h_t_parts, .inl (cI, n_t_parts, .inl f_t_parts))] := hD.sub [0, 1] (by decide) rfl
              refine W.eq (g2 := F0 m 23 ls [.int x20]) rfl ?_
              have E : k_Li_someFirstTwice_20 n_t_parts f_t_parts kk_12 v12_2 x20 = RES := (congrArg (k_Li_someFirstTwice_20 n_t_parts f_t_parts kk_12 v12_2) hx20).trans E
              refine lv_aload_n hx hb d_Li_someFirstTwice_23 rfl (lv_at hl 2 rfl) ?_
              refine lv_iload_n hx hb d_Li_someFirstTwice_24 rfl (lv_at hl 0 rfl) ?_
              refine lv_iconst (v := 0) hx hb d_Li_someFirstTwice_25 (by decide) ?_
              refine kc_V (As := [.int v12_2, .int 0]) (rest := [.int x20]) (wr := []) [0, 1] [] ⟨hx, hb, hml, hown, hta⟩ hK hN hP hD hS hA (c_Li_part l D cB cI cJ h_t h_t_parts t_count n_t_parts f_t_parts v12_2 0 hn_t_parts _) (hta _ lk_Li_27) (hta _ ini_Li) (hta _ code_Li_part) code_Li_part (hta _ inst_Li_part) (hta _ sel_Li_part) hd_Li_part rfl ⟨by omega, by omega⟩ (ci := 1) 0 rfl rfl rfl rfl (by decide) (by decide) (by decide) rfl hl.1 (lv_room (Nat.le_of_ble_eq_true rfl)) d_Li_someFirstTwice_26 ⟨by omega, by omega⟩ (fun v w1 H locs hw hP hD hS => ?_)
              obtain ⟨x26, hx26, rfl, rfl⟩ := hw
              have hP : va_P D classes [(h_t, .inr (1, [.ref h_t_parts, .int t_count])), (h_t_parts, .inl (cI, n_t_parts, .inl f_t_parts))] H := hP.sub [0, 1] rfl
              have hD : va_D A [(h_t, .inr (1, [.ref h_t_parts, .int t_count])), (h_t_parts, .inl (cI, n_t_parts, .inl f_t_parts))] := hD.sub [0, 1] (by decide) rfl
              refine W.eq (g2 := F0 m 29 ls [.int x26, .int x20]) rfl ?_
              have E : k_Li_someFirstTwice_26 kk_12 v12_2 x20 x26 = RES := (congrArg (k_Li_someFirstTwice_26 kk_12 v12_2 x20) hx26).trans E
              refine lv_icmp_ne (tgt := 34) hx hb d_Li_someFirstTwice_29 (by decide) (fun c_29 => ?_) (fun c_29 => ?_)
              · have E := (if_neg c_29).symm.trans E
                refine lv_iinc (v := v12_2 + 1) (lv' := [(2, .int (v12_2 + 1)), (1, .int v2_1), (0, .ref h_t)]) hx hb d_Li_someFirstTwice_34 hl (k := 0) rfl rfl (by decide) rfl (fun ls hl => ?_)
                refine lv_goto (tgt := 12) hx hb d_Li_someFirstTwice_37 (by decide) ?_
                exact ih_12 (v12_2 + 1) (Nat.lt_of_lt_of_le (tm_up c_14) (Nat.le_of_lt_succ hlt_12)) E _ _ hP hD hS ls (lv_sub hl [0, 1, 2] rfl)
              · have E := (if_pos c_29).symm.trans E
                refine lv_iconst (v := 1) hx hb d_Li_someFirstTwice_32 (by decide) ?_
                exact kr_z hx hb hr hlk hQ hK hP hD hS ⟨(1 : Int32), E.trans E0.symm, rfl, rfl⟩ (by omega) (by omega) rfl d_Li_someFirstTwice_33
        exact L_12 _ 0 (Nat.lt_succ_self _) E _ _ hP hD hS ls (lv_sub hl [0, 1, 2] rfl)
  exact L_2 _ 0 (Nat.lt_succ_self _) E _ _ hP hD hS ls (lv_sub hl [0, 1] rfl)
