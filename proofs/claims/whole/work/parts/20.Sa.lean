theorem d_Sc_init_0 : decode b_Sc_init 0 = .ok (.aload_n 0, 1) := by decide +kernel
theorem d_Sc_init_1 : decode b_Sc_init 1 = .ok (.invokespecial 3, 3) := by decide +kernel
theorem d_Sc_init_4 : decode b_Sc_init 4 = .ok (.aload_n 0, 1) := by decide +kernel
theorem d_Sc_init_5 : decode b_Sc_init 5 = .ok (.aload_n 1, 1) := by decide +kernel
theorem d_Sc_init_6 : decode b_Sc_init 6 = .ok (.putfield 9, 3) := by decide +kernel
theorem d_Sc_init_9 : decode b_Sc_init 9 = .ok (.aload_n 0, 1) := by decide +kernel
theorem d_Sc_init_10 : decode b_Sc_init 10 = .ok (.new 15, 3) := by decide +kernel
theorem d_Sc_init_13 : decode b_Sc_init 13 = .ok (.dup, 1) := by decide +kernel
theorem d_Sc_init_14 : decode b_Sc_init 14 = .ok (.invokespecial 17, 3) := by decide +kernel
theorem d_Sc_init_17 : decode b_Sc_init 17 = .ok (.putfield 18, 3) := by decide +kernel
theorem d_Sc_init_20 : decode b_Sc_init 20 = .ok (.return_, 1) := by decide +kernel

set_option maxHeartbeats 4000000 in
set_option maxRecDepth 100000 in
theorem c_Sc_init (l : Launch) (D : va_G) (cB cI cJ : ClassId) (h_t h_a1 : Nat) (sz : Nat) : Ct l D cB cI cJ y_Sc_init b_Sc_init 2 none 3 61 13 229 [.ref h_t, .ref h_a1] [(h_t, .inr (5, [.null, .null, .int 0, .int 0, .int 0, .int 0, .int 0, .int 0, .int 0, .int 0, .int 0, .int 0, .int 0, .int 0, .int 0, .int 0]))] (fun v w1 => ∃ (q_10 : Nat) (q_14_7 : Nat) (q_14_13 : Nat) (q_14_27 : Nat) (q_14_38 : Nat) (q_14_49 : Nat) (q_14_62 : Nat) (q_14_70 : Nat) (q_14_20_12 : Nat) (q_14_31_17 : Nat) (q_14_31_25 : Nat) (q_14_42_7 : Nat) (q_14_53_7 : Nat), v = none ∧ w1 = [(h_t, .inr (5, [.ref h_a1, .ref q_10, .int 0, .int 0, .int 0, .int 0, .int 0, .int 0, .int 0, .int 0, .int 0, .int 0, .int 0, .int 0, .int 0, .int 0])), (q_10, .inr (3, [.int 0, .int 0, .int 0, .int 0, .int 0, .ref q_14_7, .int 0, .int 0, .ref q_14_13, .ref q_14_27, .ref q_14_38, .ref q_14_49, .ref q_14_62, .ref q_14_70])), (q_14_7, .inl (cI, 16, .inl (fun _ => 0))), (q_14_13, .inr (0, [.int 1024, .ref q_14_20_12, .int 0])), (q_14_27, .inr (2, [.int 0, .int 0, .ref q_14_31_17, .ref q_14_31_25])), (q_14_38, .inr (1, [.ref q_14_42_7, .int 0])), (q_14_49, .inr (1, [.ref q_14_53_7, .int 0])), (q_14_62, .inl (cI, 6, .inl (fun _ => 0))), (q_14_70, .inl (cI, 6, .inl (fun _ => 0))), (q_14_20_12, .inl (cB, 64, .inl (fun _ => 0))), (q_14_31_17, .inl (cI, 8, .inl (fun _ => 0))), (q_14_31_25, .inl (cJ, 8, .inr (.inl (fun _ => 0)))), (q_14_42_7, .inl (cI, 48, .inl (fun _ => 0))), (q_14_53_7, .inl (cI, 48, .inl (fun _ => 0)))]) sz := by
  refine Ct.of (by decide) (Nat.le_of_ble_eq_true rfl) ?_
  intro p e R s m args below meth c A ls Q hx hb hr hlk hml hta hown hin hK hN hA hRf hRl hRc hRs hP hD hS hl hQ
  have hl : lv_has ls 2 [(0, .ref h_t), (1, .ref h_a1)] := hl
  refine lv_aload_n hx hb d_Sc_init_0 rfl (lv_at hl 0 rfl) ?_
  refine W.objInit hx hb hown (hta _ lk_Sc_3) (hta _ inst_Object_init) (hta _ code_Object_init) rfl (by rw [hml]; exact hl.1) rfl d_Sc_init_1 (by omega) (by first | omega | (simp only [List.map, List.sum_cons, List.sum_nil, F0, JFrame.monitorRoom]; omega)) ?_
  refine lv_aload_n hx hb d_Sc_init_4 rfl (lv_at hl 0 rfl) ?_
  refine lv_aload_n hx hb d_Sc_init_5 rfl (lv_at hl 1 rfl) ?_
  refine va_putF (D := D) (ty := .object "FileBoxes$Bytes") hx hb hta i_Sc t_Sc t_Sc_ok n_Sc hown hK hP hD hS 0 rfl rfl 0 (by decide) (hta _ lk_Sc_9) (fun _ h9 => h9) rfl hin rfl (by decide +kernel) rfl rfl (Nat.le_of_ble_eq_true rfl) d_Sc_init_6 (fun H locs (hP : va_P D classes [(h_t, .inr (5, [.ref h_a1, .null, .int 0, .int 0, .int 0, .int 0, .int 0, .int 0, .int 0, .int 0, .int 0, .int 0, .int 0, .int 0, .int 0, .int 0]))] H) (hD : va_D A [(h_t, .inr (5, [.ref h_a1, .null, .int 0, .int 0, .int 0, .int 0, .int 0, .int 0, .int 0, .int 0, .int 0, .int 0, .int 0, .int 0, .int 0, .int 0]))]) hS => ?_)
  refine lv_aload_n hx hb d_Sc_init_9 rfl (lv_at hl 0 rfl) ?_
  refine va_new (D := D) (ci := 3) (fs := [.int 0, .int 0, .int 0, .int 0, .int 0, .null, .int 0, .int 0, .null, .null, .null, .null, .null, .null]) hx hb hta i_Pl t_Pl t_Pl_ok hown (hta _ lk_Sc_15) (hta _ ins_Pl) (hta _ ini_Pl) hK hP hD hS hA rfl (fs_Pl) (by omega) (by omega) d_Sc_init_10 (fun q_10 H (hP : va_P D classes [(h_t, .inr (5, [.ref h_a1, .null, .int 0, .int 0, .int 0, .int 0, .int 0, .int 0, .int 0, .int 0, .int 0, .int 0, .int 0, .int 0, .int 0, .int 0])), (q_10, .inr (3, [.int 0, .int 0, .int 0, .int 0, .int 0, .null, .int 0, .int 0, .null, .null, .null, .null, .null, .null]))] H) (hD : va_D A [(h_t, .inr (5, [.ref h_a1, .null, .int 0, .int 0, .int 0, .int 0, .int 0, .int 0, .int 0, .int 0, .int 0, .int 0, .int 0, .int 0, .int 0, .int 0])), (q_10, .inr (3, [.int 0, .int 0, .int 0, .int 0, .int 0, .null, .int 0, .int 0, .null, .null, .null, .null, .null, .null]))]) hS => ?_)
  refine lv_dup hx hb d_Sc_init_13 rfl ?_
  refine kc_I (As := []) (rest := [.ref q_10, .ref h_t]) (wr := [(h_t, .inr (5, [.ref h_a1, .null, .int 0, .int 0, .int 0, .int 0, .int 0, .int 0, .int 0, .int 0, .int 0, .int 0, .int 0, .int 0, .int 0, .int 0]))]) [1] [0] ⟨hx, hb, hml, hown, hta⟩ hK hN hP hD hS hA (c_Pl_init l D cB cI cJ q_10 _) (hta _ lk_Sc_17) (hta _ ini_Pl) (hta _ code_Pl_init) code_Pl_init (hta _ inst_Pl_init) hd_Pl_init rfl ⟨by omega, by omega⟩ rfl rfl rfl (by decide) (by decide) (by decide) rfl hl.1 (lv_room (Nat.le_of_ble_eq_true rfl)) d_Sc_init_14 ⟨by omega, by omega⟩ (fun v w1 H locs hw hP hD hS => ?_)
  obtain ⟨q_14_7, q_14_13, q_14_27, q_14_38, q_14_49, q_14_62, q_14_70, q_14_20_12, q_14_31_17, q_14_31_25, q_14_42_7, q_14_53_7, rfl, rfl⟩ := hw
  have hP : va_P D classes [(h_t, .inr (5, [.ref h_a1, .null, .int 0, .int 0, .int 0, .int 0, .int 0, .int 0, .int 0, .int 0, .int 0, .int 0, .int 0, .int 0, .int 0, .int 0])), (q_10, .inr (3, [.int 0, .int 0, .int 0, .int 0, .int 0, .ref q_14_7, .int 0, .int 0, .ref q_14_13, .ref q_14_27, .ref q_14_38, .ref q_14_49, .ref q_14_62, .ref q_14_70])), (q_14_7, .inl (cI, 16, .inl (fun _ => 0))), (q_14_13, .inr (0, [.int 1024, .ref q_14_20_12, .int 0])), (q_14_27, .inr (2, [.int 0, .int 0, .ref q_14_31_17, .ref q_14_31_25])), (q_14_38, .inr (1, [.ref q_14_42_7, .int 0])), (q_14_49, .inr (1, [.ref q_14_53_7, .int 0])), (q_14_62, .inl (cI, 6, .inl (fun _ => 0))), (q_14_70, .inl (cI, 6, .inl (fun _ => 0))), (q_14_20_12, .inl (cB, 64, .inl (fun _ => 0))), (q_14_31_17, .inl (cI, 8, .inl (fun _ => 0))), (q_14_31_25, .inl (cJ, 8, .inr (.inl (fun _ => 0)))), (q_14_42_7, .inl (cI, 48, .inl (fun _ => 0))), (q_14_53_7, .inl (cI, 48, .inl (fun _ => 0)))] H := hP.sub [0, 1, 2, 3, 4, 5, 6, 7, 8, 9, 10, 11, 12, 13] rfl
  have hD : va_D A [(h_t, .inr (5, [.ref h_a1, .null, .int 0, .int 0, .int 0, .int 0, .int 0, .int 0, .int 0, .int 0, .int 0, .int 0, .int 0, .int 0, .int 0, .int 0])), (q_10, .inr (3, [.int 0, .int 0, .int 0, .int 0, .int 0, .ref q_14_7, .int 0, .int 0, .ref q_14_13, .ref q_14_27, .ref q_14_38, .ref q_14_49, .ref q_14_62, .ref q_14_70])), (q_14_7, .inl (cI, 16, .inl (fun _ => 0))), (q_14_13, .inr (0, [.int 1024, .ref q_14_20_12, .int 0])), (q_14_27, .inr (2, [.int 0, .int 0, .ref q_14_31_17, .ref q_14_31_25])), (q_14_38, .inr (1, [.ref q_14_42_7, .int 0])), (q_14_49, .inr (1, [.ref q_14_53_7, .int 0])), (q_14_62, .inl (cI, 6, .inl (fun _ => 0))), (q_14_70, .inl (cI, 6, .inl (fun _ => 0))), (q_14_20_12, .inl (cB, 64, .inl (fun _ => 0))), (q_14_31_17, .inl (cI, 8, .inl (fun _ => 0))), (q_14_31_25, .inl (cJ, 8, .inr (.inl (fun _ => 0)))), (q_14_42_7, .inl (cI, 48, .inl (fun _ => 0))), (q_14_53_7, .inl (cI, 48, .inl (fun _ => 0)))] := hD.sub [0, 1, 2, 3, 4, 5, 6, 7, 8, 9, 10, 11, 12, 13] (by decide) rfl
  refine W.eq (g2 := F0 m 17 ls [.ref q_10, .ref h_t]) rfl ?_
  refine va_put (D := D) (ty := .object "FileBoxes$Plan") hx hb hta i_Sc t_Sc t_Sc_ok n_Sc hown hK hP hD hS 0 rfl rfl 1 (by decide) (hta _ lk_Sc_18) (fun _ h9 => h9) rfl (by decide +kernel) rfl rfl (Nat.le_of_ble_eq_true rfl) d_Sc_init_17 (fun H locs (hP : va_P D classes [(h_t, .inr (5, [.ref h_a1, .ref q_10, .int 0, .int 0, .int 0, .int 0, .int 0, .int 0, .int 0, .int 0, .int 0, .int 0, .int 0, .int 0, .int 0, .int 0])), (q_10, .inr (3, [.int 0, .int 0, .int 0, .int 0, .int 0, .ref q_14_7, .int 0, .int 0, .ref q_14_13, .ref q_14_27, .ref q_14_38, .ref q_14_49, .ref q_14_62, .ref q_14_70])), (q_14_7, .inl (cI, 16, .inl (fun _ => 0))), (q_14_13, .inr (0, [.int 1024, .ref q_14_20_12, .int 0])), (q_14_27, .inr (2, [.int 0, .int 0, .ref q_14_31_17, .ref q_14_31_25])), (q_14_38, .inr (1, [.ref q_14_42_7, .int 0])), (q_14_49, .inr (1, [.ref q_14_53_7, .int 0])), (q_14_62, .inl (cI, 6, .inl (fun _ => 0))), (q_14_70, .inl (cI, 6, .inl (fun _ => 0))), (q_14_20_12, .inl (cB, 64, .inl (fun _ => 0))), (q_14_31_17, .inl (cI, 8, .inl (fun _ => 0))), (q_14_31_25, .inl (cJ, 8, .inr (.inl (fun _ => 0)))), (q_14_42_7, .inl (cI, 48, .inl (fun _ => 0))), (q_14_53_7, .inl (cI, 48, .inl (fun _ => 0)))] H) (hD : va_D A [(h_t, .inr (5, [.ref h_a1, .ref q_10, .int 0, .int 0, .int 0, .int 0, .int 0, .int 0, .int 0, .int 0, .int 0, .int 0, .int 0, .int 0, .int 0, .int 0])), (q_10, .inr (3, [.int 0, .int 0, .int 0, .int 0, .int 0, .ref q_14_7, .int 0, .int 0, .ref q_14_13, .ref q_14_27, .ref q_14_38, .ref q_14_49, .ref q_14_62, .ref q_14_70])), (q_14_7, .inl (cI, 16, .inl (fun _ => 0))), (q_14_13, .inr (0, [.int 1024, .ref q_14_20_12, .int 0])), (q_14_27, .inr (2, [.int 0, .int 0, .ref q_14_31_17, .ref q_14_31_25])), (q_14_38, .inr (1, [.ref q_14_42_7, .int 0])), (q_14_49, .inr (1, [.ref q_14_53_7, .int 0])), (q_14_62, .inl (cI, 6, .inl (fun _ => 0))), (q_14_70, .inl (cI, 6, .inl (fun _ => 0))), (q_14_20_12, .inl (cB, 64, .inl (fun _ => 0))), (q_14_31_17, .inl (cI, 8, .inl (fun _ => 0))), (q_14_31_25, .inl (cJ, 8, .inr (.inl (fun _ => 0)))), (q_14_42_7, .inl (cI, 48, .inl (fun _ => 0))), (q_14_53_7, .inl (cI, 48, .inl (fun _ => 0)))]) hS => ?_)
  exact kr_v hx hb hr hlk hQ hK hP hD hS ⟨q_10, q_14_7, q_14_13, q_14_27, q_14_38, q_14_49, q_14_62, q_14_70, q_14_20_12, q_14_31_17, q_14_31_25, q_14_42_7, q_14_53_7, rfl, rfl⟩ (by omega) (by omega) d_Sc_init_20
theorem d_Sc_exchange_0 : decode b_Sc_exchange 0 = .ok (.aload_n 0, 1) := by decide +kernel
theorem d_Sc_exchange_1 : decode b_Sc_exchange 1 = .ok (.getfield 18, 3) := by decide +kernel
theorem d_Sc_exchange_4 : decode b_Sc_exchange 4 = .ok (.astore_n 2, 1) := by decide +kernel
theorem d_Sc_exchange_5 : decode b_Sc_exchange 5 = .ok (.aload_n 0, 1) := by decide +kernel
theorem d_Sc_exchange_6 : decode b_Sc_exchange 6 = .ok (.aload_n 1, 1) := by decide +kernel
theorem d_Sc_exchange_7 : decode b_Sc_exchange 7 = .ok (.putfield 18, 3) := by decide +kernel
theorem d_Sc_exchange_10 : decode b_Sc_exchange 10 = .ok (.aload_n 2, 1) := by decide +kernel
theorem d_Sc_exchange_11 : decode b_Sc_exchange 11 = .ok (.areturn, 1) := by decide +kernel

set_option maxHeartbeats 4000000 in
set_option maxRecDepth 100000 in
theorem c_Sc_exchange (l : Launch) (D : va_G) (cB cI cJ : ClassId) (h_t h_a1 h_t_file h_t_plan : Nat) (t_level : Int32) (t_at : Int32) (t_seen : Int32) (t_outerBoxes : Int32) (t_headAt : Int32) (t_headEnd : Int32) (t_resolutionEnd : Int32) (t_toldBits : Int32) (t_name : Int32) (t_from : Int32) (t_end : Int32) (t_boxAt : Int32) (t_streamFrom : Int32) (t_streamCount : Int32) (sz : Nat) : Ct l D cB cI cJ y_Sc_exchange b_Sc_exchange 3 (some (.object "FileBoxes$Plan")) 0 0 0 0 [.ref h_t, .ref h_a1] [(h_t, .inr (5, [.ref h_t_file, .ref h_t_plan, .int t_level, .int t_at, .int t_seen, .int t_outerBoxes, .int t_headAt, .int t_headEnd, .int t_resolutionEnd, .int t_toldBits, .int t_name, .int t_from, .int t_end, .int t_boxAt, .int t_streamFrom, .int t_streamCount]))] (fun v w1 => v = some (.ref h_t_plan) ∧ w1 = [(h_t, .inr (5, [.ref h_t_file, .ref h_a1, .int t_level, .int t_at, .int t_seen, .int t_outerBoxes, .int t_headAt, .int t_headEnd, .int t_resolutionEnd, .int t_toldBits, .int t_name, .int t_from, .int t_end, .int t_boxAt, .int t_streamFrom, .int t_streamCount]))]) sz := by
  refine Ct.of (by decide) (Nat.le_of_ble_eq_true rfl) ?_
  intro p e R s m args below meth c A ls Q hx hb hr hlk hml hta hown hin hK hN hA hRf hRl hRc hRs hP hD hS hl hQ
  have hl : lv_has ls 3 [(0, .ref h_t), (1, .ref h_a1)] := hl
  refine lv_aload_n hx hb d_Sc_exchange_0 rfl (lv_at hl 0 rfl) ?_
  refine va_get (D := D) (v := .ref h_t_plan) hx hb hta i_Sc hown hK hP 0 rfl rfl 1 (by decide) (hta _ lk_Sc_18) (fun _ h9 => h9) rfl d_Sc_exchange_1 ?_
  refine lv_astore_n (lv' := [(2, .ref h_t_plan), (0, .ref h_t), (1, .ref h_a1)]) hx hb d_Sc_exchange_4 rfl hl (by decide) rfl (fun ls hl => ?_)
  refine lv_aload_n hx hb d_Sc_exchange_5 rfl (lv_at hl 1 rfl) ?_
  refine lv_aload_n hx hb d_Sc_exchange_6 rfl (lv_at hl 2 rfl) ?_
  refine va_put (D := D) (ty := .object "FileBoxes$Plan") hx hb hta i_Sc t_Sc t_Sc_ok n_Sc hown hK hP hD hS 0 rfl rfl 1 (by decide) (hta _ lk_Sc_18) (fun _ h9 => h9) rfl (by decide +kernel) rfl rfl (Nat.le_of_ble_eq_true rfl) d_Sc_exchange_7 (fun H locs (hP : va_P D classes [(h_t, .inr (5, [.ref h_t_file, .ref h_a1, .int t_level, .int t_at, .int t_seen, .int t_outerBoxes, .int t_headAt, .int t_headEnd, .int t_resolutionEnd, .int t_toldBits, .int t_name, .int t_from, .int t_end, .int t_boxAt, .int t_streamFrom, .int t_streamCount]))] H) (hD : va_D A [(h_t, .inr (5, [.ref h_t_file, .ref h_a1, .int t_level, .int t_at, .int t_seen, .int t_outerBoxes, .int t_headAt, .int t_headEnd, .int t_resolutionEnd, .int t_toldBits, .int t_name, .int t_from, .int t_end, .int t_boxAt, .int t_streamFrom, .int t_streamCount]))]) hS => ?_)
  refine lv_aload_n hx hb d_Sc_exchange_10 rfl (lv_at hl 0 rfl) ?_
  exact kr_a hx hb hr hlk hQ hK hP hD hS ⟨rfl, rfl⟩ (by omega) (by omega) (Or.inl ⟨_, rfl⟩) d_Sc_exchange_11
theorem d_Sc_limit_0 : decode b_Sc_limit 0 = .ok (.aload_n 0, 1) := by decide +kernel
theorem d_Sc_limit_1 : decode b_Sc_limit 1 = .ok (.getfield 25, 3) := by decide +kernel
theorem d_Sc_limit_4 : decode b_Sc_limit 4 = .ok (.ifCond .ne 13, 3) := by decide +kernel
theorem d_Sc_limit_7 : decode b_Sc_limit 7 = .ok (.aload_n 0, 1) := by decide +kernel
theorem d_Sc_limit_8 : decode b_Sc_limit 8 = .ok (.getfield 9, 3) := by decide +kernel
theorem d_Sc_limit_11 : decode b_Sc_limit 11 = .ok (.getfield 54, 3) := by decide +kernel
theorem d_Sc_limit_14 : decode b_Sc_limit 14 = .ok (.goto 22, 3) := by decide +kernel
theorem d_Sc_limit_17 : decode b_Sc_limit 17 = .ok (.aload_n 0, 1) := by decide +kernel
theorem d_Sc_limit_18 : decode b_Sc_limit 18 = .ok (.getfield 25, 3) := by decide +kernel
theorem d_Sc_limit_21 : decode b_Sc_limit 21 = .ok (.iconst 1, 1) := by decide +kernel
theorem d_Sc_limit_22 : decode b_Sc_limit 22 = .ok (.if_icmp .ne 10, 3) := by decide +kernel
theorem d_Sc_limit_25 : decode b_Sc_limit 25 = .ok (.aload_n 0, 1) := by decide +kernel
theorem d_Sc_limit_26 : decode b_Sc_limit 26 = .ok (.getfield 59, 3) := by decide +kernel
theorem d_Sc_limit_29 : decode b_Sc_limit 29 = .ok (.goto 7, 3) := by decide +kernel
theorem d_Sc_limit_32 : decode b_Sc_limit 32 = .ok (.aload_n 0, 1) := by decide +kernel
theorem d_Sc_limit_33 : decode b_Sc_limit 33 = .ok (.getfield 62, 3) := by decide +kernel
theorem d_Sc_limit_36 : decode b_Sc_limit 36 = .ok (.ireturn, 1) := by decide +kernel
def m_Sc_limit (t_level : Int32) (t_headEnd : Int32) (t_resolutionEnd : Int32) (t_file_count : Int32) : Int32 :=
  if t_level = 0 then t_file_count else (if t_level = 1 then t_headEnd else t_resolutionEnd)
set_option maxHeartbeats 4000000 in
set_option maxRecDepth 100000 in
theorem c_Sc_limit (l : Launch) (D : va_G) (cB cI cJ : ClassId) (h_t h_t_file h_t_plan h_t_file_row : Nat) (t_level : Int32) (t_at : Int32) (t_seen : Int32) (t_outerBoxes : Int32) (t_headAt : Int32) (t_headEnd : Int32) (t_resolutionEnd : Int32) (t_toldBits : Int32) (t_name : Int32) (t_from : Int32) (t_end : Int32) (t_boxAt : Int32) (t_streamFrom : Int32) (t_streamCount : Int32) (t_file_most : Int32) (t_file_count : Int32) (sz : Nat) : Ct l D cB cI cJ y_Sc_limit b_Sc_limit 1 (some .int) 0 0 0 0 [.ref h_t] [(h_t, .inr (5, [.ref h_t_file, .ref h_t_plan, .int t_level, .int t_at, .int t_seen, .int t_outerBoxes, .int t_headAt, .int t_headEnd, .int t_resolutionEnd, .int t_toldBits, .int t_name, .int t_from, .int t_end, .int t_boxAt, .int t_streamFrom, .int t_streamCount])), (h_t_file, .inr (0, [.int t_file_most, .ref h_t_file_row, .int t_file_count]))] (fun v w1 => ∃ (x : Int32), x = m_Sc_limit t_level t_headEnd t_resolutionEnd t_file_count ∧ v = some (.int x) ∧ w1 = [(h_t, .inr (5, [.ref h_t_file, .ref h_t_plan, .int t_level, .int t_at, .int t_seen, .int t_outerBoxes, .int t_headAt, .int t_headEnd, .int t_resolutionEnd, .int t_toldBits, .int t_name, .int t_from, .int t_end, .int t_boxAt, .int t_streamFrom, .int t_streamCount])), (h_t_file, .inr (0, [.int t_file_most, .ref h_t_file_row, .int t_file_count]))]) sz := by
  refine Ct.of (by decide) (Nat.le_of_ble_eq_true rfl) ?_
  intro p e R s m args below meth c A ls Q hx hb hr hlk hml hta hown hin hK hN hA hRf hRl hRc hRs hP hD hS hl hQ
  have hl : lv_has ls 1 [(0, .ref h_t)] := hl
  obtain ⟨RES, E0⟩ : ∃ R, m_Sc_limit t_level t_headEnd t_resolutionEnd t_file_count = R := ⟨_, rfl⟩
  have E := E0
  refine lv_aload_n hx hb d_Sc_limit_0 rfl (lv_at hl 0 rfl) ?_
  refine va_get (D := D) (v := .int t_level) hx hb hta i_Sc hown hK hP 0 rfl rfl 2 (by decide) (hta _ lk_Sc_25) (fun _ h9 => h9) rfl d_Sc_limit_1 ?_
  refine lv_if_ne (tgt := 17) hx hb d_Sc_limit_4 (by decide) (fun c_4 => ?_) (fun c_4 => ?_)
  · have E := (if_neg c_4).symm.trans E
    refine lv_aload_n hx hb d_Sc_limit_17 rfl (lv_at hl 0 rfl) ?_
    refine va_get (D := D) (v := .int t_level) hx hb hta i_Sc hown hK hP 0 rfl rfl 2 (by decide) (hta _ lk_Sc_25) (fun _ h9 => h9) rfl d_Sc_limit_18 ?_
    refine lv_iconst (v := 1) hx hb d_Sc_limit_21 (by decide) ?_
    refine lv_icmp_ne (tgt := 32) hx hb d_Sc_limit_22 (by decide) (fun c_22 => ?_) (fun c_22 => ?_)
    · have E := (if_neg c_22).symm.trans E
      refine lv_aload_n hx hb d_Sc_limit_32 rfl (lv_at hl 0 rfl) ?_
      refine va_get (D := D) (v := .int t_resolutionEnd) hx hb hta i_Sc hown hK hP 0 rfl rfl 8 (by decide) (hta _ lk_Sc_62) (fun _ h9 => h9) rfl d_Sc_limit_33 ?_
      exact kr_i hx hb hr hlk hQ hK hP hD hS ⟨(t_resolutionEnd : Int32), E.trans E0.symm, rfl, rfl⟩ (by omega) (by omega) d_Sc_limit_36
    · have E := (if_pos c_22).symm.trans E
      refine lv_aload_n hx hb d_Sc_limit_25 rfl (lv_at hl 0 rfl) ?_
      refine va_get (D := D) (v := .int t_headEnd) hx hb hta i_Sc hown hK hP 0 rfl rfl 7 (by decide) (hta _ lk_Sc_59) (fun _ h9 => h9) rfl d_Sc_limit_26 ?_
      refine lv_goto (tgt := 36) hx hb d_Sc_limit_29 (by decide) ?_
      exact kr_i hx hb hr hlk hQ hK hP hD hS ⟨(t_headEnd : Int32), E.trans E0.symm, rfl, rfl⟩ (by omega) (by omega) d_Sc_limit_36
  · have E := (if_pos c_4).symm.trans E
    refine lv_aload_n hx hb d_Sc_limit_7 rfl (lv_at hl 0 rfl) ?_
    refine va_get (D := D) (v := .ref h_t_file) hx hb hta i_Sc hown hK hP 0 rfl rfl 0 (by decide) (hta _ lk_Sc_9) (fun _ h9 => h9) rfl d_Sc_limit_8 ?_
    refine va_get (D := D) (v := .int t_file_count) hx hb hta i_By hown hK hP 1 rfl rfl 2 (by decide) (hta _ lk_Sc_54) (fun _ h9 => h9) rfl d_Sc_limit_11 ?_
    refine lv_goto (tgt := 36) hx hb d_Sc_limit_14 (by decide) ?_
    exact kr_i hx hb hr hlk hQ hK hP hD hS ⟨(t_file_count : Int32), E.trans E0.symm, rfl, rfl⟩ (by omega) (by omega) d_Sc_limit_36
theorem d_Sc_was_0 : decode b_Sc_was 0 = .ok (.aload_n 0, 1) := by decide +kernel
theorem d_Sc_was_1 : decode b_Sc_was 1 = .ok (.getfield 32, 3) := by decide +kernel
theorem d_Sc_was_4 : decode b_Sc_was 4 = .ok (.iload_n 1, 1) := by decide +kernel
theorem d_Sc_was_5 : decode b_Sc_was 5 = .ok (.iand, 1) := by decide +kernel
theorem d_Sc_was_6 : decode b_Sc_was 6 = .ok (.ifCond .eq 7, 3) := by decide +kernel
theorem d_Sc_was_9 : decode b_Sc_was 9 = .ok (.iconst 1, 1) := by decide +kernel
theorem d_Sc_was_10 : decode b_Sc_was 10 = .ok (.goto 4, 3) := by decide +kernel
theorem d_Sc_was_13 : decode b_Sc_was 13 = .ok (.iconst 0, 1) := by decide +kernel
theorem d_Sc_was_14 : decode b_Sc_was 14 = .ok (.ireturn, 1) := by decide +kernel
def m_Sc_was (t_seen : Int32) (p1 : Int32) : Int32 :=
  if (t_seen &&& p1) = 0 then 0 else 1
set_option maxHeartbeats 4000000 in
set_option maxRecDepth 100000 in
theorem c_Sc_was (l : Launch) (D : va_G) (cB cI cJ : ClassId) (h_t h_t_file h_t_plan : Nat) (t_level : Int32) (t_at : Int32) (t_seen : Int32) (t_outerBoxes : Int32) (t_headAt : Int32) (t_headEnd : Int32) (t_resolutionEnd : Int32) (t_toldBits : Int32) (t_name : Int32) (t_from : Int32) (t_end : Int32) (t_boxAt : Int32) (t_streamFrom : Int32) (t_streamCount : Int32) (p1 : Int32) (sz : Nat) : Ct l D cB cI cJ y_Sc_was b_Sc_was 2 (some .boolean) 0 0 0 0 [.ref h_t, .int p1] [(h_t, .inr (5, [.ref h_t_file, .ref h_t_plan, .int t_level, .int t_at, .int t_seen, .int t_outerBoxes, .int t_headAt, .int t_headEnd, .int t_resolutionEnd, .int t_toldBits, .int t_name, .int t_from, .int t_end, .int t_boxAt, .int t_streamFrom, .int t_streamCount]))] (fun v w1 => ∃ (x : Int32), x = m_Sc_was t_seen p1 ∧ v = some (.int x) ∧ w1 = [(h_t, .inr (5, [.ref h_t_file, .ref h_t_plan, .int t_level, .int t_at, .int t_seen, .int t_outerBoxes, .int t_headAt, .int t_headEnd, .int t_resolutionEnd, .int t_toldBits, .int t_name, .int t_from, .int t_end, .int t_boxAt, .int t_streamFrom, .int t_streamCount]))]) sz := by
  refine Ct.of (by decide) (Nat.le_of_ble_eq_true rfl) ?_
  intro p e R s m args below meth c A ls Q hx hb hr hlk hml hta hown hin hK hN hA hRf hRl hRc hRs hP hD hS hl hQ
  have hl : lv_has ls 2 [(0, .ref h_t), (1, .int p1)] := hl
  obtain ⟨RES, E0⟩ : ∃ R, m_Sc_was t_seen p1 = R := ⟨_, rfl⟩
  have E := E0
  refine lv_aload_n hx hb d_Sc_was_0 rfl (lv_at hl 0 rfl) ?_
  refine va_get (D := D) (v := .int t_seen) hx hb hta i_Sc hown hK hP 0 rfl rfl 4 (by decide) (hta _ lk_Sc_32) (fun _ h9 => h9) rfl d_Sc_was_1 ?_
  refine lv_iload_n hx hb d_Sc_was_4 rfl (lv_at hl 1 rfl) ?_
  refine lv_iand hx hb d_Sc_was_5 ?_
  refine lv_if_eq (tgt := 13) hx hb d_Sc_was_6 (by decide) (fun c_6 => ?_) (fun c_6 => ?_)
  · have E := (if_pos c_6).symm.trans E
    refine lv_iconst (v := 0) hx hb d_Sc_was_13 (by decide) ?_
    exact kr_z hx hb hr hlk hQ hK hP hD hS ⟨(0 : Int32), E.trans E0.symm, rfl, rfl⟩ (by omega) (by omega) rfl d_Sc_was_14
  · have E := (if_neg c_6).symm.trans E
    refine lv_iconst (v := 1) hx hb d_Sc_was_9 (by decide) ?_
    refine lv_goto (tgt := 14) hx hb d_Sc_was_10 (by decide) ?_
    exact kr_z hx hb hr hlk hQ hK hP hD hS ⟨(1 : Int32), E.trans E0.symm, rfl, rfl⟩ (by omega) (by omega) rfl d_Sc_was_14
theorem d_Sc_content_0 : decode b_Sc_content 0 = .ok (.aload_n 0, 1) := by decide +kernel
theorem d_Sc_content_1 : decode b_Sc_content 1 = .ok (.getfield 71, 3) := by decide +kernel
theorem d_Sc_content_4 : decode b_Sc_content 4 = .ok (.aload_n 0, 1) := by decide +kernel
theorem d_Sc_content_5 : decode b_Sc_content 5 = .ok (.getfield 94, 3) := by decide +kernel
theorem d_Sc_content_8 : decode b_Sc_content 8 = .ok (.isub, 1) := by decide +kernel
theorem d_Sc_content_9 : decode b_Sc_content 9 = .ok (.ireturn, 1) := by decide +kernel
def m_Sc_content (t_from : Int32) (t_end : Int32) : Int32 :=
  t_end - t_from
set_option maxHeartbeats 4000000 in
set_option maxRecDepth 100000 in
theorem c_Sc_content (l : Launch) (D : va_G) (cB cI cJ : ClassId) (h_t h_t_file h_t_plan : Nat) (t_level : Int32) (t_at : Int32) (t_seen : Int32) (t_outerBoxes : Int32) (t_headAt : Int32) (t_headEnd : Int32) (t_resolutionEnd : Int32) (t_toldBits : Int32) (t_name : Int32) (t_from : Int32) (t_end : Int32) (t_boxAt : Int32) (t_streamFrom : Int32) (t_streamCount : Int32) (sz : Nat) : Ct l D cB cI cJ y_Sc_content b_Sc_content 1 (some .int) 0 0 0 0 [.ref h_t] [(h_t, .inr (5, [.ref h_t_file, .ref h_t_plan, .int t_level, .int t_at, .int t_seen, .int t_outerBoxes, .int t_headAt, .int t_headEnd, .int t_resolutionEnd, .int t_toldBits, .int t_name, .int t_from, .int t_end, .int t_boxAt, .int t_streamFrom, .int t_streamCount]))] (fun v w1 => ∃ (x : Int32), x = m_Sc_content t_from t_end ∧ v = some (.int x) ∧ w1 = [(h_t, .inr (5, [.ref h_t_file, .ref h_t_plan, .int t_level, .int t_at, .int t_seen, .int t_outerBoxes, .int t_headAt, .int t_headEnd, .int t_resolutionEnd, .int t_toldBits, .int t_name, .int t_from, .int t_end, .int t_boxAt, .int t_streamFrom, .int t_streamCount]))]) sz := by
  refine Ct.of (by decide) (Nat.le_of_ble_eq_true rfl) ?_
  intro p e R s m args below meth c A ls Q hx hb hr hlk hml hta hown hin hK hN hA hRf hRl hRc hRs hP hD hS hl hQ
  have hl : lv_has ls 1 [(0, .ref h_t)] := hl
  obtain ⟨RES, E0⟩ : ∃ R, m_Sc_content t_from t_end = R := ⟨_, rfl⟩
  have E := E0
  refine lv_aload_n hx hb d_Sc_content_0 rfl (lv_at hl 0 rfl) ?_
  refine va_get (D := D) (v := .int t_end) hx hb hta i_Sc hown hK hP 0 rfl rfl 12 (by decide) (hta _ lk_Sc_71) (fun _ h9 => h9) rfl d_Sc_content_1 ?_
  refine lv_aload_n hx hb d_Sc_content_4 rfl (lv_at hl 0 rfl) ?_
  refine va_get (D := D) (v := .int t_from) hx hb hta i_Sc hown hK hP 0 rfl rfl 11 (by decide) (hta _ lk_Sc_94) (fun _ h9 => h9) rfl d_Sc_content_5 ?_
  refine lv_isub hx hb d_Sc_content_8 ?_
  exact kr_i hx hb hr hlk hQ hK hP hD hS ⟨(t_end - t_from : Int32), E.trans E0.symm, rfl, rfl⟩ (by omega) (by omega) d_Sc_content_9
theorem d_Sc_open_0 : decode b_Sc_open 0 = .ok (.aload_n 0, 1) := by decide +kernel
theorem d_Sc_open_1 : decode b_Sc_open 1 = .ok (.invokevirtual 44, 3) := by decide +kernel
theorem d_Sc_open_4 : decode b_Sc_open 4 = .ok (.aload_n 0, 1) := by decide +kernel
theorem d_Sc_open_5 : decode b_Sc_open 5 = .ok (.getfield 29, 3) := by decide +kernel
theorem d_Sc_open_8 : decode b_Sc_open 8 = .ok (.isub, 1) := by decide +kernel
theorem d_Sc_open_9 : decode b_Sc_open 9 = .ok (.istore_n 1, 1) := by decide +kernel
theorem d_Sc_open_10 : decode b_Sc_open 10 = .ok (.iload_n 1, 1) := by decide +kernel
theorem d_Sc_open_11 : decode b_Sc_open 11 = .ok (.bipush 8, 2) := by decide +kernel
theorem d_Sc_open_13 : decode b_Sc_open 13 = .ok (.if_icmp .ge 5, 3) := by decide +kernel
theorem d_Sc_open_16 : decode b_Sc_open 16 = .ok (.iconst 1, 1) := by decide +kernel
theorem d_Sc_open_17 : decode b_Sc_open 17 = .ok (.ireturn, 1) := by decide +kernel
theorem d_Sc_open_18 : decode b_Sc_open 18 = .ok (.aload_n 0, 1) := by decide +kernel
theorem d_Sc_open_19 : decode b_Sc_open 19 = .ok (.getfield 9, 3) := by decide +kernel
theorem d_Sc_open_22 : decode b_Sc_open 22 = .ok (.aload_n 0, 1) := by decide +kernel
theorem d_Sc_open_23 : decode b_Sc_open 23 = .ok (.getfield 29, 3) := by decide +kernel
theorem d_Sc_open_26 : decode b_Sc_open 26 = .ok (.iconst 4, 1) := by decide +kernel
theorem d_Sc_open_27 : decode b_Sc_open 27 = .ok (.invokevirtual 83, 3) := by decide +kernel
theorem d_Sc_open_30 : decode b_Sc_open 30 = .ok (.lstore_n 2, 1) := by decide +kernel
theorem d_Sc_open_31 : decode b_Sc_open 31 = .ok (.aload_n 0, 1) := by decide +kernel
theorem d_Sc_open_32 : decode b_Sc_open 32 = .ok (.aload_n 0, 1) := by decide +kernel
theorem d_Sc_open_33 : decode b_Sc_open 33 = .ok (.getfield 9, 3) := by decide +kernel
theorem d_Sc_open_36 : decode b_Sc_open 36 = .ok (.aload_n 0, 1) := by decide +kernel
theorem d_Sc_open_37 : decode b_Sc_open 37 = .ok (.getfield 29, 3) := by decide +kernel
theorem d_Sc_open_40 : decode b_Sc_open 40 = .ok (.iconst 4, 1) := by decide +kernel
theorem d_Sc_open_41 : decode b_Sc_open 41 = .ok (.iadd, 1) := by decide +kernel
theorem d_Sc_open_42 : decode b_Sc_open 42 = .ok (.iconst 4, 1) := by decide +kernel
theorem d_Sc_open_43 : decode b_Sc_open 43 = .ok (.invokevirtual 87, 3) := by decide +kernel
theorem d_Sc_open_46 : decode b_Sc_open 46 = .ok (.putfield 91, 3) := by decide +kernel
theorem d_Sc_open_49 : decode b_Sc_open 49 = .ok (.bipush 8, 2) := by decide +kernel
theorem d_Sc_open_51 : decode b_Sc_open 51 = .ok (.istore 4, 2) := by decide +kernel
theorem d_Sc_open_53 : decode b_Sc_open 53 = .ok (.lload_n 2, 1) := by decide +kernel
theorem d_Sc_open_54 : decode b_Sc_open 54 = .ok (.lconst 1, 1) := by decide +kernel
theorem d_Sc_open_55 : decode b_Sc_open 55 = .ok (.lcmp, 1) := by decide +kernel
theorem d_Sc_open_56 : decode b_Sc_open 56 = .ok (.ifCond .ne 35, 3) := by decide +kernel
theorem d_Sc_open_59 : decode b_Sc_open 59 = .ok (.iload_n 1, 1) := by decide +kernel
theorem d_Sc_open_60 : decode b_Sc_open 60 = .ok (.bipush 16, 2) := by decide +kernel
theorem d_Sc_open_62 : decode b_Sc_open 62 = .ok (.if_icmp .ge 5, 3) := by decide +kernel
theorem d_Sc_open_65 : decode b_Sc_open 65 = .ok (.iconst 1, 1) := by decide +kernel
theorem d_Sc_open_66 : decode b_Sc_open 66 = .ok (.ireturn, 1) := by decide +kernel
theorem d_Sc_open_67 : decode b_Sc_open 67 = .ok (.aload_n 0, 1) := by decide +kernel
theorem d_Sc_open_68 : decode b_Sc_open 68 = .ok (.getfield 9, 3) := by decide +kernel
theorem d_Sc_open_71 : decode b_Sc_open 71 = .ok (.aload_n 0, 1) := by decide +kernel
theorem d_Sc_open_72 : decode b_Sc_open 72 = .ok (.getfield 29, 3) := by decide +kernel
theorem d_Sc_open_75 : decode b_Sc_open 75 = .ok (.bipush 8, 2) := by decide +kernel
theorem d_Sc_open_77 : decode b_Sc_open 77 = .ok (.iadd, 1) := by decide +kernel
theorem d_Sc_open_78 : decode b_Sc_open 78 = .ok (.bipush 8, 2) := by decide +kernel
theorem d_Sc_open_80 : decode b_Sc_open 80 = .ok (.invokevirtual 83, 3) := by decide +kernel
theorem d_Sc_open_83 : decode b_Sc_open 83 = .ok (.lstore_n 2, 1) := by decide +kernel
theorem d_Sc_open_84 : decode b_Sc_open 84 = .ok (.bipush 16, 2) := by decide +kernel
theorem d_Sc_open_86 : decode b_Sc_open 86 = .ok (.istore 4, 2) := by decide +kernel
theorem d_Sc_open_88 : decode b_Sc_open 88 = .ok (.goto 19, 3) := by decide +kernel
theorem d_Sc_open_91 : decode b_Sc_open 91 = .ok (.lload_n 2, 1) := by decide +kernel
theorem d_Sc_open_92 : decode b_Sc_open 92 = .ok (.lconst 0, 1) := by decide +kernel
theorem d_Sc_open_93 : decode b_Sc_open 93 = .ok (.lcmp, 1) := by decide +kernel
theorem d_Sc_open_94 : decode b_Sc_open 94 = .ok (.ifCond .ne 13, 3) := by decide +kernel
theorem d_Sc_open_97 : decode b_Sc_open 97 = .ok (.aload_n 0, 1) := by decide +kernel
theorem d_Sc_open_98 : decode b_Sc_open 98 = .ok (.getfield 25, 3) := by decide +kernel
theorem d_Sc_open_101 : decode b_Sc_open 101 = .ok (.ifCond .ne 6, 3) := by decide +kernel
theorem d_Sc_open_104 : decode b_Sc_open 104 = .ok (.iload_n 1, 1) := by decide +kernel
theorem d_Sc_open_105 : decode b_Sc_open 105 = .ok (.i2l, 1) := by decide +kernel
theorem d_Sc_open_106 : decode b_Sc_open 106 = .ok (.lstore_n 2, 1) := by decide +kernel
theorem d_Sc_open_107 : decode b_Sc_open 107 = .ok (.lload_n 2, 1) := by decide +kernel
theorem d_Sc_open_108 : decode b_Sc_open 108 = .ok (.lconst 0, 1) := by decide +kernel
theorem d_Sc_open_109 : decode b_Sc_open 109 = .ok (.lcmp, 1) := by decide +kernel
theorem d_Sc_open_110 : decode b_Sc_open 110 = .ok (.ifCond .lt 10, 3) := by decide +kernel
theorem d_Sc_open_113 : decode b_Sc_open 113 = .ok (.lload_n 2, 1) := by decide +kernel
theorem d_Sc_open_114 : decode b_Sc_open 114 = .ok (.iload_n 1, 1) := by decide +kernel
theorem d_Sc_open_115 : decode b_Sc_open 115 = .ok (.i2l, 1) := by decide +kernel
theorem d_Sc_open_116 : decode b_Sc_open 116 = .ok (.lcmp, 1) := by decide +kernel
theorem d_Sc_open_117 : decode b_Sc_open 117 = .ok (.ifCond .le 5, 3) := by decide +kernel
theorem d_Sc_open_120 : decode b_Sc_open 120 = .ok (.iconst 1, 1) := by decide +kernel
theorem d_Sc_open_121 : decode b_Sc_open 121 = .ok (.ireturn, 1) := by decide +kernel
theorem d_Sc_open_122 : decode b_Sc_open 122 = .ok (.lload_n 2, 1) := by decide +kernel
theorem d_Sc_open_123 : decode b_Sc_open 123 = .ok (.iload 4, 2) := by decide +kernel
theorem d_Sc_open_125 : decode b_Sc_open 125 = .ok (.i2l, 1) := by decide +kernel
theorem d_Sc_open_126 : decode b_Sc_open 126 = .ok (.lcmp, 1) := by decide +kernel
theorem d_Sc_open_127 : decode b_Sc_open 127 = .ok (.ifCond .ge 5, 3) := by decide +kernel
theorem d_Sc_open_130 : decode b_Sc_open 130 = .ok (.iconst 3, 1) := by decide +kernel
theorem d_Sc_open_131 : decode b_Sc_open 131 = .ok (.ireturn, 1) := by decide +kernel
theorem d_Sc_open_132 : decode b_Sc_open 132 = .ok (.aload_n 0, 1) := by decide +kernel
theorem d_Sc_open_133 : decode b_Sc_open 133 = .ok (.aload_n 0, 1) := by decide +kernel
theorem d_Sc_open_134 : decode b_Sc_open 134 = .ok (.getfield 29, 3) := by decide +kernel
theorem d_Sc_open_137 : decode b_Sc_open 137 = .ok (.iload 4, 2) := by decide +kernel
theorem d_Sc_open_139 : decode b_Sc_open 139 = .ok (.iadd, 1) := by decide +kernel
theorem d_Sc_open_140 : decode b_Sc_open 140 = .ok (.putfield 94, 3) := by decide +kernel
theorem d_Sc_open_143 : decode b_Sc_open 143 = .ok (.aload_n 0, 1) := by decide +kernel
theorem d_Sc_open_144 : decode b_Sc_open 144 = .ok (.aload_n 0, 1) := by decide +kernel
theorem d_Sc_open_145 : decode b_Sc_open 145 = .ok (.getfield 29, 3) := by decide +kernel
theorem d_Sc_open_148 : decode b_Sc_open 148 = .ok (.lload_n 2, 1) := by decide +kernel
theorem d_Sc_open_149 : decode b_Sc_open 149 = .ok (.l2i, 1) := by decide +kernel
theorem d_Sc_open_150 : decode b_Sc_open 150 = .ok (.iadd, 1) := by decide +kernel
theorem d_Sc_open_151 : decode b_Sc_open 151 = .ok (.putfield 71, 3) := by decide +kernel
theorem d_Sc_open_154 : decode b_Sc_open 154 = .ok (.iconst 0, 1) := by decide +kernel
theorem d_Sc_open_155 : decode b_Sc_open 155 = .ok (.ireturn, 1) := by decide +kernel
def j_Sc_open_107 (t_at : Int32) (t_from : Int32) (t_end : Int32) (x1 : Int32) (x43 : Int32) (j107_4 : Int32) (j107_2 : Int64) : Int32 × Int32 × Int32 × Int32 :=
  if (lg_cmp j107_2 0) < 0 then (1, x43, t_from, t_end) else (if (lg_cmp j107_2 ((x1 - t_at : Int32).toInt64)) ≤ 0 then (if 0 ≤ (lg_cmp j107_2 ((j107_4 : Int32).toInt64)) then ((0, x43, t_at + j107_4, t_at + ((j107_2 : Int64).toInt32))) else (3, x43, t_from, t_end)) else (1, x43, t_from, t_end))
def k_Sc_open_80 (t_at : Int32) (t_from : Int32) (t_end : Int32) (x1 : Int32) (x43 : Int32) (x80 : Int64) : Int32 × Int32 × Int32 × Int32 :=
  j_Sc_open_107 t_at t_from t_end x1 x43 16 x80
def k_Sc_open_43 (t_level : Int32) (t_at : Int32) (t_from : Int32) (t_end : Int32) (t_file_count : Int32) (n_t_file_row : Nat) (f_t_file_row : Nat → Int32) (x1 : Int32) (x27 : Int64) (x43 : Int32) : Int32 × Int32 × Int32 × Int32 :=
  if (lg_cmp x27 1) = 0 then (if 16 ≤ (x1 - t_at) then (k_Sc_open_80 t_at t_from t_end x1 x43 (m_By_numberAt t_file_count n_t_file_row f_t_file_row (t_at + 8) 8)) else (1, x43, t_from, t_end)) else (if (lg_cmp x27 0) = 0 then (if t_level = 0 then (j_Sc_open_107 t_at t_from t_end x1 x43 8 ((x1 - t_at : Int32).toInt64)) else (j_Sc_open_107 t_at t_from t_end x1 x43 8 x27)) else (j_Sc_open_107 t_at t_from t_end x1 x43 8 x27))
def k_Sc_open_27 (t_level : Int32) (t_at : Int32) (t_from : Int32) (t_end : Int32) (t_file_count : Int32) (n_t_file_row : Nat) (f_t_file_row : Nat → Int32) (x1 : Int32) (x27 : Int64) : Int32 × Int32 × Int32 × Int32 :=
  k_Sc_open_43 t_level t_at t_from t_end t_file_count n_t_file_row f_t_file_row x1 x27 (m_By_intAt t_file_count n_t_file_row f_t_file_row (t_at + 4) 4)
def k_Sc_open_1 (t_level : Int32) (t_at : Int32) (t_name : Int32) (t_from : Int32) (t_end : Int32) (t_file_count : Int32) (n_t_file_row : Nat) (f_t_file_row : Nat → Int32) (x1 : Int32) : Int32 × Int32 × Int32 × Int32 :=
  if 8 ≤ (x1 - t_at) then (k_Sc_open_27 t_level t_at t_from t_end t_file_count n_t_file_row f_t_file_row x1 (m_By_numberAt t_file_count n_t_file_row f_t_file_row t_at 4)) else (1, t_name, t_from, t_end)
def m_Sc_open (t_level : Int32) (t_at : Int32) (t_headEnd : Int32) (t_resolutionEnd : Int32) (t_name : Int32) (t_from : Int32) (t_end : Int32) (t_file_count : Int32) (n_t_file_row : Nat) (f_t_file_row : Nat → Int32) : Int32 × Int32 × Int32 × Int32 :=
  k_Sc_open_1 t_level t_at t_name t_from t_end t_file_count n_t_file_row f_t_file_row (m_Sc_limit t_level t_headEnd t_resolutionEnd t_file_count)
set_option maxHeartbeats 4000000 in
set_option maxRecDepth 100000 in
theorem c_Sc_open (l : Launch) (D : va_G) (cB cI cJ : ClassId) (h_t h_t_file h_t_plan h_t_file_row : Nat) (t_level : Int32) (t_at : Int32) (t_seen : Int32) (t_outerBoxes : Int32) (t_headAt : Int32) (t_headEnd : Int32) (t_resolutionEnd : Int32) (t_toldBits : Int32) (t_name : Int32) (t_from : Int32) (t_end : Int32) (t_boxAt : Int32) (t_streamFrom : Int32) (t_streamCount : Int32) (t_file_most : Int32) (t_file_count : Int32) (n_t_file_row : Nat) (f_t_file_row : Nat → Int32) (hn_t_file_row : n_t_file_row < 2147483648) (sz : Nat) : Ct l D cB cI cJ y_Sc_open b_Sc_open 5 (some .int) 2 47 0 0 [.ref h_t] [(h_t, .inr (5, [.ref h_t_file, .ref h_t_plan, .int t_level, .int t_at, .int t_seen, .int t_outerBoxes, .int t_headAt, .int t_headEnd, .int t_resolutionEnd, .int t_toldBits, .int t_name, .int t_from, .int t_end, .int t_boxAt, .int t_streamFrom, .int t_streamCount])), (h_t_file, .inr (0, [.int t_file_most, .ref h_t_file_row, .int t_file_count])), (h_t_file_row, .inl (cB, n_t_file_row, .inl f_t_file_row))] (fun v w1 => ∃ (x : Int32 × Int32 × Int32 × Int32), x = m_Sc_open t_level t_at t_headEnd t_resolutionEnd t_name t_from t_end t_file_count n_t_file_row f_t_file_row ∧ v = some (.int x.1) ∧ w1 = [(h_t, .inr (5, [.ref h_t_file, .ref h_t_plan, .int t_level, .int t_at, .int t_seen, .int t_outerBoxes, .int t_headAt, .int t_headEnd, .int t_resolutionEnd, .int t_toldBits, .int x.2.1, .int x.2.2.1, .int x.2.2.2, .int t_boxAt, .int t_streamFrom, .int t_streamCount])), (h_t_file, .inr (0, [.int t_file_most, .ref h_t_file_row, .int t_file_count])), (h_t_file_row, .inl (cB, n_t_file_row, .inl f_t_file_row))]) sz := by
  refine Ct.of (by decide) (Nat.le_of_ble_eq_true rfl) ?_
  intro p e R s m args below meth c A ls Q hx hb hr hlk hml hta hown hin hK hN hA hRf hRl hRc hRs hP hD hS hl hQ
  have hl : lv_has ls 5 [(0, .ref h_t)] := hl
  obtain ⟨RES, E0⟩ : ∃ R, m_Sc_open t_level t_at t_headEnd t_resolutionEnd t_name t_from t_end t_file_count n_t_file_row f_t_file_row = R := ⟨_, rfl⟩
  have E := E0
  refine lv_aload_n hx hb d_Sc_open_0 rfl (lv_at hl 0 rfl) ?_
  refine kc_V (As := []) (rest := []) (wr := [(h_t_file_row, .inl (cB, n_t_file_row, .inl f_t_file_row))]) [0, 1] [2] ⟨hx, hb, hml, hown, hta⟩ hK hN hP hD hS hA (c_Sc_limit l D cB cI cJ h_t h_t_file h_t_plan h_t_file_row t_level t_at t_seen t_outerBoxes t_headAt t_headEnd t_resolutionEnd t_toldBits t_name t_from t_end t_boxAt t_streamFrom t_streamCount t_file_most t_file_count _) (hta _ lk_Sc_44) (hta _ ini_Sc) (hta _ code_Sc_limit) code_Sc_limit (hta _ inst_Sc_limit) (hta _ sel_Sc_limit) hd_Sc_limit rfl ⟨by omega, by omega⟩ (ci := 5) 0 rfl rfl rfl rfl (by decide) (by decide) (by decide) rfl hl.1 (lv_room (Nat.le_of_ble_eq_true rfl)) d_Sc_open_1 ⟨by omega, by omega⟩ (fun v w1 H locs hw hP hD hS => ?_)
  obtain ⟨x1, hx1, rfl, rfl⟩ := hw
  have hP : va_P D classes [(h_t, .inr (5, [.ref h_t_file, .ref h_t_plan, .int t_level, .int t_at, .int t_seen, .int t_outerBoxes, .int t_headAt, .int t_headEnd, .int t_resolutionEnd, .int t_toldBits, .int t_name, .int t_from, .int t_end, .int t_boxAt, .int t_streamFrom, .int t_streamCount])), (h_t_file, .inr (0, [.int t_file_most, .ref h_t_file_row, .int t_file_count])), (h_t_file_row, .inl (cB, n_t_file_row, .inl f_t_file_row))] H := hP.sub [1, 2, 0] rfl
  have hD : va_D A [(h_t, .inr (5, [.ref h_t_file, .ref h_t_plan, .int t_level, .int t_at, .int t_seen, .int t_outerBoxes, .int t_headAt, .int t_headEnd, .int t_resolutionEnd, .int t_toldBits, .int t_name, .int t_from, .int t_end, .int t_boxAt, .int t_streamFrom, .int t_streamCount])), (h_t_file, .inr (0, [.int t_file_most, .ref h_t_file_row, .int t_file_count])), (h_t_file_row, .inl (cB, n_t_file_row, .inl f_t_file_row))] := hD.sub [1, 2, 0] (by decide) rfl
  refine W.eq (g2 := F0 m 4 ls [.int x1]) rfl ?_
  have E : k_Sc_open_1 t_level t_at t_name t_from t_end t_file_count n_t_file_row f_t_file_row x1 = RES := (congrArg (k_Sc_open_1 t_level t_at t_name t_from t_end t_file_count n_t_file_row f_t_file_row) hx1).trans E
  refine lv_aload_n hx hb d_Sc_open_4 rfl (lv_at hl 0 rfl) ?_
  refine va_get (D := D) (v := .int t_at) hx hb hta i_Sc hown hK hP 0 rfl rfl 3 (by decide) (hta _ lk_Sc_29) (fun _ h9 => h9) rfl d_Sc_open_5 ?_
  refine lv_isub hx hb d_Sc_open_8 ?_
  refine lv_istore_n (lv' := [(1, .int (x1 - t_at)), (0, .ref h_t)]) hx hb d_Sc_open_9 rfl hl (by decide) rfl (fun ls hl => ?_)
  refine lv_iload_n hx hb d_Sc_open_10 rfl (lv_at hl 0 rfl) ?_
  refine lv_bipush (v := 8) hx hb d_Sc_open_11 (by decide) ?_
  refine lv_icmp_ge (tgt := 18) hx hb d_Sc_open_13 (by decide) (fun c_13 => ?_) (fun c_13 => ?_)
  · have E := (if_pos c_13).symm.trans E
    refine lv_aload_n hx hb d_Sc_open_18 rfl (lv_at hl 1 rfl) ?_
    refine va_get (D := D) (v := .ref h_t_file) hx hb hta i_Sc hown hK hP 0 rfl rfl 0 (by decide) (hta _ lk_Sc_9) (fun _ h9 => h9) rfl d_Sc_open_19 ?_
    refine lv_aload_n hx hb d_Sc_open_22 rfl (lv_at hl 1 rfl) ?_
    refine va_get (D := D) (v := .int t_at) hx hb hta i_Sc hown hK hP 0 rfl rfl 3 (by decide) (hta _ lk_Sc_29) (fun _ h9 => h9) rfl d_Sc_open_23 ?_
    refine lv_iconst (v := 4) hx hb d_Sc_open_26 (by decide) ?_
    refine kc_V (As := [.int t_at, .int 4]) (rest := []) (wr := [(h_t, .inr (5, [.ref h_t_file, .ref h_t_plan, .int t_level, .int t_at, .int t_seen, .int t_outerBoxes, .int t_headAt, .int t_headEnd, .int t_resolutionEnd, .int t_toldBits, .int t_name, .int t_from, .int t_end, .int t_boxAt, .int t_streamFrom, .int t_streamCount]))]) [1, 2] [0] ⟨hx, hb, hml, hown, hta⟩ hK hN hP hD hS hA (c_By_numberAt l D cB cI cJ h_t_file h_t_file_row t_file_most t_file_count n_t_file_row f_t_file_row t_at 4 hn_t_file_row _) (hta _ lk_Sc_83) (hta _ ini_By) (hta _ code_By_numberAt) code_By_numberAt (hta _ inst_By_numberAt) (hta _ sel_By_numberAt) hd_By_numberAt rfl ⟨by omega, by omega⟩ (ci := 0) 1 rfl rfl rfl rfl (by decide) (by decide) (by decide) rfl hl.1 (lv_room (Nat.le_of_ble_eq_true rfl)) d_Sc_open_27 ⟨by omega, by omega⟩ (fun v w1 H locs hw hP hD hS => ?_)
    obtain ⟨x27, hx27, rfl, rfl⟩ := hw
    have hP : va_P D classes [(h_t, .inr (5, [.ref h_t_file, .ref h_t_plan, .int t_level, .int t_at, .int t_seen, .int t_outerBoxes, .int t_headAt, .int t_headEnd, .int t_resolutionEnd, .int t_toldBits, .int t_name, .int t_from, .int t_end, .int t_boxAt, .int t_streamFrom, .int t_streamCount])), (h_t_file, .inr (0, [.int t_file_most, .ref h_t_file_row, .int t_file_count])), (h_t_file_row, .inl (cB, n_t_file_row, .inl f_t_file_row))] H := hP.sub [0, 1, 2] rfl
    have hD : va_D A [(h_t, .inr (5, [.ref h_t_file, .ref h_t_plan, .int t_level, .int t_at, .int t_seen, .int t_outerBoxes, .int t_headAt, .int t_headEnd, .int t_resolutionEnd, .int t_toldBits, .int t_name, .int t_from, .int t_end, .int t_boxAt, .int t_streamFrom, .int t_streamCount])), (h_t_file, .inr (0, [.int t_file_most, .ref h_t_file_row, .int t_file_count])), (h_t_file_row, .inl (cB, n_t_file_row, .inl f_t_file_row))] := hD.sub [0, 1, 2] (by decide) rfl
    refine W.eq (g2 := F0 m 30 ls [.long x27]) rfl ?_
    have E : k_Sc_open_27 t_level t_at t_from t_end t_file_count n_t_file_row f_t_file_row x1 x27 = RES := (congrArg (k_Sc_open_27 t_level t_at t_from t_end t_file_count n_t_file_row f_t_file_row x1) hx27).trans E
    refine lv_lstore_n (lv' := [(2, .long x27), (1, .int (x1 - t_at)), (0, .ref h_t)]) hx hb d_Sc_open_30 rfl hl (by decide) rfl (fun ls hl => ?_)
    refine lv_aload_n hx hb d_Sc_open_31 rfl (lv_at hl 2 rfl) ?_
    refine lv_aload_n hx hb d_Sc_open_32 rfl (lv_at hl 2 rfl) ?_
    refine va_get (D := D) (v := .ref h_t_file) hx hb hta i_Sc hown hK hP 0 rfl rfl 0 (by decide) (hta _ lk_Sc_9) (fun _ h9 => h9) rfl d_Sc_open_33 ?_
    refine lv_aload_n hx hb d_Sc_open_36 rfl (lv_at hl 2 rfl) ?_
    refine va_get (D := D) (v := .int t_at) hx hb hta i_Sc hown hK hP 0 rfl rfl 3 (by decide) (hta _ lk_Sc_29) (fun _ h9 => h9) rfl d_Sc_open_37 ?_
    refine lv_iconst (v := 4) hx hb d_Sc_open_40 (by decide) ?_
    refine lv_iadd hx hb d_Sc_open_41 ?_
    refine lv_iconst (v := 4) hx hb d_Sc_open_42 (by decide) ?_
    refine kc_V (As := [.int (t_at + 4), .int 4]) (rest := [.ref h_t]) (wr := [(h_t, .inr (5, [.ref h_t_file, .ref h_t_plan, .int t_level, .int t_at, .int t_seen, .int t_outerBoxes, .int t_headAt, .int t_headEnd, .int t_resolutionEnd, .int t_toldBits, .int t_name, .int t_from, .int t_end, .int t_boxAt, .int t_streamFrom, .int t_streamCount]))]) [1, 2] [0] ⟨hx, hb, hml, hown, hta⟩ hK hN hP hD hS hA (c_By_intAt l D cB cI cJ h_t_file h_t_file_row t_file_most t_file_count n_t_file_row f_t_file_row (t_at + 4) 4 hn_t_file_row _) (hta _ lk_Sc_87) (hta _ ini_By) (hta _ code_By_intAt) code_By_intAt (hta _ inst_By_intAt) (hta _ sel_By_intAt) hd_By_intAt rfl ⟨by omega, by omega⟩ (ci := 0) 1 rfl rfl rfl rfl (by decide) (by decide) (by decide) rfl hl.1 (lv_room (Nat.le_of_ble_eq_true rfl)) d_Sc_open_43 ⟨by omega, by omega⟩ (fun v w1 H locs hw hP hD hS => ?_)
    obtain ⟨x43, hx43, rfl, rfl⟩ := hw
    have hP : va_P D classes [(h_t, .inr (5, [.ref h_t_file, .ref h_t_plan, .int t_level, .int t_at, .int t_seen, .int t_outerBoxes, .int t_headAt, .int t_headEnd, .int t_resolutionEnd, .int t_toldBits, .int t_name, .int t_from, .int t_end, .int t_boxAt, .int t_streamFrom, .int t_streamCount])), (h_t_file, .inr (0, [.int t_file_most, .ref h_t_file_row, .int t_file_count])), (h_t_file_row, .inl (cB, n_t_file_row, .inl f_t_file_row))] H := hP.sub [0, 1, 2] rfl
    have hD : va_D A [(h_t, .inr (5, [.ref h_t_file, .ref h_t_plan, .int t_level, .int t_at, .int t_seen, .int t_outerBoxes, .int t_headAt, .int t_headEnd, .int t_resolutionEnd, .int t_toldBits, .int t_name, .int t_from, .int t_end, .int t_boxAt, .int t_streamFrom, .int t_streamCount])), (h_t_file, .inr (0, [.int t_file_most, .ref h_t_file_row, .int t_file_count])), (h_t_file_row, .inl (cB, n_t_file_row, .inl f_t_file_row))] := hD.sub [0, 1, 2] (by decide) rfl
    refine W.eq (g2 := F0 m 46 ls [.int x43, .ref h_t]) rfl ?_
    have E : k_Sc_open_43 t_level t_at t_from t_end t_file_count n_t_file_row f_t_file_row x1 x27 x43 = RES := (congrArg (k_Sc_open_43 t_level t_at t_from t_end t_file_count n_t_file_row f_t_file_row x1 x27) hx43).trans E
    refine va_put (D := D) (ty := .int) hx hb hta i_Sc t_Sc t_Sc_ok n_Sc hown hK hP hD hS 0 rfl rfl 10 (by decide) (hta _ lk_Sc_91) (fun _ h9 => h9) rfl (by decide +kernel) rfl rfl (Nat.le_of_ble_eq_true rfl) d_Sc_open_46 (fun H locs (hP : va_P D classes [(h_t, .inr (5, [.ref h_t_file, .ref h_t_plan, .int t_level, .int t_at, .int t_seen, .int t_outerBoxes, .int t_headAt, .int t_headEnd, .int t_resolutionEnd, .int t_toldBits, .int x43, .int t_from, .int t_end, .int t_boxAt, .int t_streamFrom, .int t_streamCount])), (h_t_file, .inr (0, [.int t_file_most, .ref h_t_file_row, .int t_file_count])), (h_t_file_row, .inl (cB, n_t_file_row, .inl f_t_file_row))] H) (hD : va_D A [(h_t, .inr (5, [.ref h_t_file, .ref h_t_plan, .int t_level, .int t_at, .int t_seen, .int t_outerBoxes, .int t_headAt, .int t_headEnd, .int t_resolutionEnd, .int t_toldBits, .int x43, .int t_from, .int t_end, .int t_boxAt, .int t_streamFrom, .int t_streamCount])), (h_t_file, .inr (0, [.int t_file_most, .ref h_t_file_row, .int t_file_count])), (h_t_file_row, .inl (cB, n_t_file_row, .inl f_t_file_row))]) hS => ?_)
    refine lv_bipush (v := 8) hx hb d_Sc_open_49 (by decide) ?_
    refine lv_istore (lv' := [(4, .int 8), (2, .long x27), (1, .int (x1 - t_at)), (0, .ref h_t)]) hx hb d_Sc_open_51 hl (by decide) rfl (fun ls hl => ?_)
    refine lv_lload_n hx hb d_Sc_open_53 rfl (lv_at hl 1 rfl) ?_
    refine lv_lconst (v := 1) hx hb d_Sc_open_54 (by decide) ?_
    refine W.lcmp hx hb d_Sc_open_55 ?_
    have J_107 : ∀ (j107_4 : Int32) (j107_2 : Int64), j_Sc_open_107 t_at t_from t_end x1 x43 j107_4 j107_2 = RES → ∀ (H : Heap) (locs : List Loc), va_P D classes [(h_t, .inr (5, [.ref h_t_file, .ref h_t_plan, .int t_level, .int t_at, .int t_seen, .int t_outerBoxes, .int t_headAt, .int t_headEnd, .int t_resolutionEnd, .int t_toldBits, .int x43, .int t_from, .int t_end, .int t_boxAt, .int t_streamFrom, .int t_streamCount])), (h_t_file, .inr (0, [.int t_file_most, .ref h_t_file_row, .int t_file_count])), (h_t_file_row, .inl (cB, n_t_file_row, .inl f_t_file_row))] H → va_D A [(h_t, .inr (5, [.ref h_t_file, .ref h_t_plan, .int t_level, .int t_at, .int t_seen, .int t_outerBoxes, .int t_headAt, .int t_headEnd, .int t_resolutionEnd, .int t_toldBits, .int x43, .int t_from, .int t_end, .int t_boxAt, .int t_streamFrom, .int t_streamCount])), (h_t_file, .inr (0, [.int t_file_most, .ref h_t_file_row, .int t_file_count])), (h_t_file_row, .inl (cB, n_t_file_row, .inl f_t_file_row))] → va_S A s.heap H locs → ∀ ls : Array Slot, lv_has ls 5 [(4, .int j107_4), (2, .long j107_2), (1, .int (x1 - t_at)), (0, .ref h_t)] → W p l e R s m args below meth c H locs 0 0 Q (F0 m 107 ls []) := by
      intro j107_4 j107_2 E H locs hP hD hS ls hl
      refine lv_lload_n hx hb d_Sc_open_107 rfl (lv_at hl 1 rfl) ?_
      refine lv_lconst (v := 0) hx hb d_Sc_open_108 (by decide) ?_
      refine W.lcmp hx hb d_Sc_open_109 ?_
      refine lv_if_lt (tgt := 120) hx hb d_Sc_open_110 (by decide) (fun c_110 => ?_) (fun c_110 => ?_)
      · have E := (if_pos c_110).symm.trans E
        refine lv_iconst (v := 1) hx hb d_Sc_open_120 (by decide) ?_
        exact kr_i hx hb hr hlk hQ hK hP hD hS ⟨((1, x43, t_from, t_end) : Int32 × Int32 × Int32 × Int32), E.trans E0.symm, rfl, rfl⟩ (by omega) (by omega) d_Sc_open_121
      · have E := (if_neg c_110).symm.trans E
        refine lv_lload_n hx hb d_Sc_open_113 rfl (lv_at hl 1 rfl) ?_
        refine lv_iload_n hx hb d_Sc_open_114 rfl (lv_at hl 2 rfl) ?_
        refine lv_i2l (v := (x1 - t_at : Int32).toInt64) hx hb d_Sc_open_115 rfl ?_
        refine W.lcmp hx hb d_Sc_open_116 ?_
        refine lv_if_le (tgt := 122) hx hb d_Sc_open_117 (by decide) (fun c_117 => ?_) (fun c_117 => ?_)
        · have E := (if_pos c_117).symm.trans E
          refine lv_lload_n hx hb d_Sc_open_122 rfl (lv_at hl 1 rfl) ?_
          refine lv_iload hx hb d_Sc_open_123 (lv_at hl 0 rfl) ?_
          refine lv_i2l (v := (j107_4 : Int32).toInt64) hx hb d_Sc_open_125 rfl ?_
          refine W.lcmp hx hb d_Sc_open_126 ?_
          refine lv_if_ge (tgt := 132) hx hb d_Sc_open_127 (by decide) (fun c_127 => ?_) (fun c_127 => ?_)
          · have E := (if_pos c_127).symm.trans E
            refine lv_aload_n hx hb d_Sc_open_132 rfl (lv_at hl 3 rfl) ?_
            refine lv_aload_n hx hb d_Sc_open_133 rfl (lv_at hl 3 rfl) ?_
            refine va_get (D := D) (v := .int t_at) hx hb hta i_Sc hown hK hP 0 rfl rfl 3 (by decide) (hta _ lk_Sc_29) (fun _ h9 => h9) rfl d_Sc_open_134 ?_
            refine lv_iload hx hb d_Sc_open_137 (lv_at hl 0 rfl) ?_
            refine lv_iadd hx hb d_Sc_open_139 ?_
            refine va_put (D := D) (ty := .int) hx hb hta i_Sc t_Sc t_Sc_ok n_Sc hown hK hP hD hS 0 rfl rfl 11 (by decide) (hta _ lk_Sc_94) (fun _ h9 => h9) rfl (by decide +kernel) rfl rfl (Nat.le_of_ble_eq_true rfl) d_Sc_open_140 (fun H locs (hP : va_P D classes [(h_t, .inr (5, [.ref h_t_file, .ref h_t_plan, .int t_level, .int t_at, .int t_seen, .int t_outerBoxes, .int t_headAt, .int t_headEnd, .int t_resolutionEnd, .int t_toldBits, .int x43, .int (t_at + j107_4), .int t_end, .int t_boxAt, .int t_streamFrom, .int t_streamCount])), (h_t_file, .inr (0, [.int t_file_most, .ref h_t_file_row, .int t_file_count])), (h_t_file_row, .inl (cB, n_t_file_row, .inl f_t_file_row))] H) (hD : va_D A [(h_t, .inr (5, [.ref h_t_file, .ref h_t_plan, .int t_level, .int t_at, .int t_seen, .int t_outerBoxes, .int t_headAt, .int t_headEnd, .int t_resolutionEnd, .int t_toldBits, .int x43, .int (t_at + j107_4), .int t_end, .int t_boxAt, .int t_streamFrom, .int t_streamCount])), (h_t_file, .inr (0, [.int t_file_most, .ref h_t_file_row, .int t_file_count])), (h_t_file_row, .inl (cB, n_t_file_row, .inl f_t_file_row))]) hS => ?_)
            refine lv_aload_n hx hb d_Sc_open_143 rfl (lv_at hl 3 rfl) ?_
            refine lv_aload_n hx hb d_Sc_open_144 rfl (lv_at hl 3 rfl) ?_
            refine va_get (D := D) (v := .int t_at) hx hb hta i_Sc hown hK hP 0 rfl rfl 3 (by decide) (hta _ lk_Sc_29) (fun _ h9 => h9) rfl d_Sc_open_145 ?_
            refine lv_lload_n hx hb d_Sc_open_148 rfl (lv_at hl 1 rfl) ?_
            refine lv_l2i (v := (j107_2 : Int64).toInt32) hx hb d_Sc_open_149 rfl ?_
            refine lv_iadd hx hb d_Sc_open_150 ?_
            refine va_put (D := D) (ty := .int) hx hb hta i_Sc t_Sc t_Sc_ok n_Sc hown hK hP hD hS 0 rfl rfl 12 (by decide) (hta _ lk_Sc_71) (fun _ h9 => h9) rfl (by decide +kernel) rfl rfl (Nat.le_of_ble_eq_true rfl) d_Sc_open_151 (fun H locs (hP : va_P D classes [(h_t, .inr (5, [.ref h_t_file, .ref h_t_plan, .int t_level, .int t_at, .int t_seen, .int t_outerBoxes, .int t_headAt, .int t_headEnd, .int t_resolutionEnd, .int t_toldBits, .int x43, .int (t_at + j107_4), .int (t_at + ((j107_2 : Int64).toInt32)), .int t_boxAt, .int t_streamFrom, .int t_streamCount])), (h_t_file, .inr (0, [.int t_file_most, .ref h_t_file_row, .int t_file_count])), (h_t_file_row, .inl (cB, n_t_file_row, .inl f_t_file_row))] H) (hD : va_D A [(h_t, .inr (5, [.ref h_t_file, .ref h_t_plan, .int t_level, .int t_at, .int t_seen, .int t_outerBoxes, .int t_headAt, .int t_headEnd, .int t_resolutionEnd, .int t_toldBits, .int x43, .int (t_at + j107_4), .int (t_at + ((j107_2 : Int64).toInt32)), .int t_boxAt, .int t_streamFrom, .int t_streamCount])), (h_t_file, .inr (0, [.int t_file_most, .ref h_t_file_row, .int t_file_count])), (h_t_file_row, .inl (cB, n_t_file_row, .inl f_t_file_row))]) hS => ?_)
            refine lv_iconst (v := 0) hx hb d_Sc_open_154 (by decide) ?_
            exact kr_i hx hb hr hlk hQ hK hP hD hS ⟨((0, x43, t_at + j107_4, t_at + ((j107_2 : Int64).toInt32)) : Int32 × Int32 × Int32 × Int32), E.trans E0.symm, rfl, rfl⟩ (by omega) (by omega) d_Sc_open_155
          · have E := (if_neg c_127).symm.trans E
            refine lv_iconst (v := 3) hx hb d_Sc_open_130 (by decide) ?_
            exact kr_i hx hb hr hlk hQ hK hP hD hS ⟨((3, x43, t_from, t_end) : Int32 × Int32 × Int32 × Int32), E.trans E0.symm, rfl, rfl⟩ (by omega) (by omega) d_Sc_open_131
        · have E := (if_neg c_117).symm.trans E
          refine lv_iconst (v := 1) hx hb d_Sc_open_120 (by decide) ?_
          exact kr_i hx hb hr hlk hQ hK hP hD hS ⟨((1, x43, t_from, t_end) : Int32 × Int32 × Int32 × Int32), E.trans E0.symm, rfl, rfl⟩ (by omega) (by omega) d_Sc_open_121
    refine lv_if_ne (tgt := 91) hx hb d_Sc_open_56 (by decide) (fun c_56 => ?_) (fun c_56 => ?_)
    · have E := (if_neg c_56).symm.trans E
      refine lv_lload_n hx hb d_Sc_open_91 rfl (lv_at hl 1 rfl) ?_
      refine lv_lconst (v := 0) hx hb d_Sc_open_92 (by decide) ?_
      refine W.lcmp hx hb d_Sc_open_93 ?_
      refine lv_if_ne (tgt := 107) hx hb d_Sc_open_94 (by decide) (fun c_94 => ?_) (fun c_94 => ?_)
      · have E := (if_neg c_94).symm.trans E
        exact J_107 8 x27 E _ _ hP hD hS ls (lv_sub hl [0, 1, 2, 3] rfl)
      · have E := (if_pos c_94).symm.trans E
        refine lv_aload_n hx hb d_Sc_open_97 rfl (lv_at hl 3 rfl) ?_
        refine va_get (D := D) (v := .int t_level) hx hb hta i_Sc hown hK hP 0 rfl rfl 2 (by decide) (hta _ lk_Sc_25) (fun _ h9 => h9) rfl d_Sc_open_98 ?_
        refine lv_if_ne (tgt := 107) hx hb d_Sc_open_101 (by decide) (fun c_101 => ?_) (fun c_101 => ?_)
        · have E := (if_neg c_101).symm.trans E
          exact J_107 8 x27 E _ _ hP hD hS ls (lv_sub hl [0, 1, 2, 3] rfl)
        · have E := (if_pos c_101).symm.trans E
          refine lv_iload_n hx hb d_Sc_open_104 rfl (lv_at hl 2 rfl) ?_
          refine lv_i2l (v := (x1 - t_at : Int32).toInt64) hx hb d_Sc_open_105 rfl ?_
          refine lv_lstore_n (lv' := [(2, .long ((x1 - t_at : Int32).toInt64)), (4, .int 8), (1, .int (x1 - t_at)), (0, .ref h_t)]) hx hb d_Sc_open_106 rfl hl (by decide) rfl (fun ls hl => ?_)
          exact J_107 8 ((x1 - t_at : Int32).toInt64) E _ _ hP hD hS ls (lv_sub hl [1, 0, 2, 3] rfl)
    · have E := (if_pos c_56).symm.trans E
      refine lv_iload_n hx hb d_Sc_open_59 rfl (lv_at hl 2 rfl) ?_
      refine lv_bipush (v := 16) hx hb d_Sc_open_60 (by decide) ?_
      refine lv_icmp_ge (tgt := 67) hx hb d_Sc_open_62 (by decide) (fun c_62 => ?_) (fun c_62 => ?_)
      · have E := (if_pos c_62).symm.trans E
        refine lv_aload_n hx hb d_Sc_open_67 rfl (lv_at hl 3 rfl) ?_
        refine va_get (D := D) (v := .ref h_t_file) hx hb hta i_Sc hown hK hP 0 rfl rfl 0 (by decide) (hta _ lk_Sc_9) (fun _ h9 => h9) rfl d_Sc_open_68 ?_
        refine lv_aload_n hx hb d_Sc_open_71 rfl (lv_at hl 3 rfl) ?_
        refine va_get (D := D) (v := .int t_at) hx hb hta i_Sc hown hK hP 0 rfl rfl 3 (by decide) (hta _ lk_Sc_29) (fun _ h9 => h9) rfl d_Sc_open_72 ?_
        refine lv_bipush (v := 8) hx hb d_Sc_open_75 (by decide) ?_
        refine lv_iadd hx hb d_Sc_open_77 ?_
        refine lv_bipush (v := 8) hx hb d_Sc_open_78 (by decide) ?_
        refine kc_V (As := [.int (t_at + 8), .int 8]) (rest := []) (wr := [(h_t, .inr (5, [.ref h_t_file, .ref h_t_plan, .int t_level, .int t_at, .int t_seen, .int t_outerBoxes, .int t_headAt, .int t_headEnd, .int t_resolutionEnd, .int t_toldBits, .int x43, .int t_from, .int t_end, .int t_boxAt, .int t_streamFrom, .int t_streamCount]))]) [1, 2] [0] ⟨hx, hb, hml, hown, hta⟩ hK hN hP hD hS hA (c_By_numberAt l D cB cI cJ h_t_file h_t_file_row t_file_most t_file_count n_t_file_row f_t_file_row (t_at + 8) 8 hn_t_file_row _) (hta _ lk_Sc_83) (hta _ ini_By) (hta _ code_By_numberAt) code_By_numberAt (hta _ inst_By_numberAt) (hta _ sel_By_numberAt) hd_By_numberAt rfl ⟨by omega, by omega⟩ (ci := 0) 1 rfl rfl rfl rfl (by decide) (by decide) (by decide) rfl hl.1 (lv_room (Nat.le_of_ble_eq_true rfl)) d_Sc_open_80 ⟨by omega, by omega⟩ (fun v w1 H locs hw hP hD hS => ?_)
        obtain ⟨x80, hx80, rfl, rfl⟩ := hw
        have hP : va_P D classes [(h_t, .inr (5, [.ref h_t_file, .ref h_t_plan, .int t_level, .int t_at, .int t_seen, .int t_outerBoxes, .int t_headAt, .int t_headEnd, .int t_resolutionEnd, .int t_toldBits, .int x43, .int t_from, .int t_end, .int t_boxAt, .int t_streamFrom, .int t_streamCount])), (h_t_file, .inr (0, [.int t_file_most, .ref h_t_file_row, .int t_file_count])), (h_t_file_row, .inl (cB, n_t_file_row, .inl f_t_file_row))] H := hP.sub [0, 1, 2] rfl
        have hD : va_D A [(h_t, .inr (5, [.ref h_t_file, .ref h_t_plan, .int t_level, .int t_at, .int t_seen, .int t_outerBoxes, .int t_headAt, .int t_headEnd, .int t_resolutionEnd, .int t_toldBits, .int x43, .int t_from, .int t_end, .int t_boxAt, .int t_streamFrom, .int t_streamCount])), (h_t_file, .inr (0, [.int t_file_most, .ref h_t_file_row, .int t_file_count])), (h_t_file_row, .inl (cB, n_t_file_row, .inl f_t_file_row))] := hD.sub [0, 1, 2] (by decide) rfl
        refine W.eq (g2 := F0 m 83 ls [.long x80]) rfl ?_
        have E : k_Sc_open_80 t_at t_from t_end x1 x43 x80 = RES := (congrArg (k_Sc_open_80 t_at t_from t_end x1 x43) hx80).trans E
        refine lv_lstore_n (lv' := [(2, .long x80), (4, .int 8), (1, .int (x1 - t_at)), (0, .ref h_t)]) hx hb d_Sc_open_83 rfl hl (by decide) rfl (fun ls hl => ?_)
        refine lv_bipush (v := 16) hx hb d_Sc_open_84 (by decide) ?_
        refine lv_istore (lv' := [(4, .int 16), (2, .long x80), (1, .int (x1 - t_at)), (0, .ref h_t)]) hx hb d_Sc_open_86 hl (by decide) rfl (fun ls hl => ?_)
        refine lv_goto (tgt := 107) hx hb d_Sc_open_88 (by decide) ?_
        exact J_107 16 x80 E _ _ hP hD hS ls (lv_sub hl [0, 1, 2, 3] rfl)
      · have E := (if_neg c_62).symm.trans E
        refine lv_iconst (v := 1) hx hb d_Sc_open_65 (by decide) ?_
        exact kr_i hx hb hr hlk hQ hK hP hD hS ⟨((1, x43, t_from, t_end) : Int32 × Int32 × Int32 × Int32), E.trans E0.symm, rfl, rfl⟩ (by omega) (by omega) d_Sc_open_66
  · have E := (if_neg c_13).symm.trans E
    refine lv_iconst (v := 1) hx hb d_Sc_open_16 (by decide) ?_
    exact kr_i hx hb hr hlk hQ hK hP hD hS ⟨((1, t_name, t_from, t_end) : Int32 × Int32 × Int32 × Int32), E.trans E0.symm, rfl, rfl⟩ (by omega) (by omega) d_Sc_open_17
theorem d_Sc_endOfHead_0 : decode b_Sc_endOfHead 0 = .ok (.aload_n 0, 1) := by decide +kernel
theorem d_Sc_endOfHead_1 : decode b_Sc_endOfHead 1 = .ok (.getfield 103, 3) := by decide +kernel
theorem d_Sc_endOfHead_4 : decode b_Sc_endOfHead 4 = .ok (.sipush 255, 3) := by decide +kernel
theorem d_Sc_endOfHead_7 : decode b_Sc_endOfHead 7 = .ok (.if_icmp .ne 15, 3) := by decide +kernel
theorem d_Sc_endOfHead_10 : decode b_Sc_endOfHead 10 = .ok (.aload_n 0, 1) := by decide +kernel
theorem d_Sc_endOfHead_11 : decode b_Sc_endOfHead 11 = .ok (.iconst 4, 1) := by decide +kernel
theorem d_Sc_endOfHead_12 : decode b_Sc_endOfHead 12 = .ok (.invokevirtual 106, 3) := by decide +kernel
theorem d_Sc_endOfHead_15 : decode b_Sc_endOfHead 15 = .ok (.ifCond .ne 7, 3) := by decide +kernel
theorem d_Sc_endOfHead_18 : decode b_Sc_endOfHead 18 = .ok (.iconst 1, 1) := by decide +kernel
theorem d_Sc_endOfHead_19 : decode b_Sc_endOfHead 19 = .ok (.goto 4, 3) := by decide +kernel
theorem d_Sc_endOfHead_22 : decode b_Sc_endOfHead 22 = .ok (.iconst 0, 1) := by decide +kernel
theorem d_Sc_endOfHead_23 : decode b_Sc_endOfHead 23 = .ok (.istore_n 1, 1) := by decide +kernel
theorem d_Sc_endOfHead_24 : decode b_Sc_endOfHead 24 = .ok (.aload_n 0, 1) := by decide +kernel
theorem d_Sc_endOfHead_25 : decode b_Sc_endOfHead 25 = .ok (.bipush 8, 2) := by decide +kernel
theorem d_Sc_endOfHead_27 : decode b_Sc_endOfHead 27 = .ok (.invokevirtual 106, 3) := by decide +kernel
theorem d_Sc_endOfHead_30 : decode b_Sc_endOfHead 30 = .ok (.ifCond .eq 16, 3) := by decide +kernel
theorem d_Sc_endOfHead_33 : decode b_Sc_endOfHead 33 = .ok (.aload_n 0, 1) := by decide +kernel
theorem d_Sc_endOfHead_34 : decode b_Sc_endOfHead 34 = .ok (.bipush 16, 2) := by decide +kernel
theorem d_Sc_endOfHead_36 : decode b_Sc_endOfHead 36 = .ok (.invokevirtual 106, 3) := by decide +kernel
theorem d_Sc_endOfHead_39 : decode b_Sc_endOfHead 39 = .ok (.ifCond .ne 7, 3) := by decide +kernel
theorem d_Sc_endOfHead_42 : decode b_Sc_endOfHead 42 = .ok (.iconst 1, 1) := by decide +kernel
theorem d_Sc_endOfHead_43 : decode b_Sc_endOfHead 43 = .ok (.goto 4, 3) := by decide +kernel
theorem d_Sc_endOfHead_46 : decode b_Sc_endOfHead 46 = .ok (.iconst 0, 1) := by decide +kernel
theorem d_Sc_endOfHead_47 : decode b_Sc_endOfHead 47 = .ok (.istore_n 2, 1) := by decide +kernel
theorem d_Sc_endOfHead_48 : decode b_Sc_endOfHead 48 = .ok (.aload_n 0, 1) := by decide +kernel
theorem d_Sc_endOfHead_49 : decode b_Sc_endOfHead 49 = .ok (.getfield 18, 3) := by decide +kernel
theorem d_Sc_endOfHead_52 : decode b_Sc_endOfHead 52 = .ok (.invokevirtual 110, 3) := by decide +kernel
theorem d_Sc_endOfHead_55 : decode b_Sc_endOfHead 55 = .ok (.ifCond .eq 11, 3) := by decide +kernel
theorem d_Sc_endOfHead_58 : decode b_Sc_endOfHead 58 = .ok (.iload_n 1, 1) := by decide +kernel
theorem d_Sc_endOfHead_59 : decode b_Sc_endOfHead 59 = .ok (.ifCond .ne 7, 3) := by decide +kernel
theorem d_Sc_endOfHead_62 : decode b_Sc_endOfHead 62 = .ok (.iload_n 2, 1) := by decide +kernel
theorem d_Sc_endOfHead_63 : decode b_Sc_endOfHead 63 = .ok (.ifCond .eq 6, 3) := by decide +kernel
theorem d_Sc_endOfHead_66 : decode b_Sc_endOfHead 66 = .ok (.bipush 6, 2) := by decide +kernel
theorem d_Sc_endOfHead_68 : decode b_Sc_endOfHead 68 = .ok (.ireturn, 1) := by decide +kernel
theorem d_Sc_endOfHead_69 : decode b_Sc_endOfHead 69 = .ok (.aload_n 0, 1) := by decide +kernel
theorem d_Sc_endOfHead_70 : decode b_Sc_endOfHead 70 = .ok (.getfield 18, 3) := by decide +kernel
theorem d_Sc_endOfHead_73 : decode b_Sc_endOfHead 73 = .ok (.getfield 114, 3) := by decide +kernel
theorem d_Sc_endOfHead_76 : decode b_Sc_endOfHead 76 = .ok (.aload_n 0, 1) := by decide +kernel
theorem d_Sc_endOfHead_77 : decode b_Sc_endOfHead 77 = .ok (.getfield 18, 3) := by decide +kernel
theorem d_Sc_endOfHead_80 : decode b_Sc_endOfHead 80 = .ok (.invokevirtual 118, 3) := by decide +kernel
theorem d_Sc_endOfHead_83 : decode b_Sc_endOfHead 83 = .ok (.invokevirtual 121, 3) := by decide +kernel
theorem d_Sc_endOfHead_86 : decode b_Sc_endOfHead 86 = .ok (.istore_n 3, 1) := by decide +kernel
theorem d_Sc_endOfHead_87 : decode b_Sc_endOfHead 87 = .ok (.iload_n 3, 1) := by decide +kernel
theorem d_Sc_endOfHead_88 : decode b_Sc_endOfHead 88 = .ok (.ifCond .eq 20, 3) := by decide +kernel
theorem d_Sc_endOfHead_91 : decode b_Sc_endOfHead 91 = .ok (.aload_n 0, 1) := by decide +kernel
theorem d_Sc_endOfHead_92 : decode b_Sc_endOfHead 92 = .ok (.getfield 18, 3) := by decide +kernel
theorem d_Sc_endOfHead_95 : decode b_Sc_endOfHead 95 = .ok (.getfield 114, 3) := by decide +kernel
theorem d_Sc_endOfHead_98 : decode b_Sc_endOfHead 98 = .ok (.invokevirtual 126, 3) := by decide +kernel
theorem d_Sc_endOfHead_101 : decode b_Sc_endOfHead 101 = .ok (.ifCond .ne 7, 3) := by decide +kernel
theorem d_Sc_endOfHead_104 : decode b_Sc_endOfHead 104 = .ok (.iconst 0, 1) := by decide +kernel
theorem d_Sc_endOfHead_105 : decode b_Sc_endOfHead 105 = .ok (.goto 4, 3) := by decide +kernel
theorem d_Sc_endOfHead_108 : decode b_Sc_endOfHead 108 = .ok (.iconst 5, 1) := by decide +kernel
theorem d_Sc_endOfHead_109 : decode b_Sc_endOfHead 109 = .ok (.ireturn, 1) := by decide +kernel
def k_Sc_endOfHead_98 (x98 : Int32) : Int32 :=
  if x98 = 0 then 0 else 5
def k_Sc_endOfHead_83 (t_plan_meanings_count : Int32) (n_t_plan_meanings_parts : Nat) (f_t_plan_meanings_parts : Nat → Int32) (x83 : Int32) : Int32 :=
  if x83 = 0 then 5 else (k_Sc_endOfHead_98 (m_Li_someFirstTwice t_plan_meanings_count n_t_plan_meanings_parts f_t_plan_meanings_parts))
def k_Sc_endOfHead_80 (t_plan_meanings_count : Int32) (n_t_plan_meanings_parts : Nat) (f_t_plan_meanings_parts : Nat → Int32) (x80 : Int32) : Int32 :=
  k_Sc_endOfHead_83 t_plan_meanings_count n_t_plan_meanings_parts f_t_plan_meanings_parts (m_Li_allFirstBelow t_plan_meanings_count n_t_plan_meanings_parts f_t_plan_meanings_parts x80)
def k_Sc_endOfHead_52 (t_plan_components : Int32) (t_plan_map_count : Int32) (t_plan_meanings_count : Int32) (n_t_plan_meanings_parts : Nat) (f_t_plan_meanings_parts : Nat → Int32) (j23_s0 : Int32) (j47_s0 : Int32) (x52 : Int32) : Int32 :=
  if x52 = 0 then 6 else (if j23_s0 = 0 then (if j47_s0 = 0 then (k_Sc_endOfHead_80 t_plan_meanings_count n_t_plan_meanings_parts f_t_plan_meanings_parts (m_Pl_channelCount t_plan_components t_plan_map_count)) else 6) else 6)
def j_Sc_endOfHead_47 (t_plan_components : Int32) (t_plan_colours : Int32) (t_plan_hasProfile : Int32) (t_plan_map_count : Int32) (t_plan_meanings_count : Int32) (n_t_plan_meanings_parts : Nat) (f_t_plan_meanings_parts : Nat → Int32) (j23_s0 : Int32) (j47_s0 : Int32) : Int32 :=
  k_Sc_endOfHead_52 t_plan_components t_plan_map_count t_plan_meanings_count n_t_plan_meanings_parts f_t_plan_meanings_parts j23_s0 j47_s0 (m_Pl_hasColours t_plan_colours t_plan_hasProfile)
def j_Sc_endOfHead_46 (t_plan_components : Int32) (t_plan_colours : Int32) (t_plan_hasProfile : Int32) (t_plan_map_count : Int32) (t_plan_meanings_count : Int32) (n_t_plan_meanings_parts : Nat) (f_t_plan_meanings_parts : Nat → Int32) (j23_s0 : Int32) : Int32 :=
  j_Sc_endOfHead_47 t_plan_components t_plan_colours t_plan_hasProfile t_plan_map_count t_plan_meanings_count n_t_plan_meanings_parts f_t_plan_meanings_parts j23_s0 0
def k_Sc_endOfHead_36 (t_plan_components : Int32) (t_plan_colours : Int32) (t_plan_hasProfile : Int32) (t_plan_map_count : Int32) (t_plan_meanings_count : Int32) (n_t_plan_meanings_parts : Nat) (f_t_plan_meanings_parts : Nat → Int32) (j23_s0 : Int32) (x36 : Int32) : Int32 :=
  if x36 = 0 then (j_Sc_endOfHead_47 t_plan_components t_plan_colours t_plan_hasProfile t_plan_map_count t_plan_meanings_count n_t_plan_meanings_parts f_t_plan_meanings_parts j23_s0 1) else (j_Sc_endOfHead_46 t_plan_components t_plan_colours t_plan_hasProfile t_plan_map_count t_plan_meanings_count n_t_plan_meanings_parts f_t_plan_meanings_parts j23_s0)
def k_Sc_endOfHead_27 (t_seen : Int32) (t_plan_components : Int32) (t_plan_colours : Int32) (t_plan_hasProfile : Int32) (t_plan_map_count : Int32) (t_plan_meanings_count : Int32) (n_t_plan_meanings_parts : Nat) (f_t_plan_meanings_parts : Nat → Int32) (j23_s0 : Int32) (x27 : Int32) : Int32 :=
  if x27 = 0 then (j_Sc_endOfHead_46 t_plan_components t_plan_colours t_plan_hasProfile t_plan_map_count t_plan_meanings_count n_t_plan_meanings_parts f_t_plan_meanings_parts j23_s0) else (k_Sc_endOfHead_36 t_plan_components t_plan_colours t_plan_hasProfile t_plan_map_count t_plan_meanings_count n_t_plan_meanings_parts f_t_plan_meanings_parts j23_s0 (m_Sc_was t_seen 16))
def j_Sc_endOfHead_23 (t_seen : Int32) (t_plan_components : Int32) (t_plan_colours : Int32) (t_plan_hasProfile : Int32) (t_plan_map_count : Int32) (t_plan_meanings_count : Int32) (n_t_plan_meanings_parts : Nat) (f_t_plan_meanings_parts : Nat → Int32) (j23_s0 : Int32) : Int32 :=
  k_Sc_endOfHead_27 t_seen t_plan_components t_plan_colours t_plan_hasProfile t_plan_map_count t_plan_meanings_count n_t_plan_meanings_parts f_t_plan_meanings_parts j23_s0 (m_Sc_was t_seen 8)
def j_Sc_endOfHead_22 (t_seen : Int32) (t_plan_components : Int32) (t_plan_colours : Int32) (t_plan_hasProfile : Int32) (t_plan_map_count : Int32) (t_plan_meanings_count : Int32) (n_t_plan_meanings_parts : Nat) (f_t_plan_meanings_parts : Nat → Int32) : Int32 :=
  j_Sc_endOfHead_23 t_seen t_plan_components t_plan_colours t_plan_hasProfile t_plan_map_count t_plan_meanings_count n_t_plan_meanings_parts f_t_plan_meanings_parts 0
def k_Sc_endOfHead_12 (t_seen : Int32) (t_plan_components : Int32) (t_plan_colours : Int32) (t_plan_hasProfile : Int32) (t_plan_map_count : Int32) (t_plan_meanings_count : Int32) (n_t_plan_meanings_parts : Nat) (f_t_plan_meanings_parts : Nat → Int32) (x12 : Int32) : Int32 :=
  if x12 = 0 then (j_Sc_endOfHead_23 t_seen t_plan_components t_plan_colours t_plan_hasProfile t_plan_map_count t_plan_meanings_count n_t_plan_meanings_parts f_t_plan_meanings_parts 1) else (j_Sc_endOfHead_22 t_seen t_plan_components t_plan_colours t_plan_hasProfile t_plan_map_count t_plan_meanings_count n_t_plan_meanings_parts f_t_plan_meanings_parts)
def m_Sc_endOfHead (t_seen : Int32) (t_toldBits : Int32) (t_plan_components : Int32) (t_plan_colours : Int32) (t_plan_hasProfile : Int32) (t_plan_map_count : Int32) (t_plan_meanings_count : Int32) (n_t_plan_meanings_parts : Nat) (f_t_plan_meanings_parts : Nat → Int32) : Int32 :=
  if t_toldBits = 255 then (k_Sc_endOfHead_12 t_seen t_plan_components t_plan_colours t_plan_hasProfile t_plan_map_count t_plan_meanings_count n_t_plan_meanings_parts f_t_plan_meanings_parts (m_Sc_was t_seen 4)) else (j_Sc_endOfHead_22 t_seen t_plan_components t_plan_colours t_plan_hasProfile t_plan_map_count t_plan_meanings_count n_t_plan_meanings_parts f_t_plan_meanings_parts)
set_option maxHeartbeats 4000000 in
set_option maxRecDepth 100000 in
theorem c_Sc_endOfHead (l : Launch) (D : va_G) (cB cI cJ : ClassId) (h_t h_t_file h_t_plan h_t_plan_bits h_t_plan_profile h_t_plan_palette h_t_plan_map h_t_plan_meanings h_t_plan_capture h_t_plan_display h_t_plan_map_parts h_t_plan_meanings_parts : Nat) (t_level : Int32) (t_at : Int32) (t_seen : Int32) (t_outerBoxes : Int32) (t_headAt : Int32) (t_headEnd : Int32) (t_resolutionEnd : Int32) (t_toldBits : Int32) (t_name : Int32) (t_from : Int32) (t_end : Int32) (t_boxAt : Int32) (t_streamFrom : Int32) (t_streamCount : Int32) (t_plan_high : Int32) (t_plan_wide : Int32) (t_plan_components : Int32) (t_plan_unknown : Int32) (t_plan_rights : Int32) (t_plan_colours : Int32) (t_plan_hasProfile : Int32) (t_plan_map_count : Int32) (t_plan_meanings_count : Int32) (n_t_plan_meanings_parts : Nat) (f_t_plan_meanings_parts : Nat → Int32) (hn_t_plan_meanings_parts : n_t_plan_meanings_parts < 2147483648) (sz : Nat) : Ct l D cB cI cJ y_Sc_endOfHead b_Sc_endOfHead 4 (some .int) 3 65 0 0 [.ref h_t] [(h_t, .inr (5, [.ref h_t_file, .ref h_t_plan, .int t_level, .int t_at, .int t_seen, .int t_outerBoxes, .int t_headAt, .int t_headEnd, .int t_resolutionEnd, .int t_toldBits, .int t_name, .int t_from, .int t_end, .int t_boxAt, .int t_streamFrom, .int t_streamCount])), (h_t_plan, .inr (3, [.int t_plan_high, .int t_plan_wide, .int t_plan_components, .int t_plan_unknown, .int t_plan_rights, .ref h_t_plan_bits, .int t_plan_colours, .int t_plan_hasProfile, .ref h_t_plan_profile, .ref h_t_plan_palette, .ref h_t_plan_map, .ref h_t_plan_meanings, .ref h_t_plan_capture, .ref h_t_plan_display])), (h_t_plan_map, .inr (1, [.ref h_t_plan_map_parts, .int t_plan_map_count])), (h_t_plan_meanings, .inr (1, [.ref h_t_plan_meanings_parts, .int t_plan_meanings_count])), (h_t_plan_meanings_parts, .inl (cI, n_t_plan_meanings_parts, .inl f_t_plan_meanings_parts))] (fun v w1 => ∃ (x : Int32), x = m_Sc_endOfHead t_seen t_toldBits t_plan_components t_plan_colours t_plan_hasProfile t_plan_map_count t_plan_meanings_count n_t_plan_meanings_parts f_t_plan_meanings_parts ∧ v = some (.int x) ∧ w1 = [(h_t, .inr (5, [.ref h_t_file, .ref h_t_plan, .int t_level, .int t_at, .int t_seen, .int t_outerBoxes, .int t_headAt, .int t_headEnd, .int t_resolutionEnd, .int t_toldBits, .int t_name, .int t_from, .int t_end, .int t_boxAt, .int t_streamFrom, .int t_streamCount])), (h_t_plan, .inr (3, [.int t_plan_high, .int t_plan_wide, .int t_plan_components, .int t_plan_unknown, .int t_plan_rights, .ref h_t_plan_bits, .int t_plan_colours, .int t_plan_hasProfile, .ref h_t_plan_profile, .ref h_t_plan_palette, .ref h_t_plan_map, .ref h_t_plan_meanings, .ref h_t_plan_capture, .ref h_t_plan_display])), (h_t_plan_map, .inr (1, [.ref h_t_plan_map_parts, .int t_plan_map_count])), (h_t_plan_meanings, .inr (1, [.ref h_t_plan_meanings_parts, .int t_plan_meanings_count])), (h_t_plan_meanings_parts, .inl (cI, n_t_plan_meanings_parts, .inl f_t_plan_meanings_parts))]) sz := by
  refine Ct.of (by decide) (Nat.le_of_ble_eq_true rfl) ?_
  intro p e R s m args below meth c A ls Q hx hb hr hlk hml hta hown hin hK hN hA hRf hRl hRc hRs hP hD hS hl hQ
  have hl : lv_has ls 4 [(0, .ref h_t)] := hl
  obtain ⟨RES, E0⟩ : ∃ R, m_Sc_endOfHead t_seen t_toldBits t_plan_components t_plan_colours t_plan_hasProfile t_plan_map_count t_plan_meanings_count n_t_plan_meanings_parts f_t_plan_meanings_parts = R := ⟨_, rfl⟩
  have E := E0
  refine lv_aload_n hx hb d_Sc_endOfHead_0 rfl (lv_at hl 0 rfl) ?_
  refine va_get (D := D) (v := .int t_toldBits) hx hb hta i_Sc hown hK hP 0 rfl rfl 9 (by decide) (hta _ lk_Sc_103) (fun _ h9 => h9) rfl d_Sc_endOfHead_1 ?_
  refine lv_sipush (v := 255) hx hb d_Sc_endOfHead_4 (by decide) ?_
  have J_23 : ∀ (j23_s0 : Int32), j_Sc_endOfHead_23 t_seen t_plan_components t_plan_colours t_plan_hasProfile t_plan_map_count t_plan_meanings_count n_t_plan_meanings_parts f_t_plan_meanings_parts j23_s0 = RES → ∀ (H : Heap) (locs : List Loc), va_P D classes [(h_t, .inr (5, [.ref h_t_file, .ref h_t_plan, .int t_level, .int t_at, .int t_seen, .int t_outerBoxes, .int t_headAt, .int t_headEnd, .int t_resolutionEnd, .int t_toldBits, .int t_name, .int t_from, .int t_end, .int t_boxAt, .int t_streamFrom, .int t_streamCount])), (h_t_plan, .inr (3, [.int t_plan_high, .int t_plan_wide, .int t_plan_components, .int t_plan_unknown, .int t_plan_rights, .ref h_t_plan_bits, .int t_plan_colours, .int t_plan_hasProfile, .ref h_t_plan_profile, .ref h_t_plan_palette, .ref h_t_plan_map, .ref h_t_plan_meanings, .ref h_t_plan_capture, .ref h_t_plan_display])), (h_t_plan_map, .inr (1, [.ref h_t_plan_map_parts, .int t_plan_map_count])), (h_t_plan_meanings, .inr (1, [.ref h_t_plan_meanings_parts, .int t_plan_meanings_count])), (h_t_plan_meanings_parts, .inl (cI, n_t_plan_meanings_parts, .inl f_t_plan_meanings_parts))] H → va_D A [(h_t, .inr (5, [.ref h_t_file, .ref h_t_plan, .int t_level, .int t_at, .int t_seen, .int t_outerBoxes, .int t_headAt, .int t_headEnd, .int t_resolutionEnd, .int t_toldBits, .int t_name, .int t_from, .int t_end, .int t_boxAt, .int t_streamFrom, .int t_streamCount])), (h_t_plan, .inr (3, [.int t_plan_high, .int t_plan_wide, .int t_plan_components, .int t_plan_unknown, .int t_plan_rights, .ref h_t_plan_bits, .int t_plan_colours, .int t_plan_hasProfile, .ref h_t_plan_profile, .ref h_t_plan_palette, .ref h_t_plan_map, .ref h_t_plan_meanings, .ref h_t_plan_capture, .ref h_t_plan_display])), (h_t_plan_map, .inr (1, [.ref h_t_plan_map_parts, .int t_plan_map_count])), (h_t_plan_meanings, .inr (1, [.ref h_t_plan_meanings_parts, .int t_plan_meanings_count])), (h_t_plan_meanings_parts, .inl (cI, n_t_plan_meanings_parts, .inl f_t_plan_meanings_parts))] → va_S A s.heap H locs → ∀ ls : Array Slot, lv_has ls 4 [(0, .ref h_t)] → W p l e R s m args below meth c H locs 0 0 Q (F0 m 23 ls [.int j23_s0]) := by
    intro j23_s0 E H locs hP hD hS ls hl
    refine lv_istore_n (lv' := [(1, .int j23_s0), (0, .ref h_t)]) hx hb d_Sc_endOfHead_23 rfl hl (by decide) rfl (fun ls hl => ?_)
    refine lv_aload_n hx hb d_Sc_endOfHead_24 rfl (lv_at hl 1 rfl) ?_
    refine lv_bipush (v := 8) hx hb d_Sc_endOfHead_25 (by decide) ?_
    refine kc_V (As := [.int 8]) (rest := []) (wr := [(h_t_plan, .inr (3, [.int t_plan_high, .int t_plan_wide, .int t_plan_components, .int t_plan_unknown, .int t_plan_rights, .ref h_t_plan_bits, .int t_plan_colours, .int t_plan_hasProfile, .ref h_t_plan_profile, .ref h_t_plan_palette, .ref h_t_plan_map, .ref h_t_plan_meanings, .ref h_t_plan_capture, .ref h_t_plan_display])), (h_t_plan_map, .inr (1, [.ref h_t_plan_map_parts, .int t_plan_map_count])), (h_t_plan_meanings, .inr (1, [.ref h_t_plan_meanings_parts, .int t_plan_meanings_count])), (h_t_plan_meanings_parts, .inl (cI, n_t_plan_meanings_parts, .inl f_t_plan_meanings_parts))]) [0] [1, 2, 3, 4] ⟨hx, hb, hml, hown, hta⟩ hK hN hP hD hS hA (c_Sc_was l D cB cI cJ h_t h_t_file h_t_plan t_level t_at t_seen t_outerBoxes t_headAt t_headEnd t_resolutionEnd t_toldBits t_name t_from t_end t_boxAt t_streamFrom t_streamCount 8 _) (hta _ lk_Sc_106) (hta _ ini_Sc) (hta _ code_Sc_was) code_Sc_was (hta _ inst_Sc_was) (hta _ sel_Sc_was) hd_Sc_was rfl ⟨by omega, by omega⟩ (ci := 5) 0 rfl rfl rfl rfl (by decide) (by decide) (by decide) rfl hl.1 (lv_room (Nat.le_of_ble_eq_true rfl)) d_Sc_endOfHead_27 ⟨by omega, by omega⟩ (fun v w1 H locs hw hP hD hS => ?_)
    obtain ⟨x27, hx27, rfl, rfl⟩ := hw
    have hP : va_P D classes [(h_t, .inr (5, [.ref h_t_file, .ref h_t_plan, .int t_level, .int t_at, .int t_seen, .int t_outerBoxes, .int t_headAt, .int t_headEnd, .int t_resolutionEnd, .int t_toldBits, .int t_name, .int t_from, .int t_end, .int t_boxAt, .int t_streamFrom, .int t_streamCount])), (h_t_plan, .inr (3, [.int t_plan_high, .int t_plan_wide, .int t_plan_components, .int t_plan_unknown, .int t_plan_rights, .ref h_t_plan_bits, .int t_plan_colours, .int t_plan_hasProfile, .ref h_t_plan_profile, .ref h_t_plan_palette, .ref h_t_plan_map, .ref h_t_plan_meanings, .ref h_t_plan_capture, .ref h_t_plan_display])), (h_t_plan_map, .inr (1, [.ref h_t_plan_map_parts, .int t_plan_map_count])), (h_t_plan_meanings, .inr (1, [.ref h_t_plan_meanings_parts, .int t_plan_meanings_count])), (h_t_plan_meanings_parts, .inl (cI, n_t_plan_meanings_parts, .inl f_t_plan_meanings_parts))] H := hP.sub [4, 0, 1, 2, 3] rfl
    have hD : va_D A [(h_t, .inr (5, [.ref h_t_file, .ref h_t_plan, .int t_level, .int t_at, .int t_seen, .int t_outerBoxes, .int t_headAt, .int t_headEnd, .int t_resolutionEnd, .int t_toldBits, .int t_name, .int t_from, .int t_end, .int t_boxAt, .int t_streamFrom, .int t_streamCount])), (h_t_plan, .inr (3, [.int t_plan_high, .int t_plan_wide, .int t_plan_components, .int t_plan_unknown, .int t_plan_rights, .ref h_t_plan_bits, .int t_plan_colours, .int t_plan_hasProfile, .ref h_t_plan_profile, .ref h_t_plan_palette, .ref h_t_plan_map, .ref h_t_plan_meanings, .ref h_t_plan_capture, .ref h_t_plan_display])), (h_t_plan_map, .inr (1, [.ref h_t_plan_map_parts, .int t_plan_map_count])), (h_t_plan_meanings, .inr (1, [.ref h_t_plan_meanings_parts, .int t_plan_meanings_count])), (h_t_plan_meanings_parts, .inl (cI, n_t_plan_meanings_parts, .inl f_t_plan_meanings_parts))] := hD.sub [4, 0, 1, 2, 3] (by decide) rfl
    refine W.eq (g2 := F0 m 30 ls [.int x27]) rfl ?_
    have E : k_Sc_endOfHead_27 t_seen t_plan_components t_plan_colours t_plan_hasProfile t_plan_map_count t_plan_meanings_count n_t_plan_meanings_parts f_t_plan_meanings_parts j23_s0 x27 = RES := (congrArg (k_Sc_endOfHead_27 t_seen t_plan_components t_plan_colours t_plan_hasProfile t_plan_map_count t_plan_meanings_count n_t_plan_meanings_parts f_t_plan_meanings_parts j23_s0) hx27).trans E
    have J_47 : ∀ (j47_s0 : Int32), j_Sc_endOfHead_47 t_plan_components t_plan_colours t_plan_hasProfile t_plan_map_count t_plan_meanings_count n_t_plan_meanings_parts f_t_plan_meanings_parts j23_s0 j47_s0 = RES → ∀ (H : Heap) (locs : List Loc), va_P D classes [(h_t, .inr (5, [.ref h_t_file, .ref h_t_plan, .int t_level, .int t_at, .int t_seen, .int t_outerBoxes, .int t_headAt, .int t_headEnd, .int t_resolutionEnd, .int t_toldBits, .int t_name, .int t_from, .int t_end, .int t_boxAt, .int t_streamFrom, .int t_streamCount])), (h_t_plan, .inr (3, [.int t_plan_high, .int t_plan_wide, .int t_plan_components, .int t_plan_unknown, .int t_plan_rights, .ref h_t_plan_bits, .int t_plan_colours, .int t_plan_hasProfile, .ref h_t_plan_profile, .ref h_t_plan_palette, .ref h_t_plan_map, .ref h_t_plan_meanings, .ref h_t_plan_capture, .ref h_t_plan_display])), (h_t_plan_map, .inr (1, [.ref h_t_plan_map_parts, .int t_plan_map_count])), (h_t_plan_meanings, .inr (1, [.ref h_t_plan_meanings_parts, .int t_plan_meanings_count])), (h_t_plan_meanings_parts, .inl (cI, n_t_plan_meanings_parts, .inl f_t_plan_meanings_parts))] H → va_D A [(h_t, .inr (5, [.ref h_t_file, .ref h_t_plan, .int t_level, .int t_at, .int t_seen, .int t_outerBoxes, .int t_headAt, .int t_headEnd, .int t_resolutionEnd, .int t_toldBits, .int t_name, .int t_from, .int t_end, .int t_boxAt, .int t_streamFrom, .int t_streamCount])), (h_t_plan, .inr (3, [.int t_plan_high, .int t_plan_wide, .int t_plan_components, .int t_plan_unknown, .int t_plan_rights, .ref h_t_plan_bits, .int t_plan_colours, .int t_plan_hasProfile, .ref h_t_plan_profile, .ref h_t_plan_palette, .ref h_t_plan_map, .ref h_t_plan_meanings, .ref h_t_plan_capture, .ref h_t_plan_display])), (h_t_plan_map, .inr (1, [.ref h_t_plan_map_parts, .int t_plan_map_count])), (h_t_plan_meanings, .inr (1, [.ref h_t_plan_meanings_parts, .int t_plan_meanings_count])), (h_t_plan_meanings_parts, .inl (cI, n_t_plan_meanings_parts, .inl f_t_plan_meanings_parts))] → va_S A s.heap H locs → ∀ ls : Array Slot, lv_has ls 4 [(1, .int j23_s0), (0, .ref h_t)] → W p l e R s m args below meth c H locs 0 0 Q (F0 m 47 ls [.int j47_s0]) := by
      intro j47_s0 E H locs hP hD hS ls hl
      refine lv_istore_n (lv' := [(2, .int j47_s0), (1, .int j23_s0), (0, .ref h_t)]) hx hb d_Sc_endOfHead_47 rfl hl (by decide) rfl (fun ls hl => ?_)
      refine lv_aload_n hx hb d_Sc_endOfHead_48 rfl (lv_at hl 2 rfl) ?_
      refine va_get (D := D) (v := .ref h_t_plan) hx hb hta i_Sc hown hK hP 0 rfl rfl 1 (by decide) (hta _ lk_Sc_18) (fun _ h9 => h9) rfl d_Sc_endOfHead_49 ?_
      refine kc_V (As := []) (rest := []) (wr := [(h_t, .inr (5, [.ref h_t_file, .ref h_t_plan, .int t_level, .int t_at, .int t_seen, .int t_outerBoxes, .int t_headAt, .int t_headEnd, .int t_resolutionEnd, .int t_toldBits, .int t_name, .int t_from, .int t_end, .int t_boxAt, .int t_streamFrom, .int t_streamCount])), (h_t_plan_map, .inr (1, [.ref h_t_plan_map_parts, .int t_plan_map_count])), (h_t_plan_meanings, .inr (1, [.ref h_t_plan_meanings_parts, .int t_plan_meanings_count])), (h_t_plan_meanings_parts, .inl (cI, n_t_plan_meanings_parts, .inl f_t_plan_meanings_parts))]) [1] [0, 2, 3, 4] ⟨hx, hb, hml, hown, hta⟩ hK hN hP hD hS hA (c_Pl_hasColours l D cB cI cJ h_t_plan h_t_plan_bits h_t_plan_profile h_t_plan_palette h_t_plan_map h_t_plan_meanings h_t_plan_capture h_t_plan_display t_plan_high t_plan_wide t_plan_components t_plan_unknown t_plan_rights t_plan_colours t_plan_hasProfile _) (hta _ lk_Sc_110) (hta _ ini_Pl) (hta _ code_Pl_hasColours) code_Pl_hasColours (hta _ inst_Pl_hasColours) (hta _ sel_Pl_hasColours) hd_Pl_hasColours rfl ⟨by omega, by omega⟩ (ci := 3) 1 rfl rfl rfl rfl (by decide) (by decide) (by decide) rfl hl.1 (lv_room (Nat.le_of_ble_eq_true rfl)) d_Sc_endOfHead_52 ⟨by omega, by omega⟩ (fun v w1 H locs hw hP hD hS => ?_)
      obtain ⟨x52, hx52, rfl, rfl⟩ := hw
      have hP : va_P D classes [(h_t, .inr (5, [.ref h_t_file, .ref h_t_plan, .int t_level, .int t_at, .int t_seen, .int t_outerBoxes, .int t_headAt, .int t_headEnd, .int t_resolutionEnd, .int t_toldBits, .int t_name, .int t_from, .int t_end, .int t_boxAt, .int t_streamFrom, .int t_streamCount])), (h_t_plan, .inr (3, [.int t_plan_high, .int t_plan_wide, .int t_plan_components, .int t_plan_unknown, .int t_plan_rights, .ref h_t_plan_bits, .int t_plan_colours, .int t_plan_hasProfile, .ref h_t_plan_profile, .ref h_t_plan_palette, .ref h_t_plan_map, .ref h_t_plan_meanings, .ref h_t_plan_capture, .ref h_t_plan_display])), (h_t_plan_map, .inr (1, [.ref h_t_plan_map_parts, .int t_plan_map_count])), (h_t_plan_meanings, .inr (1, [.ref h_t_plan_meanings_parts, .int t_plan_meanings_count])), (h_t_plan_meanings_parts, .inl (cI, n_t_plan_meanings_parts, .inl f_t_plan_meanings_parts))] H := hP.sub [0, 4, 1, 2, 3] rfl
      have hD : va_D A [(h_t, .inr (5, [.ref h_t_file, .ref h_t_plan, .int t_level, .int t_at, .int t_seen, .int t_outerBoxes, .int t_headAt, .int t_headEnd, .int t_resolutionEnd, .int t_toldBits, .int t_name, .int t_from, .int t_end, .int t_boxAt, .int t_streamFrom, .int t_streamCount])), (h_t_plan, .inr (3, [.int t_plan_high, .int t_plan_wide, .int t_plan_components, .int t_plan_unknown, .int t_plan_rights, .ref h_t_plan_bits, .int t_plan_colours, .int t_plan_hasProfile, .ref h_t_plan_profile, .ref h_t_plan_palette, .ref h_t_plan_map, .ref h_t_plan_meanings, .ref h_t_plan_capture, .ref h_t_plan_display])), (h_t_plan_map, .inr (1, [.ref h_t_plan_map_parts, .int t_plan_map_count])), (h_t_plan_meanings, .inr (1, [.ref h_t_plan_meanings_parts, .int t_plan_meanings_count])), (h_t_plan_meanings_parts, .inl (cI, n_t_plan_meanings_parts, .inl f_t_plan_meanings_parts))] := hD.sub [0, 4, 1, 2, 3] (by decide) rfl
      refine W.eq (g2 := F0 m 55 ls [.int x52]) rfl ?_
      have E : k_Sc_endOfHead_52 t_plan_components t_plan_map_count t_plan_meanings_count n_t_plan_meanings_parts f_t_plan_meanings_parts j23_s0 j47_s0 x52 = RES := (congrArg (k_Sc_endOfHead_52 t_plan_components t_plan_map_count t_plan_meanings_count n_t_plan_meanings_parts f_t_plan_meanings_parts j23_s0 j47_s0) hx52).trans E
      refine lv_if_eq (tgt := 66) hx hb d_Sc_endOfHead_55 (by decide) (fun c_55 => ?_) (fun c_55 => ?_)
      · have E := (if_pos c_55).symm.trans E
        refine lv_bipush (v := 6) hx hb d_Sc_endOfHead_66 (by decide) ?_
        exact kr_i hx hb hr hlk hQ hK hP hD hS ⟨(6 : Int32), E.trans E0.symm, rfl, rfl⟩ (by omega) (by omega) d_Sc_endOfHead_68
      · have E := (if_neg c_55).symm.trans E
        refine lv_iload_n hx hb d_Sc_endOfHead_58 rfl (lv_at hl 1 rfl) ?_
        refine lv_if_ne (tgt := 66) hx hb d_Sc_endOfHead_59 (by decide) (fun c_59 => ?_) (fun c_59 => ?_)
        · have E := (if_neg c_59).symm.trans E
          refine lv_bipush (v := 6) hx hb d_Sc_endOfHead_66 (by decide) ?_
          exact kr_i hx hb hr hlk hQ hK hP hD hS ⟨(6 : Int32), E.trans E0.symm, rfl, rfl⟩ (by omega) (by omega) d_Sc_endOfHead_68
        · have E := (if_pos c_59).symm.trans E
          refine lv_iload_n hx hb d_Sc_endOfHead_62 rfl (lv_at hl 0 rfl) ?_
          refine lv_if_eq (tgt := 69) hx hb d_Sc_endOfHead_63 (by decide) (fun c_63 => ?_) (fun c_63 => ?_)
          · have E := (if_pos c_63).symm.trans E
            refine lv_aload_n hx hb d_Sc_endOfHead_69 rfl (lv_at hl 2 rfl) ?_
            refine va_get (D := D) (v := .ref h_t_plan) hx hb hta i_Sc hown hK hP 0 rfl rfl 1 (by decide) (hta _ lk_Sc_18) (fun _ h9 => h9) rfl d_Sc_endOfHead_70 ?_
            refine va_get (D := D) (v := .ref h_t_plan_meanings) hx hb hta i_Pl hown hK hP 1 rfl rfl 11 (by decide) (hta _ lk_Sc_114) (fun _ h9 => h9) rfl d_Sc_endOfHead_73 ?_
            refine lv_aload_n hx hb d_Sc_endOfHead_76 rfl (lv_at hl 2 rfl) ?_
            refine va_get (D := D) (v := .ref h_t_plan) hx hb hta i_Sc hown hK hP 0 rfl rfl 1 (by decide) (hta _ lk_Sc_18) (fun _ h9 => h9) rfl d_Sc_endOfHead_77 ?_
            refine kc_V (As := []) (rest := [.ref h_t_plan_meanings]) (wr := [(h_t, .inr (5, [.ref h_t_file, .ref h_t_plan, .int t_level, .int t_at, .int t_seen, .int t_outerBoxes, .int t_headAt, .int t_headEnd, .int t_resolutionEnd, .int t_toldBits, .int t_name, .int t_from, .int t_end, .int t_boxAt, .int t_streamFrom, .int t_streamCount])), (h_t_plan_meanings, .inr (1, [.ref h_t_plan_meanings_parts, .int t_plan_meanings_count])), (h_t_plan_meanings_parts, .inl (cI, n_t_plan_meanings_parts, .inl f_t_plan_meanings_parts))]) [1, 2] [0, 3, 4] ⟨hx, hb, hml, hown, hta⟩ hK hN hP hD hS hA (c_Pl_channelCount l D cB cI cJ h_t_plan h_t_plan_bits h_t_plan_profile h_t_plan_palette h_t_plan_map h_t_plan_meanings h_t_plan_capture h_t_plan_display h_t_plan_map_parts t_plan_high t_plan_wide t_plan_components t_plan_unknown t_plan_rights t_plan_colours t_plan_hasProfile t_plan_map_count _) (hta _ lk_Sc_118) (hta _ ini_Pl) (hta _ code_Pl_channelCount) code_Pl_channelCount (hta _ inst_Pl_channelCount) (hta _ sel_Pl_channelCount) hd_Pl_channelCount rfl ⟨by omega, by omega⟩ (ci := 3) 1 rfl rfl rfl rfl (by decide) (by decide) (by decide) rfl hl.1 (lv_room (Nat.le_of_ble_eq_true rfl)) d_Sc_endOfHead_80 ⟨by omega, by omega⟩ (fun v w1 H locs hw hP hD hS => ?_)
            obtain ⟨x80, hx80, rfl, rfl⟩ := hw
            have hP : va_P D classes [(h_t, .inr (5, [.ref h_t_file, .ref h_t_plan, .int t_level, .int t_at, .int t_seen, .int t_outerBoxes, .int t_headAt, .int t_headEnd, .int t_resolutionEnd, .int t_toldBits, .int t_name, .int t_from, .int t_end, .int t_boxAt, .int t_streamFrom, .int t_streamCount])), (h_t_plan, .inr (3, [.int t_plan_high, .int t_plan_wide, .int t_plan_components, .int t_plan_unknown, .int t_plan_rights, .ref h_t_plan_bits, .int t_plan_colours, .int t_plan_hasProfile, .ref h_t_plan_profile, .ref h_t_plan_palette, .ref h_t_plan_map, .ref h_t_plan_meanings, .ref h_t_plan_capture, .ref h_t_plan_display])), (h_t_plan_map, .inr (1, [.ref h_t_plan_map_parts, .int t_plan_map_count])), (h_t_plan_meanings, .inr (1, [.ref h_t_plan_meanings_parts, .int t_plan_meanings_count])), (h_t_plan_meanings_parts, .inl (cI, n_t_plan_meanings_parts, .inl f_t_plan_meanings_parts))] H := hP.sub [0, 3, 4, 1, 2] rfl
            have hD : va_D A [(h_t, .inr (5, [.ref h_t_file, .ref h_t_plan, .int t_level, .int t_at, .int t_seen, .int t_outerBoxes, .int t_headAt, .int t_headEnd, .int t_resolutionEnd, .int t_toldBits, .int t_name, .int t_from, .int t_end, .int t_boxAt, .int t_streamFrom, .int t_streamCount])), (h_t_plan, .inr (3, [.int t_plan_high, .int t_plan_wide, .int t_plan_components, .int t_plan_unknown, .int t_plan_rights, .ref h_t_plan_bits, .int t_plan_colours, .int t_plan_hasProfile, .ref h_t_plan_profile, .ref h_t_plan_palette, .ref h_t_plan_map, .ref h_t_plan_meanings, .ref h_t_plan_capture, .ref h_t_plan_display])), (h_t_plan_map, .inr (1, [.ref h_t_plan_map_parts, .int t_plan_map_count])), (h_t_plan_meanings, .inr (1, [.ref h_t_plan_meanings_parts, .int t_plan_meanings_count])), (h_t_plan_meanings_parts, .inl (cI, n_t_plan_meanings_parts, .inl f_t_plan_meanings_parts))] := hD.sub [0, 3, 4, 1, 2] (by decide) rfl
            refine W.eq (g2 := F0 m 83 ls [.int x80, .ref h_t_plan_meanings]) rfl ?_
            have E : k_Sc_endOfHead_80 t_plan_meanings_count n_t_plan_meanings_parts f_t_plan_meanings_parts x80 = RES := (congrArg (k_Sc_endOfHead_80 t_plan_meanings_count n_t_plan_meanings_parts f_t_plan_meanings_parts) hx80).trans E
            refine kc_V (As := [.int x80]) (rest := []) (wr := [(h_t, .inr (5, [.ref h_t_file, .ref h_t_plan, .int t_level, .int t_at, .int t_seen, .int t_outerBoxes, .int t_headAt, .int t_headEnd, .int t_resolutionEnd, .int t_toldBits, .int t_name, .int t_from, .int t_end, .int t_boxAt, .int t_streamFrom, .int t_streamCount])), (h_t_plan, .inr (3, [.int t_plan_high, .int t_plan_wide, .int t_plan_components, .int t_plan_unknown, .int t_plan_rights, .ref h_t_plan_bits, .int t_plan_colours, .int t_plan_hasProfile, .ref h_t_plan_profile, .ref h_t_plan_palette, .ref h_t_plan_map, .ref h_t_plan_meanings, .ref h_t_plan_capture, .ref h_t_plan_display])), (h_t_plan_map, .inr (1, [.ref h_t_plan_map_parts, .int t_plan_map_count]))]) [3, 4] [0, 1, 2] ⟨hx, hb, hml, hown, hta⟩ hK hN hP hD hS hA (c_Li_allFirstBelow l D cB cI cJ h_t_plan_meanings h_t_plan_meanings_parts t_plan_meanings_count n_t_plan_meanings_parts f_t_plan_meanings_parts x80 hn_t_plan_meanings_parts _) (hta _ lk_Sc_121) (hta _ ini_Li) (hta _ code_Li_allFirstBelow) code_Li_allFirstBelow (hta _ inst_Li_allFirstBelow) (hta _ sel_Li_allFirstBelow) hd_Li_allFirstBelow rfl ⟨by omega, by omega⟩ (ci := 1) 3 rfl rfl rfl rfl (by decide) (by decide) (by decide) rfl hl.1 (lv_room (Nat.le_of_ble_eq_true rfl)) d_Sc_endOfHead_83 ⟨by omega, by omega⟩ (fun v w1 H locs hw hP hD hS => ?_)
            obtain ⟨x83, hx83, rfl, rfl⟩ := hw
            have hP : va_P D classes [(h_t, .inr (5, [.ref h_t_file, .ref h_t_plan, .int t_level, .int t_at, .int t_seen, .int t_outerBoxes, .int t_headAt, .int t_headEnd, .int t_resolutionEnd, .int t_toldBits, .int t_name, .int t_from, .int t_end, .int t_boxAt, .int t_streamFrom, .int t_streamCount])), (h_t_plan, .inr (3, [.int t_plan_high, .int t_plan_wide, .int t_plan_components, .int t_plan_unknown, .int t_plan_rights, .ref h_t_plan_bits, .int t_plan_colours, .int t_plan_hasProfile, .ref h_t_plan_profile, .ref h_t_plan_palette, .ref h_t_plan_map, .ref h_t_plan_meanings, .ref h_t_plan_capture, .ref h_t_plan_display])), (h_t_plan_map, .inr (1, [.ref h_t_plan_map_parts, .int t_plan_map_count])), (h_t_plan_meanings, .inr (1, [.ref h_t_plan_meanings_parts, .int t_plan_meanings_count])), (h_t_plan_meanings_parts, .inl (cI, n_t_plan_meanings_parts, .inl f_t_plan_meanings_parts))] H := hP.sub [0, 1, 2, 3, 4] rfl
            have hD : va_D A [(h_t, .inr (5, [.ref h_t_file, .ref h_t_plan, .int t_level, .int t_at, .int t_seen, .int t_outerBoxes, .int t_headAt, .int t_headEnd, .int t_resolutionEnd, .int t_toldBits, .int t_name, .int t_from, .int t_end, .int t_boxAt, .int t_streamFrom, .int t_streamCount])), (h_t_plan, .inr (3, [.int t_plan_high, .int t_plan_wide, .int t_plan_components, .int t_plan_unknown, .int t_plan_rights, .ref h_t_plan_bits, .int t_plan_colours, .int t_plan_hasProfile, .ref h_t_plan_profile, .ref h_t_plan_palette, .ref h_t_plan_map, .ref h_t_plan_meanings, .ref h_t_plan_capture, .ref h_t_plan_display])), (h_t_plan_map, .inr (1, [.ref h_t_plan_map_parts, .int t_plan_map_count])), (h_t_plan_meanings, .inr (1, [.ref h_t_plan_meanings_parts, .int t_plan_meanings_count])), (h_t_plan_meanings_parts, .inl (cI, n_t_plan_meanings_parts, .inl f_t_plan_meanings_parts))] := hD.sub [0, 1, 2, 3, 4] (by decide) rfl
            refine W.eq (g2 := F0 m 86 ls [.int x83]) rfl ?_
            have E : k_Sc_endOfHead_83 t_plan_meanings_count n_t_plan_meanings_parts f_t_plan_meanings_parts x83 = RES := (congrArg (k_Sc_endOfHead_83 t_plan_meanings_count n_t_plan_meanings_parts f_t_plan_meanings_parts) hx83).trans E
            refine lv_istore_n (lv' := [(3, .int x83), (2, .int j47_s0), (1, .int j23_s0), (0, .ref h_t)]) hx hb d_Sc_endOfHead_86 rfl hl (by decide) rfl (fun ls hl => ?_)
            refine lv_iload_n hx hb d_Sc_endOfHead_87 rfl (lv_at hl 0 rfl) ?_
            refine lv_if_eq (tgt := 108) hx hb d_Sc_endOfHead_88 (by decide) (fun c_88 => ?_) (fun c_88 => ?_)
            · have E := (if_pos c_88).symm.trans E
              refine lv_iconst (v := 5) hx hb d_Sc_endOfHead_108 (by decide) ?_
              exact kr_i hx hb hr hlk hQ hK hP hD hS ⟨(5 : Int32), E.trans E0.symm, rfl, rfl⟩ (by omega) (by omega) d_Sc_endOfHead_109
            · have E := (if_neg c_88).symm.trans E
              refine lv_aload_n hx hb d_Sc_endOfHead_91 rfl (lv_at hl 3 rfl) ?_
              refine va_get (D := D) (v := .ref h_t_plan) hx hb hta i_Sc hown hK hP 0 rfl rfl 1 (by decide) (hta _ lk_Sc_18) (fun _ h9 => h9) rfl d_Sc_endOfHead_92 ?_
              refine va_get (D := D) (v := .ref h_t_plan_meanings) hx hb hta i_Pl hown hK hP 1 rfl rfl 11 (by decide) (hta _ lk_Sc_114) (fun _ h9 => h9) rfl d_Sc_endOfHead_95 ?_
              refine kc_V (As := []) (rest := []) (wr := [(h_t, .inr (5, [.ref h_t_file, .ref h_t_plan, .int t_level, .int t_at, .int t_seen, .int t_outerBoxes, .int t_headAt, .int t_headEnd, .int t_resolutionEnd, .int t_toldBits, .int t_name, .int t_from, .int t_end, .int t_boxAt, .int t_streamFrom, .int t_streamCount])), (h_t_plan, .inr (3, [.int t_plan_high, .int t_plan_wide, .int t_plan_components, .int t_plan_unknown, .int t_plan_rights, .ref h_t_plan_bits, .int t_plan_colours, .int t_plan_hasProfile, .ref h_t_plan_profile, .ref h_t_plan_palette, .ref h_t_plan_map, .ref h_t_plan_meanings, .ref h_t_plan_capture, .ref h_t_plan_display])), (h_t_plan_map, .inr (1, [.ref h_t_plan_map_parts, .int t_plan_map_count]))]) [3, 4] [0, 1, 2] ⟨hx, hb, hml, hown, hta⟩ hK hN hP hD hS hA (c_Li_someFirstTwice l D cB cI cJ h_t_plan_meanings h_t_plan_meanings_parts t_plan_meanings_count n_t_plan_meanings_parts f_t_plan_meanings_parts hn_t_plan_meanings_parts _) (hta _ lk_Sc_126) (hta _ ini_Li) (hta _ code_Li_someFirstTwice) code_Li_someFirstTwice (hta _ inst_Li_someFirstTwice) (hta _ sel_Li_someFirstTwice) hd_Li_someFirstTwice rfl ⟨by omega, by omega⟩ (ci := 1) 3 rfl rfl rfl rfl (by decide) (by decide) (by decide) rfl hl.1 (lv_room (Nat.le_of_ble_eq_true rfl)) d_Sc_endOfHead_98 ⟨by omega, by omega⟩ (fun v w1 H locs hw hP hD hS => ?_)
              obtain ⟨x98, hx98, rfl, rfl⟩ := hw
              have hP : va_P D classes [(h_t, .inr (5, [.ref h_t_file, .ref h_t_plan, .int t_level, .int t_at, .int t_seen, .int t_outerBoxes, .int t_headAt, .int t_headEnd, .int t_resolutionEnd, .int t_toldBits, .int t_name, .int t_from, .int t_end, .int t_boxAt, .int t_streamFrom, .int t_streamCount])), (h_t_plan, .inr (3, [.int t_plan_high, .int t_plan_wide, .int t_plan_components, .int t_plan_unknown, .int t_plan_rights, .ref h_t_plan_bits, .int t_plan_colours, .int t_plan_hasProfile, .ref h_t_plan_profile, .ref h_t_plan_palette, .ref h_t_plan_map, .ref h_t_plan_meanings, .ref h_t_plan_capture, .ref h_t_plan_display])), (h_t_plan_map, .inr (1, [.ref h_t_plan_map_parts, .int t_plan_map_count])), (h_t_plan_meanings, .inr (1, [.ref h_t_plan_meanings_parts, .int t_plan_meanings_count])), (h_t_plan_meanings_parts, .inl (cI, n_t_plan_meanings_parts, .inl f_t_plan_meanings_parts))] H := hP.sub [0, 1, 2, 3, 4] rfl
              have hD : va_D A [(h_t, .inr (5, [.ref h_t_file, .ref h_t_plan, .int t_level, .int t_at, .int t_seen, .int t_outerBoxes, .int t_headAt, .int t_headEnd, .int t_resolutionEnd, .int t_toldBits, .int t_name, .int t_from, .int t_end, .int t_boxAt, .int t_streamFrom, .int t_streamCount])), (h_t_plan, .inr (3, [.int t_plan_high, .int t_plan_wide, .int t_plan_components, .int t_plan_unknown, .int t_plan_rights, .ref h_t_plan_bits, .int t_plan_colours, .int t_plan_hasProfile, .ref h_t_plan_profile, .ref h_t_plan_palette, .ref h_t_plan_map, .ref h_t_plan_meanings, .ref h_t_plan_capture, .ref h_t_plan_display])), (h_t_plan_map, .inr (1, [.ref h_t_plan_map_parts, .int t_plan_map_count])), (h_t_plan_meanings, .inr (1, [.ref h_t_plan_meanings_parts, .int t_plan_meanings_count])), (h_t_plan_meanings_parts, .inl (cI, n_t_plan_meanings_parts, .inl f_t_plan_meanings_parts))] := hD.sub [0, 1, 2, 3, 4] (by decide) rfl
              refine W.eq (g2 := F0 m 101 ls [.int x98]) rfl ?_
              have E : k_Sc_endOfHead_98 x98 = RES := (congrArg (k_Sc_endOfHead_98) hx98).trans E
              refine lv_if_ne (tgt := 108) hx hb d_Sc_endOfHead_101 (by decide) (fun c_101 => ?_) (fun c_101 => ?_)
              · have E := (if_neg c_101).symm.trans E
                refine lv_iconst (v := 5) hx hb d_Sc_endOfHead_108 (by decide) ?_
                exact kr_i hx hb hr hlk hQ hK hP hD hS ⟨(5 : Int32), E.trans E0.symm, rfl, rfl⟩ (by omega) (by omega) d_Sc_endOfHead_109
              · have E := (if_pos c_101).symm.trans E
                refine lv_iconst (v := 0) hx hb d_Sc_endOfHead_104 (by decide) ?_
                refine lv_goto (tgt := 109) hx hb d_Sc_endOfHead_105 (by decide) ?_
                exact kr_i hx hb hr hlk hQ hK hP hD hS ⟨(0 : Int32), E.trans E0.symm, rfl, rfl⟩ (by omega) (by omega) d_Sc_endOfHead_109
          · have E := (if_neg c_63).symm.trans E
            refine lv_bipush (v := 6) hx hb d_Sc_endOfHead_66 (by decide) ?_
            exact kr_i hx hb hr hlk hQ hK hP hD hS ⟨(6 : Int32), E.trans E0.symm, rfl, rfl⟩ (by omega) (by omega) d_Sc_endOfHead_68
    have J_46 : j_Sc_endOfHead_46 t_plan_components t_plan_colours t_plan_hasProfile t_plan_map_count t_plan_meanings_count n_t_plan_meanings_parts f_t_plan_meanings_parts j23_s0 = RES → ∀ (H : Heap) (locs : List Loc), va_P D classes [(h_t, .inr (5, [.ref h_t_file, .ref h_t_plan, .int t_level, .int t_at, .int t_seen, .int t_outerBoxes, .int t_headAt, .int t_headEnd, .int t_resolutionEnd, .int t_toldBits, .int t_name, .int t_from, .int t_end, .int t_boxAt, .int t_streamFrom, .int t_streamCount])), (h_t_plan, .inr (3, [.int t_plan_high, .int t_plan_wide, .int t_plan_components, .int t_plan_unknown, .int t_plan_rights, .ref h_t_plan_bits, .int t_plan_colours, .int t_plan_hasProfile, .ref h_t_plan_profile, .ref h_t_plan_palette, .ref h_t_plan_map, .ref h_t_plan_meanings, .ref h_t_plan_capture, .ref h_t_plan_display])), (h_t_plan_map, .inr (1, [.ref h_t_plan_map_parts, .int t_plan_map_count])), (h_t_plan_meanings, .inr (1, [.ref h_t_plan_meanings_parts, .int t_plan_meanings_count])), (h_t_plan_meanings_parts, .inl (cI, n_t_plan_meanings_parts, .inl f_t_plan_meanings_parts))] H → va_D A [(h_t, .inr (5, [.ref h_t_file, .ref h_t_plan, .int t_level, .int t_at, .int t_seen, .int t_outerBoxes, .int t_headAt, .int t_headEnd, .int t_resolutionEnd, .int t_toldBits, .int t_name, .int t_from, .int t_end, .int t_boxAt, .int t_streamFrom, .int t_streamCount])), (h_t_plan, .inr (3, [.int t_plan_high, .int t_plan_wide, .int t_plan_components, .int t_plan_unknown, .int t_plan_rights, .ref h_t_plan_bits, .int t_plan_colours, .int t_plan_hasProfile, .ref h_t_plan_profile, .ref h_t_plan_palette, .ref h_t_plan_map, .ref h_t_plan_meanings, .ref h_t_plan_capture, .ref h_t_plan_display])), (h_t_plan_map, .inr (1, [.ref h_t_plan_map_parts, .int t_plan_map_count])), (h_t_plan_meanings, .inr (1, [.ref h_t_plan_meanings_parts, .int t_plan_meanings_count])), (h_t_plan_meanings_parts, .inl (cI, n_t_plan_meanings_parts, .inl f_t_plan_meanings_parts))] → va_S A s.heap H locs → ∀ ls : Array Slot, lv_has ls 4 [(1, .int j23_s0), (0, .ref h_t)] → W p l e R s m args below meth c H locs 0 0 Q (F0 m 46 ls []) := by
      intro E H locs hP hD hS ls hl
      refine lv_iconst (v := 0) hx hb d_Sc_endOfHead_46 (by decide) ?_
      exact J_47 0 E _ _ hP hD hS ls (lv_sub hl [0, 1] rfl)
    refine lv_if_eq (tgt := 46) hx hb d_Sc_endOfHead_30 (by decide) (fun c_30 => ?_) (fun c_30 => ?_)
    · have E := (if_pos c_30).symm.trans E
      exact J_46  E _ _ hP hD hS ls (lv_sub hl [0, 1] rfl)
    · have E := (if_neg c_30).symm.trans E
      refine lv_aload_n hx hb d_Sc_endOfHead_33 rfl (lv_at hl 1 rfl) ?_
      refine lv_bipush (v := 16) hx hb d_Sc_endOfHead_34 (by decide) ?_
      refine kc_V (As := [.int 16]) (rest := []) (wr := [(h_t_plan, .inr (3, [.int t_plan_high, .int t_plan_wide, .int t_plan_components, .int t_plan_unknown, .int t_plan_rights, .ref h_t_plan_bits, .int t_plan_colours, .int t_plan_hasProfile, .ref h_t_plan_profile, .ref h_t_plan_palette, .ref h_t_plan_map, .ref h_t_plan_meanings, .ref h_t_plan_capture, .ref h_t_plan_display])), (h_t_plan_map, .inr (1, [.ref h_t_plan_map_parts, .int t_plan_map_count])), (h_t_plan_meanings, .inr (1, [.ref h_t_plan_meanings_parts, .int t_plan_meanings_count])), (h_t_plan_meanings_parts, .inl (cI, n_t_plan_meanings_parts, .inl f_t_plan_meanings_parts))]) [0] [1, 2, 3, 4] ⟨hx, hb, hml, hown, hta⟩ hK hN hP hD hS hA (c_Sc_was l D cB cI cJ h_t h_t_file h_t_plan t_level t_at t_seen t_outerBoxes t_headAt t_headEnd t_resolutionEnd t_toldBits t_name t_from t_end t_boxAt t_streamFrom t_streamCount 16 _) (hta _ lk_Sc_106) (hta _ ini_Sc) (hta _ code_Sc_was) code_Sc_was (hta _ inst_Sc_was) (hta _ sel_Sc_was) hd_Sc_was rfl ⟨by omega, by omega⟩ (ci := 5) 0 rfl rfl rfl rfl (by decide) (by decide) (by decide) rfl hl.1 (lv_room (Nat.le_of_ble_eq_true rfl)) d_Sc_endOfHead_36 ⟨by omega, by omega⟩ (fun v w1 H locs hw hP hD hS => ?_)
      obtain ⟨x36, hx36, rfl, rfl⟩ := hw
      have hP : va_P D classes [(h_t, .inr (5, [.ref h_t_file, .ref h_t_plan, .int t_level, .int t_at, .int t_seen, .int t_outerBoxes, .int t_headAt, .int t_headEnd, .int t_resolutionEnd, .int t_toldBits, .int t_name, .int t_from, .int t_end, .int t_boxAt, .int t_streamFrom, .int t_streamCount])), (h_t_plan, .inr (3, [.int t_plan_high, .int t_plan_wide, .int t_plan_components, .int t_plan_unknown, .int t_plan_rights, .ref h_t_plan_bits, .int t_plan_colours, .int t_plan_hasProfile, .ref h_t_plan_profile, .ref h_t_plan_palette, .ref h_t_plan_map, .ref h_t_plan_meanings, .ref h_t_plan_capture, .ref h_t_plan_display])), (h_t_plan_map, .inr (1, [.ref h_t_plan_map_parts, .int t_plan_map_count])), (h_t_plan_meanings, .inr (1, [.ref h_t_plan_meanings_parts, .int t_plan_meanings_count])), (h_t_plan_meanings_parts, .inl (cI, n_t_plan_meanings_parts, .inl f_t_plan_meanings_parts))] H := hP.sub [4, 0, 1, 2, 3] rfl
      have hD : va_D A [(h_t, .inr (5, [.ref h_t_file, .ref h_t_plan, .int t_level, .int t_at, .int t_seen, .int t_outerBoxes, .int t_headAt, .int t_headEnd, .int t_resolutionEnd, .int t_toldBits, .int t_name, .int t_from, .int t_end, .int t_boxAt, .int t_streamFrom, .int t_streamCount])), (h_t_plan, .inr (3, [.int t_plan_high, .int t_plan_wide, .int t_plan_components, .int t_plan_unknown, .int t_plan_rights, .ref h_t_plan_bits, .int t_plan_colours, .int t_plan_hasProfile, .ref h_t_plan_profile, .ref h_t_plan_palette, .ref h_t_plan_map, .ref h_t_plan_meanings, .ref h_t_plan_capture, .ref h_t_plan_display])), (h_t_plan_map, .inr (1, [.ref h_t_plan_map_parts, .int t_plan_map_count])), (h_t_plan_meanings, .inr (1, [.ref h_t_plan_meanings_parts, .int t_plan_meanings_count])), (h_t_plan_meanings_parts, .inl (cI, n_t_plan_meanings_parts, .inl f_t_plan_meanings_parts))] := hD.sub [4, 0, 1, 2, 3] (by decide) rfl
      refine W.eq (g2 := F0 m 39 ls [.int x36]) rfl ?_
      have E : k_Sc_endOfHead_36 t_plan_components t_plan_colours t_plan_hasProfile t_plan_map_count t_plan_meanings_count n_t_plan_meanings_parts f_t_plan_meanings_parts j23_s0 x36 = RES := (congrArg (k_Sc_endOfHead_36 t_plan_components t_plan_colours t_plan_hasProfile t_plan_map_count t_plan_meanings_count n_t_plan_meanings_parts f_t_plan_meanings_parts j23_s0) hx36).trans E
      refine lv_if_ne (tgt := 46) hx hb d_Sc_endOfHead_39 (by decide) (fun c_39 => ?_) (fun c_39 => ?_)
      · have E := (if_neg c_39).symm.trans E
        exact J_46  E _ _ hP hD hS ls (lv_sub hl [0, 1] rfl)
      · have E := (if_pos c_39).symm.trans E
        refine lv_iconst (v := 1) hx hb d_Sc_endOfHead_42 (by decide) ?_
        refine lv_goto (tgt := 47) hx hb d_Sc_endOfHead_43 (by decide) ?_
        exact J_47 1 E _ _ hP hD hS ls (lv_sub hl [0, 1] rfl)
  have J_22 : j_Sc_endOfHead_22 t_seen t_plan_components t_plan_colours t_plan_hasProfile t_plan_map_count t_plan_meanings_count n_t_plan_meanings_parts f_t_plan_meanings_parts = RES → ∀ (H : Heap) (locs : List Loc), va_P D classes [(h_t, .inr (5, [.ref h_t_file, .ref h_t_plan, .int t_level, .int t_at, .int t_seen, .int t_outerBoxes, .int t_headAt, .int t_headEnd, .int t_resolutionEnd, .int t_toldBits, .int t_name, .int t_from, .int t_end, .int t_boxAt, .int t_streamFrom, .int t_streamCount])), (h_t_plan, .inr (3, [.int t_plan_high, .int t_plan_wide, .int t_plan_components, .int t_plan_unknown, .int t_plan_rights, .ref h_t_plan_bits, .int t_plan_colours, .int t_plan_hasProfile, .ref h_t_plan_profile, .ref h_t_plan_palette, .ref h_t_plan_map, .ref h_t_plan_meanings, .ref h_t_plan_capture, .ref h_t_plan_display])), (h_t_plan_map, .inr (1, [.ref h_t_plan_map_parts, .int t_plan_map_count])), (h_t_plan_meanings, .inr (1, [.ref h_t_plan_meanings_parts, .int t_plan_meanings_count])), (h_t_plan_meanings_parts, .inl (cI, n_t_plan_meanings_parts, .inl f_t_plan_meanings_parts))] H → va_D A [(h_t, .inr (5, [.ref h_t_file, .ref h_t_plan, .int t_level, .int t_at, .int t_seen, .int t_outerBoxes, .int t_headAt, .int t_headEnd, .int t_resolutionEnd, .int t_toldBits, .int t_name, .int t_from, .int t_end, .int t_boxAt, .int t_streamFrom, .int t_streamCount])), (h_t_plan, .inr (3, [.int t_plan_high, .int t_plan_wide, .int t_plan_components, .int t_plan_unknown, .int t_plan_rights, .ref h_t_plan_bits, .int t_plan_colours, .int t_plan_hasProfile, .ref h_t_plan_profile, .ref h_t_plan_palette, .ref h_t_plan_map, .ref h_t_plan_meanings, .ref h_t_plan_capture, .ref h_t_plan_display])), (h_t_plan_map, .inr (1, [.ref h_t_plan_map_parts, .int t_plan_map_count])), (h_t_plan_meanings, .inr (1, [.ref h_t_plan_meanings_parts, .int t_plan_meanings_count])), (h_t_plan_meanings_parts, .inl (cI, n_t_plan_meanings_parts, .inl f_t_plan_meanings_parts))] → va_S A s.heap H locs → ∀ ls : Array Slot, lv_has ls 4 [(0, .ref h_t)] → W p l e R s m args below meth c H locs 0 0 Q (F0 m 22 ls []) := by
    intro E H locs hP hD hS ls hl
    refine lv_iconst (v := 0) hx hb d_Sc_endOfHead_22 (by decide) ?_
    exact J_23 0 E _ _ hP hD hS ls (lv_sub hl [0] rfl)
  refine lv_icmp_ne (tgt := 22) hx hb d_Sc_endOfHead_7 (by decide) (fun c_7 => ?_) (fun c_7 => ?_)
  · have E := (if_neg c_7).symm.trans E
    exact J_22  E _ _ hP hD hS ls (lv_sub hl [0] rfl)
  · have E := (if_pos c_7).symm.trans E
    refine lv_aload_n hx hb d_Sc_endOfHead_10 rfl (lv_at hl 0 rfl) ?_
    refine lv_iconst (v := 4) hx hb d_Sc_endOfHead_11 (by decide) ?_
    refine kc_V (As := [.int 4]) (rest := []) (wr := [(h_t_plan, .inr (3, [.int t_plan_high, .int t_plan_wide, .int t_plan_components, .int t_plan_unknown, .int t_plan_rights, .ref h_t_plan_bits, .int t_plan_colours, .int t_plan_hasProfile, .ref h_t_plan_profile, .ref h_t_plan_palette, .ref h_t_plan_map, .ref h_t_plan_meanings, .ref h_t_plan_capture, .ref h_t_plan_display])), (h_t_plan_map, .inr (1, [.ref h_t_plan_map_parts, .int t_plan_map_count])), (h_t_plan_meanings, .inr (1, [.ref h_t_plan_meanings_parts, .int t_plan_meanings_count])), (h_t_plan_meanings_parts, .inl (cI, n_t_plan_meanings_parts, .inl f_t_plan_meanings_parts))]) [0] [1, 2, 3, 4] ⟨hx, hb, hml, hown, hta⟩ hK hN hP hD hS hA (c_Sc_was l D cB cI cJ h_t h_t_file h_t_plan t_level t_at t_seen t_outerBoxes t_headAt t_headEnd t_resolutionEnd t_toldBits t_name t_from t_end t_boxAt t_streamFrom t_streamCount 4 _) (hta _ lk_Sc_106) (hta _ ini_Sc) (hta _ code_Sc_was) code_Sc_was (hta _ inst_Sc_was) (hta _ sel_Sc_was) hd_Sc_was rfl ⟨by omega, by omega⟩ (ci := 5) 0 rfl rfl rfl rfl (by decide) (by decide) (by decide) rfl hl.1 (lv_room (Nat.le_of_ble_eq_true rfl)) d_Sc_endOfHead_12 ⟨by omega, by omega⟩ (fun v w1 H locs hw hP hD hS => ?_)
    obtain ⟨x12, hx12, rfl, rfl⟩ := hw
    have hP : va_P D classes [(h_t, .inr (5, [.ref h_t_file, .ref h_t_plan, .int t_level, .int t_at, .int t_seen, .int t_outerBoxes, .int t_headAt, .int t_headEnd, .int t_resolutionEnd, .int t_toldBits, .int t_name, .int t_from, .int t_end, .int t_boxAt, .int t_streamFrom, .int t_streamCount])), (h_t_plan, .inr (3, [.int t_plan_high, .int t_plan_wide, .int t_plan_components, .int t_plan_unknown, .int t_plan_rights, .ref h_t_plan_bits, .int t_plan_colours, .int t_plan_hasProfile, .ref h_t_plan_profile, .ref h_t_plan_palette, .ref h_t_plan_map, .ref h_t_plan_meanings, .ref h_t_plan_capture, .ref h_t_plan_display])), (h_t_plan_map, .inr (1, [.ref h_t_plan_map_parts, .int t_plan_map_count])), (h_t_plan_meanings, .inr (1, [.ref h_t_plan_meanings_parts, .int t_plan_meanings_count])), (h_t_plan_meanings_parts, .inl (cI, n_t_plan_meanings_parts, .inl f_t_plan_meanings_parts))] H := hP.sub [4, 0, 1, 2, 3] rfl
    have hD : va_D A [(h_t, .inr (5, [.ref h_t_file, .ref h_t_plan, .int t_level, .int t_at, .int t_seen, .int t_outerBoxes, .int t_headAt, .int t_headEnd, .int t_resolutionEnd, .int t_toldBits, .int t_name, .int t_from, .int t_end, .int t_boxAt, .int t_streamFrom, .int t_streamCount])), (h_t_plan, .inr (3, [.int t_plan_high, .int t_plan_wide, .int t_plan_components, .int t_plan_unknown, .int t_plan_rights, .ref h_t_plan_bits, .int t_plan_colours, .int t_plan_hasProfile, .ref h_t_plan_profile, .ref h_t_plan_palette, .ref h_t_plan_map, .ref h_t_plan_meanings, .ref h_t_plan_capture, .ref h_t_plan_display])), (h_t_plan_map, .inr (1, [.ref h_t_plan_map_parts, .int t_plan_map_count])), (h_t_plan_meanings, .inr (1, [.ref h_t_plan_meanings_parts, .int t_plan_meanings_count])), (h_t_plan_meanings_parts, .inl (cI, n_t_plan_meanings_parts, .inl f_t_plan_meanings_parts))] := hD.sub [4, 0, 1, 2, 3] (by decide) rfl
    refine W.eq (g2 := F0 m 15 ls [.int x12]) rfl ?_
    have E : k_Sc_endOfHead_12 t_seen t_plan_components t_plan_colours t_plan_hasProfile t_plan_map_count t_plan_meanings_count n_t_plan_meanings_parts f_t_plan_meanings_parts x12 = RES := (congrArg (k_Sc_endOfHead_12 t_seen t_plan_components t_plan_colours t_plan_hasProfile t_plan_map_count t_plan_meanings_count n_t_plan_meanings_parts f_t_plan_meanings_parts) hx12).trans E
    refine lv_if_ne (tgt := 22) hx hb d_Sc_endOfHead_15 (by decide) (fun c_15 => ?_) (fun c_15 => ?_)
    · have E := (if_neg c_15).symm.trans E
      exact J_22  E _ _ hP hD hS ls (lv_sub hl [0] rfl)
    · have E := (if_pos c_15).symm.trans E
      refine lv_iconst (v := 1) hx hb d_Sc_endOfHead_18 (by decide) ?_
      refine lv_goto (tgt := 23) hx hb d_Sc_endOfHead_19 (by decide) ?_
      exact J_23 1 E _ _ hP hD hS ls (lv_sub hl [0] rfl)
theorem d_Sc_leave_0 : decode b_Sc_leave 0 = .ok (.aload_n 0, 1) := by decide +kernel
theorem d_Sc_leave_1 : decode b_Sc_leave 1 = .ok (.getfield 25, 3) := by decide +kernel
theorem d_Sc_leave_4 : decode b_Sc_leave 4 = .ok (.iconst 2, 1) := by decide +kernel
theorem d_Sc_leave_5 : decode b_Sc_leave 5 = .ok (.if_icmp .ne 10, 3) := by decide +kernel
theorem d_Sc_leave_8 : decode b_Sc_leave 8 = .ok (.aload_n 0, 1) := by decide +kernel
theorem d_Sc_leave_9 : decode b_Sc_leave 9 = .ok (.iconst 1, 1) := by decide +kernel
theorem d_Sc_leave_10 : decode b_Sc_leave 10 = .ok (.putfield 25, 3) := by decide +kernel
theorem d_Sc_leave_13 : decode b_Sc_leave 13 = .ok (.iconst 0, 1) := by decide +kernel
theorem d_Sc_leave_14 : decode b_Sc_leave 14 = .ok (.ireturn, 1) := by decide +kernel
theorem d_Sc_leave_15 : decode b_Sc_leave 15 = .ok (.aload_n 0, 1) := by decide +kernel
theorem d_Sc_leave_16 : decode b_Sc_leave 16 = .ok (.getfield 25, 3) := by decide +kernel
theorem d_Sc_leave_19 : decode b_Sc_leave 19 = .ok (.iconst 1, 1) := by decide +kernel
theorem d_Sc_leave_20 : decode b_Sc_leave 20 = .ok (.if_icmp .ne 21, 3) := by decide +kernel
theorem d_Sc_leave_23 : decode b_Sc_leave 23 = .ok (.aload_n 0, 1) := by decide +kernel
theorem d_Sc_leave_24 : decode b_Sc_leave 24 = .ok (.iconst 0, 1) := by decide +kernel
theorem d_Sc_leave_25 : decode b_Sc_leave 25 = .ok (.putfield 25, 3) := by decide +kernel
theorem d_Sc_leave_28 : decode b_Sc_leave 28 = .ok (.aload_n 0, 1) := by decide +kernel
theorem d_Sc_leave_29 : decode b_Sc_leave 29 = .ok (.aload_n 0, 1) := by decide +kernel
theorem d_Sc_leave_30 : decode b_Sc_leave 30 = .ok (.getfield 97, 3) := by decide +kernel
theorem d_Sc_leave_33 : decode b_Sc_leave 33 = .ok (.putfield 65, 3) := by decide +kernel
theorem d_Sc_leave_36 : decode b_Sc_leave 36 = .ok (.aload_n 0, 1) := by decide +kernel
theorem d_Sc_leave_37 : decode b_Sc_leave 37 = .ok (.invokevirtual 100, 3) := by decide +kernel
theorem d_Sc_leave_40 : decode b_Sc_leave 40 = .ok (.ireturn, 1) := by decide +kernel
theorem d_Sc_leave_41 : decode b_Sc_leave 41 = .ok (.aload_n 0, 1) := by decide +kernel
theorem d_Sc_leave_42 : decode b_Sc_leave 42 = .ok (.iconst 3, 1) := by decide +kernel
theorem d_Sc_leave_43 : decode b_Sc_leave 43 = .ok (.putfield 25, 3) := by decide +kernel
theorem d_Sc_leave_46 : decode b_Sc_leave 46 = .ok (.aload_n 0, 1) := by decide +kernel
theorem d_Sc_leave_47 : decode b_Sc_leave 47 = .ok (.aload_n 0, 1) := by decide +kernel
theorem d_Sc_leave_48 : decode b_Sc_leave 48 = .ok (.getfield 9, 3) := by decide +kernel
theorem d_Sc_leave_51 : decode b_Sc_leave 51 = .ok (.getfield 54, 3) := by decide +kernel
theorem d_Sc_leave_54 : decode b_Sc_leave 54 = .ok (.putfield 65, 3) := by decide +kernel
theorem d_Sc_leave_57 : decode b_Sc_leave 57 = .ok (.aload_n 0, 1) := by decide +kernel
theorem d_Sc_leave_58 : decode b_Sc_leave 58 = .ok (.getfield 38, 3) := by decide +kernel
theorem d_Sc_leave_61 : decode b_Sc_leave 61 = .ok (.ifCond .ge 8, 3) := by decide +kernel
theorem d_Sc_leave_64 : decode b_Sc_leave 64 = .ok (.bipush 6, 2) := by decide +kernel
theorem d_Sc_leave_66 : decode b_Sc_leave 66 = .ok (.goto 4, 3) := by decide +kernel
theorem d_Sc_leave_69 : decode b_Sc_leave 69 = .ok (.iconst 0, 1) := by decide +kernel
theorem d_Sc_leave_70 : decode b_Sc_leave 70 = .ok (.ireturn, 1) := by decide +kernel
def k_Sc_leave_37 (t_headAt : Int32) (x37 : Int32) : Int32 × Int32 × Int32 :=
  (x37, 0, t_headAt)
def m_Sc_leave (t_level : Int32) (t_seen : Int32) (t_headAt : Int32) (t_toldBits : Int32) (t_boxAt : Int32) (t_streamFrom : Int32) (t_plan_components : Int32) (t_plan_colours : Int32) (t_plan_hasProfile : Int32) (t_plan_map_count : Int32) (t_plan_meanings_count : Int32) (n_t_plan_meanings_parts : Nat) (f_t_plan_meanings_parts : Nat → Int32) (t_file_count : Int32) : Int32 × Int32 × Int32 :=
  if t_level = 2 then (0, 1, t_boxAt) else (if t_level = 1 then (k_Sc_leave_37 t_headAt (m_Sc_endOfHead t_seen t_toldBits t_plan_components t_plan_colours t_plan_hasProfile t_plan_map_count t_plan_meanings_count n_t_plan_meanings_parts f_t_plan_meanings_parts)) else (if 0 ≤ t_streamFrom then (0, 3, t_file_count) else (6, 3, t_file_count)))
set_option maxHeartbeats 4000000 in
set_option maxRecDepth 100000 in
theorem c_Sc_leave (l : Launch) (D : va_G) (cB cI cJ : ClassId) (h_t h_t_file h_t_plan h_t_plan_bits h_t_plan_profile h_t_plan_palette h_t_plan_map h_t_plan_meanings h_t_plan_capture h_t_plan_display h_t_plan_map_parts h_t_plan_meanings_parts h_t_file_row : Nat) (t_level : Int32) (t_at : Int32) (t_seen : Int32) (t_outerBoxes : Int32) (t_headAt : Int32) (t_headEnd : Int32) (t_resolutionEnd : Int32) (t_toldBits : Int32) (t_name : Int32) (t_from : Int32) (t_end : Int32) (t_boxAt : Int32) (t_streamFrom : Int32) (t_streamCount : Int32) (t_plan_high : Int32) (t_plan_wide : Int32) (t_plan_components : Int32) (t_plan_unknown : Int32) (t_plan_rights : Int32) (t_plan_colours : Int32) (t_plan_hasProfile : Int32) (t_plan_map_count : Int32) (t_plan_meanings_count : Int32) (n_t_plan_meanings_parts : Nat) (f_t_plan_meanings_parts : Nat → Int32) (t_file_most : Int32) (t_file_count : Int32) (hn_t_plan_meanings_parts : n_t_plan_meanings_parts < 2147483648) (sz : Nat) : Ct l D cB cI cJ y_Sc_leave b_Sc_leave 1 (some .int) 4 88 0 0 [.ref h_t] [(h_t, .inr (5, [.ref h_t_file, .ref h_t_plan, .int t_level, .int t_at, .int t_seen, .int t_outerBoxes, .int t_headAt, .int t_headEnd, .int t_resolutionEnd, .int t_toldBits, .int t_name, .int t_from, .int t_end, .int t_boxAt, .int t_streamFrom, .int t_streamCount])), (h_t_plan, .inr (3, [.int t_plan_high, .int t_plan_wide, .int t_plan_components, .int t_plan_unknown, .int t_plan_rights, .ref h_t_plan_bits, .int t_plan_colours, .int t_plan_hasProfile, .ref h_t_plan_profile, .ref h_t_plan_palette, .ref h_t_plan_map, .ref h_t_plan_meanings, .ref h_t_plan_capture, .ref h_t_plan_display])), (h_t_plan_map, .inr (1, [.ref h_t_plan_map_parts, .int t_plan_map_count])), (h_t_plan_meanings, .inr (1, [.ref h_t_plan_meanings_parts, .int t_plan_meanings_count])), (h_t_plan_meanings_parts, .inl (cI, n_t_plan_meanings_parts, .inl f_t_plan_meanings_parts)), (h_t_file, .inr (0, [.int t_file_most, .ref h_t_file_row, .int t_file_count]))] (fun v w1 => ∃ (x : Int32 × Int32 × Int32), x = m_Sc_leave t_level t_seen t_headAt t_toldBits t_boxAt t_streamFrom t_plan_components t_plan_colours t_plan_hasProfile t_plan_map_count t_plan_meanings_count n_t_plan_meanings_parts f_t_plan_meanings_parts t_file_count ∧ v = some (.int x.1) ∧ w1 = [(h_t, .inr (5, [.ref h_t_file, .ref h_t_plan, .int x.2.1, .int t_at, .int t_seen, .int t_outerBoxes, .int t_headAt, .int t_headEnd, .int t_resolutionEnd, .int t_toldBits, .int t_name, .int t_from, .int t_end, .int x.2.2, .int t_streamFrom, .int t_streamCount])), (h_t_plan, .inr (3, [.int t_plan_high, .int t_plan_wide, .int t_plan_components, .int t_plan_unknown, .int t_plan_rights, .ref h_t_plan_bits, .int t_plan_colours, .int t_plan_hasProfile, .ref h_t_plan_profile, .ref h_t_plan_palette, .ref h_t_plan_map, .ref h_t_plan_meanings, .ref h_t_plan_capture, .ref h_t_plan_display])), (h_t_plan_map, .inr (1, [.ref h_t_plan_map_parts, .int t_plan_map_count])), (h_t_plan_meanings, .inr (1, [.ref h_t_plan_meanings_parts, .int t_plan_meanings_count])), (h_t_plan_meanings_parts, .inl (cI, n_t_plan_meanings_parts, .inl f_t_plan_meanings_parts)), (h_t_file, .inr (0, [.int t_file_most, .ref h_t_file_row, .int t_file_count]))]) sz := by
  refine Ct.of (by decide) (Nat.le_of_ble_eq_true rfl) ?_
  intro p e R s m args below meth c A ls Q hx hb hr hlk hml hta hown hin hK hN hA hRf hRl hRc hRs hP hD hS hl hQ
  have hl : lv_has ls 1 [(0, .ref h_t)] := hl
  obtain ⟨RES, E0⟩ : ∃ R, m_Sc_leave t_level t_seen t_headAt t_toldBits t_boxAt t_streamFrom t_plan_components t_plan_colours t_plan_hasProfile t_plan_map_count t_plan_meanings_count n_t_plan_meanings_parts f_t_plan_meanings_parts t_file_count = R := ⟨_, rfl⟩
  have E := E0
  refine lv_aload_n hx hb d_Sc_leave_0 rfl (lv_at hl 0 rfl) ?_
  refine va_get (D := D) (v := .int t_level) hx hb hta i_Sc hown hK hP 0 rfl rfl 2 (by decide) (hta _ lk_Sc_25) (fun _ h9 => h9) rfl d_Sc_leave_1 ?_
  refine lv_iconst (v := 2) hx hb d_Sc_leave_4 (by decide) ?_
  refine lv_icmp_ne (tgt := 15) hx hb d_Sc_leave_5 (by decide) (fun c_5 => ?_) (fun c_5 => ?_)
  · have E := (if_neg c_5).symm.trans E
    refine lv_aload_n hx hb d_Sc_leave_15 rfl (lv_at hl 0 rfl) ?_
    refine va_get (D := D) (v := .int t_level) hx hb hta i_Sc hown hK hP 0 rfl rfl 2 (by decide) (hta _ lk_Sc_25) (fun _ h9 => h9) rfl d_Sc_leave_16 ?_
    refine lv_iconst (v := 1) hx hb d_Sc_leave_19 (by decide) ?_
    refine lv_icmp_ne (tgt := 41) hx hb d_Sc_leave_20 (by decide) (fun c_20 => ?_) (fun c_20 => ?_)
    · have E := (if_neg c_20).symm.trans E
      refine lv_aload_n hx hb d_Sc_leave_41 rfl (lv_at hl 0 rfl) ?_
      refine lv_iconst (v := 3) hx hb d_Sc_leave_42 (by decide) ?_
      refine va_put (D := D) (ty := .int) hx hb hta i_Sc t_Sc t_Sc_ok n_Sc hown hK hP hD hS 0 rfl rfl 2 (by decide) (hta _ lk_Sc_25) (fun _ h9 => h9) rfl (by decide +kernel) rfl rfl (Nat.le_of_ble_eq_true rfl) d_Sc_leave_43 (fun H locs (hP : va_P D classes [(h_t, .inr (5, [.ref h_t_file, .ref h_t_plan, .int 3, .int t_at, .int t_seen, .int t_outerBoxes, .int t_headAt, .int t_headEnd, .int t_resolutionEnd, .int t_toldBits, .int t_name, .int t_from, .int t_end, .int t_boxAt, .int t_streamFrom, .int t_streamCount])), (h_t_plan, .inr (3, [.int t_plan_high, .int t_plan_wide, .int t_plan_components, .int t_plan_unknown, .int t_plan_rights, .ref h_t_plan_bits, .int t_plan_colours, .int t_plan_hasProfile, .ref h_t_plan_profile, .ref h_t_plan_palette, .ref h_t_plan_map, .ref h_t_plan_meanings, .ref h_t_plan_capture, .ref h_t_plan_display])), (h_t_plan_map, .inr (1, [.ref h_t_plan_map_parts, .int t_plan_map_count])), (h_t_plan_meanings, .inr (1, [.ref h_t_plan_meanings_parts, .int t_plan_meanings_count])), (h_t_plan_meanings_parts, .inl (cI, n_t_plan_meanings_parts, .inl f_t_plan_meanings_parts)), (h_t_file, .inr (0, [.int t_file_most, .ref h_t_file_row, .int t_file_count]))] H) (hD : va_D A [(h_t, .inr (5, [.ref h_t_file, .ref h_t_plan, .int 3, .int t_at, .int t_seen, .int t_outerBoxes, .int t_headAt, .int t_headEnd, .int t_resolutionEnd, .int t_toldBits, .int t_name, .int t_from, .int t_end, .int t_boxAt, .int t_streamFrom, .int t_streamCount])), (h_t_plan, .inr (3, [.int t_plan_high, .int t_plan_wide, .int t_plan_components, .int t_plan_unknown, .int t_plan_rights, .ref h_t_plan_bits, .int t_plan_colours, .int t_plan_hasProfile, .ref h_t_plan_profile, .ref h_t_plan_palette, .ref h_t_plan_map, .ref h_t_plan_meanings, .ref h_t_plan_capture, .ref h_t_plan_display])), (h_t_plan_map, .inr (1, [.ref h_t_plan_map_parts, .int t_plan_map_count])), (h_t_plan_meanings, .inr (1, [.ref h_t_plan_meanings_parts, .int t_plan_meanings_count])), (h_t_plan_meanings_parts, .inl (cI, n_t_plan_meanings_parts, .inl f_t_plan_meanings_parts)), (h_t_file, .inr (0, [.int t_file_most, .ref h_t_file_row, .int t_file_count]))]) hS => ?_)
      refine lv_aload_n hx hb d_Sc_leave_46 rfl (lv_at hl 0 rfl) ?_
      refine lv_aload_n hx hb d_Sc_leave_47 rfl (lv_at hl 0 rfl) ?_
      refine va_get (D := D) (v := .ref h_t_file) hx hb hta i_Sc hown hK hP 0 rfl rfl 0 (by decide) (hta _ lk_Sc_9) (fun _ h9 => h9) rfl d_Sc_leave_48 ?_
      refine va_get (D := D) (v := .int t_file_count) hx hb hta i_By hown hK hP 5 rfl rfl 2 (by decide) (hta _ lk_Sc_54) (fun _ h9 => h9) rfl d_Sc_leave_51 ?_
      refine va_put (D := D) (ty := .int) hx hb hta i_Sc t_Sc t_Sc_ok n_Sc hown hK hP hD hS 0 rfl rfl 13 (by decide) (hta _ lk_Sc_65) (fun _ h9 => h9) rfl (by decide +kernel) rfl rfl (Nat.le_of_ble_eq_true rfl) d_Sc_leave_54 (fun H locs (hP : va_P D classes [(h_t, .inr (5, [.ref h_t_file, .ref h_t_plan, .int 3, .int t_at, .int t_seen, .int t_outerBoxes, .int t_headAt, .int t_headEnd, .int t_resolutionEnd, .int t_toldBits, .int t_name, .int t_from, .int t_end, .int t_file_count, .int t_streamFrom, .int t_streamCount])), (h_t_plan, .inr (3, [.int t_plan_high, .int t_plan_wide, .int t_plan_components, .int t_plan_unknown, .int t_plan_rights, .ref h_t_plan_bits, .int t_plan_colours, .int t_plan_hasProfile, .ref h_t_plan_profile, .ref h_t_plan_palette, .ref h_t_plan_map, .ref h_t_plan_meanings, .ref h_t_plan_capture, .ref h_t_plan_display])), (h_t_plan_map, .inr (1, [.ref h_t_plan_map_parts, .int t_plan_map_count])), (h_t_plan_meanings, .inr (1, [.ref h_t_plan_meanings_parts, .int t_plan_meanings_count])), (h_t_plan_meanings_parts, .inl (cI, n_t_plan_meanings_parts, .inl f_t_plan_meanings_parts)), (h_t_file, .inr (0, [.int t_file_most, .ref h_t_file_row, .int t_file_count]))] H) (hD : va_D A [(h_t, .inr (5, [.ref h_t_file, .ref h_t_plan, .int 3, .int t_at, .int t_seen, .int t_outerBoxes, .int t_headAt, .int t_headEnd, .int t_resolutionEnd, .int t_toldBits, .int t_name, .int t_from, .int t_end, .int t_file_count, .int t_streamFrom, .int t_streamCount])), (h_t_plan, .inr (3, [.int t_plan_high, .int t_plan_wide, .int t_plan_components, .int t_plan_unknown, .int t_plan_rights, .ref h_t_plan_bits, .int t_plan_colours, .int t_plan_hasProfile, .ref h_t_plan_profile, .ref h_t_plan_palette, .ref h_t_plan_map, .ref h_t_plan_meanings, .ref h_t_plan_capture, .ref h_t_plan_display])), (h_t_plan_map, .inr (1, [.ref h_t_plan_map_parts, .int t_plan_map_count])), (h_t_plan_meanings, .inr (1, [.ref h_t_plan_meanings_parts, .int t_plan_meanings_count])), (h_t_plan_meanings_parts, .inl (cI, n_t_plan_meanings_parts, .inl f_t_plan_meanings_parts)), (h_t_file, .inr (0, [.int t_file_most, .ref h_t_file_row, .int t_file_count]))]) hS => ?_)
      refine lv_aload_n hx hb d_Sc_leave_57 rfl (lv_at hl 0 rfl) ?_
      refine va_get (D := D) (v := .int t_streamFrom) hx hb hta i_Sc hown hK hP 0 rfl rfl 14 (by decide) (hta _ lk_Sc_38) (fun _ h9 => h9) rfl d_Sc_leave_58 ?_
      refine lv_if_ge (tgt := 69) hx hb d_Sc_leave_61 (by decide) (fun c_61 => ?_) (fun c_61 => ?_)
      · have E := (if_pos c_61).symm.trans E
        refine lv_iconst (v := 0) hx hb d_Sc_leave_69 (by decide) ?_
        exact kr_i hx hb hr hlk hQ hK hP hD hS ⟨((0, 3, t_file_count) : Int32 × Int32 × Int32), E.trans E0.symm, rfl, rfl⟩ (by omega) (by omega) d_Sc_leave_70
      · have E := (if_neg c_61).symm.trans E
        refine lv_bipush (v := 6) hx hb d_Sc_leave_64 (by decide) ?_
        refine lv_goto (tgt := 70) hx hb d_Sc_leave_66 (by decide) ?_
        exact kr_i hx hb hr hlk hQ hK hP hD hS ⟨((6, 3, t_file_count) : Int32 × Int32 × Int32), E.trans E0.symm, rfl, rfl⟩ (by omega) (by omega) d_Sc_leave_70
    · have E := (if_pos c_20).symm.trans E
      refine lv_aload_n hx hb d_Sc_leave_23 rfl (lv_at hl 0 rfl) ?_
      refine lv_iconst (v := 0) hx hb d_Sc_leave_24 (by decide) ?_
      refine va_put (D := D) (ty := .int) hx hb hta i_Sc t_Sc t_Sc_ok n_Sc hown hK hP hD hS 0 rfl rfl 2 (by decide) (hta _ lk_Sc_25) (fun _ h9 => h9) rfl (by decide +kernel) rfl rfl (Nat.le_of_ble_eq_true rfl) d_Sc_leave_25 (fun H locs (hP : va_P D classes [(h_t, .inr (5, [.ref h_t_file, .ref h_t_plan, .int 0, .int t_at, .int t_seen, .int t_outerBoxes, .int t_headAt, .int t_headEnd, .int t_resolutionEnd, .int t_toldBits, .int t_name, .int t_from, .int t_end, .int t_boxAt, .int t_streamFrom, .int t_streamCount])), (h_t_plan, .inr (3, [.int t_plan_high, .int t_plan_wide, .int t_plan_components, .int t_plan_unknown, .int t_plan_rights, .ref h_t_plan_bits, .int t_plan_colours, .int t_plan_hasProfile, .ref h_t_plan_profile, .ref h_t_plan_palette, .ref h_t_plan_map, .ref h_t_plan_meanings, .ref h_t_plan_capture, .ref h_t_plan_display])), (h_t_plan_map, .inr (1, [.ref h_t_plan_map_parts, .int t_plan_map_count])), (h_t_plan_meanings, .inr (1, [.ref h_t_plan_meanings_parts, .int t_plan_meanings_count])), (h_t_plan_meanings_parts, .inl (cI, n_t_plan_meanings_parts, .inl f_t_plan_meanings_parts)), (h_t_file, .inr (0, [.int t_file_most, .ref h_t_file_row, .int t_file_count]))] H) (hD : va_D A [(h_t, .inr (5, [.ref h_t_file, .ref h_t_plan, .int 0, .int t_at, .int t_seen, .int t_outerBoxes, .int t_headAt, .int t_headEnd, .int t_resolutionEnd, .int t_toldBits, .int t_name, .int t_from, .int t_end, .int t_boxAt, .int t_streamFrom, .int t_streamCount])), (h_t_plan, .inr (3, [.int t_plan_high, .int t_plan_wide, .int t_plan_components, .int t_plan_unknown, .int t_plan_rights, .ref h_t_plan_bits, .int t_plan_colours, .int t_plan_hasProfile, .ref h_t_plan_profile, .ref h_t_plan_palette, .ref h_t_plan_map, .ref h_t_plan_meanings, .ref h_t_plan_capture, .ref h_t_plan_display])), (h_t_plan_map, .inr (1, [.ref h_t_plan_map_parts, .int t_plan_map_count])), (h_t_plan_meanings, .inr (1, [.ref h_t_plan_meanings_parts, .int t_plan_meanings_count])), (h_t_plan_meanings_parts, .inl (cI, n_t_plan_meanings_parts, .inl f_t_plan_meanings_parts)), (h_t_file, .inr (0, [.int t_file_most, .ref h_t_file_row, .int t_file_count]))]) hS => ?_)
      refine lv_aload_n hx hb d_Sc_leave_28 rfl (lv_at hl 0 rfl) ?_
      refine lv_aload_n hx hb d_Sc_leave_29 rfl (lv_at hl 0 rfl) ?_
      refine va_get (D := D) (v := .int t_headAt) hx hb hta i_Sc hown hK hP 0 rfl rfl 6 (by decide) (hta _ lk_Sc_97) (fun _ h9 => h9) rfl d_Sc_leave_30 ?_
      refine va_put (D := D) (ty := .int) hx hb hta i_Sc t_Sc t_Sc_ok n_Sc hown hK hP hD hS 0 rfl rfl 13 (by decide) (hta _ lk_Sc_65) (fun _ h9 => h9) rfl (by decide +kernel) rfl rfl (Nat.le_of_ble_eq_true rfl) d_Sc_leave_33 (fun H locs (hP : va_P D classes [(h_t, .inr (5, [.ref h_t_file, .ref h_t_plan, .int 0, .int t_at, .int t_seen, .int t_outerBoxes, .int t_headAt, .int t_headEnd, .int t_resolutionEnd, .int t_toldBits, .int t_name, .int t_from, .int t_end, .int t_headAt, .int t_streamFrom, .int t_streamCount])), (h_t_plan, .inr (3, [.int t_plan_high, .int t_plan_wide, .int t_plan_components, .int t_plan_unknown, .int t_plan_rights, .ref h_t_plan_bits, .int t_plan_colours, .int t_plan_hasProfile, .ref h_t_plan_profile, .ref h_t_plan_palette, .ref h_t_plan_map, .ref h_t_plan_meanings, .ref h_t_plan_capture, .ref h_t_plan_display])), (h_t_plan_map, .inr (1, [.ref h_t_plan_map_parts, .int t_plan_map_count])), (h_t_plan_meanings, .inr (1, [.ref h_t_plan_meanings_parts, .int t_plan_meanings_count])), (h_t_plan_meanings_parts, .inl (cI, n_t_plan_meanings_parts, .inl f_t_plan_meanings_parts)), (h_t_file, .inr (0, [.int t_file_most, .ref h_t_file_row, .int t_file_count]))] H) (hD : va_D A [(h_t, .inr (5, [.ref h_t_file, .ref h_t_plan, .int 0, .int t_at, .int t_seen, .int t_outerBoxes, .int t_headAt, .int t_headEnd, .int t_resolutionEnd, .int t_toldBits, .int t_name, .int t_from, .int t_end, .int t_headAt, .int t_streamFrom, .int t_streamCount])), (h_t_plan, .inr (3, [.int t_plan_high, .int t_plan_wide, .int t_plan_components, .int t_plan_unknown, .int t_plan_rights, .ref h_t_plan_bits, .int t_plan_colours, .int t_plan_hasProfile, .ref h_t_plan_profile, .ref h_t_plan_palette, .ref h_t_plan_map, .ref h_t_plan_meanings, .ref h_t_plan_capture, .ref h_t_plan_display])), (h_t_plan_map, .inr (1, [.ref h_t_plan_map_parts, .int t_plan_map_count])), (h_t_plan_meanings, .inr (1, [.ref h_t_plan_meanings_parts, .int t_plan_meanings_count])), (h_t_plan_meanings_parts, .inl (cI, n_t_plan_meanings_parts, .inl f_t_plan_meanings_parts)), (h_t_file, .inr (0, [.int t_file_most, .ref h_t_file_row, .int t_file_count]))]) hS => ?_)
      refine lv_aload_n hx hb d_Sc_leave_36 rfl (lv_at hl 0 rfl) ?_
      refine kc_V (As := []) (rest := []) (wr := [(h_t_file, .inr (0, [.int t_file_most, .ref h_t_file_row, .int t_file_count]))]) [0, 1, 2, 3, 4] [5] ⟨hx, hb, hml, hown, hta⟩ hK hN hP hD hS hA (c_Sc_endOfHead l D cB cI cJ h_t h_t_file h_t_plan h_t_plan_bits h_t_plan_profile h_t_plan_palette h_t_plan_map h_t_plan_meanings h_t_plan_capture h_t_plan_display h_t_plan_map_parts h_t_plan_meanings_parts 0 t_at t_seen t_outerBoxes t_headAt t_headEnd t_resolutionEnd t_toldBits t_name t_from t_end t_headAt t_streamFrom t_streamCount t_plan_high t_plan_wide t_plan_components t_plan_unknown t_plan_rights t_plan_colours t_plan_hasProfile t_plan_map_count t_plan_meanings_count n_t_plan_meanings_parts f_t_plan_meanings_parts hn_t_plan_meanings_parts _) (hta _ lk_Sc_100) (hta _ ini_Sc) (hta _ code_Sc_endOfHead) code_Sc_endOfHead (hta _ inst_Sc_endOfHead) (hta _ sel_Sc_endOfHead) hd_Sc_endOfHead rfl ⟨by omega, by omega⟩ (ci := 5) 0 rfl rfl rfl rfl (by decide) (by decide) (by decide) rfl hl.1 (lv_room (Nat.le_of_ble_eq_true rfl)) d_Sc_leave_37 ⟨by omega, by omega⟩ (fun v w1 H locs hw hP hD hS => ?_)
      obtain ⟨x37, hx37, rfl, rfl⟩ := hw
      have hP : va_P D classes [(h_t, .inr (5, [.ref h_t_file, .ref h_t_plan, .int 0, .int t_at, .int t_seen, .int t_outerBoxes, .int t_headAt, .int t_headEnd, .int t_resolutionEnd, .int t_toldBits, .int t_name, .int t_from, .int t_end, .int t_headAt, .int t_streamFrom, .int t_streamCount])), (h_t_plan, .inr (3, [.int t_plan_high, .int t_plan_wide, .int t_plan_components, .int t_plan_unknown, .int t_plan_rights, .ref h_t_plan_bits, .int t_plan_colours, .int t_plan_hasProfile, .ref h_t_plan_profile, .ref h_t_plan_palette, .ref h_t_plan_map, .ref h_t_plan_meanings, .ref h_t_plan_capture, .ref h_t_plan_display])), (h_t_plan_map, .inr (1, [.ref h_t_plan_map_parts, .int t_plan_map_count])), (h_t_plan_meanings, .inr (1, [.ref h_t_plan_meanings_parts, .int t_plan_meanings_count])), (h_t_plan_meanings_parts, .inl (cI, n_t_plan_meanings_parts, .inl f_t_plan_meanings_parts)), (h_t_file, .inr (0, [.int t_file_most, .ref h_t_file_row, .int t_file_count]))] H := hP.sub [1, 2, 3, 4, 5, 0] rfl
      have hD : va_D A [(h_t, .inr (5, [.ref h_t_file, .ref h_t_plan, .int 0, .int t_at, .int t_seen, .int t_outerBoxes, .int t_headAt, .int t_headEnd, .int t_resolutionEnd, .int t_toldBits, .int t_name, .int t_from, .int t_end, .int t_headAt, .int t_streamFrom, .int t_streamCount])), (h_t_plan, .inr (3, [.int t_plan_high, .int t_plan_wide, .int t_plan_components, .int t_plan_unknown, .int t_plan_rights, .ref h_t_plan_bits, .int t_plan_colours, .int t_plan_hasProfile, .ref h_t_plan_profile, .ref h_t_plan_palette, .ref h_t_plan_map, .ref h_t_plan_meanings, .ref h_t_plan_capture, .ref h_t_plan_display])), (h_t_plan_map, .inr (1, [.ref h_t_plan_map_parts, .int t_plan_map_count])), (h_t_plan_meanings, .inr (1, [.ref h_t_plan_meanings_parts, .int t_plan_meanings_count])), (h_t_plan_meanings_parts, .inl (cI, n_t_plan_meanings_parts, .inl f_t_plan_meanings_parts)), (h_t_file, .inr (0, [.int t_file_most, .ref h_t_file_row, .int t_file_count]))] := hD.sub [1, 2, 3, 4, 5, 0] (by decide) rfl
      refine W.eq (g2 := F0 m 40 ls [.int x37]) rfl ?_
      have E : k_Sc_leave_37 t_headAt x37 = RES := (congrArg (k_Sc_leave_37 t_headAt) hx37).trans E
      exact kr_i hx hb hr hlk hQ hK hP hD hS ⟨((x37, 0, t_headAt) : Int32 × Int32 × Int32), E.trans E0.symm, rfl, rfl⟩ (by omega) (by omega) d_Sc_leave_40
  · have E := (if_pos c_5).symm.trans E
    refine lv_aload_n hx hb d_Sc_leave_8 rfl (lv_at hl 0 rfl) ?_
    refine lv_iconst (v := 1) hx hb d_Sc_leave_9 (by decide) ?_
    refine va_put (D := D) (ty := .int) hx hb hta i_Sc t_Sc t_Sc_ok n_Sc hown hK hP hD hS 0 rfl rfl 2 (by decide) (hta _ lk_Sc_25) (fun _ h9 => h9) rfl (by decide +kernel) rfl rfl (Nat.le_of_ble_eq_true rfl) d_Sc_leave_10 (fun H locs (hP : va_P D classes [(h_t, .inr (5, [.ref h_t_file, .ref h_t_plan, .int 1, .int t_at, .int t_seen, .int t_outerBoxes, .int t_headAt, .int t_headEnd, .int t_resolutionEnd, .int t_toldBits, .int t_name, .int t_from, .int t_end, .int t_boxAt, .int t_streamFrom, .int t_streamCount])), (h_t_plan, .inr (3, [.int t_plan_high, .int t_plan_wide, .int t_plan_components, .int t_plan_unknown, .int t_plan_rights, .ref h_t_plan_bits, .int t_plan_colours, .int t_plan_hasProfile, .ref h_t_plan_profile, .ref h_t_plan_palette, .ref h_t_plan_map, .ref h_t_plan_meanings, .ref h_t_plan_capture, .ref h_t_plan_display])), (h_t_plan_map, .inr (1, [.ref h_t_plan_map_parts, .int t_plan_map_count])), (h_t_plan_meanings, .inr (1, [.ref h_t_plan_meanings_parts, .int t_plan_meanings_count])), (h_t_plan_meanings_parts, .inl (cI, n_t_plan_meanings_parts, .inl f_t_plan_meanings_parts)), (h_t_file, .inr (0, [.int t_file_most, .ref h_t_file_row, .int t_file_count]))] H) (hD : va_D A [(h_t, .inr (5, [.ref h_t_file, .ref h_t_plan, .int 1, .int t_at, .int t_seen, .int t_outerBoxes, .int t_headAt, .int t_headEnd, .int t_resolutionEnd, .int t_toldBits, .int t_name, .int t_from, .int t_end, .int t_boxAt, .int t_streamFrom, .int t_streamCount])), (h_t_plan, .inr (3, [.int t_plan_high, .int t_plan_wide, .int t_plan_components, .int t_plan_unknown, .int t_plan_rights, .ref h_t_plan_bits, .int t_plan_colours, .int t_plan_hasProfile, .ref h_t_plan_profile, .ref h_t_plan_palette, .ref h_t_plan_map, .ref h_t_plan_meanings, .ref h_t_plan_capture, .ref h_t_plan_display])), (h_t_plan_map, .inr (1, [.ref h_t_plan_map_parts, .int t_plan_map_count])), (h_t_plan_meanings, .inr (1, [.ref h_t_plan_meanings_parts, .int t_plan_meanings_count])), (h_t_plan_meanings_parts, .inl (cI, n_t_plan_meanings_parts, .inl f_t_plan_meanings_parts)), (h_t_file, .inr (0, [.int t_file_most, .ref h_t_file_row, .int t_file_count]))]) hS => ?_)
    refine lv_iconst (v := 0) hx hb d_Sc_leave_13 (by decide) ?_
    exact kr_i hx hb hr hlk hQ hK hP hD hS ⟨((0, 1, t_boxAt) : Int32 × Int32 × Int32), E.trans E0.symm, rfl, rfl⟩ (by omega) (by omega) d_Sc_leave_14
theorem d_Sc_readSign_0 : decode b_Sc_readSign 0 = .ok (.aload_n 0, 1) := by decide +kernel
theorem d_Sc_readSign_1 : decode b_Sc_readSign 1 = .ok (.getfield 91, 3) := by decide +kernel
theorem d_Sc_readSign_4 : decode b_Sc_readSign 4 = .ok (.ldc 141, 2) := by decide +kernel
theorem d_Sc_readSign_6 : decode b_Sc_readSign 6 = .ok (.if_icmp .eq 5, 3) := by decide +kernel
theorem d_Sc_readSign_9 : decode b_Sc_readSign 9 = .ok (.iconst 2, 1) := by decide +kernel
theorem d_Sc_readSign_10 : decode b_Sc_readSign 10 = .ok (.ireturn, 1) := by decide +kernel
theorem d_Sc_readSign_11 : decode b_Sc_readSign 11 = .ok (.aload_n 0, 1) := by decide +kernel
theorem d_Sc_readSign_12 : decode b_Sc_readSign 12 = .ok (.invokevirtual 142, 3) := by decide +kernel
theorem d_Sc_readSign_15 : decode b_Sc_readSign 15 = .ok (.iconst 4, 1) := by decide +kernel
theorem d_Sc_readSign_16 : decode b_Sc_readSign 16 = .ok (.if_icmp .eq 5, 3) := by decide +kernel
theorem d_Sc_readSign_19 : decode b_Sc_readSign 19 = .ok (.iconst 3, 1) := by decide +kernel
theorem d_Sc_readSign_20 : decode b_Sc_readSign 20 = .ok (.ireturn, 1) := by decide +kernel
theorem d_Sc_readSign_21 : decode b_Sc_readSign 21 = .ok (.aload_n 0, 1) := by decide +kernel
theorem d_Sc_readSign_22 : decode b_Sc_readSign 22 = .ok (.getfield 9, 3) := by decide +kernel
theorem d_Sc_readSign_25 : decode b_Sc_readSign 25 = .ok (.aload_n 0, 1) := by decide +kernel
theorem d_Sc_readSign_26 : decode b_Sc_readSign 26 = .ok (.getfield 94, 3) := by decide +kernel
theorem d_Sc_readSign_29 : decode b_Sc_readSign 29 = .ok (.iconst 4, 1) := by decide +kernel
theorem d_Sc_readSign_30 : decode b_Sc_readSign 30 = .ok (.invokevirtual 87, 3) := by decide +kernel
theorem d_Sc_readSign_33 : decode b_Sc_readSign 33 = .ok (.ldc 145, 2) := by decide +kernel
theorem d_Sc_readSign_35 : decode b_Sc_readSign 35 = .ok (.if_icmp .ne 7, 3) := by decide +kernel
theorem d_Sc_readSign_38 : decode b_Sc_readSign 38 = .ok (.iconst 0, 1) := by decide +kernel
theorem d_Sc_readSign_39 : decode b_Sc_readSign 39 = .ok (.goto 4, 3) := by decide +kernel
theorem d_Sc_readSign_42 : decode b_Sc_readSign 42 = .ok (.iconst 5, 1) := by decide +kernel
theorem d_Sc_readSign_43 : decode b_Sc_readSign 43 = .ok (.ireturn, 1) := by decide +kernel
def k_Sc_readSign_30 (x30 : Int32) : Int32 :=
  if x30 = 218793738 then 0 else 5
def k_Sc_readSign_12 (t_from : Int32) (t_file_count : Int32) (n_t_file_row : Nat) (f_t_file_row : Nat → Int32) (x12 : Int32) : Int32 :=
  if x12 = 4 then (k_Sc_readSign_30 (m_By_intAt t_file_count n_t_file_row f_t_file_row t_from 4)) else 3
def m_Sc_readSign (t_name : Int32) (t_from : Int32) (t_end : Int32) (t_file_count : Int32) (n_t_file_row : Nat) (f_t_file_row : Nat → Int32) : Int32 :=
  if t_name = 1783636000 then (k_Sc_readSign_12 t_from t_file_count n_t_file_row f_t_file_row (m_Sc_content t_from t_end)) else 2
set_option maxHeartbeats 4000000 in
set_option maxRecDepth 100000 in
theorem c_Sc_readSign (l : Launch) (D : va_G) (cB cI cJ : ClassId) (h_t h_t_file h_t_plan h_t_file_row : Nat) (t_level : Int32) (t_at : Int32) (t_seen : Int32) (t_outerBoxes : Int32) (t_headAt : Int32) (t_headEnd : Int32) (t_resolutionEnd : Int32) (t_toldBits : Int32) (t_name : Int32) (t_from : Int32) (t_end : Int32) (t_boxAt : Int32) (t_streamFrom : Int32) (t_streamCount : Int32) (t_file_most : Int32) (t_file_count : Int32) (n_t_file_row : Nat) (f_t_file_row : Nat → Int32) (hn_t_file_row : n_t_file_row < 2147483648) (sz : Nat) : Ct l D cB cI cJ y_Sc_readSign b_Sc_readSign 1 (some .int) 2 47 0 0 [.ref h_t] [(h_t, .inr (5, [.ref h_t_file, .ref h_t_plan, .int t_level, .int t_at, .int t_seen, .int t_outerBoxes, .int t_headAt, .int t_headEnd, .int t_resolutionEnd, .int t_toldBits, .int t_name, .int t_from, .int t_end, .int t_boxAt, .int t_streamFrom, .int t_streamCount])), (h_t_file, .inr (0, [.int t_file_most, .ref h_t_file_row, .int t_file_count])), (h_t_file_row, .inl (cB, n_t_file_row, .inl f_t_file_row))] (fun v w1 => ∃ (x : Int32), x = m_Sc_readSign t_name t_from t_end t_file_count n_t_file_row f_t_file_row ∧ v = some (.int x) ∧ w1 = [(h_t, .inr (5, [.ref h_t_file, .ref h_t_plan, .int t_level, .int t_at, .int t_seen, .int t_outerBoxes, .int t_headAt, .int t_headEnd, .int t_resolutionEnd, .int t_toldBits, .int t_name, .int t_from, .int t_end, .int t_boxAt, .int t_streamFrom, .int t_streamCount])), (h_t_file, .inr (0, [.int t_file_most, .ref h_t_file_row, .int t_file_count])), (h_t_file_row, .inl (cB, n_t_file_row, .inl f_t_file_row))]) sz := by
  refine Ct.of (by decide) (Nat.le_of_ble_eq_true rfl) ?_
  intro p e R s m args below meth c A ls Q hx hb hr hlk hml hta hown hin hK hN hA hRf hRl hRc hRs hP hD hS hl hQ
  have hl : lv_has ls 1 [(0, .ref h_t)] := hl
  obtain ⟨RES, E0⟩ : ∃ R, m_Sc_readSign t_name t_from t_end t_file_count n_t_file_row f_t_file_row = R := ⟨_, rfl⟩
  have E := E0
  refine lv_aload_n hx hb d_Sc_readSign_0 rfl (lv_at hl 0 rfl) ?_
  refine va_get (D := D) (v := .int t_name) hx hb hta i_Sc hown hK hP 0 rfl rfl 10 (by decide) (hta _ lk_Sc_91) (fun _ h9 => h9) rfl d_Sc_readSign_1 ?_
  refine lv_ldc (v := 1783636000) hx hb hown (hta _ lk_Sc_141) d_Sc_readSign_4 ?_
  refine lv_icmp_eq (tgt := 11) hx hb d_Sc_readSign_6 (by decide) (fun c_6 => ?_) (fun c_6 => ?_)
  · have E := (if_pos c_6).symm.trans E
    refine lv_aload_n hx hb d_Sc_readSign_11 rfl (lv_at hl 0 rfl) ?_
    refine kc_V (As := []) (rest := []) (wr := [(h_t_file, .inr (0, [.int t_file_most, .ref h_t_file_row, .int t_file_count])), (h_t_file_row, .inl (cB, n_t_file_row, .inl f_t_file_row))]) [0] [1, 2] ⟨hx, hb, hml, hown, hta⟩ hK hN hP hD hS hA (c_Sc_content l D cB cI cJ h_t h_t_file h_t_plan t_level t_at t_seen t_outerBoxes t_headAt t_headEnd t_resolutionEnd t_toldBits t_name t_from t_end t_boxAt t_streamFrom t_streamCount _) (hta _ lk_Sc_142) (hta _ ini_Sc) (hta _ code_Sc_content) code_Sc_content (hta _ inst_Sc_content) (hta _ sel_Sc_content) hd_Sc_content rfl ⟨by omega, by omega⟩ (ci := 5) 0 rfl rfl rfl rfl (by decide) (by decide) (by decide) rfl hl.1 (lv_room (Nat.le_of_ble_eq_true rfl)) d_Sc_readSign_12 ⟨by omega, by omega⟩ (fun v w1 H locs hw hP hD hS => ?_)
    obtain ⟨x12, hx12, rfl, rfl⟩ := hw
    have hP : va_P D classes [(h_t, .inr (5, [.ref h_t_file, .ref h_t_plan, .int t_level, .int t_at, .int t_seen, .int t_outerBoxes, .int t_headAt, .int t_headEnd, .int t_resolutionEnd, .int t_toldBits, .int t_name, .int t_from, .int t_end, .int t_boxAt, .int t_streamFrom, .int t_streamCount])), (h_t_file, .inr (0, [.int t_file_most, .ref h_t_file_row, .int t_file_count])), (h_t_file_row, .inl (cB, n_t_file_row, .inl f_t_file_row))] H := hP.sub [2, 0, 1] rfl
    have hD : va_D A [(h_t, .inr (5, [.ref h_t_file, .ref h_t_plan, .int t_level, .int t_at, .int t_seen, .int t_outerBoxes, .int t_headAt, .int t_headEnd, .int t_resolutionEnd, .int t_toldBits, .int t_name, .int t_from, .int t_end, .int t_boxAt, .int t_streamFrom, .int t_streamCount])), (h_t_file, .inr (0, [.int t_file_most, .ref h_t_file_row, .int t_file_count])), (h_t_file_row, .inl (cB, n_t_file_row, .inl f_t_file_row))] := hD.sub [2, 0, 1] (by decide) rfl
    refine W.eq (g2 := F0 m 15 ls [.int x12]) rfl ?_
    have E : k_Sc_readSign_12 t_from t_file_count n_t_file_row f_t_file_row x12 = RES := (congrArg (k_Sc_readSign_12 t_from t_file_count n_t_file_row f_t_file_row) hx12).trans E
    refine lv_iconst (v := 4) hx hb d_Sc_readSign_15 (by decide) ?_
    refine lv_icmp_eq (tgt := 21) hx hb d_Sc_readSign_16 (by decide) (fun c_16 => ?_) (fun c_16 => ?_)
    · have E := (if_pos c_16).symm.trans E
      refine lv_aload_n hx hb d_Sc_readSign_21 rfl (lv_at hl 0 rfl) ?_
      refine va_get (D := D) (v := .ref h_t_file) hx hb hta i_Sc hown hK hP 0 rfl rfl 0 (by decide) (hta _ lk_Sc_9) (fun _ h9 => h9) rfl d_Sc_readSign_22 ?_
      refine lv_aload_n hx hb d_Sc_readSign_25 rfl (lv_at hl 0 rfl) ?_
      refine va_get (D := D) (v := .int t_from) hx hb hta i_Sc hown hK hP 0 rfl rfl 11 (by decide) (hta _ lk_Sc_94) (fun _ h9 => h9) rfl d_Sc_readSign_26 ?_
      refine lv_iconst (v := 4) hx hb d_Sc_readSign_29 (by decide) ?_
      refine kc_V (As := [.int t_from, .int 4]) (rest := []) (wr := [(h_t, .inr (5, [.ref h_t_file, .ref h_t_plan, .int t_level, .int t_at, .int t_seen, .int t_outerBoxes, .int t_headAt, .int t_headEnd, .int t_resolutionEnd, .int t_toldBits, .int t_name, .int t_from, .int t_end, .int t_boxAt, .int t_streamFrom, .int t_streamCount]))]) [1, 2] [0] ⟨hx, hb, hml, hown, hta⟩ hK hN hP hD hS hA (c_By_intAt l D cB cI cJ h_t_file h_t_file_row t_file_most t_file_count n_t_file_row f_t_file_row t_from 4 hn_t_file_row _) (hta _ lk_Sc_87) (hta _ ini_By) (hta _ code_By_intAt) code_By_intAt (hta _ inst_By_intAt) (hta _ sel_By_intAt) hd_By_intAt rfl ⟨by omega, by omega⟩ (ci := 0) 1 rfl rfl rfl rfl (by decide) (by decide) (by decide) rfl hl.1 (lv_room (Nat.le_of_ble_eq_true rfl)) d_Sc_readSign_30 ⟨by omega, by omega⟩ (fun v w1 H locs hw hP hD hS => ?_)
      obtain ⟨x30, hx30, rfl, rfl⟩ := hw
      have hP : va_P D classes [(h_t, .inr (5, [.ref h_t_file, .ref h_t_plan, .int t_level, .int t_at, .int t_seen, .int t_outerBoxes, .int t_headAt, .int t_headEnd, .int t_resolutionEnd, .int t_toldBits, .int t_name, .int t_from, .int t_end, .int t_boxAt, .int t_streamFrom, .int t_streamCount])), (h_t_file, .inr (0, [.int t_file_most, .ref h_t_file_row, .int t_file_count])), (h_t_file_row, .inl (cB, n_t_file_row, .inl f_t_file_row))] H := hP.sub [0, 1, 2] rfl
      have hD : va_D A [(h_t, .inr (5, [.ref h_t_file, .ref h_t_plan, .int t_level, .int t_at, .int t_seen, .int t_outerBoxes, .int t_headAt, .int t_headEnd, .int t_resolutionEnd, .int t_toldBits, .int t_name, .int t_from, .int t_end, .int t_boxAt, .int t_streamFrom, .int t_streamCount])), (h_t_file, .inr (0, [.int t_file_most, .ref h_t_file_row, .int t_file_count])), (h_t_file_row, .inl (cB, n_t_file_row, .inl f_t_file_row))] := hD.sub [0, 1, 2] (by decide) rfl
      refine W.eq (g2 := F0 m 33 ls [.int x30]) rfl ?_
      have E : k_Sc_readSign_30 x30 = RES := (congrArg (k_Sc_readSign_30) hx30).trans E
      refine lv_ldc (v := 218793738) hx hb hown (hta _ lk_Sc_145) d_Sc_readSign_33 ?_
      refine lv_icmp_ne (tgt := 42) hx hb d_Sc_readSign_35 (by decide) (fun c_35 => ?_) (fun c_35 => ?_)
      · have E := (if_neg c_35).symm.trans E
        refine lv_iconst (v := 5) hx hb d_Sc_readSign_42 (by decide) ?_
        exact kr_i hx hb hr hlk hQ hK hP hD hS ⟨(5 : Int32), E.trans E0.symm, rfl, rfl⟩ (by omega) (by omega) d_Sc_readSign_43
      · have E := (if_pos c_35).symm.trans E
        refine lv_iconst (v := 0) hx hb d_Sc_readSign_38 (by decide) ?_
        refine lv_goto (tgt := 43) hx hb d_Sc_readSign_39 (by decide) ?_
        exact kr_i hx hb hr hlk hQ hK hP hD hS ⟨(0 : Int32), E.trans E0.symm, rfl, rfl⟩ (by omega) (by omega) d_Sc_readSign_43
    · have E := (if_neg c_16).symm.trans E
      refine lv_iconst (v := 3) hx hb d_Sc_readSign_19 (by decide) ?_
      exact kr_i hx hb hr hlk hQ hK hP hD hS ⟨(3 : Int32), E.trans E0.symm, rfl, rfl⟩ (by omega) (by omega) d_Sc_readSign_20
  · have E := (if_neg c_6).symm.trans E
    refine lv_iconst (v := 2) hx hb d_Sc_readSign_9 (by decide) ?_
    exact kr_i hx hb hr hlk hQ hK hP hD hS ⟨(2 : Int32), E.trans E0.symm, rfl, rfl⟩ (by omega) (by omega) d_Sc_readSign_10
theorem d_Sc_readKind_0 : decode b_Sc_readKind 0 = .ok (.aload_n 0, 1) := by decide +kernel
theorem d_Sc_readKind_1 : decode b_Sc_readKind 1 = .ok (.getfield 91, 3) := by decide +kernel
theorem d_Sc_readKind_4 : decode b_Sc_readKind 4 = .ok (.ldc 146, 2) := by decide +kernel
theorem d_Sc_readKind_6 : decode b_Sc_readKind 6 = .ok (.if_icmp .eq 5, 3) := by decide +kernel
theorem d_Sc_readKind_9 : decode b_Sc_readKind 9 = .ok (.iconst 2, 1) := by decide +kernel
theorem d_Sc_readKind_10 : decode b_Sc_readKind 10 = .ok (.ireturn, 1) := by decide +kernel
theorem d_Sc_readKind_11 : decode b_Sc_readKind 11 = .ok (.aload_n 0, 1) := by decide +kernel
theorem d_Sc_readKind_12 : decode b_Sc_readKind 12 = .ok (.invokevirtual 142, 3) := by decide +kernel
theorem d_Sc_readKind_15 : decode b_Sc_readKind 15 = .ok (.bipush 12, 2) := by decide +kernel
theorem d_Sc_readKind_17 : decode b_Sc_readKind 17 = .ok (.if_icmp .lt 12, 3) := by decide +kernel
theorem d_Sc_readKind_20 : decode b_Sc_readKind 20 = .ok (.aload_n 0, 1) := by decide +kernel
theorem d_Sc_readKind_21 : decode b_Sc_readKind 21 = .ok (.invokevirtual 142, 3) := by decide +kernel
theorem d_Sc_readKind_24 : decode b_Sc_readKind 24 = .ok (.iconst 4, 1) := by decide +kernel
theorem d_Sc_readKind_25 : decode b_Sc_readKind 25 = .ok (.irem, 1) := by decide +kernel
theorem d_Sc_readKind_26 : decode b_Sc_readKind 26 = .ok (.ifCond .eq 5, 3) := by decide +kernel
theorem d_Sc_readKind_29 : decode b_Sc_readKind 29 = .ok (.iconst 3, 1) := by decide +kernel
theorem d_Sc_readKind_30 : decode b_Sc_readKind 30 = .ok (.ireturn, 1) := by decide +kernel
theorem d_Sc_readKind_31 : decode b_Sc_readKind 31 = .ok (.aload_n 0, 1) := by decide +kernel
theorem d_Sc_readKind_32 : decode b_Sc_readKind 32 = .ok (.getfield 94, 3) := by decide +kernel
theorem d_Sc_readKind_35 : decode b_Sc_readKind 35 = .ok (.bipush 8, 2) := by decide +kernel
theorem d_Sc_readKind_37 : decode b_Sc_readKind 37 = .ok (.iadd, 1) := by decide +kernel
theorem d_Sc_readKind_38 : decode b_Sc_readKind 38 = .ok (.istore_n 1, 1) := by decide +kernel
theorem d_Sc_readKind_39 : decode b_Sc_readKind 39 = .ok (.iload_n 1, 1) := by decide +kernel
theorem d_Sc_readKind_40 : decode b_Sc_readKind 40 = .ok (.aload_n 0, 1) := by decide +kernel
theorem d_Sc_readKind_41 : decode b_Sc_readKind 41 = .ok (.getfield 71, 3) := by decide +kernel
theorem d_Sc_readKind_44 : decode b_Sc_readKind 44 = .ok (.if_icmp .ge 25, 3) := by decide +kernel
theorem d_Sc_readKind_47 : decode b_Sc_readKind 47 = .ok (.aload_n 0, 1) := by decide +kernel
theorem d_Sc_readKind_48 : decode b_Sc_readKind 48 = .ok (.getfield 9, 3) := by decide +kernel
theorem d_Sc_readKind_51 : decode b_Sc_readKind 51 = .ok (.iload_n 1, 1) := by decide +kernel
theorem d_Sc_readKind_52 : decode b_Sc_readKind 52 = .ok (.iconst 4, 1) := by decide +kernel
theorem d_Sc_readKind_53 : decode b_Sc_readKind 53 = .ok (.invokevirtual 87, 3) := by decide +kernel
theorem d_Sc_readKind_56 : decode b_Sc_readKind 56 = .ok (.ldc 147, 2) := by decide +kernel
theorem d_Sc_readKind_58 : decode b_Sc_readKind 58 = .ok (.if_icmp .ne 5, 3) := by decide +kernel
theorem d_Sc_readKind_61 : decode b_Sc_readKind 61 = .ok (.iconst 0, 1) := by decide +kernel
theorem d_Sc_readKind_62 : decode b_Sc_readKind 62 = .ok (.ireturn, 1) := by decide +kernel
theorem d_Sc_readKind_63 : decode b_Sc_readKind 63 = .ok (.iinc 1 4, 3) := by decide +kernel
theorem d_Sc_readKind_66 : decode b_Sc_readKind 66 = .ok (.goto (-27), 3) := by decide +kernel
theorem d_Sc_readKind_69 : decode b_Sc_readKind 69 = .ok (.iconst 5, 1) := by decide +kernel
theorem d_Sc_readKind_70 : decode b_Sc_readKind 70 = .ok (.ireturn, 1) := by decide +kernel
def k_Sc_readKind_53 (kk_39 : Int32 → Int32) (v39_1 : Int32) (x53 : Int32) : Int32 :=
  if x53 = 1785737760 then 0 else (kk_39 (v39_1 + 4))
def lb_Sc_readKind_39 (t_end : Int32) (t_file_count : Int32) (n_t_file_row : Nat) (f_t_file_row : Nat → Int32) (kk_39 : Int32 → Int32) (v39_1 : Int32) : Int32 :=
  if t_end ≤ v39_1 then 5 else (k_Sc_readKind_53 kk_39 v39_1 (m_By_intAt t_file_count n_t_file_row f_t_file_row v39_1 4))
def lp_Sc_readKind_39 (t_end : Int32) (t_file_count : Int32) (n_t_file_row : Nat) (f_t_file_row : Nat → Int32) : Nat → Int32 → Int32
  | 0, v39_1 => 0
  | n + 1, v39_1 => lb_Sc_readKind_39 t_end t_file_count n_t_file_row f_t_file_row (lp_Sc_readKind_39 t_end t_file_count n_t_file_row f_t_file_row n) v39_1
def k_Sc_readKind_21 (t_from : Int32) (t_end : Int32) (t_file_count : Int32) (n_t_file_row : Nat) (f_t_file_row : Nat → Int32) (x21 : Int32) : Int32 :=
  if (x21 - x21 / 4 * 4) = 0 then (lp_Sc_readKind_39 t_end t_file_count n_t_file_row f_t_file_row ((t_end.toInt - (t_from + 8).toInt).toNat + 1) (t_from + 8)) else 3
def k_Sc_readKind_12 (t_from : Int32) (t_end : Int32) (t_file_count : Int32) (n_t_file_row : Nat) (f_t_file_row : Nat → Int32) (x12 : Int32) : Int32 :=
  if x12 < 12 then 3 else (k_Sc_readKind_21 t_from t_end t_file_count n_t_file_row f_t_file_row (m_Sc_content t_from t_end))
def m_Sc_readKind (t_name : Int32) (t_from : Int32) (t_end : Int32) (t_file_count : Int32) (n_t_file_row : Nat) (f_t_file_row : Nat → Int32) : Int32 :=
  if t_name = 1718909296 then (k_Sc_readKind_12 t_from t_end t_file_count n_t_file_row f_t_file_row (m_Sc_content t_from t_end)) else 2
set_option maxHeartbeats 4000000 in
set_option maxRecDepth 100000 in
theorem c_Sc_readKind (l : Launch) (D : va_G) (cB cI cJ : ClassId) (h_t h_t_file h_t_plan h_t_file_row : Nat) (t_level : Int32) (t_at : Int32) (t_seen : Int32) (t_outerBoxes : Int32) (t_headAt : Int32) (t_headEnd : Int32) (t_resolutionEnd : Int32) (t_toldBits : Int32) (t_name : Int32) (t_from : Int32) (t_end : Int32) (t_boxAt : Int32) (t_streamFrom : Int32) (t_streamCount : Int32) (t_file_most : Int32) (t_file_count : Int32) (n_t_file_row : Nat) (f_t_file_row : Nat → Int32) (hend : t_end.toInt ≤ 2147483000) (hn_t_file_row : n_t_file_row < 2147483648) (sz : Nat) : Ct l D cB cI cJ y_Sc_readKind b_Sc_readKind 2 (some .int) 2 47 0 0 [.ref h_t] [(h_t, .inr (5, [.ref h_t_file, .ref h_t_plan, .int t_level, .int t_at, .int t_seen, .int t_outerBoxes, .int t_headAt, .int t_headEnd, .int t_resolutionEnd, .int t_toldBits, .int t_name, .int t_from, .int t_end, .int t_boxAt, .int t_streamFrom, .int t_streamCount])), (h_t_file, .inr (0, [.int t_file_most, .ref h_t_file_row, .int t_file_count])), (h_t_file_row, .inl (cB, n_t_file_row, .inl f_t_file_row))] (fun v w1 => ∃ (x : Int32), x = m_Sc_readKind t_name t_from t_end t_file_count n_t_file_row f_t_file_row ∧ v = some (.int x) ∧ w1 = [(h_t, .inr (5, [.ref h_t_file, .ref h_t_plan, .int t_level, .int t_at, .int t_seen, .int t_outerBoxes, .int t_headAt, .int t_headEnd, .int t_resolutionEnd, .int t_toldBits, .int t_name, .int t_from, .int t_end, .int t_boxAt, .int t_streamFrom, .int t_streamCount])), (h_t_file, .inr (0, [.int t_file_most, .ref h_t_file_row, .int t_file_count])), (h_t_file_row, .inl (cB, n_t_file_row, .inl f_t_file_row))]) sz := by
  refine Ct.of (by decide) (Nat.le_of_ble_eq_true rfl) ?_
  intro p e R s m args below meth c A ls Q hx hb hr hlk hml hta hown hin hK hN hA hRf hRl hRc hRs hP hD hS hl hQ
  have hl : lv_has ls 2 [(0, .ref h_t)] := hl
  obtain ⟨RES, E0⟩ : ∃ R, m_Sc_readKind t_name t_from t_end t_file_count n_t_file_row f_t_file_row = R := ⟨_, rfl⟩
  have E := E0
  refine lv_aload_n hx hb d_Sc_readKind_0 rfl (lv_at hl 0 rfl) ?_
  refine va_get (D := D) (v := .int t_name) hx hb hta i_Sc hown hK hP 0 rfl rfl 10 (by decide) (hta _ lk_Sc_91) (fun _ h9 => h9) rfl d_Sc_readKind_1 ?_
  refine lv_ldc (v := 1718909296) hx hb hown (hta _ lk_Sc_146) d_Sc_readKind_4 ?_
  refine lv_icmp_eq (tgt := 11) hx hb d_Sc_readKind_6 (by decide) (fun c_6 => ?_) (fun c_6 => ?_)
  · have E := (if_pos c_6).symm.trans E
    refine lv_aload_n hx hb d_Sc_readKind_11 rfl (lv_at hl 0 rfl) ?_
    refine kc_V (As := []) (rest := []) (wr := [(h_t_file, .inr (0, [.int t_file_most, .ref h_t_file_row, .int t_file_count])), (h_t_file_row, .inl (cB, n_t_file_row, .inl f_t_file_row))]) [0] [1, 2] ⟨hx, hb, hml, hown, hta⟩ hK hN hP hD hS hA (c_Sc_content l D cB cI cJ h_t h_t_file h_t_plan t_level t_at t_seen t_outerBoxes t_headAt t_headEnd t_resolutionEnd t_toldBits t_name t_from t_end t_boxAt t_streamFrom t_streamCount _) (hta _ lk_Sc_142) (hta _ ini_Sc) (hta _ code_Sc_content) code_Sc_content (hta _ inst_Sc_content) (hta _ sel_Sc_content) hd_Sc_content rfl ⟨by omega, by omega⟩ (ci := 5) 0 rfl rfl rfl rfl (by decide) (by decide) (by decide) rfl hl.1 (lv_room (Nat.le_of_ble_eq_true rfl)) d_Sc_readKind_12 ⟨by omega, by omega⟩ (fun v w1 H locs hw hP hD hS => ?_)
    obtain ⟨x12, hx12, rfl, rfl⟩ := hw
    have hP : va_P D classes [(h_t, .inr (5, [.ref h_t_file, .ref h_t_plan, .int t_level, .int t_at, .int t_seen, .int t_outerBoxes, .int t_headAt, .int t_headEnd, .int t_resolutionEnd, .int t_toldBits, .int t_name, .int t_from, .int t_end, .int t_boxAt, .int t_streamFrom, .int t_streamCount])), (h_t_file, .inr (0, [.int t_file_most, .ref h_t_file_row, .int t_file_count])), (h_t_file_row, .inl (cB, n_t_file_row, .inl f_t_file_row))] H := hP.sub [2, 0, 1] rfl
    have hD : va_D A [(h_t, .inr (5, [.ref h_t_file, .ref h_t_plan, .int t_level, .int t_at, .int t_seen, .int t_outerBoxes, .int t_headAt, .int t_headEnd, .int t_resolutionEnd, .int t_toldBits, .int t_name, .int t_from, .int t_end, .int t_boxAt, .int t_streamFrom, .int t_streamCount])), (h_t_file, .inr (0, [.int t_file_most, .ref h_t_file_row, .int t_file_count])), (h_t_file_row, .inl (cB, n_t_file_row, .inl f_t_file_row))] := hD.sub [2, 0, 1] (by decide) rfl
    refine W.eq (g2 := F0 m 15 ls [.int x12]) rfl ?_
    have E : k_Sc_readKind_12 t_from t_end t_file_count n_t_file_row f_t_file_row x12 = RES := (congrArg (k_Sc_readKind_12 t_from t_end t_file_count n_t_file_row f_t_file_row) hx12).trans E
    refine lv_bipush (v := 12) hx hb d_Sc_readKind_15 (by decide) ?_
    refine lv_icmp_lt (tgt := 29) hx hb d_Sc_readKind_17 (by decide) (fun c_17 => ?_) (fun c_17 => ?_)
    · have E := (if_pos c_17).symm.trans E
      refine lv_iconst (v := 3) hx hb d_Sc_readKind_29 (by decide) ?_
      exact kr_i hx hb hr hlk hQ hK hP hD hS ⟨(3 : Int32), E.trans E0.symm, rfl, rfl⟩ (by omega) (by omega) d_Sc_readKind_30
    · have E := (if_neg c_17).symm.trans E
      refine lv_aload_n hx hb d_Sc_readKind_20 rfl (lv_at hl 0 rfl) ?_
      refine kc_V (As := []) (rest := []) (wr := [(h_t_file, .inr (0, [.int t_file_most, .ref h_t_file_row, .int t_file_count])), (h_t_file_row, .inl (cB, n_t_file_row, .inl f_t_file_row))]) [0] [1, 2] ⟨hx, hb, hml, hown, hta⟩ hK hN hP hD hS hA (c_Sc_content l D cB cI cJ h_t h_t_file h_t_plan t_level t_at t_seen t_outerBoxes t_headAt t_headEnd t_resolutionEnd t_toldBits t_name t_from t_end t_boxAt t_streamFrom t_streamCount _) (hta _ lk_Sc_142) (hta _ ini_Sc) (hta _ code_Sc_content) code_Sc_content (hta _ inst_Sc_content) (hta _ sel_Sc_content) hd_Sc_content rfl ⟨by omega, by omega⟩ (ci := 5) 0 rfl rfl rfl rfl (by decide) (by decide) (by decide) rfl hl.1 (lv_room (Nat.le_of_ble_eq_true rfl)) d_Sc_readKind_21 ⟨by omega, by omega⟩ (fun v w1 H locs hw hP hD hS => ?_)
      obtain ⟨x21, hx21, rfl, rfl⟩ := hw
      have hP : va_P D classes [(h_t, .inr (5, [.ref h_t_file, .ref h_t_plan, .int t_level, .int t_at, .int t_seen, .int t_outerBoxes, .int t_headAt, .int t_headEnd, .int t_resolutionEnd, .int t_toldBits, .int t_name, .int t_from, .int t_end, .int t_boxAt, .int t_streamFrom, .int t_streamCount])), (h_t_file, .inr (0, [.int t_file_most, .ref h_t_file_row, .int t_file_count])), (h_t_file_row, .inl (cB, n_t_file_row, .inl f_t_file_row))] H := hP.sub [2, 0, 1] rfl
      have hD : va_D A [(h_t, .inr (5, [.ref h_t_file, .ref h_t_plan, .int t_level, .int t_at, .int t_seen, .int t_outerBoxes, .int t_headAt, .int t_headEnd, .int t_resolutionEnd, .int t_toldBits, .int t_name, .int t_from, .int t_end, .int t_boxAt, .int t_streamFrom, .int t_streamCount])), (h_t_file, .inr (0, [.int t_file_most, .ref h_t_file_row, .int t_file_count])), (h_t_file_row, .inl (cB, n_t_file_row, .inl f_t_file_row))] := hD.sub [2, 0, 1] (by decide) rfl
      refine W.eq (g2 := F0 m 24 ls [.int x21]) rfl ?_
      have E : k_Sc_readKind_21 t_from t_end t_file_count n_t_file_row f_t_file_row x21 = RES := (congrArg (k_Sc_readKind_21 t_from t_end t_file_count n_t_file_row f_t_file_row) hx21).trans E
      refine lv_iconst (v := 4) hx hb d_Sc_readKind_24 (by decide) ?_
      refine lv_irem hx hb d_Sc_readKind_25 (by decide) ?_
      refine lv_if_eq (tgt := 31) hx hb d_Sc_readKind_26 (by decide) (fun c_26 => ?_) (fun c_26 => ?_)
      · have E := (if_pos c_26).symm.trans E
        refine lv_aload_n hx hb d_Sc_readKind_31 rfl (lv_at hl 0 rfl) ?_
        refine va_get (D := D) (v := .int t_from) hx hb hta i_Sc hown hK hP 0 rfl rfl 11 (by decide) (hta _ lk_Sc_94) (fun _ h9 => h9) rfl d_Sc_readKind_32 ?_
        refine lv_bipush (v := 8) hx hb d_Sc_readKind_35 (by decide) ?_
        refine lv_iadd hx hb d_Sc_readKind_37 ?_
        refine lv_istore_n (lv' := [(1, .int (t_from + 8)), (0, .ref h_t)]) hx hb d_Sc_readKind_38 rfl hl (by decide) rfl (fun ls hl => ?_)
        have L_39 : ∀ (n : Nat) (v39_1 : Int32), (t_end.toInt - v39_1.toInt).toNat < n → lp_Sc_readKind_39 t_end t_file_count n_t_file_row f_t_file_row n v39_1 = RES → ∀ (H : Heap) (locs : List Loc), va_P D classes [(h_t, .inr (5, [.ref h_t_file, .ref h_t_plan, .int t_level, .int t_at, .int t_seen, .int t_outerBoxes, .int t_headAt, .int t_headEnd, .int t_resolutionEnd, .int t_toldBits, .int t_name, .int t_from, .int t_end, .int t_boxAt, .int t_streamFrom, .int t_streamCount])), (h_t_file, .inr (0, [.int t_file_most, .ref h_t_file_row, .int t_file_count])), (h_t_file_row, .inl (cB, n_t_file_row, .inl f_t_file_row))] H → va_D A [(h_t, .inr (5, [.ref h_t_file, .ref h_t_plan, .int t_level, .int t_at, .int t_seen, .int t_outerBoxes, .int t_headAt, .int t_headEnd, .int t_resolutionEnd, .int t_toldBits, .int t_name, .int t_from, .int t_end, .int t_boxAt, .int t_streamFrom, .int t_streamCount])), (h_t_file, .inr (0, [.int t_file_most, .ref h_t_file_row, .int t_file_count])), (h_t_file_row, .inl (cB, n_t_file_row, .inl f_t_file_row))] → va_S A s.heap H locs → ∀ ls : Array Slot, lv_has ls 2 [(1, .int v39_1), (0, .ref h_t)] → W p l e R s m args below meth c H locs 0 0 Q (F0 m 39 ls []) := by
          intro n
          induction n with
          | zero => intro v39_1 hlt; exact absurd hlt (Nat.not_lt_zero _)
          | succ n ih =>
            intro v39_1 hlt_39 E H locs hP hD hS ls hl
            have E : lb_Sc_readKind_39 t_end t_file_count n_t_file_row f_t_file_row (lp_Sc_readKind_39 t_end t_file_count n_t_file_row f_t_file_row n) v39_1 = RES := E
            generalize lp_Sc_readKind_39 t_end t_file_count n_t_file_row f_t_file_row n = kk_39 at ih E
            have ih_39 := ih
            clear ih
            refine lv_iload_n hx hb d_Sc_readKind_39 rfl (lv_at hl 0 rfl) ?_
            refine lv_aload_n hx hb d_Sc_readKind_40 rfl (lv_at hl 1 rfl) ?_
            refine va_get (D := D) (v := .int t_end) hx hb hta i_Sc hown hK hP 0 rfl rfl 12 (by decide) (hta _ lk_Sc_71) (fun _ h9 => h9) rfl d_Sc_readKind_41 ?_
            refine lv_icmp_ge (tgt := 69) hx hb d_Sc_readKind_44 (by decide) (fun c_44 => ?_) (fun c_44 => ?_)
            · have E := (if_pos c_44).symm.trans E
              refine lv_iconst (v := 5) hx hb d_Sc_readKind_69 (by decide) ?_
              exact kr_i hx hb hr hlk hQ hK hP hD hS ⟨(5 : Int32), E.trans E0.symm, rfl, rfl⟩ (by omega) (by omega) d_Sc_readKind_70
            · have E := (if_neg c_44).symm.trans E
              refine lv_aload_n hx hb d_Sc_readKind_47 rfl (lv_at hl 1 rfl) ?_
              refine va_get (D := D) (v := .ref h_t_file) hx hb hta i_Sc hown hK hP 0 rfl rfl 0 (by decide) (hta _ lk_Sc_9) (fun _ h9 => h9) rfl d_Sc_readKind_48 ?_
              refine lv_iload_n hx hb d_Sc_readKind_51 rfl (lv_at hl 0 rfl) ?_
              refine lv_iconst (v := 4) hx hb d_Sc_readKind_52 (by decide) ?_
              refine kc_V (As := [.int v39_1, .int 4]) (rest := []) (wr := [(h_t, .inr (5, [.ref h_t_file, .ref h_t_plan, .int t_level, .int t_at, .int t_seen, .int t_outerBoxes, .int t_headAt, .int t_headEnd, .int t_resolutionEnd, .int t_toldBits, .int t_name, .int t_from, .int t_end, .int t_boxAt, .int t_streamFrom, .int t_streamCount]))]) [1, 2] [0] ⟨hx, hb, hml, hown, hta⟩ hK hN hP hD hS hA (c_By_intAt l D cB cI cJ h_t_file h_t_file_row t_file_most t_file_count n_t_file_row f_t_file_row v39_1 4 hn_t_file_row _) (hta _ lk_Sc_87) (hta _ ini_By) (hta _ code_By_intAt) code_By_intAt (hta _ inst_By_intAt) (hta _ sel_By_intAt) hd_By_intAt rfl ⟨by omega, by omega⟩ (ci := 0) 1 rfl rfl rfl rfl (by decide) (by decide) (by decide) rfl hl.1 (lv_room (Nat.le_of_ble_eq_true rfl)) d_Sc_readKind_53 ⟨by omega, by omega⟩ (fun v w1 H locs hw hP hD hS => ?_)
              obtain ⟨x53, hx53, rfl, rfl⟩ := hw
              have hP : va_P D classes [(h_t, .inr (5, [.ref h_t_file, .ref h_t_plan, .int t_level, .int t_at, .int t_seen, .int t_outerBoxes, .int t_headAt, .int t_headEnd, .int t_resolutionEnd, .int t_toldBits, .int t_name, .int t_from, .int t_end, .int t_boxAt, .int t_streamFrom, .int t_streamCount])), (h_t_file, .inr (0, [.int t_file_most, .ref h_t_file_row, .int t_file_count])), (h_t_file_row, .inl (cB, n_t_file_row, .inl f_t_file_row))] H := hP.sub [0, 1, 2] rfl
              have hD : va_D A [(h_t, .inr (5, [.ref h_t_file, .ref h_t_plan, .int t_level, .int t_at, .int t_seen, .int t_outerBoxes, .int t_headAt, .int t_headEnd, .int t_resolutionEnd, .int t_toldBits, .int t_name, .int t_from, .int t_end, .int t_boxAt, .int t_streamFrom, .int t_streamCount])), (h_t_file, .inr (0, [.int t_file_most, .ref h_t_file_row, .int t_file_count])), (h_t_file_row, .inl (cB, n_t_file_row, .inl f_t_file_row))] := hD.sub [0, 1, 2] (by decide) rfl
              refine W.eq (g2 := F0 m 56 ls [.int x53]) rfl ?_
              have E : k_Sc_readKind_53 kk_39 v39_1 x53 = RES := (congrArg (k_Sc_readKind_53 kk_39 v39_1) hx53).trans E
              refine lv_ldc (v := 1785737760) hx hb hown (hta _ lk_Sc_147) d_Sc_readKind_56 ?_
              refine lv_icmp_ne (tgt := 63) hx hb d_Sc_readKind_58 (by decide) (fun c_58 => ?_) (fun c_58 => ?_)
              · have E := (if_neg c_58).symm.trans E
                refine lv_iinc (v := v39_1 + 4) (lv' := [(1, .int (v39_1 + 4)), (0, .ref h_t)]) hx hb d_Sc_readKind_63 hl (k := 0) rfl rfl (by decide) rfl (fun ls hl => ?_)
                refine lv_goto (tgt := 39) hx hb d_Sc_readKind_66 (by decide) ?_
                exact ih_39 (v39_1 + 4) (Nat.lt_of_lt_of_le (tm_up4 c_44 hend) (Nat.le_of_lt_succ hlt_39)) E _ _ hP hD hS ls (lv_sub hl [0, 1] rfl)
              · have E := (if_pos c_58).symm.trans E
                refine lv_iconst (v := 0) hx hb d_Sc_readKind_61 (by decide) ?_
                exact kr_i hx hb hr hlk hQ hK hP hD hS ⟨(0 : Int32), E.trans E0.symm, rfl, rfl⟩ (by omega) (by omega) d_Sc_readKind_62
        exact L_39 _ (t_from + 8) (Nat.lt_succ_self _) E _ _ hP hD hS ls (lv_sub hl [0, 1] rfl)
      · have E := (if_neg c_26).symm.trans E
        refine lv_iconst (v := 3) hx hb d_Sc_readKind_29 (by decide) ?_
        exact kr_i hx hb hr hlk hQ hK hP hD hS ⟨(3 : Int32), E.trans E0.symm, rfl, rfl⟩ (by omega) (by omega) d_Sc_readKind_30
  · have E := (if_neg c_6).symm.trans E
    refine lv_iconst (v := 2) hx hb d_Sc_readKind_9 (by decide) ?_
    exact kr_i hx hb hr hlk hQ hK hP hD hS ⟨(2 : Int32), E.trans E0.symm, rfl, rfl⟩ (by omega) (by omega) d_Sc_readKind_10
theorem d_Sc_enterHead_0 : decode b_Sc_enterHead 0 = .ok (.aload_n 0, 1) := by decide +kernel
theorem d_Sc_enterHead_1 : decode b_Sc_enterHead 1 = .ok (.getfield 38, 3) := by decide +kernel
theorem d_Sc_enterHead_4 : decode b_Sc_enterHead 4 = .ok (.ifCond .lt 5, 3) := by decide +kernel
theorem d_Sc_enterHead_7 : decode b_Sc_enterHead 7 = .ok (.iconst 2, 1) := by decide +kernel
theorem d_Sc_enterHead_8 : decode b_Sc_enterHead 8 = .ok (.ireturn, 1) := by decide +kernel
theorem d_Sc_enterHead_9 : decode b_Sc_enterHead 9 = .ok (.aload_n 0, 1) := by decide +kernel
theorem d_Sc_enterHead_10 : decode b_Sc_enterHead 10 = .ok (.iconst 1, 1) := by decide +kernel
theorem d_Sc_enterHead_11 : decode b_Sc_enterHead 11 = .ok (.invokevirtual 106, 3) := by decide +kernel
theorem d_Sc_enterHead_14 : decode b_Sc_enterHead 14 = .ok (.ifCond .eq 5, 3) := by decide +kernel
theorem d_Sc_enterHead_17 : decode b_Sc_enterHead 17 = .ok (.iconst 4, 1) := by decide +kernel
theorem d_Sc_enterHead_18 : decode b_Sc_enterHead 18 = .ok (.ireturn, 1) := by decide +kernel
theorem d_Sc_enterHead_19 : decode b_Sc_enterHead 19 = .ok (.aload_n 0, 1) := by decide +kernel
theorem d_Sc_enterHead_20 : decode b_Sc_enterHead 20 = .ok (.dup, 1) := by decide +kernel
theorem d_Sc_enterHead_21 : decode b_Sc_enterHead 21 = .ok (.getfield 32, 3) := by decide +kernel
theorem d_Sc_enterHead_24 : decode b_Sc_enterHead 24 = .ok (.iconst 1, 1) := by decide +kernel
theorem d_Sc_enterHead_25 : decode b_Sc_enterHead 25 = .ok (.ior, 1) := by decide +kernel
theorem d_Sc_enterHead_26 : decode b_Sc_enterHead 26 = .ok (.putfield 32, 3) := by decide +kernel
theorem d_Sc_enterHead_29 : decode b_Sc_enterHead 29 = .ok (.aload_n 0, 1) := by decide +kernel
theorem d_Sc_enterHead_30 : decode b_Sc_enterHead 30 = .ok (.iconst 0, 1) := by decide +kernel
theorem d_Sc_enterHead_31 : decode b_Sc_enterHead 31 = .ok (.putfield 103, 3) := by decide +kernel
theorem d_Sc_enterHead_34 : decode b_Sc_enterHead 34 = .ok (.aload_n 0, 1) := by decide +kernel
theorem d_Sc_enterHead_35 : decode b_Sc_enterHead 35 = .ok (.aload_n 0, 1) := by decide +kernel
theorem d_Sc_enterHead_36 : decode b_Sc_enterHead 36 = .ok (.getfield 65, 3) := by decide +kernel
theorem d_Sc_enterHead_39 : decode b_Sc_enterHead 39 = .ok (.putfield 97, 3) := by decide +kernel
theorem d_Sc_enterHead_42 : decode b_Sc_enterHead 42 = .ok (.aload_n 0, 1) := by decide +kernel
theorem d_Sc_enterHead_43 : decode b_Sc_enterHead 43 = .ok (.aload_n 0, 1) := by decide +kernel
theorem d_Sc_enterHead_44 : decode b_Sc_enterHead 44 = .ok (.getfield 71, 3) := by decide +kernel
theorem d_Sc_enterHead_47 : decode b_Sc_enterHead 47 = .ok (.putfield 59, 3) := by decide +kernel
theorem d_Sc_enterHead_50 : decode b_Sc_enterHead 50 = .ok (.aload_n 0, 1) := by decide +kernel
theorem d_Sc_enterHead_51 : decode b_Sc_enterHead 51 = .ok (.iconst 1, 1) := by decide +kernel
theorem d_Sc_enterHead_52 : decode b_Sc_enterHead 52 = .ok (.putfield 25, 3) := by decide +kernel
theorem d_Sc_enterHead_55 : decode b_Sc_enterHead 55 = .ok (.aload_n 0, 1) := by decide +kernel
theorem d_Sc_enterHead_56 : decode b_Sc_enterHead 56 = .ok (.aload_n 0, 1) := by decide +kernel
theorem d_Sc_enterHead_57 : decode b_Sc_enterHead 57 = .ok (.getfield 94, 3) := by decide +kernel
theorem d_Sc_enterHead_60 : decode b_Sc_enterHead 60 = .ok (.putfield 29, 3) := by decide +kernel
theorem d_Sc_enterHead_63 : decode b_Sc_enterHead 63 = .ok (.iconst 0, 1) := by decide +kernel
theorem d_Sc_enterHead_64 : decode b_Sc_enterHead 64 = .ok (.ireturn, 1) := by decide +kernel
def k_Sc_enterHead_11 (t_level : Int32) (t_at : Int32) (t_seen : Int32) (t_headAt : Int32) (t_headEnd : Int32) (t_toldBits : Int32) (t_from : Int32) (t_end : Int32) (t_boxAt : Int32) (x11 : Int32) : Int32 × Int32 × Int32 × Int32 × Int32 × Int32 × Int32 :=
  if x11 = 0 then (0, 1, t_from, t_seen ||| 1, t_boxAt, t_end, 0) else (4, t_level, t_at, t_seen, t_headAt, t_headEnd, t_toldBits)
def m_Sc_enterHead (t_level : Int32) (t_at : Int32) (t_seen : Int32) (t_headAt : Int32) (t_headEnd : Int32) (t_toldBits : Int32) (t_from : Int32) (t_end : Int32) (t_boxAt : Int32) (t_streamFrom : Int32) : Int32 × Int32 × Int32 × Int32 × Int32 × Int32 × Int32 :=
  if t_streamFrom < 0 then (k_Sc_enterHead_11 t_level t_at t_seen t_headAt t_headEnd t_toldBits t_from t_end t_boxAt (m_Sc_was t_seen 1)) else (2, t_level, t_at, t_seen, t_headAt, t_headEnd, t_toldBits)
set_option maxHeartbeats 4000000 in
set_option maxRecDepth 100000 in
theorem c_Sc_enterHead (l : Launch) (D : va_G) (cB cI cJ : ClassId) (h_t h_t_file h_t_plan : Nat) (t_level : Int32) (t_at : Int32) (t_seen : Int32) (t_outerBoxes : Int32) (t_headAt : Int32) (t_headEnd : Int32) (t_resolutionEnd : Int32) (t_toldBits : Int32) (t_name : Int32) (t_from : Int32) (t_end : Int32) (t_boxAt : Int32) (t_streamFrom : Int32) (t_streamCount : Int32) (sz : Nat) : Ct l D cB cI cJ y_Sc_enterHead b_Sc_enterHead 1 (some .int) 1 21 0 0 [.ref h_t] [(h_t, .inr (5, [.ref h_t_file, .ref h_t_plan, .int t_level, .int t_at, .int t_seen, .int t_outerBoxes, .int t_headAt, .int t_headEnd, .int t_resolutionEnd, .int t_toldBits, .int t_name, .int t_from, .int t_end, .int t_boxAt, .int t_streamFrom, .int t_streamCount]))] (fun v w1 => ∃ (x : Int32 × Int32 × Int32 × Int32 × Int32 × Int32 × Int32), x = m_Sc_enterHead t_level t_at t_seen t_headAt t_headEnd t_toldBits t_from t_end t_boxAt t_streamFrom ∧ v = some (.int x.1) ∧ w1 = [(h_t, .inr (5, [.ref h_t_file, .ref h_t_plan, .int x.2.1, .int x.2.2.1, .int x.2.2.2.1, .int t_outerBoxes, .int x.2.2.2.2.1, .int x.2.2.2.2.2.1, .int t_resolutionEnd, .int x.2.2.2.2.2.2, .int t_name, .int t_from, .int t_end, .int t_boxAt, .int t_streamFrom, .int t_streamCount]))]) sz := by
  refine Ct.of (by decide) (Nat.le_of_ble_eq_true rfl) ?_
  intro p e R s m args below meth c A ls Q hx hb hr hlk hml hta hown hin hK hN hA hRf hRl hRc hRs hP hD hS hl hQ
  have hl : lv_has ls 1 [(0, .ref h_t)] := hl
  obtain ⟨RES, E0⟩ : ∃ R, m_Sc_enterHead t_level t_at t_seen t_headAt t_headEnd t_toldBits t_from t_end t_boxAt t_streamFrom = R := ⟨_, rfl⟩
  have E := E0
  refine lv_aload_n hx hb d_Sc_enterHead_0 rfl (lv_at hl 0 rfl) ?_
  refine va_get (D := D) (v := .int t_streamFrom) hx hb hta i_Sc hown hK hP 0 rfl rfl 14 (by decide) (hta _ lk_Sc_38) (fun _ h9 => h9) rfl d_Sc_enterHead_1 ?_
  refine lv_if_lt (tgt := 9) hx hb d_Sc_enterHead_4 (by decide) (fun c_4 => ?_) (fun c_4 => ?_)
  · have E := (if_pos c_4).symm.trans E
    refine lv_aload_n hx hb d_Sc_enterHead_9 rfl (lv_at hl 0 rfl) ?_
    refine lv_iconst (v := 1) hx hb d_Sc_enterHead_10 (by decide) ?_
    refine kc_V (As := [.int 1]) (rest := []) (wr := []) [0] [] ⟨hx, hb, hml, hown, hta⟩ hK hN hP hD hS hA (c_Sc_was l D cB cI cJ h_t h_t_file h_t_plan t_level t_at t_seen t_outerBoxes t_headAt t_headEnd t_resolutionEnd t_toldBits t_name t_from t_end t_boxAt t_streamFrom t_streamCount 1 _) (hta _ lk_Sc_106) (hta _ ini_Sc) (hta _ code_Sc_was) code_Sc_was (hta _ inst_Sc_was) (hta _ sel_Sc_was) hd_Sc_was rfl ⟨by omega, by omega⟩ (ci := 5) 0 rfl rfl rfl rfl (by decide) (by decide) (by decide) rfl hl.1 (lv_room (Nat.le_of_ble_eq_true rfl)) d_Sc_enterHead_11 ⟨by omega, by omega⟩ (fun v w1 H locs hw hP hD hS => ?_)
    obtain ⟨x11, hx11, rfl, rfl⟩ := hw
    have hP : va_P D classes [(h_t, .inr (5, [.ref h_t_file, .ref h_t_plan, .int t_level, .int t_at, .int t_seen, .int t_outerBoxes, .int t_headAt, .int t_headEnd, .int t_resolutionEnd, .int t_toldBits, .int t_name, .int t_from, .int t_end, .int t_boxAt, .int t_streamFrom, .int t_streamCount]))] H := hP.sub [0] rfl
    have hD : va_D A [(h_t, .inr (5, [.ref h_t_file, .ref h_t_plan, .int t_level, .int t_at, .int t_seen, .int t_outerBoxes, .int t_headAt, .int t_headEnd, .int t_resolutionEnd, .int t_toldBits, .int t_name, .int t_from, .int t_end, .int t_boxAt, .int t_streamFrom, .int t_streamCount]))] := hD.sub [0] (by decide) rfl
    refine W.eq (g2 := F0 m 14 ls [.int x11]) rfl ?_
    have E : k_Sc_enterHead_11 t_level t_at t_seen t_headAt t_headEnd t_toldBits t_from t_end t_boxAt x11 = RES := (congrArg (k_Sc_enterHead_11 t_level t_at t_seen t_headAt t_headEnd t_toldBits t_from t_end t_boxAt) hx11).trans E
    refine lv_if_eq (tgt := 19) hx hb d_Sc_enterHead_14 (by decide) (fun c_14 => ?_) (fun c_14 => ?_)
    · have E := (if_pos c_14).symm.trans E
      refine lv_aload_n hx hb d_Sc_enterHead_19 rfl (lv_at hl 0 rfl) ?_
      refine lv_dup hx hb d_Sc_enterHead_20 rfl ?_
      refine va_get (D := D) (v := .int t_seen) hx hb hta i_Sc hown hK hP 0 rfl rfl 4 (by decide) (hta _ lk_Sc_32) (fun _ h9 => h9) rfl d_Sc_enterHead_21 ?_
      refine lv_iconst (v := 1) hx hb d_Sc_enterHead_24 (by decide) ?_
      refine lv_ior hx hb d_Sc_enterHead_25 ?_
      refine va_put (D := D) (ty := .int) hx hb hta i_Sc t_Sc t_Sc_ok n_Sc hown hK hP hD hS 0 rfl rfl 4 (by decide) (hta _ lk_Sc_32) (fun _ h9 => h9) rfl (by decide +kernel) rfl rfl (Nat.le_of_ble_eq_true rfl) d_Sc_enterHead_26 (fun H locs (hP : va_P D classes [(h_t, .inr (5, [.ref h_t_file, .ref h_t_plan, .int t_level, .int t_at, .int (t_seen ||| 1), .int t_outerBoxes, .int t_headAt, .int t_headEnd, .int t_resolutionEnd, .int t_toldBits, .int t_name, .int t_from, .int t_end, .int t_boxAt, .int t_streamFrom, .int t_streamCount]))] H) (hD : va_D A [(h_t, .inr (5, [.ref h_t_file, .ref h_t_plan, .int t_level, .int t_at, .int (t_seen ||| 1), .int t_outerBoxes, .int t_headAt, .int t_headEnd, .int t_resolutionEnd, .int t_toldBits, .int t_name, .int t_from, .int t_end, .int t_boxAt, .int t_streamFrom, .int t_streamCount]))]) hS => ?_)
      refine lv_aload_n hx hb d_Sc_enterHead_29 rfl (lv_at hl 0 rfl) ?_
      refine lv_iconst (v := 0) hx hb d_Sc_enterHead_30 (by decide) ?_
      refine va_put (D := D) (ty := .int) hx hb hta i_Sc t_Sc t_Sc_ok n_Sc hown hK hP hD hS 0 rfl rfl 9 (by decide) (hta _ lk_Sc_103) (fun _ h9 => h9) rfl (by decide +kernel) rfl rfl (Nat.le_of_ble_eq_true rfl) d_Sc_enterHead_31 (fun H locs (hP : va_P D classes [(h_t, .inr (5, [.ref h_t_file, .ref h_t_plan, .int t_level, .int t_at, .int (t_seen ||| 1), .int t_outerBoxes, .int t_headAt, .int t_headEnd, .int t_resolutionEnd, .int 0, .int t_name, .int t_from, .int t_end, .int t_boxAt, .int t_streamFrom, .int t_streamCount]))] H) (hD : va_D A [(h_t, .inr (5, [.ref h_t_file, .ref h_t_plan, .int t_level, .int t_at, .int (t_seen ||| 1), .int t_outerBoxes, .int t_headAt, .int t_headEnd, .int t_resolutionEnd, .int 0, .int t_name, .int t_from, .int t_end, .int t_boxAt, .int t_streamFrom, .int t_streamCount]))]) hS => ?_)
      refine lv_aload_n hx hb d_Sc_enterHead_34 rfl (lv_at hl 0 rfl) ?_
      refine lv_aload_n hx hb d_Sc_enterHead_35 rfl (lv_at hl 0 rfl) ?_
      refine va_get (D := D) (v := .int t_boxAt) hx hb hta i_Sc hown hK hP 0 rfl rfl 13 (by decide) (hta _ lk_Sc_65) (fun _ h9 => h9) rfl d_Sc_enterHead_36 ?_
      refine va_put (D := D) (ty := .int) hx hb hta i_Sc t_Sc t_Sc_ok n_Sc hown hK hP hD hS 0 rfl rfl 6 (by decide) (hta _ lk_Sc_97) (fun _ h9 => h9) rfl (by decide +kernel) rfl rfl (Nat.le_of_ble_eq_true rfl) d_Sc_enterHead_39 (fun H locs (hP : va_P D classes [(h_t, .inr (5, [.ref h_t_file, .ref h_t_plan, .int t_level, .int t_at, .int (t_seen ||| 1), .int t_outerBoxes, .int t_boxAt, .int t_headEnd, .int t_resolutionEnd, .int 0, .int t_name, .int t_from, .int t_end, .int t_boxAt, .int t_streamFrom, .int t_streamCount]))] H) (hD : va_D A [(h_t, .inr (5, [.ref h_t_file, .ref h_t_plan, .int t_level, .int t_at, .int (t_seen ||| 1), .int t_outerBoxes, .int t_boxAt, .int t_headEnd, .int t_resolutionEnd, .int 0, .int t_name, .int t_from, .int t_end, .int t_boxAt, .int t_streamFrom, .int t_streamCount]))]) hS => ?_)
      refine lv_aload_n hx hb d_Sc_enterHead_42 rfl (lv_at hl 0 rfl) ?_
      refine lv_aload_n hx hb d_Sc_enterHead_43 rfl (lv_at hl 0 rfl) ?_
      refine va_get (D := D) (v := .int t_end) hx hb hta i_Sc hown hK hP 0 rfl rfl 12 (by decide) (hta _ lk_Sc_71) (fun _ h9 => h9) rfl d_Sc_enterHead_44 ?_
      refine va_put (D := D) (ty := .int) hx hb hta i_Sc t_Sc t_Sc_ok n_Sc hown hK hP hD hS 0 rfl rfl 7 (by decide) (hta _ lk_Sc_59) (fun _ h9 => h9) rfl (by decide +kernel) rfl rfl (Nat.le_of_ble_eq_true rfl) d_Sc_enterHead_47 (fun H locs (hP : va_P D classes [(h_t, .inr (5, [.ref h_t_file, .ref h_t_plan, .int t_level, .int t_at, .int (t_seen ||| 1), .int t_outerBoxes, .int t_boxAt, .int t_end, .int t_resolutionEnd, .int 0, .int t_name, .int t_from, .int t_end, .int t_boxAt, .int t_streamFrom, .int t_streamCount]))] H) (hD : va_D A [(h_t, .inr (5, [.ref h_t_file, .ref h_t_plan, .int t_level, .int t_at, .int (t_seen ||| 1), .int t_outerBoxes, .int t_boxAt, .int t_end, .int t_resolutionEnd, .int 0, .int t_name, .int t_from, .int t_end, .int t_boxAt, .int t_streamFrom, .int t_streamCount]))]) hS => ?_)
      refine lv_aload_n hx hb d_Sc_enterHead_50 rfl (lv_at hl 0 rfl) ?_
      refine lv_iconst (v := 1) hx hb d_Sc_enterHead_51 (by decide) ?_
      refine va_put (D := D) (ty := .int) hx hb hta i_Sc t_Sc t_Sc_ok n_Sc hown hK hP hD hS 0 rfl rfl 2 (by decide) (hta _ lk_Sc_25) (fun _ h9 => h9) rfl (by decide +kernel) rfl rfl (Nat.le_of_ble_eq_true rfl) d_Sc_enterHead_52 (fun H locs (hP : va_P D classes [(h_t, .inr (5, [.ref h_t_file, .ref h_t_plan, .int 1, .int t_at, .int (t_seen ||| 1), .int t_outerBoxes, .int t_boxAt, .int t_end, .int t_resolutionEnd, .int 0, .int t_name, .int t_from, .int t_end, .int t_boxAt, .int t_streamFrom, .int t_streamCount]))] H) (hD : va_D A [(h_t, .inr (5, [.ref h_t_file, .ref h_t_plan, .int 1, .int t_at, .int (t_seen ||| 1), .int t_outerBoxes, .int t_boxAt, .int t_end, .int t_resolutionEnd, .int 0, .int t_name, .int t_from, .int t_end, .int t_boxAt, .int t_streamFrom, .int t_streamCount]))]) hS => ?_)
      refine lv_aload_n hx hb d_Sc_enterHead_55 rfl (lv_at hl 0 rfl) ?_
      refine lv_aload_n hx hb d_Sc_enterHead_56 rfl (lv_at hl 0 rfl) ?_
      refine va_get (D := D) (v := .int t_from) hx hb hta i_Sc hown hK hP 0 rfl rfl 11 (by decide) (hta _ lk_Sc_94) (fun _ h9 => h9) rfl d_Sc_enterHead_57 ?_
      refine va_put (D := D) (ty := .int) hx hb hta i_Sc t_Sc t_Sc_ok n_Sc hown hK hP hD hS 0 rfl rfl 3 (by decide) (hta _ lk_Sc_29) (fun _ h9 => h9) rfl (by decide +kernel) rfl rfl (Nat.le_of_ble_eq_true rfl) d_Sc_enterHead_60 (fun H locs (hP : va_P D classes [(h_t, .inr (5, [.ref h_t_file, .ref h_t_plan, .int 1, .int t_from, .int (t_seen ||| 1), .int t_outerBoxes, .int t_boxAt, .int t_end, .int t_resolutionEnd, .int 0, .int t_name, .int t_from, .int t_end, .int t_boxAt, .int t_streamFrom, .int t_streamCount]))] H) (hD : va_D A [(h_t, .inr (5, [.ref h_t_file, .ref h_t_plan, .int 1, .int t_from, .int (t_seen ||| 1), .int t_outerBoxes, .int t_boxAt, .int t_end, .int t_resolutionEnd, .int 0, .int t_name, .int t_from, .int t_end, .int t_boxAt, .int t_streamFrom, .int t_streamCount]))]) hS => ?_)
      refine lv_iconst (v := 0) hx hb d_Sc_enterHead_63 (by decide) ?_
      exact kr_i hx hb hr hlk hQ hK hP hD hS ⟨((0, 1, t_from, t_seen ||| 1, t_boxAt, t_end, 0) : Int32 × Int32 × Int32 × Int32 × Int32 × Int32 × Int32), E.trans E0.symm, rfl, rfl⟩ (by omega) (by omega) d_Sc_enterHead_64
    · have E := (if_neg c_14).symm.trans E
      refine lv_iconst (v := 4) hx hb d_Sc_enterHead_17 (by decide) ?_
      exact kr_i hx hb hr hlk hQ hK hP hD hS ⟨((4, t_level, t_at, t_seen, t_headAt, t_headEnd, t_toldBits) : Int32 × Int32 × Int32 × Int32 × Int32 × Int32 × Int32), E.trans E0.symm, rfl, rfl⟩ (by omega) (by omega) d_Sc_enterHead_18
  · have E := (if_neg c_4).symm.trans E
    refine lv_iconst (v := 2) hx hb d_Sc_enterHead_7 (by decide) ?_
    exact kr_i hx hb hr hlk hQ hK hP hD hS ⟨((2, t_level, t_at, t_seen, t_headAt, t_headEnd, t_toldBits) : Int32 × Int32 × Int32 × Int32 × Int32 × Int32 × Int32), E.trans E0.symm, rfl, rfl⟩ (by omega) (by omega) d_Sc_enterHead_8
theorem d_Sc_readStream_0 : decode b_Sc_readStream 0 = .ok (.aload_n 0, 1) := by decide +kernel
theorem d_Sc_readStream_1 : decode b_Sc_readStream 1 = .ok (.iconst 1, 1) := by decide +kernel
theorem d_Sc_readStream_2 : decode b_Sc_readStream 2 = .ok (.invokevirtual 106, 3) := by decide +kernel
theorem d_Sc_readStream_5 : decode b_Sc_readStream 5 = .ok (.ifCond .ne 6, 3) := by decide +kernel
theorem d_Sc_readStream_8 : decode b_Sc_readStream 8 = .ok (.bipush 6, 2) := by decide +kernel
theorem d_Sc_readStream_10 : decode b_Sc_readStream 10 = .ok (.ireturn, 1) := by decide +kernel
theorem d_Sc_readStream_11 : decode b_Sc_readStream 11 = .ok (.aload_n 0, 1) := by decide +kernel
theorem d_Sc_readStream_12 : decode b_Sc_readStream 12 = .ok (.getfield 38, 3) := by decide +kernel
theorem d_Sc_readStream_15 : decode b_Sc_readStream 15 = .ok (.ifCond .ge 19, 3) := by decide +kernel
theorem d_Sc_readStream_18 : decode b_Sc_readStream 18 = .ok (.aload_n 0, 1) := by decide +kernel
theorem d_Sc_readStream_19 : decode b_Sc_readStream 19 = .ok (.aload_n 0, 1) := by decide +kernel
theorem d_Sc_readStream_20 : decode b_Sc_readStream 20 = .ok (.getfield 94, 3) := by decide +kernel
theorem d_Sc_readStream_23 : decode b_Sc_readStream 23 = .ok (.putfield 38, 3) := by decide +kernel
theorem d_Sc_readStream_26 : decode b_Sc_readStream 26 = .ok (.aload_n 0, 1) := by decide +kernel
theorem d_Sc_readStream_27 : decode b_Sc_readStream 27 = .ok (.aload_n 0, 1) := by decide +kernel
theorem d_Sc_readStream_28 : decode b_Sc_readStream 28 = .ok (.invokevirtual 142, 3) := by decide +kernel
theorem d_Sc_readStream_31 : decode b_Sc_readStream 31 = .ok (.putfield 41, 3) := by decide +kernel
theorem d_Sc_readStream_34 : decode b_Sc_readStream 34 = .ok (.iconst 0, 1) := by decide +kernel
theorem d_Sc_readStream_35 : decode b_Sc_readStream 35 = .ok (.ireturn, 1) := by decide +kernel
def k_Sc_readStream_28 (t_from : Int32) (x28 : Int32) : Int32 × Int32 × Int32 :=
  (0, t_from, x28)
def k_Sc_readStream_2 (t_from : Int32) (t_end : Int32) (t_streamFrom : Int32) (t_streamCount : Int32) (x2 : Int32) : Int32 × Int32 × Int32 :=
  if x2 = 0 then (6, t_streamFrom, t_streamCount) else (if 0 ≤ t_streamFrom then (0, t_streamFrom, t_streamCount) else (k_Sc_readStream_28 t_from (m_Sc_content t_from t_end)))
def m_Sc_readStream (t_seen : Int32) (t_from : Int32) (t_end : Int32) (t_streamFrom : Int32) (t_streamCount : Int32) : Int32 × Int32 × Int32 :=
  k_Sc_readStream_2 t_from t_end t_streamFrom t_streamCount (m_Sc_was t_seen 1)
set_option maxHeartbeats 4000000 in
set_option maxRecDepth 100000 in
theorem c_Sc_readStream (l : Launch) (D : va_G) (cB cI cJ : ClassId) (h_t h_t_file h_t_plan : Nat) (t_level : Int32) (t_at : Int32) (t_seen : Int32) (t_outerBoxes : Int32) (t_headAt : Int32) (t_headEnd : Int32) (t_resolutionEnd : Int32) (t_toldBits : Int32) (t_name : Int32) (t_from : Int32) (t_end : Int32) (t_boxAt : Int32) (t_streamFrom : Int32) (t_streamCount : Int32) (sz : Nat) : Ct l D cB cI cJ y_Sc_readStream b_Sc_readStream 1 (some .int) 1 21 0 0 [.ref h_t] [(h_t, .inr (5, [.ref h_t_file, .ref h_t_plan, .int t_level, .int t_at, .int t_seen, .int t_outerBoxes, .int t_headAt, .int t_headEnd, .int t_resolutionEnd, .int t_toldBits, .int t_name, .int t_from, .int t_end, .int t_boxAt, .int t_streamFrom, .int t_streamCount]))] (fun v w1 => ∃ (x : Int32 × Int32 × Int32), x = m_Sc_readStream t_seen t_from t_end t_streamFrom t_streamCount ∧ v = some (.int x.1) ∧ w1 = [(h_t, .inr (5, [.ref h_t_file, .ref h_t_plan, .int t_level, .int t_at, .int t_seen, .int t_outerBoxes, .int t_headAt, .int t_headEnd, .int t_resolutionEnd, .int t_toldBits, .int t_name, .int t_from, .int t_end, .int t_boxAt, .int x.2.1, .int x.2.2]))]) sz := by
  refine Ct.of (by decide) (Nat.le_of_ble_eq_true rfl) ?_
  intro p e R s m args below meth c A ls Q hx hb hr hlk hml hta hown hin hK hN hA hRf hRl hRc hRs hP hD hS hl hQ
  have hl : lv_has ls 1 [(0, .ref h_t)] := hl
  obtain ⟨RES, E0⟩ : ∃ R, m_Sc_readStream t_seen t_from t_end t_streamFrom t_streamCount = R := ⟨_, rfl⟩
  have E := E0
  refine lv_aload_n hx hb d_Sc_readStream_0 rfl (lv_at hl 0 rfl) ?_
  refine lv_iconst (v := 1) hx hb d_Sc_readStream_1 (by decide) ?_
  refine kc_V (As := [.int 1]) (rest := []) (wr := []) [0] [] ⟨hx, hb, hml, hown, hta⟩ hK hN hP hD hS hA (c_Sc_was l D cB cI cJ h_t h_t_file h_t_plan t_level t_at t_seen t_outerBoxes t_headAt t_headEnd t_resolutionEnd t_toldBits t_name t_from t_end t_boxAt t_streamFrom t_streamCount 1 _) (hta _ lk_Sc_106) (hta _ ini_Sc) (hta _ code_Sc_was) code_Sc_was (hta _ inst_Sc_was) (hta _ sel_Sc_was) hd_Sc_was rfl ⟨by omega, by omega⟩ (ci := 5) 0 rfl rfl rfl rfl (by decide) (by decide) (by decide) rfl hl.1 (lv_room (Nat.le_of_ble_eq_true rfl)) d_Sc_readStream_2 ⟨by omega, by omega⟩ (fun v w1 H locs hw hP hD hS => ?_)
  obtain ⟨x2, hx2, rfl, rfl⟩ := hw
  have hP : va_P D classes [(h_t, .inr (5, [.ref h_t_file, .ref h_t_plan, .int t_level, .int t_at, .int t_seen, .int t_outerBoxes, .int t_headAt, .int t_headEnd, .int t_resolutionEnd, .int t_toldBits, .int t_name, .int t_from, .int t_end, .int t_boxAt, .int t_streamFrom, .int t_streamCount]))] H := hP.sub [0] rfl
  have hD : va_D A [(h_t, .inr (5, [.ref h_t_file, .ref h_t_plan, .int t_level, .int t_at, .int t_seen, .int t_outerBoxes, .int t_headAt, .int t_headEnd, .int t_resolutionEnd, .int t_toldBits, .int t_name, .int t_from, .int t_end, .int t_boxAt, .int t_streamFrom, .int t_streamCount]))] := hD.sub [0] (by decide) rfl
  refine W.eq (g2 := F0 m 5 ls [.int x2]) rfl ?_
  have E : k_Sc_readStream_2 t_from t_end t_streamFrom t_streamCount x2 = RES := (congrArg (k_Sc_readStream_2 t_from t_end t_streamFrom t_streamCount) hx2).trans E
  refine lv_if_ne (tgt := 11) hx hb d_Sc_readStream_5 (by decide) (fun c_5 => ?_) (fun c_5 => ?_)
  · have E := (if_neg c_5).symm.trans E
    refine lv_aload_n hx hb d_Sc_readStream_11 rfl (lv_at hl 0 rfl) ?_
    refine va_get (D := D) (v := .int t_streamFrom) hx hb hta i_Sc hown hK hP 0 rfl rfl 14 (by decide) (hta _ lk_Sc_38) (fun _ h9 => h9) rfl d_Sc_readStream_12 ?_
    refine lv_if_ge (tgt := 34) hx hb d_Sc_readStream_15 (by decide) (fun c_15 => ?_) (fun c_15 => ?_)
    · have E := (if_pos c_15).symm.trans E
      refine lv_iconst (v := 0) hx hb d_Sc_readStream_34 (by decide) ?_
      exact kr_i hx hb hr hlk hQ hK hP hD hS ⟨((0, t_streamFrom, t_streamCount) : Int32 × Int32 × Int32), E.trans E0.symm, rfl, rfl⟩ (by omega) (by omega) d_Sc_readStream_35
    · have E := (if_neg c_15).symm.trans E
      refine lv_aload_n hx hb d_Sc_readStream_18 rfl (lv_at hl 0 rfl) ?_
      refine lv_aload_n hx hb d_Sc_readStream_19 rfl (lv_at hl 0 rfl) ?_
      refine va_get (D := D) (v := .int t_from) hx hb hta i_Sc hown hK hP 0 rfl rfl 11 (by decide) (hta _ lk_Sc_94) (fun _ h9 => h9) rfl d_Sc_readStream_20 ?_
      refine va_put (D := D) (ty := .int) hx hb hta i_Sc t_Sc t_Sc_ok n_Sc hown hK hP hD hS 0 rfl rfl 14 (by decide) (hta _ lk_Sc_38) (fun _ h9 => h9) rfl (by decide +kernel) rfl rfl (Nat.le_of_ble_eq_true rfl) d_Sc_readStream_23 (fun H locs (hP : va_P D classes [(h_t, .inr (5, [.ref h_t_file, .ref h_t_plan, .int t_level, .int t_at, .int t_seen, .int t_outerBoxes, .int t_headAt, .int t_headEnd, .int t_resolutionEnd, .int t_toldBits, .int t_name, .int t_from, .int t_end, .int t_boxAt, .int t_from, .int t_streamCount]))] H) (hD : va_D A [(h_t, .inr (5, [.ref h_t_file, .ref h_t_plan, .int t_level, .int t_at, .int t_seen, .int t_outerBoxes, .int t_headAt, .int t_headEnd, .int t_resolutionEnd, .int t_toldBits, .int t_name, .int t_from, .int t_end, .int t_boxAt, .int t_from, .int t_streamCount]))]) hS => ?_)
      refine lv_aload_n hx hb d_Sc_readStream_26 rfl (lv_at hl 0 rfl) ?_
      refine lv_aload_n hx hb d_Sc_readStream_27 rfl (lv_at hl 0 rfl) ?_
      refine kc_V (As := []) (rest := [.ref h_t]) (wr := []) [0] [] ⟨hx, hb, hml, hown, hta⟩ hK hN hP hD hS hA (c_Sc_content l D cB cI cJ h_t h_t_file h_t_plan t_level t_at t_seen t_outerBoxes t_headAt t_headEnd t_resolutionEnd t_toldBits t_name t_from t_end t_boxAt t_from t_streamCount _) (hta _ lk_Sc_142) (hta _ ini_Sc) (hta _ code_Sc_content) code_Sc_content (hta _ inst_Sc_content) (hta _ sel_Sc_content) hd_Sc_content rfl ⟨by omega, by omega⟩ (ci := 5) 0 rfl rfl rfl rfl (by decide) (by decide) (by decide) rfl hl.1 (lv_room (Nat.le_of_ble_eq_true rfl)) d_Sc_readStream_28 ⟨by omega, by omega⟩ (fun v w1 H locs hw hP hD hS => ?_)
      obtain ⟨x28, hx28, rfl, rfl⟩ := hw
      have hP : va_P D classes [(h_t, .inr (5, [.ref h_t_file, .ref h_t_plan, .int t_level, .int t_at, .int t_seen, .int t_outerBoxes, .int t_headAt, .int t_headEnd, .int t_resolutionEnd, .int t_toldBits, .int t_name, .int t_from, .int t_end, .int t_boxAt, .int t_from, .int t_streamCount]))] H := hP.sub [0] rfl
      have hD : va_D A [(h_t, .inr (5, [.ref h_t_file, .ref h_t_plan, .int t_level, .int t_at, .int t_seen, .int t_outerBoxes, .int t_headAt, .int t_headEnd, .int t_resolutionEnd, .int t_toldBits, .int t_name, .int t_from, .int t_end, .int t_boxAt, .int t_from, .int t_streamCount]))] := hD.sub [0] (by decide) rfl
      refine W.eq (g2 := F0 m 31 ls [.int x28, .ref h_t]) rfl ?_
      have E : k_Sc_readStream_28 t_from x28 = RES := (congrArg (k_Sc_readStream_28 t_from) hx28).trans E
      refine va_put (D := D) (ty := .int) hx hb hta i_Sc t_Sc t_Sc_ok n_Sc hown hK hP hD hS 0 rfl rfl 15 (by decide) (hta _ lk_Sc_41) (fun _ h9 => h9) rfl (by decide +kernel) rfl rfl (Nat.le_of_ble_eq_true rfl) d_Sc_readStream_31 (fun H locs (hP : va_P D classes [(h_t, .inr (5, [.ref h_t_file, .ref h_t_plan, .int t_level, .int t_at, .int t_seen, .int t_outerBoxes, .int t_headAt, .int t_headEnd, .int t_resolutionEnd, .int t_toldBits, .int t_name, .int t_from, .int t_end, .int t_boxAt, .int t_from, .int x28]))] H) (hD : va_D A [(h_t, .inr (5, [.ref h_t_file, .ref h_t_plan, .int t_level, .int t_at, .int t_seen, .int t_outerBoxes, .int t_headAt, .int t_headEnd, .int t_resolutionEnd, .int t_toldBits, .int t_name, .int t_from, .int t_end, .int t_boxAt, .int t_from, .int x28]))]) hS => ?_)
      refine lv_iconst (v := 0) hx hb d_Sc_readStream_34 (by decide) ?_
      exact kr_i hx hb hr hlk hQ hK hP hD hS ⟨((0, t_from, x28) : Int32 × Int32 × Int32), E.trans E0.symm, rfl, rfl⟩ (by omega) (by omega) d_Sc_readStream_35
  · have E := (if_pos c_5).symm.trans E
    refine lv_bipush (v := 6) hx hb d_Sc_readStream_8 (by decide) ?_
    exact kr_i hx hb hr hlk hQ hK hP hD hS ⟨((6, t_streamFrom, t_streamCount) : Int32 × Int32 × Int32), E.trans E0.symm, rfl, rfl⟩ (by omega) (by omega) d_Sc_readStream_10
theorem d_Sc_readInFile_0 : decode b_Sc_readInFile 0 = .ok (.aload_n 0, 1) := by decide +kernel
theorem d_Sc_readInFile_1 : decode b_Sc_readInFile 1 = .ok (.dup, 1) := by decide +kernel
theorem d_Sc_readInFile_2 : decode b_Sc_readInFile 2 = .ok (.getfield 35, 3) := by decide +kernel
theorem d_Sc_readInFile_5 : decode b_Sc_readInFile 5 = .ok (.iconst 1, 1) := by decide +kernel
theorem d_Sc_readInFile_6 : decode b_Sc_readInFile 6 = .ok (.iadd, 1) := by decide +kernel
theorem d_Sc_readInFile_7 : decode b_Sc_readInFile 7 = .ok (.putfield 35, 3) := by decide +kernel
theorem d_Sc_readInFile_10 : decode b_Sc_readInFile 10 = .ok (.aload_n 0, 1) := by decide +kernel
theorem d_Sc_readInFile_11 : decode b_Sc_readInFile 11 = .ok (.getfield 35, 3) := by decide +kernel
theorem d_Sc_readInFile_14 : decode b_Sc_readInFile 14 = .ok (.iconst 1, 1) := by decide +kernel
theorem d_Sc_readInFile_15 : decode b_Sc_readInFile 15 = .ok (.if_icmp .ne 8, 3) := by decide +kernel
theorem d_Sc_readInFile_18 : decode b_Sc_readInFile 18 = .ok (.aload_n 0, 1) := by decide +kernel
theorem d_Sc_readInFile_19 : decode b_Sc_readInFile 19 = .ok (.invokevirtual 129, 3) := by decide +kernel
theorem d_Sc_readInFile_22 : decode b_Sc_readInFile 22 = .ok (.ireturn, 1) := by decide +kernel
theorem d_Sc_readInFile_23 : decode b_Sc_readInFile 23 = .ok (.aload_n 0, 1) := by decide +kernel
theorem d_Sc_readInFile_24 : decode b_Sc_readInFile 24 = .ok (.getfield 35, 3) := by decide +kernel
theorem d_Sc_readInFile_27 : decode b_Sc_readInFile 27 = .ok (.iconst 2, 1) := by decide +kernel
theorem d_Sc_readInFile_28 : decode b_Sc_readInFile 28 = .ok (.if_icmp .ne 8, 3) := by decide +kernel
theorem d_Sc_readInFile_31 : decode b_Sc_readInFile 31 = .ok (.aload_n 0, 1) := by decide +kernel
theorem d_Sc_readInFile_32 : decode b_Sc_readInFile 32 = .ok (.invokevirtual 132, 3) := by decide +kernel
theorem d_Sc_readInFile_35 : decode b_Sc_readInFile 35 = .ok (.ireturn, 1) := by decide +kernel
theorem d_Sc_readInFile_36 : decode b_Sc_readInFile 36 = .ok (.aload_n 0, 1) := by decide +kernel
theorem d_Sc_readInFile_37 : decode b_Sc_readInFile 37 = .ok (.getfield 91, 3) := by decide +kernel
theorem d_Sc_readInFile_40 : decode b_Sc_readInFile 40 = .ok (.lookupswitch 56 #[(1718909296, 44), (1783636000, 44), (1785737827, 51), (1785737832, 46)], 44) := by decide +kernel
theorem d_Sc_readInFile_84 : decode b_Sc_readInFile 84 = .ok (.iconst 2, 1) := by decide +kernel
theorem d_Sc_readInFile_85 : decode b_Sc_readInFile 85 = .ok (.ireturn, 1) := by decide +kernel
theorem d_Sc_readInFile_86 : decode b_Sc_readInFile 86 = .ok (.aload_n 0, 1) := by decide +kernel
theorem d_Sc_readInFile_87 : decode b_Sc_readInFile 87 = .ok (.invokevirtual 135, 3) := by decide +kernel
theorem d_Sc_readInFile_90 : decode b_Sc_readInFile 90 = .ok (.ireturn, 1) := by decide +kernel
theorem d_Sc_readInFile_91 : decode b_Sc_readInFile 91 = .ok (.aload_n 0, 1) := by decide +kernel
theorem d_Sc_readInFile_92 : decode b_Sc_readInFile 92 = .ok (.invokevirtual 138, 3) := by decide +kernel
theorem d_Sc_readInFile_95 : decode b_Sc_readInFile 95 = .ok (.ireturn, 1) := by decide +kernel
theorem d_Sc_readInFile_96 : decode b_Sc_readInFile 96 = .ok (.iconst 0, 1) := by decide +kernel
theorem d_Sc_readInFile_97 : decode b_Sc_readInFile 97 = .ok (.ireturn, 1) := by decide +kernel
def k_Sc_readInFile_92 (t_level : Int32) (t_at : Int32) (t_seen : Int32) (t_outerBoxes : Int32) (t_headAt : Int32) (t_headEnd : Int32) (t_toldBits : Int32) (x92 : Int32 × Int32 × Int32) : Int32 × Int32 × Int32 × Int32 × Int32 × Int32 × Int32 × Int32 × Int32 × Int32 :=
  (x92.1, t_level, t_at, t_seen, (t_outerBoxes + 1), t_headAt, t_headEnd, t_toldBits, x92.2.1, x92.2.2)
def k_Sc_readInFile_87 (t_outerBoxes : Int32) (t_streamFrom : Int32) (t_streamCount : Int32) (x87 : Int32 × Int32 × Int32 × Int32 × Int32 × Int32 × Int32) : Int32 × Int32 × Int32 × Int32 × Int32 × Int32 × Int32 × Int32 × Int32 × Int32 :=
  (x87.1, x87.2.1, x87.2.2.1, x87.2.2.2.1, (t_outerBoxes + 1), x87.2.2.2.2.1, x87.2.2.2.2.2.1, x87.2.2.2.2.2.2, t_streamFrom, t_streamCount)
def k_Sc_readInFile_32 (t_level : Int32) (t_at : Int32) (t_seen : Int32) (t_outerBoxes : Int32) (t_headAt : Int32) (t_headEnd : Int32) (t_toldBits : Int32) (t_streamFrom : Int32) (t_streamCount : Int32) (x32 : Int32) : Int32 × Int32 × Int32 × Int32 × Int32 × Int32 × Int32 × Int32 × Int32 × Int32 :=
  (x32, t_level, t_at, t_seen, (t_outerBoxes + 1), t_headAt, t_headEnd, t_toldBits, t_streamFrom, t_streamCount)
def k_Sc_readInFile_19 (t_level : Int32) (t_at : Int32) (t_seen : Int32) (t_outerBoxes : Int32) (t_headAt : Int32) (t_headEnd : Int32) (t_toldBits : Int32) (t_streamFrom : Int32) (t_streamCount : Int32) (x19 : Int32) : Int32 × Int32 × Int32 × Int32 × Int32 × Int32 × Int32 × Int32 × Int32 × Int32 :=
  (x19, t_level, t_at, t_seen, (t_outerBoxes + 1), t_headAt, t_headEnd, t_toldBits, t_streamFrom, t_streamCount)
def m_Sc_readInFile (t_level : Int32) (t_at : Int32) (t_seen : Int32) (t_outerBoxes : Int32) (t_headAt : Int32) (t_headEnd : Int32) (t_toldBits : Int32) (t_name : Int32) (t_from : Int32) (t_end : Int32) (t_boxAt : Int32) (t_streamFrom : Int32) (t_streamCount : Int32) (t_file_count : Int32) (n_t_file_row : Nat) (f_t_file_row : Nat → Int32) : Int32 × Int32 × Int32 × Int32 × Int32 × Int32 × Int32 × Int32 × Int32 × Int32 :=
  if (t_outerBoxes + 1) = 1 then (k_Sc_readInFile_19 t_level t_at t_seen t_outerBoxes t_headAt t_headEnd t_toldBits t_streamFrom t_streamCount (m_Sc_readSign t_name t_from t_end t_file_count n_t_file_row f_t_file_row)) else (if (t_outerBoxes + 1) = 2 then (k_Sc_readInFile_32 t_level t_at t_seen t_outerBoxes t_headAt t_headEnd t_toldBits t_streamFrom t_streamCount (m_Sc_readKind t_name t_from t_end t_file_count n_t_file_row f_t_file_row)) else (if t_name = 1718909296 then (2, t_level, t_at, t_seen, t_outerBoxes + 1, t_headAt, t_headEnd, t_toldBits, t_streamFrom, t_streamCount) else (if t_name = 1783636000 then (2, t_level, t_at, t_seen, t_outerBoxes + 1, t_headAt, t_headEnd, t_toldBits, t_streamFrom, t_streamCount) else (if t_name = 1785737827 then (k_Sc_readInFile_92 t_level t_at t_seen t_outerBoxes t_headAt t_headEnd t_toldBits (m_Sc_readStream t_seen t_from t_end t_streamFrom t_streamCount)) else (if t_name = 1785737832 then (k_Sc_readInFile_87 t_outerBoxes t_streamFrom t_streamCount (m_Sc_enterHead t_level t_at t_seen t_headAt t_headEnd t_toldBits t_from t_end t_boxAt t_streamFrom)) else (0, t_level, t_at, t_seen, t_outerBoxes + 1, t_headAt, t_headEnd, t_toldBits, t_streamFrom, t_streamCount))))))
set_option maxHeartbeats 4000000 in
set_option maxRecDepth 100000 in
theorem c_Sc_readInFile (l : Launch) (D : va_G) (cB cI cJ : ClassId) (h_t h_t_file h_t_plan h_t_file_row : Nat) (t_level : Int32) (t_at : Int32) (t_seen : Int32) (t_outerBoxes : Int32) (t_headAt : Int32) (t_headEnd : Int32) (t_resolutionEnd : Int32) (t_toldBits : Int32) (t_name : Int32) (t_from : Int32) (t_end : Int32) (t_boxAt : Int32) (t_streamFrom : Int32) (t_streamCount : Int32) (t_file_most : Int32) (t_file_count : Int32) (n_t_file_row : Nat) (f_t_file_row : Nat → Int32) (hend : t_end.toInt ≤ 2147483000) (hn_t_file_row : n_t_file_row < 2147483648) (sz : Nat) : Ct l D cB cI cJ y_Sc_readInFile b_Sc_readInFile 1 (some .int) 3 68 0 0 [.ref h_t] [(h_t, .inr (5, [.ref h_t_file, .ref h_t_plan, .int t_level, .int t_at, .int t_seen, .int t_outerBoxes, .int t_headAt, .int t_headEnd, .int t_resolutionEnd, .int t_toldBits, .int t_name, .int t_from, .int t_end, .int t_boxAt, .int t_streamFrom, .int t_streamCount])), (h_t_file, .inr (0, [.int t_file_most, .ref h_t_file_row, .int t_file_count])), (h_t_file_row, .inl (cB, n_t_file_row, .inl f_t_file_row))] (fun v w1 => ∃ (x : Int32 × Int32 × Int32 × Int32 × Int32 × Int32 × Int32 × Int32 × Int32 × Int32), x = m_Sc_readInFile t_level t_at t_seen t_outerBoxes t_headAt t_headEnd t_toldBits t_name t_from t_end t_boxAt t_streamFrom t_streamCount t_file_count n_t_file_row f_t_file_row ∧ v = some (.int x.1) ∧ w1 = [(h_t, .inr (5, [.ref h_t_file, .ref h_t_plan, .int x.2.1, .int x.2.2.1, .int x.2.2.2.1, .int x.2.2.2.2.1, .int x.2.2.2.2.2.1, .int x.2.2.2.2.2.2.1, .int t_resolutionEnd, .int x.2.2.2.2.2.2.2.1, .int t_name, .int t_from, .int t_end, .int t_boxAt, .int x.2.2.2.2.2.2.2.2.1, .int x.2.2.2.2.2.2.2.2.2])), (h_t_file, .inr (0, [.int t_file_most, .ref h_t_file_row, .int t_file_count])), (h_t_file_row, .inl (cB, n_t_file_row, .inl f_t_file_row))]) sz := by
  refine Ct.of (by decide) (Nat.le_of_ble_eq_true rfl) ?_
  intro p e R s m args below meth c A ls Q hx hb hr hlk hml hta hown hin hK hN hA hRf hRl hRc hRs hP hD hS hl hQ
  have hl : lv_has ls 1 [(0, .ref h_t)] := hl
  obtain ⟨RES, E0⟩ : ∃ R, m_Sc_readInFile t_level t_at t_seen t_outerBoxes t_headAt t_headEnd t_toldBits t_name t_from t_end t_boxAt t_streamFrom t_streamCount t_file_count n_t_file_row f_t_file_row = R := ⟨_, rfl⟩
  have E := E0
  refine lv_aload_n hx hb d_Sc_readInFile_0 rfl (lv_at hl 0 rfl) ?_
  refine lv_dup hx hb d_Sc_readInFile_1 rfl ?_
  refine va_get (D := D) (v := .int t_outerBoxes) hx hb hta i_Sc hown hK hP 0 rfl rfl 5 (by decide) (hta _ lk_Sc_35) (fun _ h9 => h9) rfl d_Sc_readInFile_2 ?_
  refine lv_iconst (v := 1) hx hb d_Sc_readInFile_5 (by decide) ?_
  refine lv_iadd hx hb d_Sc_readInFile_6 ?_
  refine va_put (D := D) (ty := .int) hx hb hta i_Sc t_Sc t_Sc_ok n_Sc hown hK hP hD hS 0 rfl rfl 5 (by decide) (hta _ lk_Sc_35) (fun _ h9 => h9) rfl (by decide +kernel) rfl rfl (Nat.le_of_ble_eq_true rfl) d_Sc_readInFile_7 (fun H locs (hP : va_P D classes [(h_t, .inr (5, [.ref h_t_file, .ref h_t_plan, .int t_level, .int t_at, .int t_seen, .int (t_outerBoxes + 1), .int t_headAt, .int t_headEnd, .int t_resolutionEnd, .int t_toldBits, .int t_name, .int t_from, .int t_end, .int t_boxAt, .int t_streamFrom, .int t_streamCount])), (h_t_file, .inr (0, [.int t_file_most, .ref h_t_file_row, .int t_file_count])), (h_t_file_row, .inl (cB, n_t_file_row, .inl f_t_file_row))] H) (hD : va_D A [(h_t, .inr (5, [.ref h_t_file, .ref h_t_plan, .int t_level, .int t_at, .int t_seen, .int (t_outerBoxes + 1), .int t_headAt, .int t_headEnd, .int t_resolutionEnd, .int t_toldBits, .int t_name, .int t_from, .int t_end, .int t_boxAt, .int t_streamFrom, .int t_streamCount])), (h_t_file, .inr (0, [.int t_file_most, .ref h_t_file_row, .int t_file_count])), (h_t_file_row, .inl (cB, n_t_file_row, .inl f_t_file_row))]) hS => ?_)
  refine lv_aload_n hx hb d_Sc_readInFile_10 rfl (lv_at hl 0 rfl) ?_
  refine va_get (D := D) (v := .int (t_outerBoxes + 1)) hx hb hta i_Sc hown hK hP 0 rfl rfl 5 (by decide) (hta _ lk_Sc_35) (fun _ h9 => h9) rfl d_Sc_readInFile_11 ?_
  refine lv_iconst (v := 1) hx hb d_Sc_readInFile_14 (by decide) ?_
  refine lv_icmp_ne (tgt := 23) hx hb d_Sc_readInFile_15 (by decide) (fun c_15 => ?_) (fun c_15 => ?_)
  · have E := (if_neg c_15).symm.trans E
    refine lv_aload_n hx hb d_Sc_readInFile_23 rfl (lv_at hl 0 rfl) ?_
    refine va_get (D := D) (v := .int (t_outerBoxes + 1)) hx hb hta i_Sc hown hK hP 0 rfl rfl 5 (by decide) (hta _ lk_Sc_35) (fun _ h9 => h9) rfl d_Sc_readInFile_24 ?_
    refine lv_iconst (v := 2) hx hb d_Sc_readInFile_27 (by decide) ?_
    refine lv_icmp_ne (tgt := 36) hx hb d_Sc_readInFile_28 (by decide) (fun c_28 => ?_) (fun c_28 => ?_)
    · have E := (if_neg c_28).symm.trans E
      refine lv_aload_n hx hb d_Sc_readInFile_36 rfl (lv_at hl 0 rfl) ?_
      refine va_get (D := D) (v := .int t_name) hx hb hta i_Sc hown hK hP 0 rfl rfl 10 (by decide) (hta _ lk_Sc_91) (fun _ h9 => h9) rfl d_Sc_readInFile_37 ?_
      by_cases c_40_0 : t_name = 1718909296
      · have E := (if_pos c_40_0).symm.trans E
        refine lv_lookup (off := 44) (tgt := 84) hx hb d_Sc_readInFile_40 (by decide) (by rw [c_40_0]; rfl) (by decide) ?_
        refine lv_iconst (v := 2) hx hb d_Sc_readInFile_84 (by decide) ?_
        exact kr_i hx hb hr hlk hQ hK hP hD hS ⟨((2, t_level, t_at, t_seen, t_outerBoxes + 1, t_headAt, t_headEnd, t_toldBits, t_streamFrom, t_streamCount) : Int32 × Int32 × Int32 × Int32 × Int32 × Int32 × Int32 × Int32 × Int32 × Int32), E.trans E0.symm, rfl, rfl⟩ (by omega) (by omega) d_Sc_readInFile_85
      have E := (if_neg c_40_0).symm.trans E
      by_cases c_40_1 : t_name = 1783636000
      · have E := (if_pos c_40_1).symm.trans E
        refine lv_lookup (off := 44) (tgt := 84) hx hb d_Sc_readInFile_40 (by decide) (by rw [c_40_1]; rfl) (by decide) ?_
        refine lv_iconst (v := 2) hx hb d_Sc_readInFile_84 (by decide) ?_
        exact kr_i hx hb hr hlk hQ hK hP hD hS ⟨((2, t_level, t_at, t_seen, t_outerBoxes + 1, t_headAt, t_headEnd, t_toldBits, t_streamFrom, t_streamCount) : Int32 × Int32 × Int32 × Int32 × Int32 × Int32 × Int32 × Int32 × Int32 × Int32), E.trans E0.symm, rfl, rfl⟩ (by omega) (by omega) d_Sc_readInFile_85
      have E := (if_neg c_40_1).symm.trans E
      by_cases c_40_2 : t_name = 1785737827
      · have E := (if_pos c_40_2).symm.trans E
        refine lv_lookup (off := 51) (tgt := 91) hx hb d_Sc_readInFile_40 (by decide) (by rw [c_40_2]; rfl) (by decide) ?_
        refine lv_aload_n hx hb d_Sc_readInFile_91 rfl (lv_at hl 0 rfl) ?_
        refine kc_V (As := []) (rest := []) (wr := [(h_t_file, .inr (0, [.int t_file_most, .ref h_t_file_row, .int t_file_count])), (h_t_file_row, .inl (cB, n_t_file_row, .inl f_t_file_row))]) [0] [1, 2] ⟨hx, hb, hml, hown, hta⟩ hK hN hP hD hS hA (c_Sc_readStream l D cB cI cJ h_t h_t_file h_t_plan t_level t_at t_seen (t_outerBoxes + 1) t_headAt t_headEnd t_resolutionEnd t_toldBits t_name t_from t_end t_boxAt t_streamFrom t_streamCount _) (hta _ lk_Sc_138) (hta _ ini_Sc) (hta _ code_Sc_readStream) code_Sc_readStream (hta _ inst_Sc_readStream) (hta _ sel_Sc_readStream) hd_Sc_readStream rfl ⟨by omega, by omega⟩ (ci := 5) 0 rfl rfl rfl rfl (by decide) (by decide) (by decide) rfl hl.1 (lv_room (Nat.le_of_ble_eq_true rfl)) d_Sc_readInFile_92 ⟨by omega, by omega⟩ (fun v w1 H locs hw hP hD hS => ?_)
        obtain ⟨x92, hx92, rfl, rfl⟩ := hw
        have hP : va_P D classes [(h_t, .inr (5, [.ref h_t_file, .ref h_t_plan, .int t_level, .int t_at, .int t_seen, .int (t_outerBoxes + 1), .int t_headAt, .int t_headEnd, .int t_resolutionEnd, .int t_toldBits, .int t_name, .int t_from, .int t_end, .int t_boxAt, .int x92.2.1, .int x92.2.2])), (h_t_file, .inr (0, [.int t_file_most, .ref h_t_file_row, .int t_file_count])), (h_t_file_row, .inl (cB, n_t_file_row, .inl f_t_file_row))] H := hP.sub [2, 0, 1] rfl
        have hD : va_D A [(h_t, .inr (5, [.ref h_t_file, .ref h_t_plan, .int t_level, .int t_at, .int t_seen, .int (t_outerBoxes + 1), .int t_headAt, .int t_headEnd, .int t_resolutionEnd, .int t_toldBits, .int t_name, .int t_from, .int t_end, .int t_boxAt, .int x92.2.1, .int x92.2.2])), (h_t_file, .inr (0, [.int t_file_most, .ref h_t_file_row, .int t_file_count])), (h_t_file_row, .inl (cB, n_t_file_row, .inl f_t_file_row))] := hD.sub [2, 0, 1] (by decide) rfl
        refine W.eq (g2 := F0 m 95 ls [.int x92.1]) rfl ?_
        have E : k_Sc_readInFile_92 t_level t_at t_seen t_outerBoxes t_headAt t_headEnd t_toldBits x92 = RES := (congrArg (k_Sc_readInFile_92 t_level t_at t_seen t_outerBoxes t_headAt t_headEnd t_toldBits) hx92).trans E
        exact kr_i hx hb hr hlk hQ hK hP hD hS ⟨((x92.1, t_level, t_at, t_seen, (t_outerBoxes + 1), t_headAt, t_headEnd, t_toldBits, x92.2.1, x92.2.2) : Int32 × Int32 × Int32 × Int32 × Int32 × Int32 × Int32 × Int32 × Int32 × Int32), E.trans E0.symm, rfl, rfl⟩ (by omega) (by omega) d_Sc_readInFile_95
      have E := (if_neg c_40_2).symm.trans E
      by_cases c_40_3 : t_name = 1785737832
      · have E := (if_pos c_40_3).symm.trans E
        refine lv_lookup (off := 46) (tgt := 86) hx hb d_Sc_readInFile_40 (by decide) (by rw [c_40_3]; rfl) (by decide) ?_
        refine lv_aload_n hx hb d_Sc_readInFile_86 rfl (lv_at hl 0 rfl) ?_
        refine kc_V (As := []) (rest := []) (wr := [(h_t_file, .inr (0, [.int t_file_most, .ref h_t_file_row, .int t_file_count])), (h_t_file_row, .inl (cB, n_t_file_row, .inl f_t_file_row))]) [0] [1, 2] ⟨hx, hb, hml, hown, hta⟩ hK hN hP hD hS hA (c_Sc_enterHead l D cB cI cJ h_t h_t_file h_t_plan t_level t_at t_seen (t_outerBoxes + 1) t_headAt t_headEnd t_resolutionEnd t_toldBits t_name t_from t_end t_boxAt t_streamFrom t_streamCount _) (hta _ lk_Sc_135) (hta _ ini_Sc) (hta _ code_Sc_enterHead) code_Sc_enterHead (hta _ inst_Sc_enterHead) (hta _ sel_Sc_enterHead) hd_Sc_enterHead rfl ⟨by omega, by omega⟩ (ci := 5) 0 rfl rfl rfl rfl (by decide) (by decide) (by decide) rfl hl.1 (lv_room (Nat.le_of_ble_eq_true rfl)) d_Sc_readInFile_87 ⟨by omega, by omega⟩ (fun v w1 H locs hw hP hD hS => ?_)
        obtain ⟨x87, hx87, rfl, rfl⟩ := hw
        have hP : va_P D classes [(h_t, .inr (5, [.ref h_t_file, .ref h_t_plan, .int x87.2.1, .int x87.2.2.1, .int x87.2.2.2.1, .int (t_outerBoxes + 1), .int x87.2.2.2.2.1, .int x87.2.2.2.2.2.1, .int t_resolutionEnd, .int x87.2.2.2.2.2.2, .int t_name, .int t_from, .int t_end, .int t_boxAt, .int t_streamFrom, .int t_streamCount])), (h_t_file, .inr (0, [.int t_file_most, .ref h_t_file_row, .int t_file_count])), (h_t_file_row, .inl (cB, n_t_file_row, .inl f_t_file_row))] H := hP.sub [2, 0, 1] rfl
        have hD : va_D A [(h_t, .inr (5, [.ref h_t_file, .ref h_t_plan, .int x87.2.1, .int x87.2.2.1, .int x87.2.2.2.1, .int (t_outerBoxes + 1), .int x87.2.2.2.2.1, .int x87.2.2.2.2.2.1, .int t_resolutionEnd, .int x87.2.2.2.2.2.2, .int t_name, .int t_from, .int t_end, .int t_boxAt, .int t_streamFrom, .int t_streamCount])), (h_t_file, .inr (0, [.int t_file_most, .ref h_t_file_row, .int t_file_count])), (h_t_file_row, .inl (cB, n_t_file_row, .inl f_t_file_row))] := hD.sub [2, 0, 1] (by decide) rfl
        refine W.eq (g2 := F0 m 90 ls [.int x87.1]) rfl ?_
        have E : k_Sc_readInFile_87 t_outerBoxes t_streamFrom t_streamCount x87 = RES := (congrArg (k_Sc_readInFile_87 t_outerBoxes t_streamFrom t_streamCount) hx87).trans E
        exact kr_i hx hb hr hlk hQ hK hP hD hS ⟨((x87.1, x87.2.1, x87.2.2.1, x87.2.2.2.1, (t_outerBoxes + 1), x87.2.2.2.2.1, x87.2.2.2.2.2.1, x87.2.2.2.2.2.2, t_streamFrom, t_streamCount) : Int32 × Int32 × Int32 × Int32 × Int32 × Int32 × Int32 × Int32 × Int32 × Int32), E.trans E0.symm, rfl, rfl⟩ (by omega) (by omega) d_Sc_readInFile_90
      have E := (if_neg c_40_3).symm.trans E
      refine lv_lookup (off := 56) (tgt := 96) hx hb d_Sc_readInFile_40 (by decide) (by rw [lv_osw c_40_0 (a := 1718909296) (by decide), lv_osw c_40_1 (a := 1783636000) (by decide), lv_osw c_40_2 (a := 1785737827) (by decide), lv_osw c_40_3 (a := 1785737832) (by decide)]; rfl) (by decide) ?_
      refine lv_iconst (v := 0) hx hb d_Sc_readInFile_96 (by decide) ?_
      exact kr_i hx hb hr hlk hQ hK hP hD hS ⟨((0, t_level, t_at, t_seen, t_outerBoxes + 1, t_headAt, t_headEnd, t_toldBits, t_streamFrom, t_streamCount) : Int32 × Int32 × Int32 × Int32 × Int32 × Int32 × Int32 × Int32 × Int32 × Int32), E.trans E0.symm, rfl, rfl⟩ (by omega) (by omega) d_Sc_readInFile_97
    · have E := (if_pos c_28).symm.trans E
      refine lv_aload_n hx hb d_Sc_readInFile_31 rfl (lv_at hl 0 rfl) ?_
      refine kc_V (As := []) (rest := []) (wr := []) [0, 1, 2] [] ⟨hx, hb, hml, hown, hta⟩ hK hN hP hD hS hA (c_Sc_readKind l D cB cI cJ h_t h_t_file h_t_plan h_t_file_row t_level t_at t_seen (t_outerBoxes + 1) t_headAt t_headEnd t_resolutionEnd t_toldBits t_name t_from t_end t_boxAt t_streamFrom t_streamCount t_file_most t_file_count n_t_file_row f_t_file_row hend hn_t_file_row _) (hta _ lk_Sc_132) (hta _ ini_Sc) (hta _ code_Sc_readKind) code_Sc_readKind (hta _ inst_Sc_readKind) (hta _ sel_Sc_readKind) hd_Sc_readKind rfl ⟨by omega, by omega⟩ (ci := 5) 0 rfl rfl rfl rfl (by decide) (by decide) (by decide) rfl hl.1 (lv_room (Nat.le_of_ble_eq_true rfl)) d_Sc_readInFile_32 ⟨by omega, by omega⟩ (fun v w1 H locs hw hP hD hS => ?_)
      obtain ⟨x32, hx32, rfl, rfl⟩ := hw
      have hP : va_P D classes [(h_t, .inr (5, [.ref h_t_file, .ref h_t_plan, .int t_level, .int t_at, .int t_seen, .int (t_outerBoxes + 1), .int t_headAt, .int t_headEnd, .int t_resolutionEnd, .int t_toldBits, .int t_name, .int t_from, .int t_end, .int t_boxAt, .int t_streamFrom, .int t_streamCount])), (h_t_file, .inr (0, [.int t_file_most, .ref h_t_file_row, .int t_file_count])), (h_t_file_row, .inl (cB, n_t_file_row, .inl f_t_file_row))] H := hP.sub [0, 1, 2] rfl
      have hD : va_D A [(h_t, .inr (5, [.ref h_t_file, .ref h_t_plan, .int t_level, .int t_at, .int t_seen, .int (t_outerBoxes + 1), .int t_headAt, .int t_headEnd, .int t_resolutionEnd, .int t_toldBits, .int t_name, .int t_from, .int t_end, .int t_boxAt, .int t_streamFrom, .int t_streamCount])), (h_t_file, .inr (0, [.int t_file_most, .ref h_t_file_row, .int t_file_count])), (h_t_file_row, .inl (cB, n_t_file_row, .inl f_t_file_row))] := hD.sub [0, 1, 2] (by decide) rfl
      refine W.eq (g2 := F0 m 35 ls [.int x32]) rfl ?_
      have E : k_Sc_readInFile_32 t_level t_at t_seen t_outerBoxes t_headAt t_headEnd t_toldBits t_streamFrom t_streamCount x32 = RES := (congrArg (k_Sc_readInFile_32 t_level t_at t_seen t_outerBoxes t_headAt t_headEnd t_toldBits t_streamFrom t_streamCount) hx32).trans E
      exact kr_i hx hb hr hlk hQ hK hP hD hS ⟨((x32, t_level, t_at, t_seen, (t_outerBoxes + 1), t_headAt, t_headEnd, t_toldBits, t_streamFrom, t_streamCount) : Int32 × Int32 × Int32 × Int32 × Int32 × Int32 × Int32 × Int32 × Int32 × Int32), E.trans E0.symm, rfl, rfl⟩ (by omega) (by omega) d_Sc_readInFile_35
  · have E := (if_pos c_15).symm.trans E
    refine lv_aload_n hx hb d_Sc_readInFile_18 rfl (lv_at hl 0 rfl) ?_
    refine kc_V (As := []) (rest := []) (wr := []) [0, 1, 2] [] ⟨hx, hb, hml, hown, hta⟩ hK hN hP hD hS hA (c_Sc_readSign l D cB cI cJ h_t h_t_file h_t_plan h_t_file_row t_level t_at t_seen (t_outerBoxes + 1) t_headAt t_headEnd t_resolutionEnd t_toldBits t_name t_from t_end t_boxAt t_streamFrom t_streamCount t_file_most t_file_count n_t_file_row f_t_file_row hn_t_file_row _) (hta _ lk_Sc_129) (hta _ ini_Sc) (hta _ code_Sc_readSign) code_Sc_readSign (hta _ inst_Sc_readSign) (hta _ sel_Sc_readSign) hd_Sc_readSign rfl ⟨by omega, by omega⟩ (ci := 5) 0 rfl rfl rfl rfl (by decide) (by decide) (by decide) rfl hl.1 (lv_room (Nat.le_of_ble_eq_true rfl)) d_Sc_readInFile_19 ⟨by omega, by omega⟩ (fun v w1 H locs hw hP hD hS => ?_)
    obtain ⟨x19, hx19, rfl, rfl⟩ := hw
    have hP : va_P D classes [(h_t, .inr (5, [.ref h_t_file, .ref h_t_plan, .int t_level, .int t_at, .int t_seen, .int (t_outerBoxes + 1), .int t_headAt, .int t_headEnd, .int t_resolutionEnd, .int t_toldBits, .int t_name, .int t_from, .int t_end, .int t_boxAt, .int t_streamFrom, .int t_streamCount])), (h_t_file, .inr (0, [.int t_file_most, .ref h_t_file_row, .int t_file_count])), (h_t_file_row, .inl (cB, n_t_file_row, .inl f_t_file_row))] H := hP.sub [0, 1, 2] rfl
    have hD : va_D A [(h_t, .inr (5, [.ref h_t_file, .ref h_t_plan, .int t_level, .int t_at, .int t_seen, .int (t_outerBoxes + 1), .int t_headAt, .int t_headEnd, .int t_resolutionEnd, .int t_toldBits, .int t_name, .int t_from, .int t_end, .int t_boxAt, .int t_streamFrom, .int t_streamCount])), (h_t_file, .inr (0, [.int t_file_most, .ref h_t_file_row, .int t_file_count])), (h_t_file_row, .inl (cB, n_t_file_row, .inl f_t_file_row))] := hD.sub [0, 1, 2] (by decide) rfl
    refine W.eq (g2 := F0 m 22 ls [.int x19]) rfl ?_
    have E : k_Sc_readInFile_19 t_level t_at t_seen t_outerBoxes t_headAt t_headEnd t_toldBits t_streamFrom t_streamCount x19 = RES := (congrArg (k_Sc_readInFile_19 t_level t_at t_seen t_outerBoxes t_headAt t_headEnd t_toldBits t_streamFrom t_streamCount) hx19).trans E
    exact kr_i hx hb hr hlk hQ hK hP hD hS ⟨((x19, t_level, t_at, t_seen, (t_outerBoxes + 1), t_headAt, t_headEnd, t_toldBits, t_streamFrom, t_streamCount) : Int32 × Int32 × Int32 × Int32 × Int32 × Int32 × Int32 × Int32 × Int32 × Int32), E.trans E0.symm, rfl, rfl⟩ (by omega) (by omega) d_Sc_readInFile_22
