theorem d_Pa_init_0 : decode b_Pa_init 0 = .ok (.aload_n 0, 1) := by decide +kernel
theorem d_Pa_init_1 : decode b_Pa_init 1 = .ok (.invokespecial 3, 3) := by decide +kernel
theorem d_Pa_init_4 : decode b_Pa_init 4 = .ok (.aload_n 0, 1) := by decide +kernel
theorem d_Pa_init_5 : decode b_Pa_init 5 = .ok (.iconst 0, 1) := by decide +kernel
theorem d_Pa_init_6 : decode b_Pa_init 6 = .ok (.putfield 9, 3) := by decide +kernel
theorem d_Pa_init_9 : decode b_Pa_init 9 = .ok (.aload_n 0, 1) := by decide +kernel
theorem d_Pa_init_10 : decode b_Pa_init 10 = .ok (.iconst 0, 1) := by decide +kernel
theorem d_Pa_init_11 : decode b_Pa_init 11 = .ok (.putfield 15, 3) := by decide +kernel
theorem d_Pa_init_14 : decode b_Pa_init 14 = .ok (.aload_n 0, 1) := by decide +kernel
theorem d_Pa_init_15 : decode b_Pa_init 15 = .ok (.bipush 8, 2) := by decide +kernel
theorem d_Pa_init_17 : decode b_Pa_init 17 = .ok (.newarray .int, 2) := by decide +kernel
theorem d_Pa_init_19 : decode b_Pa_init 19 = .ok (.putfield 18, 3) := by decide +kernel
theorem d_Pa_init_22 : decode b_Pa_init 22 = .ok (.aload_n 0, 1) := by decide +kernel
theorem d_Pa_init_23 : decode b_Pa_init 23 = .ok (.bipush 8, 2) := by decide +kernel
theorem d_Pa_init_25 : decode b_Pa_init 25 = .ok (.newarray .long, 2) := by decide +kernel
theorem d_Pa_init_27 : decode b_Pa_init 27 = .ok (.putfield 22, 3) := by decide +kernel
theorem d_Pa_init_30 : decode b_Pa_init 30 = .ok (.return_, 1) := by decide +kernel

set_option maxHeartbeats 4000000 in
set_option maxRecDepth 100000 in
theorem c_Pa_init (l : Launch) (D : va_G) (cB cI cJ : ClassId) (h_t : Nat) (sz : Nat) : Ct l D cB cI cJ y_Pa_init b_Pa_init 1 none 1 20 2 16 [.ref h_t] [(h_t, .inr (2, [.int 0, .int 0, .null, .null]))] (fun v w1 => ∃ (q_17 : Nat) (q_25 : Nat), v = none ∧ w1 = [(h_t, .inr (2, [.int 0, .int 0, .ref q_17, .ref q_25])), (q_17, .inl (cI, 8, .inl (fun _ => 0))), (q_25, .inl (cJ, 8, .inr (.inl (fun _ => 0))))]) sz := by
  refine Ct.of (by decide) (Nat.le_of_ble_eq_true rfl) ?_
  intro p e R s m args below meth c A ls Q hx hb hr hlk hml hta hown hin hK hN hA hRf hRl hRc hRs hP hD hS hl hQ
  have hl : lv_has ls 1 [(0, .ref h_t)] := hl
  refine lv_aload_n hx hb d_Pa_init_0 rfl (lv_at hl 0 rfl) ?_
  refine W.objInit hx hb hown (hta _ lk_Pa_3) (hta _ inst_Object_init) (hta _ code_Object_init) rfl (by rw [hml]; exact hl.1) rfl d_Pa_init_1 (by omega) (by first | omega | (simp only [List.map, List.sum_cons, List.sum_nil, F0, JFrame.monitorRoom]; omega)) ?_
  refine lv_aload_n hx hb d_Pa_init_4 rfl (lv_at hl 0 rfl) ?_
  refine lv_iconst (v := 0) hx hb d_Pa_init_5 (by decide) ?_
  refine va_put (D := D) (ty := .int) hx hb hta i_Pa t_Pa t_Pa_ok n_Pa hown hK hP hD hS 0 rfl rfl 0 (by decide) (hta _ lk_Pa_9) (fun _ h9 => h9) rfl (by decide +kernel) rfl rfl (Nat.le_of_ble_eq_true rfl) d_Pa_init_6 (fun H locs (hP : va_P D classes [(h_t, .inr (2, [.int 0, .int 0, .null, .null]))] H) (hD : va_D A [(h_t, .inr (2, [.int 0, .int 0, .null, .null]))]) hS => ?_)
  refine lv_aload_n hx hb d_Pa_init_9 rfl (lv_at hl 0 rfl) ?_
  refine lv_iconst (v := 0) hx hb d_Pa_init_10 (by decide) ?_
  refine va_put (D := D) (ty := .int) hx hb hta i_Pa t_Pa t_Pa_ok n_Pa hown hK hP hD hS 0 rfl rfl 1 (by decide) (hta _ lk_Pa_15) (fun _ h9 => h9) rfl (by decide +kernel) rfl rfl (Nat.le_of_ble_eq_true rfl) d_Pa_init_11 (fun H locs (hP : va_P D classes [(h_t, .inr (2, [.int 0, .int 0, .null, .null]))] H) (hD : va_D A [(h_t, .inr (2, [.int 0, .int 0, .null, .null]))]) hS => ?_)
  refine lv_aload_n hx hb d_Pa_init_14 rfl (lv_at hl 0 rfl) ?_
  refine lv_bipush (v := 8) hx hb d_Pa_init_15 (by decide) ?_
  refine kn_int hx hb (hta _ ac_int) hK hP hD hS hA (N := 8) (by decide) (by decide) (by decide) (by omega) (by omega) d_Pa_init_17 (fun q_17 H (hP : va_P D classes [(h_t, .inr (2, [.int 0, .int 0, .null, .null])), (q_17, .inl (cI, 8, .inl (fun _ => 0)))] H) (hD : va_D A [(h_t, .inr (2, [.int 0, .int 0, .null, .null])), (q_17, .inl (cI, 8, .inl (fun _ => 0)))]) hS => ?_)
  refine va_putF (D := D) (ty := .array .int) hx hb hta i_Pa t_Pa t_Pa_ok n_Pa hown hK hP hD hS 0 rfl rfl 2 (by decide) (hta _ lk_Pa_18) (fun _ h9 => h9) rfl hin rfl (by decide +kernel) rfl rfl (Nat.le_of_ble_eq_true rfl) d_Pa_init_19 (fun H locs (hP : va_P D classes [(h_t, .inr (2, [.int 0, .int 0, .ref q_17, .null])), (q_17, .inl (cI, 8, .inl (fun _ => 0)))] H) (hD : va_D A [(h_t, .inr (2, [.int 0, .int 0, .ref q_17, .null])), (q_17, .inl (cI, 8, .inl (fun _ => 0)))]) hS => ?_)
  refine lv_aload_n hx hb d_Pa_init_22 rfl (lv_at hl 0 rfl) ?_
  refine lv_bipush (v := 8) hx hb d_Pa_init_23 (by decide) ?_
  refine kn_long hx hb (hta _ ac_long) hK hP hD hS hA (N := 8) (by decide) (by decide) (by decide) (by omega) (by omega) d_Pa_init_25 (fun q_25 H (hP : va_P D classes [(h_t, .inr (2, [.int 0, .int 0, .ref q_17, .null])), (q_17, .inl (cI, 8, .inl (fun _ => 0))), (q_25, .inl (cJ, 8, .inr (.inl (fun _ => 0))))] H) (hD : va_D A [(h_t, .inr (2, [.int 0, .int 0, .ref q_17, .null])), (q_17, .inl (cI, 8, .inl (fun _ => 0))), (q_25, .inl (cJ, 8, .inr (.inl (fun _ => 0))))]) hS => ?_)
  refine va_put (D := D) (ty := .array .long) hx hb hta i_Pa t_Pa t_Pa_ok n_Pa hown hK hP hD hS 0 rfl rfl 3 (by decide) (hta _ lk_Pa_22) (fun _ h9 => h9) rfl (by decide +kernel) rfl rfl (Nat.le_of_ble_eq_true rfl) d_Pa_init_27 (fun H locs (hP : va_P D classes [(h_t, .inr (2, [.int 0, .int 0, .ref q_17, .ref q_25])), (q_17, .inl (cI, 8, .inl (fun _ => 0))), (q_25, .inl (cJ, 8, .inr (.inl (fun _ => 0))))] H) (hD : va_D A [(h_t, .inr (2, [.int 0, .int 0, .ref q_17, .ref q_25])), (q_17, .inl (cI, 8, .inl (fun _ => 0))), (q_25, .inl (cJ, 8, .inr (.inl (fun _ => 0))))]) hS => ?_)
  exact kr_v hx hb hr hlk hQ hK hP hD hS ⟨q_17, q_25, rfl, rfl⟩ (by omega) (by omega) d_Pa_init_30
theorem d_Pa_become_0 : decode b_Pa_become 0 = .ok (.aload_n 0, 1) := by decide +kernel
theorem d_Pa_become_1 : decode b_Pa_become 1 = .ok (.iload_n 1, 1) := by decide +kernel
theorem d_Pa_become_2 : decode b_Pa_become 2 = .ok (.putfield 9, 3) := by decide +kernel
theorem d_Pa_become_5 : decode b_Pa_become 5 = .ok (.aload_n 0, 1) := by decide +kernel
theorem d_Pa_become_6 : decode b_Pa_become 6 = .ok (.iload_n 1, 1) := by decide +kernel
theorem d_Pa_become_7 : decode b_Pa_become 7 = .ok (.ifCond .ne 7, 3) := by decide +kernel
theorem d_Pa_become_10 : decode b_Pa_become 10 = .ok (.iconst 0, 1) := by decide +kernel
theorem d_Pa_become_11 : decode b_Pa_become 11 = .ok (.goto 4, 3) := by decide +kernel
theorem d_Pa_become_14 : decode b_Pa_become 14 = .ok (.iload_n 2, 1) := by decide +kernel
theorem d_Pa_become_15 : decode b_Pa_become 15 = .ok (.putfield 15, 3) := by decide +kernel
theorem d_Pa_become_18 : decode b_Pa_become 18 = .ok (.aload_n 0, 1) := by decide +kernel
theorem d_Pa_become_19 : decode b_Pa_become 19 = .ok (.getfield 18, 3) := by decide +kernel
theorem d_Pa_become_22 : decode b_Pa_become 22 = .ok (.bipush 7, 2) := by decide +kernel
theorem d_Pa_become_24 : decode b_Pa_become 24 = .ok (.invokestatic 26, 3) := by decide +kernel
theorem d_Pa_become_27 : decode b_Pa_become 27 = .ok (.iconst 0, 1) := by decide +kernel
theorem d_Pa_become_28 : decode b_Pa_become 28 = .ok (.sipush 4096, 3) := by decide +kernel
theorem d_Pa_become_31 : decode b_Pa_become 31 = .ok (.aload_n 0, 1) := by decide +kernel
theorem d_Pa_become_32 : decode b_Pa_become 32 = .ok (.getfield 9, 3) := by decide +kernel
theorem d_Pa_become_35 : decode b_Pa_become 35 = .ok (.aload_n 0, 1) := by decide +kernel
theorem d_Pa_become_36 : decode b_Pa_become 36 = .ok (.getfield 15, 3) := by decide +kernel
theorem d_Pa_become_39 : decode b_Pa_become 39 = .ok (.imul, 1) := by decide +kernel
theorem d_Pa_become_40 : decode b_Pa_become 40 = .ok (.invokestatic 32, 3) := by decide +kernel
theorem d_Pa_become_43 : decode b_Pa_become 43 = .ok (.invokestatic 38, 3) := by decide +kernel
theorem d_Pa_become_46 : decode b_Pa_become 46 = .ok (.istore_n 3, 1) := by decide +kernel
theorem d_Pa_become_47 : decode b_Pa_become 47 = .ok (.iload_n 3, 1) := by decide +kernel
theorem d_Pa_become_48 : decode b_Pa_become 48 = .ok (.aload_n 0, 1) := by decide +kernel
theorem d_Pa_become_49 : decode b_Pa_become 49 = .ok (.getfield 22, 3) := by decide +kernel
theorem d_Pa_become_52 : decode b_Pa_become 52 = .ok (.arraylength, 1) := by decide +kernel
theorem d_Pa_become_53 : decode b_Pa_become 53 = .ok (.if_icmp .le 29, 3) := by decide +kernel
theorem d_Pa_become_56 : decode b_Pa_become 56 = .ok (.aload_n 0, 1) := by decide +kernel
theorem d_Pa_become_57 : decode b_Pa_become 57 = .ok (.sipush 4096, 3) := by decide +kernel
theorem d_Pa_become_60 : decode b_Pa_become 60 = .ok (.iload_n 3, 1) := by decide +kernel
theorem d_Pa_become_61 : decode b_Pa_become 61 = .ok (.iconst 2, 1) := by decide +kernel
theorem d_Pa_become_62 : decode b_Pa_become 62 = .ok (.aload_n 0, 1) := by decide +kernel
theorem d_Pa_become_63 : decode b_Pa_become 63 = .ok (.getfield 22, 3) := by decide +kernel
theorem d_Pa_become_66 : decode b_Pa_become 66 = .ok (.arraylength, 1) := by decide +kernel
theorem d_Pa_become_67 : decode b_Pa_become 67 = .ok (.imul, 1) := by decide +kernel
theorem d_Pa_become_68 : decode b_Pa_become 68 = .ok (.invokestatic 38, 3) := by decide +kernel
theorem d_Pa_become_71 : decode b_Pa_become 71 = .ok (.invokestatic 32, 3) := by decide +kernel
theorem d_Pa_become_74 : decode b_Pa_become 74 = .ok (.newarray .long, 2) := by decide +kernel
theorem d_Pa_become_76 : decode b_Pa_become 76 = .ok (.putfield 22, 3) := by decide +kernel
theorem d_Pa_become_79 : decode b_Pa_become 79 = .ok (.goto 11, 3) := by decide +kernel
theorem d_Pa_become_82 : decode b_Pa_become 82 = .ok (.aload_n 0, 1) := by decide +kernel
theorem d_Pa_become_83 : decode b_Pa_become 83 = .ok (.getfield 22, 3) := by decide +kernel
theorem d_Pa_become_86 : decode b_Pa_become 86 = .ok (.lconst 0, 1) := by decide +kernel
theorem d_Pa_become_87 : decode b_Pa_become 87 = .ok (.invokestatic 41, 3) := by decide +kernel
theorem d_Pa_become_90 : decode b_Pa_become 90 = .ok (.return_, 1) := by decide +kernel
def k_Pa_become_87 (n_t_numbers : Nat) (p1 : Int32) (j15_s1 : Int32) (x24 : (Nat → Int32)) (x87 : (Nat → Int64)) : Int32 × Int32 × (Nat → Int32) × Nat × (Nat → Int64) :=
  (p1, j15_s1, x24, n_t_numbers, x87)
def k_Pa_become_24 (n_t_numbers : Nat) (f_t_numbers : Nat → Int64) (p1 : Int32) (j15_s1 : Int32) (x24 : (Nat → Int32)) : Int32 × Int32 × (Nat → Int32) × Nat × (Nat → Int64) :=
  if (if 0 < (if (p1 * j15_s1) < 4096 then (p1 * j15_s1) else 4096) then (if (p1 * j15_s1) < 4096 then (p1 * j15_s1) else 4096) else 0) ≤ (nI n_t_numbers) then (k_Pa_become_87 n_t_numbers p1 j15_s1 x24 (m_Ar_fillJ n_t_numbers f_t_numbers 0)) else ((p1, j15_s1, x24, (if (if (if 0 < (if (p1 * j15_s1) < 4096 then (p1 * j15_s1) else 4096) then (if (p1 * j15_s1) < 4096 then (p1 * j15_s1) else 4096) else 0) < (2 * (nI n_t_numbers)) then (2 * (nI n_t_numbers)) else (if 0 < (if (p1 * j15_s1) < 4096 then (p1 * j15_s1) else 4096) then (if (p1 * j15_s1) < 4096 then (p1 * j15_s1) else 4096) else 0)) < 4096 then (if (if 0 < (if (p1 * j15_s1) < 4096 then (p1 * j15_s1) else 4096) then (if (p1 * j15_s1) < 4096 then (p1 * j15_s1) else 4096) else 0) < (2 * (nI n_t_numbers)) then (2 * (nI n_t_numbers)) else (if 0 < (if (p1 * j15_s1) < 4096 then (p1 * j15_s1) else 4096) then (if (p1 * j15_s1) < 4096 then (p1 * j15_s1) else 4096) else 0)) else 4096).toNatClampNeg, (fun _ => 0)))
def j_Pa_become_15 (n_t_bits : Nat) (f_t_bits : Nat → Int32) (n_t_numbers : Nat) (f_t_numbers : Nat → Int64) (p1 : Int32) (j15_s1 : Int32) : Int32 × Int32 × (Nat → Int32) × Nat × (Nat → Int64) :=
  k_Pa_become_24 n_t_numbers f_t_numbers p1 j15_s1 (m_Ar_fillI n_t_bits f_t_bits 7)
def m_Pa_become (n_t_bits : Nat) (f_t_bits : Nat → Int32) (n_t_numbers : Nat) (f_t_numbers : Nat → Int64) (p1 : Int32) (p2 : Int32) : Int32 × Int32 × (Nat → Int32) × Nat × (Nat → Int64) :=
  if p1 = 0 then (j_Pa_become_15 n_t_bits f_t_bits n_t_numbers f_t_numbers p1 0) else (j_Pa_become_15 n_t_bits f_t_bits n_t_numbers f_t_numbers p1 p2)
set_option maxHeartbeats 4000000 in
set_option maxRecDepth 100000 in
theorem c_Pa_become (l : Launch) (D : va_G) (cB cI cJ : ClassId) (h_t h_t_bits h_t_numbers : Nat) (t_entries : Int32) (t_columns : Int32) (n_t_bits : Nat) (f_t_bits : Nat → Int32) (n_t_numbers : Nat) (f_t_numbers : Nat → Int64) (p1 : Int32) (p2 : Int32) (hn_t_numbers : n_t_numbers < 2147483648) (hn_t_bits : n_t_bits < 2147483648) (sz : Nat) : Ct l D cB cI cJ y_Pa_become b_Pa_become 4 none 1 24 1 4096 [.ref h_t, .int p1, .int p2] [(h_t, .inr (2, [.int t_entries, .int t_columns, .ref h_t_bits, .ref h_t_numbers])), (h_t_bits, .inl (cI, n_t_bits, .inl f_t_bits)), (h_t_numbers, .inl (cJ, n_t_numbers, .inr (.inl f_t_numbers)))] (fun v w1 => ∃ (x : Int32 × Int32 × (Nat → Int32) × Nat × (Nat → Int64)) (q_t_numbers : Nat), x = m_Pa_become n_t_bits f_t_bits n_t_numbers f_t_numbers p1 p2 ∧ v = none ∧ w1 = [(h_t, .inr (2, [.int x.1, .int x.2.1, .ref h_t_bits, .ref q_t_numbers])), (h_t_bits, .inl (cI, n_t_bits, .inl x.2.2.1)), (q_t_numbers, .inl (cJ, x.2.2.2.1, .inr (.inl x.2.2.2.2)))]) sz := by
  refine Ct.of (by decide) (Nat.le_of_ble_eq_true rfl) ?_
  intro p e R s m args below meth c A ls Q hx hb hr hlk hml hta hown hin hK hN hA hRf hRl hRc hRs hP hD hS hl hQ
  have hl : lv_has ls 4 [(0, .ref h_t), (1, .int p1), (2, .int p2)] := hl
  obtain ⟨RES, E0⟩ : ∃ R, m_Pa_become n_t_bits f_t_bits n_t_numbers f_t_numbers p1 p2 = R := ⟨_, rfl⟩
  have E := E0
  refine lv_aload_n hx hb d_Pa_become_0 rfl (lv_at hl 0 rfl) ?_
  refine lv_iload_n hx hb d_Pa_become_1 rfl (lv_at hl 1 rfl) ?_
  refine va_put (D := D) (ty := .int) hx hb hta i_Pa t_Pa t_Pa_ok n_Pa hown hK hP hD hS 0 rfl rfl 0 (by decide) (hta _ lk_Pa_9) (fun _ h9 => h9) rfl (by decide +kernel) rfl rfl (Nat.le_of_ble_eq_true rfl) d_Pa_become_2 (fun H locs (hP : va_P D classes [(h_t, .inr (2, [.int p1, .int t_columns, .ref h_t_bits, .ref h_t_numbers])), (h_t_bits, .inl (cI, n_t_bits, .inl f_t_bits)), (h_t_numbers, .inl (cJ, n_t_numbers, .inr (.inl f_t_numbers)))] H) (hD : va_D A [(h_t, .inr (2, [.int p1, .int t_columns, .ref h_t_bits, .ref h_t_numbers])), (h_t_bits, .inl (cI, n_t_bits, .inl f_t_bits)), (h_t_numbers, .inl (cJ, n_t_numbers, .inr (.inl f_t_numbers)))]) hS => ?_)
  refine lv_aload_n hx hb d_Pa_become_5 rfl (lv_at hl 0 rfl) ?_
  refine lv_iload_n hx hb d_Pa_become_6 rfl (lv_at hl 1 rfl) ?_
  have J_15 : ∀ (j15_s1 : Int32), j_Pa_become_15 n_t_bits f_t_bits n_t_numbers f_t_numbers p1 j15_s1 = RES → ∀ (H : Heap) (locs : List Loc), va_P D classes [(h_t, .inr (2, [.int p1, .int t_columns, .ref h_t_bits, .ref h_t_numbers])), (h_t_bits, .inl (cI, n_t_bits, .inl f_t_bits)), (h_t_numbers, .inl (cJ, n_t_numbers, .inr (.inl f_t_numbers)))] H → va_D A [(h_t, .inr (2, [.int p1, .int t_columns, .ref h_t_bits, .ref h_t_numbers])), (h_t_bits, .inl (cI, n_t_bits, .inl f_t_bits)), (h_t_numbers, .inl (cJ, n_t_numbers, .inr (.inl f_t_numbers)))] → va_S A s.heap H locs → ∀ ls : Array Slot, lv_has ls 4 [(0, .ref h_t)] → W p l e R s m args below meth c H locs 0 0 Q (F0 m 15 ls [.int j15_s1, .ref h_t]) := by
    intro j15_s1 E H locs hP hD hS ls hl
    refine va_put (D := D) (ty := .int) hx hb hta i_Pa t_Pa t_Pa_ok n_Pa hown hK hP hD hS 0 rfl rfl 1 (by decide) (hta _ lk_Pa_15) (fun _ h9 => h9) rfl (by decide +kernel) rfl rfl (Nat.le_of_ble_eq_true rfl) d_Pa_become_15 (fun H locs (hP : va_P D classes [(h_t, .inr (2, [.int p1, .int j15_s1, .ref h_t_bits, .ref h_t_numbers])), (h_t_bits, .inl (cI, n_t_bits, .inl f_t_bits)), (h_t_numbers, .inl (cJ, n_t_numbers, .inr (.inl f_t_numbers)))] H) (hD : va_D A [(h_t, .inr (2, [.int p1, .int j15_s1, .ref h_t_bits, .ref h_t_numbers])), (h_t_bits, .inl (cI, n_t_bits, .inl f_t_bits)), (h_t_numbers, .inl (cJ, n_t_numbers, .inr (.inl f_t_numbers)))]) hS => ?_)
    refine lv_aload_n hx hb d_Pa_become_18 rfl (lv_at hl 0 rfl) ?_
    refine va_get (D := D) (v := .ref h_t_bits) hx hb hta i_Pa hown hK hP 0 rfl rfl 2 (by decide) (hta _ lk_Pa_18) (fun _ h9 => h9) rfl d_Pa_become_19 ?_
    refine lv_bipush (v := 7) hx hb d_Pa_become_22 (by decide) ?_
    refine kc_S (As := [.ref h_t_bits, .int 7]) (rest := []) (wr := [(h_t, .inr (2, [.int p1, .int j15_s1, .ref h_t_bits, .ref h_t_numbers])), (h_t_numbers, .inl (cJ, n_t_numbers, .inr (.inl f_t_numbers)))]) [1] [0, 2] ⟨hx, hb, hml, hown, hta⟩ hK hN hP hD hS hA (c_Ar_fillI l D cB cI cJ h_t_bits n_t_bits f_t_bits 7 hn_t_bits _) (hta _ lk_Pa_26) (hta _ ini_Ar) (hta _ code_Ar_fillI) code_Ar_fillI (hta _ stat_Ar_fillI) hd_Ar_fillI rfl ⟨by omega, by omega⟩ rfl rfl (by decide) (by decide) (by decide) rfl hl.1 (lv_room (Nat.le_of_ble_eq_true rfl)) d_Pa_become_24 ⟨by omega, by omega⟩ (fun v w1 H locs hw hP hD hS => ?_)
    obtain ⟨x24, hx24, rfl, rfl⟩ := hw
    have hP : va_P D classes [(h_t, .inr (2, [.int p1, .int j15_s1, .ref h_t_bits, .ref h_t_numbers])), (h_t_bits, .inl (cI, n_t_bits, .inl x24)), (h_t_numbers, .inl (cJ, n_t_numbers, .inr (.inl f_t_numbers)))] H := hP.sub [0, 2, 1] rfl
    have hD : va_D A [(h_t, .inr (2, [.int p1, .int j15_s1, .ref h_t_bits, .ref h_t_numbers])), (h_t_bits, .inl (cI, n_t_bits, .inl x24)), (h_t_numbers, .inl (cJ, n_t_numbers, .inr (.inl f_t_numbers)))] := hD.sub [0, 2, 1] (by decide) rfl
    refine W.eq (g2 := F0 m 27 ls []) rfl ?_
    have E : k_Pa_become_24 n_t_numbers f_t_numbers p1 j15_s1 x24 = RES := (congrArg (k_Pa_become_24 n_t_numbers f_t_numbers p1 j15_s1) hx24).trans E
    refine lv_iconst (v := 0) hx hb d_Pa_become_27 (by decide) ?_
    refine lv_sipush (v := 4096) hx hb d_Pa_become_28 (by decide) ?_
    refine lv_aload_n hx hb d_Pa_become_31 rfl (lv_at hl 0 rfl) ?_
    refine va_get (D := D) (v := .int p1) hx hb hta i_Pa hown hK hP 0 rfl rfl 0 (by decide) (hta _ lk_Pa_9) (fun _ h9 => h9) rfl d_Pa_become_32 ?_
    refine lv_aload_n hx hb d_Pa_become_35 rfl (lv_at hl 0 rfl) ?_
    refine va_get (D := D) (v := .int j15_s1) hx hb hta i_Pa hown hK hP 0 rfl rfl 1 (by decide) (hta _ lk_Pa_15) (fun _ h9 => h9) rfl d_Pa_become_36 ?_
    refine lv_imul hx hb d_Pa_become_39 ?_
    refine va_mmin hx hb (hml.trans hl.1.symm) hown (hta _ lk_Pa_32) (hta _ stat_Math_min) (hta _ ini_Math) (hta _ code_Math_min) (by omega) (by simp only [List.map, Value.category, List.sum_cons, List.sum_nil]; omega) (by omega) (by omega) d_Pa_become_40 ?_
    refine va_mmax hx hb (hml.trans hl.1.symm) hown (hta _ lk_Pa_38) (hta _ stat_Math_max) (hta _ ini_Math) (hta _ code_Math_max) (by omega) (by simp only [List.map, Value.category, List.sum_cons, List.sum_nil]; omega) (by omega) (by omega) d_Pa_become_43 ?_
    refine lv_istore_n (lv' := [(3, .int (if 0 < (if (p1 * j15_s1) < 4096 then (p1 * j15_s1) else 4096) then (if (p1 * j15_s1) < 4096 then (p1 * j15_s1) else 4096) else 0)), (0, .ref h_t)]) hx hb d_Pa_become_46 rfl hl (by decide) rfl (fun ls hl => ?_)
    refine lv_iload_n hx hb d_Pa_become_47 rfl (lv_at hl 0 rfl) ?_
    refine lv_aload_n hx hb d_Pa_become_48 rfl (lv_at hl 1 rfl) ?_
    refine va_get (D := D) (v := .ref h_t_numbers) hx hb hta i_Pa hown hK hP 0 rfl rfl 3 (by decide) (hta _ lk_Pa_22) (fun _ h9 => h9) rfl d_Pa_become_49 ?_
    refine va_alen (v := nI n_t_numbers) hx hb hK hP 2 2 rfl rfl rfl d_Pa_become_52 ?_
    refine lv_icmp_le (tgt := 82) hx hb d_Pa_become_53 (by decide) (fun c_53 => ?_) (fun c_53 => ?_)
    · have E := (if_pos c_53).symm.trans E
      refine lv_aload_n hx hb d_Pa_become_82 rfl (lv_at hl 1 rfl) ?_
      refine va_get (D := D) (v := .ref h_t_numbers) hx hb hta i_Pa hown hK hP 0 rfl rfl 3 (by decide) (hta _ lk_Pa_22) (fun _ h9 => h9) rfl d_Pa_become_83 ?_
      refine lv_lconst (v := 0) hx hb d_Pa_become_86 (by decide) ?_
      refine kc_S (As := [.ref h_t_numbers, .long 0]) (rest := []) (wr := [(h_t, .inr (2, [.int p1, .int j15_s1, .ref h_t_bits, .ref h_t_numbers])), (h_t_bits, .inl (cI, n_t_bits, .inl x24))]) [2] [0, 1] ⟨hx, hb, hml, hown, hta⟩ hK hN hP hD hS hA (c_Ar_fillJ l D cB cI cJ h_t_numbers n_t_numbers f_t_numbers 0 hn_t_numbers _) (hta _ lk_Pa_41) (hta _ ini_Ar) (hta _ code_Ar_fillJ) code_Ar_fillJ (hta _ stat_Ar_fillJ) hd_Ar_fillJ rfl ⟨by omega, by omega⟩ rfl rfl (by decide) (by decide) (by decide) rfl hl.1 (lv_room (Nat.le_of_ble_eq_true rfl)) d_Pa_become_87 ⟨by omega, by omega⟩ (fun v w1 H locs hw hP hD hS => ?_)
      obtain ⟨x87, hx87, rfl, rfl⟩ := hw
      have hP : va_P D classes [(h_t, .inr (2, [.int p1, .int j15_s1, .ref h_t_bits, .ref h_t_numbers])), (h_t_bits, .inl (cI, n_t_bits, .inl x24)), (h_t_numbers, .inl (cJ, n_t_numbers, .inr (.inl x87)))] H := hP.sub [0, 1, 2] rfl
      have hD : va_D A [(h_t, .inr (2, [.int p1, .int j15_s1, .ref h_t_bits, .ref h_t_numbers])), (h_t_bits, .inl (cI, n_t_bits, .inl x24)), (h_t_numbers, .inl (cJ, n_t_numbers, .inr (.inl x87)))] := hD.sub [0, 1, 2] (by decide) rfl
      refine W.eq (g2 := F0 m 90 ls []) rfl ?_
      have E : k_Pa_become_87 n_t_numbers p1 j15_s1 x24 x87 = RES := (congrArg (k_Pa_become_87 n_t_numbers p1 j15_s1 x24) hx87).trans E
      exact kr_v hx hb hr hlk hQ hK hP hD hS ⟨((p1, j15_s1, x24, n_t_numbers, x87) : Int32 × Int32 × (Nat → Int32) × Nat × (Nat → Int64)), h_t_numbers, E.trans E0.symm, rfl, rfl⟩ (by omega) (by first | omega | (rw [Nat.add_assoc, Nat.zero_add, Nat.zero_add]; exact be_le _)) d_Pa_become_90
    · have E := (if_neg c_53).symm.trans E
      refine lv_aload_n hx hb d_Pa_become_56 rfl (lv_at hl 1 rfl) ?_
      refine lv_sipush (v := 4096) hx hb d_Pa_become_57 (by decide) ?_
      refine lv_iload_n hx hb d_Pa_become_60 rfl (lv_at hl 0 rfl) ?_
      refine lv_iconst (v := 2) hx hb d_Pa_become_61 (by decide) ?_
      refine lv_aload_n hx hb d_Pa_become_62 rfl (lv_at hl 1 rfl) ?_
      refine va_get (D := D) (v := .ref h_t_numbers) hx hb hta i_Pa hown hK hP 0 rfl rfl 3 (by decide) (hta _ lk_Pa_22) (fun _ h9 => h9) rfl d_Pa_become_63 ?_
      refine va_alen (v := nI n_t_numbers) hx hb hK hP 2 2 rfl rfl rfl d_Pa_become_66 ?_
      refine lv_imul hx hb d_Pa_become_67 ?_
      refine va_mmax hx hb (hml.trans hl.1.symm) hown (hta _ lk_Pa_38) (hta _ stat_Math_max) (hta _ ini_Math) (hta _ code_Math_max) (by omega) (by simp only [List.map, Value.category, List.sum_cons, List.sum_nil]; omega) (by omega) (by omega) d_Pa_become_68 ?_
      refine va_mmin hx hb (hml.trans hl.1.symm) hown (hta _ lk_Pa_32) (hta _ stat_Math_min) (hta _ ini_Math) (hta _ code_Math_min) (by omega) (by simp only [List.map, Value.category, List.sum_cons, List.sum_nil]; omega) (by omega) (by omega) d_Pa_become_71 ?_
      refine kn_long hx hb (hta _ ac_long) hK hP hD hS hA (N := (if (if (if 0 < (if (p1 * j15_s1) < 4096 then (p1 * j15_s1) else 4096) then (if (p1 * j15_s1) < 4096 then (p1 * j15_s1) else 4096) else 0) < (2 * (nI n_t_numbers)) then (2 * (nI n_t_numbers)) else (if 0 < (if (p1 * j15_s1) < 4096 then (p1 * j15_s1) else 4096) then (if (p1 * j15_s1) < 4096 then (p1 * j15_s1) else 4096) else 0)) < 4096 then (if (if 0 < (if (p1 * j15_s1) < 4096 then (p1 * j15_s1) else 4096) then (if (p1 * j15_s1) < 4096 then (p1 * j15_s1) else 4096) else 0) < (2 * (nI n_t_numbers)) then (2 * (nI n_t_numbers)) else (if 0 < (if (p1 * j15_s1) < 4096 then (p1 * j15_s1) else 4096) then (if (p1 * j15_s1) < 4096 then (p1 * j15_s1) else 4096) else 0)) else 4096).toNatClampNeg) (be_nn hn_t_numbers c_53) rfl (be_by _) (by omega) (by (rw [hRs, Nat.add_assoc, Nat.zero_add, Nat.zero_add]; exact be_le _)) d_Pa_become_74 (fun q_74 H (hP : va_P D classes [(h_t, .inr (2, [.int p1, .int j15_s1, .ref h_t_bits, .ref h_t_numbers])), (h_t_bits, .inl (cI, n_t_bits, .inl x24)), (h_t_numbers, .inl (cJ, n_t_numbers, .inr (.inl f_t_numbers))), (q_74, .inl (cJ, ((if (if (if 0 < (if (p1 * j15_s1) < 4096 then (p1 * j15_s1) else 4096) then (if (p1 * j15_s1) < 4096 then (p1 * j15_s1) else 4096) else 0) < (2 * (nI n_t_numbers)) then (2 * (nI n_t_numbers)) else (if 0 < (if (p1 * j15_s1) < 4096 then (p1 * j15_s1) else 4096) then (if (p1 * j15_s1) < 4096 then (p1 * j15_s1) else 4096) else 0)) < 4096 then (if (if 0 < (if (p1 * j15_s1) < 4096 then (p1 * j15_s1) else 4096) then (if (p1 * j15_s1) < 4096 then (p1 * j15_s1) else 4096) else 0) < (2 * (nI n_t_numbers)) then (2 * (nI n_t_numbers)) else (if 0 < (if (p1 * j15_s1) < 4096 then (p1 * j15_s1) else 4096) then (if (p1 * j15_s1) < 4096 then (p1 * j15_s1) else 4096) else 0)) else 4096).toNatClampNeg), .inr (.inl (fun _ => 0))))] H) (hD : va_D A [(h_t, .inr (2, [.int p1, .int j15_s1, .ref h_t_bits, .ref h_t_numbers])), (h_t_bits, .inl (cI, n_t_bits, .inl x24)), (h_t_numbers, .inl (cJ, n_t_numbers, .inr (.inl f_t_numbers))), (q_74, .inl (cJ, ((if (if (if 0 < (if (p1 * j15_s1) < 4096 then (p1 * j15_s1) else 4096) then (if (p1 * j15_s1) < 4096 then (p1 * j15_s1) else 4096) else 0) < (2 * (nI n_t_numbers)) then (2 * (nI n_t_numbers)) else (if 0 < (if (p1 * j15_s1) < 4096 then (p1 * j15_s1) else 4096) then (if (p1 * j15_s1) < 4096 then (p1 * j15_s1) else 4096) else 0)) < 4096 then (if (if 0 < (if (p1 * j15_s1) < 4096 then (p1 * j15_s1) else 4096) then (if (p1 * j15_s1) < 4096 then (p1 * j15_s1) else 4096) else 0) < (2 * (nI n_t_numbers)) then (2 * (nI n_t_numbers)) else (if 0 < (if (p1 * j15_s1) < 4096 then (p1 * j15_s1) else 4096) then (if (p1 * j15_s1) < 4096 then (p1 * j15_s1) else 4096) else 0)) else 4096).toNatClampNeg), .inr (.inl (fun _ => 0))))]) hS => ?_)
      refine va_put (D := D) (ty := .array .long) hx hb hta i_Pa t_Pa t_Pa_ok n_Pa hown hK hP hD hS 0 rfl rfl 3 (by decide) (hta _ lk_Pa_22) (fun _ h9 => h9) rfl (by decide +kernel) rfl rfl (Nat.le_of_ble_eq_true rfl) d_Pa_become_76 (fun H locs (hP : va_P D classes [(h_t, .inr (2, [.int p1, .int j15_s1, .ref h_t_bits, .ref q_74])), (h_t_bits, .inl (cI, n_t_bits, .inl x24)), (h_t_numbers, .inl (cJ, n_t_numbers, .inr (.inl f_t_numbers))), (q_74, .inl (cJ, ((if (if (if 0 < (if (p1 * j15_s1) < 4096 then (p1 * j15_s1) else 4096) then (if (p1 * j15_s1) < 4096 then (p1 * j15_s1) else 4096) else 0) < (2 * (nI n_t_numbers)) then (2 * (nI n_t_numbers)) else (if 0 < (if (p1 * j15_s1) < 4096 then (p1 * j15_s1) else 4096) then (if (p1 * j15_s1) < 4096 then (p1 * j15_s1) else 4096) else 0)) < 4096 then (if (if 0 < (if (p1 * j15_s1) < 4096 then (p1 * j15_s1) else 4096) then (if (p1 * j15_s1) < 4096 then (p1 * j15_s1) else 4096) else 0) < (2 * (nI n_t_numbers)) then (2 * (nI n_t_numbers)) else (if 0 < (if (p1 * j15_s1) < 4096 then (p1 * j15_s1) else 4096) then (if (p1 * j15_s1) < 4096 then (p1 * j15_s1) else 4096) else 0)) else 4096).toNatClampNeg), .inr (.inl (fun _ => 0))))] H) (hD : va_D A [(h_t, .inr (2, [.int p1, .int j15_s1, .ref h_t_bits, .ref q_74])), (h_t_bits, .inl (cI, n_t_bits, .inl x24)), (h_t_numbers, .inl (cJ, n_t_numbers, .inr (.inl f_t_numbers))), (q_74, .inl (cJ, ((if (if (if 0 < (if (p1 * j15_s1) < 4096 then (p1 * j15_s1) else 4096) then (if (p1 * j15_s1) < 4096 then (p1 * j15_s1) else 4096) else 0) < (2 * (nI n_t_numbers)) then (2 * (nI n_t_numbers)) else (if 0 < (if (p1 * j15_s1) < 4096 then (p1 * j15_s1) else 4096) then (if (p1 * j15_s1) < 4096 then (p1 * j15_s1) else 4096) else 0)) < 4096 then (if (if 0 < (if (p1 * j15_s1) < 4096 then (p1 * j15_s1) else 4096) then (if (p1 * j15_s1) < 4096 then (p1 * j15_s1) else 4096) else 0) < (2 * (nI n_t_numbers)) then (2 * (nI n_t_numbers)) else (if 0 < (if (p1 * j15_s1) < 4096 then (p1 * j15_s1) else 4096) then (if (p1 * j15_s1) < 4096 then (p1 * j15_s1) else 4096) else 0)) else 4096).toNatClampNeg), .inr (.inl (fun _ => 0))))]) hS => ?_)
      refine lv_goto (tgt := 90) hx hb d_Pa_become_79 (by decide) ?_
      exact kr_v hx hb hr hlk hQ hK (hP.sub [0, 1, 3] rfl) (hD.sub [0, 1, 3] (by decide) rfl) hS ⟨((p1, j15_s1, x24, (if (if (if 0 < (if (p1 * j15_s1) < 4096 then (p1 * j15_s1) else 4096) then (if (p1 * j15_s1) < 4096 then (p1 * j15_s1) else 4096) else 0) < (2 * (nI n_t_numbers)) then (2 * (nI n_t_numbers)) else (if 0 < (if (p1 * j15_s1) < 4096 then (p1 * j15_s1) else 4096) then (if (p1 * j15_s1) < 4096 then (p1 * j15_s1) else 4096) else 0)) < 4096 then (if (if 0 < (if (p1 * j15_s1) < 4096 then (p1 * j15_s1) else 4096) then (if (p1 * j15_s1) < 4096 then (p1 * j15_s1) else 4096) else 0) < (2 * (nI n_t_numbers)) then (2 * (nI n_t_numbers)) else (if 0 < (if (p1 * j15_s1) < 4096 then (p1 * j15_s1) else 4096) then (if (p1 * j15_s1) < 4096 then (p1 * j15_s1) else 4096) else 0)) else 4096).toNatClampNeg, (fun _ => 0)) : Int32 × Int32 × (Nat → Int32) × Nat × (Nat → Int64)), q_74, E.trans E0.symm, rfl, rfl⟩ (by omega) (by first | omega | (rw [Nat.add_assoc, Nat.zero_add, Nat.zero_add]; exact be_le _)) d_Pa_become_90
  refine lv_if_ne (tgt := 14) hx hb d_Pa_become_7 (by decide) (fun c_7 => ?_) (fun c_7 => ?_)
  · have E := (if_neg c_7).symm.trans E
    refine lv_iload_n hx hb d_Pa_become_14 rfl (lv_at hl 2 rfl) ?_
    exact J_15 p2 E _ _ hP hD hS ls (lv_sub hl [0] rfl)
  · have E := (if_pos c_7).symm.trans E
    refine lv_iconst (v := 0) hx hb d_Pa_become_10 (by decide) ?_
    refine lv_goto (tgt := 15) hx hb d_Pa_become_11 (by decide) ?_
    exact J_15 0 E _ _ hP hD hS ls (lv_sub hl [0] rfl)
theorem d_Pa_has_0 : decode b_Pa_has 0 = .ok (.iload_n 1, 1) := by decide +kernel
theorem d_Pa_has_1 : decode b_Pa_has 1 = .ok (.ifCond .lt 27, 3) := by decide +kernel
theorem d_Pa_has_4 : decode b_Pa_has 4 = .ok (.iload_n 1, 1) := by decide +kernel
theorem d_Pa_has_5 : decode b_Pa_has 5 = .ok (.aload_n 0, 1) := by decide +kernel
theorem d_Pa_has_6 : decode b_Pa_has 6 = .ok (.getfield 9, 3) := by decide +kernel
theorem d_Pa_has_9 : decode b_Pa_has 9 = .ok (.if_icmp .ge 19, 3) := by decide +kernel
theorem d_Pa_has_12 : decode b_Pa_has 12 = .ok (.iload_n 2, 1) := by decide +kernel
theorem d_Pa_has_13 : decode b_Pa_has 13 = .ok (.ifCond .lt 15, 3) := by decide +kernel
theorem d_Pa_has_16 : decode b_Pa_has 16 = .ok (.iload_n 2, 1) := by decide +kernel
theorem d_Pa_has_17 : decode b_Pa_has 17 = .ok (.aload_n 0, 1) := by decide +kernel
theorem d_Pa_has_18 : decode b_Pa_has 18 = .ok (.getfield 15, 3) := by decide +kernel
theorem d_Pa_has_21 : decode b_Pa_has 21 = .ok (.if_icmp .ge 7, 3) := by decide +kernel
theorem d_Pa_has_24 : decode b_Pa_has 24 = .ok (.iconst 1, 1) := by decide +kernel
theorem d_Pa_has_25 : decode b_Pa_has 25 = .ok (.goto 4, 3) := by decide +kernel
theorem d_Pa_has_28 : decode b_Pa_has 28 = .ok (.iconst 0, 1) := by decide +kernel
theorem d_Pa_has_29 : decode b_Pa_has 29 = .ok (.ireturn, 1) := by decide +kernel
def m_Pa_has (t_entries : Int32) (t_columns : Int32) (p1 : Int32) (p2 : Int32) : Int32 :=
  if p1 < 0 then 0 else (if t_entries ≤ p1 then 0 else (if p2 < 0 then 0 else (if t_columns ≤ p2 then 0 else 1)))
set_option maxHeartbeats 4000000 in
set_option maxRecDepth 100000 in
theorem c_Pa_has (l : Launch) (D : va_G) (cB cI cJ : ClassId) (h_t h_t_bits h_t_numbers : Nat) (t_entries : Int32) (t_columns : Int32) (p1 : Int32) (p2 : Int32) (sz : Nat) : Ct l D cB cI cJ y_Pa_has b_Pa_has 3 (some .boolean) 0 0 0 0 [.ref h_t, .int p1, .int p2] [(h_t, .inr (2, [.int t_entries, .int t_columns, .ref h_t_bits, .ref h_t_numbers]))] (fun v w1 => ∃ (x : Int32), x = m_Pa_has t_entries t_columns p1 p2 ∧ v = some (.int x) ∧ w1 = [(h_t, .inr (2, [.int t_entries, .int t_columns, .ref h_t_bits, .ref h_t_numbers]))]) sz := by
  refine Ct.of (by decide) (Nat.le_of_ble_eq_true rfl) ?_
  intro p e R s m args below meth c A ls Q hx hb hr hlk hml hta hown hin hK hN hA hRf hRl hRc hRs hP hD hS hl hQ
  have hl : lv_has ls 3 [(0, .ref h_t), (1, .int p1), (2, .int p2)] := hl
  obtain ⟨RES, E0⟩ : ∃ R, m_Pa_has t_entries t_columns p1 p2 = R := ⟨_, rfl⟩
  have E := E0
  refine lv_iload_n hx hb d_Pa_has_0 rfl (lv_at hl 1 rfl) ?_
  refine lv_if_lt (tgt := 28) hx hb d_Pa_has_1 (by decide) (fun c_1 => ?_) (fun c_1 => ?_)
  · have E := (if_pos c_1).symm.trans E
    refine lv_iconst (v := 0) hx hb d_Pa_has_28 (by decide) ?_
    exact kr_z hx hb hr hlk hQ hK hP hD hS ⟨(0 : Int32), E.trans E0.symm, rfl, rfl⟩ (by omega) (by omega) rfl d_Pa_has_29
  · have E := (if_neg c_1).symm.trans E
    refine lv_iload_n hx hb d_Pa_has_4 rfl (lv_at hl 1 rfl) ?_
    refine lv_aload_n hx hb d_Pa_has_5 rfl (lv_at hl 0 rfl) ?_
    refine va_get (D := D) (v := .int t_entries) hx hb hta i_Pa hown hK hP 0 rfl rfl 0 (by decide) (hta _ lk_Pa_9) (fun _ h9 => h9) rfl d_Pa_has_6 ?_
    refine lv_icmp_ge (tgt := 28) hx hb d_Pa_has_9 (by decide) (fun c_9 => ?_) (fun c_9 => ?_)
    · have E := (if_pos c_9).symm.trans E
      refine lv_iconst (v := 0) hx hb d_Pa_has_28 (by decide) ?_
      exact kr_z hx hb hr hlk hQ hK hP hD hS ⟨(0 : Int32), E.trans E0.symm, rfl, rfl⟩ (by omega) (by omega) rfl d_Pa_has_29
    · have E := (if_neg c_9).symm.trans E
      refine lv_iload_n hx hb d_Pa_has_12 rfl (lv_at hl 2 rfl) ?_
      refine lv_if_lt (tgt := 28) hx hb d_Pa_has_13 (by decide) (fun c_13 => ?_) (fun c_13 => ?_)
      · have E := (if_pos c_13).symm.trans E
        refine lv_iconst (v := 0) hx hb d_Pa_has_28 (by decide) ?_
        exact kr_z hx hb hr hlk hQ hK hP hD hS ⟨(0 : Int32), E.trans E0.symm, rfl, rfl⟩ (by omega) (by omega) rfl d_Pa_has_29
      · have E := (if_neg c_13).symm.trans E
        refine lv_iload_n hx hb d_Pa_has_16 rfl (lv_at hl 2 rfl) ?_
        refine lv_aload_n hx hb d_Pa_has_17 rfl (lv_at hl 0 rfl) ?_
        refine va_get (D := D) (v := .int t_columns) hx hb hta i_Pa hown hK hP 0 rfl rfl 1 (by decide) (hta _ lk_Pa_15) (fun _ h9 => h9) rfl d_Pa_has_18 ?_
        refine lv_icmp_ge (tgt := 28) hx hb d_Pa_has_21 (by decide) (fun c_21 => ?_) (fun c_21 => ?_)
        · have E := (if_pos c_21).symm.trans E
          refine lv_iconst (v := 0) hx hb d_Pa_has_28 (by decide) ?_
          exact kr_z hx hb hr hlk hQ hK hP hD hS ⟨(0 : Int32), E.trans E0.symm, rfl, rfl⟩ (by omega) (by omega) rfl d_Pa_has_29
        · have E := (if_neg c_21).symm.trans E
          refine lv_iconst (v := 1) hx hb d_Pa_has_24 (by decide) ?_
          refine lv_goto (tgt := 29) hx hb d_Pa_has_25 (by decide) ?_
          exact kr_z hx hb hr hlk hQ hK hP hD hS ⟨(1 : Int32), E.trans E0.symm, rfl, rfl⟩ (by omega) (by omega) rfl d_Pa_has_29
theorem d_Pa_numberAt_0 : decode b_Pa_numberAt 0 = .ok (.iload_n 1, 1) := by decide +kernel
theorem d_Pa_numberAt_1 : decode b_Pa_numberAt 1 = .ok (.aload_n 0, 1) := by decide +kernel
theorem d_Pa_numberAt_2 : decode b_Pa_numberAt 2 = .ok (.getfield 15, 3) := by decide +kernel
theorem d_Pa_numberAt_5 : decode b_Pa_numberAt 5 = .ok (.imul, 1) := by decide +kernel
theorem d_Pa_numberAt_6 : decode b_Pa_numberAt 6 = .ok (.iload_n 2, 1) := by decide +kernel
theorem d_Pa_numberAt_7 : decode b_Pa_numberAt 7 = .ok (.iadd, 1) := by decide +kernel
theorem d_Pa_numberAt_8 : decode b_Pa_numberAt 8 = .ok (.istore_n 3, 1) := by decide +kernel
theorem d_Pa_numberAt_9 : decode b_Pa_numberAt 9 = .ok (.iload_n 3, 1) := by decide +kernel
theorem d_Pa_numberAt_10 : decode b_Pa_numberAt 10 = .ok (.ifCond .lt 21, 3) := by decide +kernel
theorem d_Pa_numberAt_13 : decode b_Pa_numberAt 13 = .ok (.iload_n 3, 1) := by decide +kernel
theorem d_Pa_numberAt_14 : decode b_Pa_numberAt 14 = .ok (.aload_n 0, 1) := by decide +kernel
theorem d_Pa_numberAt_15 : decode b_Pa_numberAt 15 = .ok (.getfield 22, 3) := by decide +kernel
theorem d_Pa_numberAt_18 : decode b_Pa_numberAt 18 = .ok (.arraylength, 1) := by decide +kernel
theorem d_Pa_numberAt_19 : decode b_Pa_numberAt 19 = .ok (.if_icmp .ge 12, 3) := by decide +kernel
theorem d_Pa_numberAt_22 : decode b_Pa_numberAt 22 = .ok (.aload_n 0, 1) := by decide +kernel
theorem d_Pa_numberAt_23 : decode b_Pa_numberAt 23 = .ok (.getfield 22, 3) := by decide +kernel
theorem d_Pa_numberAt_26 : decode b_Pa_numberAt 26 = .ok (.iload_n 3, 1) := by decide +kernel
theorem d_Pa_numberAt_27 : decode b_Pa_numberAt 27 = .ok (.laload, 1) := by decide +kernel
theorem d_Pa_numberAt_28 : decode b_Pa_numberAt 28 = .ok (.goto 4, 3) := by decide +kernel
theorem d_Pa_numberAt_31 : decode b_Pa_numberAt 31 = .ok (.lconst 0, 1) := by decide +kernel
theorem d_Pa_numberAt_32 : decode b_Pa_numberAt 32 = .ok (.lreturn, 1) := by decide +kernel
def m_Pa_numberAt (t_columns : Int32) (n_t_numbers : Nat) (f_t_numbers : Nat → Int64) (p1 : Int32) (p2 : Int32) : Int64 :=
  if ((p1 * t_columns) + p2) < 0 then 0 else (if (nI n_t_numbers) ≤ ((p1 * t_columns) + p2) then 0 else (f_t_numbers ((p1 * t_columns) + p2).toNatClampNeg))
set_option maxHeartbeats 4000000 in
set_option maxRecDepth 100000 in
theorem c_Pa_numberAt (l : Launch) (D : va_G) (cB cI cJ : ClassId) (h_t h_t_bits h_t_numbers : Nat) (t_entries : Int32) (t_columns : Int32) (n_t_numbers : Nat) (f_t_numbers : Nat → Int64) (p1 : Int32) (p2 : Int32) (hn_t_numbers : n_t_numbers < 2147483648) (sz : Nat) : Ct l D cB cI cJ y_Pa_numberAt b_Pa_numberAt 4 (some .long) 0 0 0 0 [.ref h_t, .int p1, .int p2] [(h_t, .inr (2, [.int t_entries, .int t_columns, .ref h_t_bits, .ref h_t_numbers])), (h_t_numbers, .inl (cJ, n_t_numbers, .inr (.inl f_t_numbers)))] (fun v w1 => ∃ (x : Int64), x = m_Pa_numberAt t_columns n_t_numbers f_t_numbers p1 p2 ∧ v = some (.long x) ∧ w1 = [(h_t, .inr (2, [.int t_entries, .int t_columns, .ref h_t_bits, .ref h_t_numbers])), (h_t_numbers, .inl (cJ, n_t_numbers, .inr (.inl f_t_numbers)))]) sz := by
  refine Ct.of (by decide) (Nat.le_of_ble_eq_true rfl) ?_
  intro p e R s m args below meth c A ls Q hx hb hr hlk hml hta hown hin hK hN hA hRf hRl hRc hRs hP hD hS hl hQ
  have hl : lv_has ls 4 [(0, .ref h_t), (1, .int p1), (2, .int p2)] := hl
  obtain ⟨RES, E0⟩ : ∃ R, m_Pa_numberAt t_columns n_t_numbers f_t_numbers p1 p2 = R := ⟨_, rfl⟩
  have E := E0
  refine lv_iload_n hx hb d_Pa_numberAt_0 rfl (lv_at hl 1 rfl) ?_
  refine lv_aload_n hx hb d_Pa_numberAt_1 rfl (lv_at hl 0 rfl) ?_
  refine va_get (D := D) (v := .int t_columns) hx hb hta i_Pa hown hK hP 0 rfl rfl 1 (by decide) (hta _ lk_Pa_15) (fun _ h9 => h9) rfl d_Pa_numberAt_2 ?_
  refine lv_imul hx hb d_Pa_numberAt_5 ?_
  refine lv_iload_n hx hb d_Pa_numberAt_6 rfl (lv_at hl 2 rfl) ?_
  refine lv_iadd hx hb d_Pa_numberAt_7 ?_
  refine lv_istore_n (lv' := [(3, .int ((p1 * t_columns) + p2)), (0, .ref h_t), (1, .int p1), (2, .int p2)]) hx hb d_Pa_numberAt_8 rfl hl (by decide) rfl (fun ls hl => ?_)
  refine lv_iload_n hx hb d_Pa_numberAt_9 rfl (lv_at hl 0 rfl) ?_
  refine lv_if_lt (tgt := 31) hx hb d_Pa_numberAt_10 (by decide) (fun c_10 => ?_) (fun c_10 => ?_)
  · have E := (if_pos c_10).symm.trans E
    refine lv_lconst (v := 0) hx hb d_Pa_numberAt_31 (by decide) ?_
    exact kr_l hx hb hr hlk hQ hK hP hD hS ⟨(0 : Int64), E.trans E0.symm, rfl, rfl⟩ (by omega) (by omega) d_Pa_numberAt_32
  · have E := (if_neg c_10).symm.trans E
    refine lv_iload_n hx hb d_Pa_numberAt_13 rfl (lv_at hl 0 rfl) ?_
    refine lv_aload_n hx hb d_Pa_numberAt_14 rfl (lv_at hl 1 rfl) ?_
    refine va_get (D := D) (v := .ref h_t_numbers) hx hb hta i_Pa hown hK hP 0 rfl rfl 3 (by decide) (hta _ lk_Pa_22) (fun _ h9 => h9) rfl d_Pa_numberAt_15 ?_
    refine va_alen (v := nI n_t_numbers) hx hb hK hP 1 2 rfl rfl rfl d_Pa_numberAt_18 ?_
    refine lv_icmp_ge (tgt := 31) hx hb d_Pa_numberAt_19 (by decide) (fun c_19 => ?_) (fun c_19 => ?_)
    · have E := (if_pos c_19).symm.trans E
      refine lv_lconst (v := 0) hx hb d_Pa_numberAt_31 (by decide) ?_
      exact kr_l hx hb hr hlk hQ hK hP hD hS ⟨(0 : Int64), E.trans E0.symm, rfl, rfl⟩ (by omega) (by omega) d_Pa_numberAt_32
    · have E := (if_neg c_19).symm.trans E
      refine lv_aload_n hx hb d_Pa_numberAt_22 rfl (lv_at hl 1 rfl) ?_
      refine va_get (D := D) (v := .ref h_t_numbers) hx hb hta i_Pa hown hK hP 0 rfl rfl 3 (by decide) (hta _ lk_Pa_22) (fun _ h9 => h9) rfl d_Pa_numberAt_23 ?_
      refine lv_iload_n hx hb d_Pa_numberAt_26 rfl (lv_at hl 0 rfl) ?_
      refine va_lald hx hb hK hP 1 2 rfl rfl (vin_of c_10 c_19 hn_t_numbers) d_Pa_numberAt_27 ?_
      refine lv_goto (tgt := 32) hx hb d_Pa_numberAt_28 (by decide) ?_
      exact kr_l hx hb hr hlk hQ hK hP hD hS ⟨(f_t_numbers ((p1 * t_columns) + p2).toNatClampNeg : Int64), E.trans E0.symm, rfl, rfl⟩ (by omega) (by omega) d_Pa_numberAt_32
theorem d_Pa_setNumber_0 : decode b_Pa_setNumber 0 = .ok (.iload_n 1, 1) := by decide +kernel
theorem d_Pa_setNumber_1 : decode b_Pa_setNumber 1 = .ok (.aload_n 0, 1) := by decide +kernel
theorem d_Pa_setNumber_2 : decode b_Pa_setNumber 2 = .ok (.getfield 15, 3) := by decide +kernel
theorem d_Pa_setNumber_5 : decode b_Pa_setNumber 5 = .ok (.imul, 1) := by decide +kernel
theorem d_Pa_setNumber_6 : decode b_Pa_setNumber 6 = .ok (.iload_n 2, 1) := by decide +kernel
theorem d_Pa_setNumber_7 : decode b_Pa_setNumber 7 = .ok (.iadd, 1) := by decide +kernel
theorem d_Pa_setNumber_8 : decode b_Pa_setNumber 8 = .ok (.istore 5, 2) := by decide +kernel
theorem d_Pa_setNumber_10 : decode b_Pa_setNumber 10 = .ok (.iload 5, 2) := by decide +kernel
theorem d_Pa_setNumber_12 : decode b_Pa_setNumber 12 = .ok (.ifCond .lt 21, 3) := by decide +kernel
theorem d_Pa_setNumber_15 : decode b_Pa_setNumber 15 = .ok (.iload 5, 2) := by decide +kernel
theorem d_Pa_setNumber_17 : decode b_Pa_setNumber 17 = .ok (.aload_n 0, 1) := by decide +kernel
theorem d_Pa_setNumber_18 : decode b_Pa_setNumber 18 = .ok (.getfield 22, 3) := by decide +kernel
theorem d_Pa_setNumber_21 : decode b_Pa_setNumber 21 = .ok (.arraylength, 1) := by decide +kernel
theorem d_Pa_setNumber_22 : decode b_Pa_setNumber 22 = .ok (.if_icmp .ge 11, 3) := by decide +kernel
theorem d_Pa_setNumber_25 : decode b_Pa_setNumber 25 = .ok (.aload_n 0, 1) := by decide +kernel
theorem d_Pa_setNumber_26 : decode b_Pa_setNumber 26 = .ok (.getfield 22, 3) := by decide +kernel
theorem d_Pa_setNumber_29 : decode b_Pa_setNumber 29 = .ok (.iload 5, 2) := by decide +kernel
theorem d_Pa_setNumber_31 : decode b_Pa_setNumber 31 = .ok (.lload_n 3, 1) := by decide +kernel
theorem d_Pa_setNumber_32 : decode b_Pa_setNumber 32 = .ok (.lastore, 1) := by decide +kernel
theorem d_Pa_setNumber_33 : decode b_Pa_setNumber 33 = .ok (.return_, 1) := by decide +kernel
def m_Pa_setNumber (t_columns : Int32) (n_t_numbers : Nat) (f_t_numbers : Nat → Int64) (p1 : Int32) (p2 : Int32) (p3 : Int64) : (Nat → Int64) :=
  if ((p1 * t_columns) + p2) < 0 then f_t_numbers else (if (nI n_t_numbers) ≤ ((p1 * t_columns) + p2) then f_t_numbers else (vp_updL f_t_numbers ((p1 * t_columns) + p2).toNatClampNeg p3))
set_option maxHeartbeats 4000000 in
set_option maxRecDepth 100000 in
theorem c_Pa_setNumber (l : Launch) (D : va_G) (cB cI cJ : ClassId) (h_t h_t_bits h_t_numbers : Nat) (t_entries : Int32) (t_columns : Int32) (n_t_numbers : Nat) (f_t_numbers : Nat → Int64) (p1 : Int32) (p2 : Int32) (p3 : Int64) (hn_t_numbers : n_t_numbers < 2147483648) (sz : Nat) : Ct l D cB cI cJ y_Pa_setNumber b_Pa_setNumber 6 none 0 0 0 0 [.ref h_t, .int p1, .int p2, .long p3] [(h_t, .inr (2, [.int t_entries, .int t_columns, .ref h_t_bits, .ref h_t_numbers])), (h_t_numbers, .inl (cJ, n_t_numbers, .inr (.inl f_t_numbers)))] (fun v w1 => ∃ (x : (Nat → Int64)), x = m_Pa_setNumber t_columns n_t_numbers f_t_numbers p1 p2 p3 ∧ v = none ∧ w1 = [(h_t, .inr (2, [.int t_entries, .int t_columns, .ref h_t_bits, .ref h_t_numbers])), (h_t_numbers, .inl (cJ, n_t_numbers, .inr (.inl x)))]) sz := by
  refine Ct.of (by decide) (Nat.le_of_ble_eq_true rfl) ?_
  intro p e R s m args below meth c A ls Q hx hb hr hlk hml hta hown hin hK hN hA hRf hRl hRc hRs hP hD hS hl hQ
  have hl : lv_has ls 6 [(0, .ref h_t), (1, .int p1), (2, .int p2), (3, .long p3)] := hl
  obtain ⟨RES, E0⟩ : ∃ R, m_Pa_setNumber t_columns n_t_numbers f_t_numbers p1 p2 p3 = R := ⟨_, rfl⟩
  have E := E0
  refine lv_iload_n hx hb d_Pa_setNumber_0 rfl (lv_at hl 1 rfl) ?_
  refine lv_aload_n hx hb d_Pa_setNumber_1 rfl (lv_at hl 0 rfl) ?_
  refine va_get (D := D) (v := .int t_columns) hx hb hta i_Pa hown hK hP 0 rfl rfl 1 (by decide) (hta _ lk_Pa_15) (fun _ h9 => h9) rfl d_Pa_setNumber_2 ?_
  refine lv_imul hx hb d_Pa_setNumber_5 ?_
  refine lv_iload_n hx hb d_Pa_setNumber_6 rfl (lv_at hl 2 rfl) ?_
  refine lv_iadd hx hb d_Pa_setNumber_7 ?_
  refine lv_istore (lv' := [(5, .int ((p1 * t_columns) + p2)), (0, .ref h_t), (1, .int p1), (2, .int p2), (3, .long p3)]) hx hb d_Pa_setNumber_8 hl (by decide) rfl (fun ls hl => ?_)
  refine lv_iload hx hb d_Pa_setNumber_10 (lv_at hl 0 rfl) ?_
  refine lv_if_lt (tgt := 33) hx hb d_Pa_setNumber_12 (by decide) (fun c_12 => ?_) (fun c_12 => ?_)
  · have E := (if_pos c_12).symm.trans E
    exact kr_v hx hb hr hlk hQ hK hP hD hS ⟨(f_t_numbers : (Nat → Int64)), E.trans E0.symm, rfl, rfl⟩ (by omega) (by omega) d_Pa_setNumber_33
  · have E := (if_neg c_12).symm.trans E
    refine lv_iload hx hb d_Pa_setNumber_15 (lv_at hl 0 rfl) ?_
    refine lv_aload_n hx hb d_Pa_setNumber_17 rfl (lv_at hl 1 rfl) ?_
    refine va_get (D := D) (v := .ref h_t_numbers) hx hb hta i_Pa hown hK hP 0 rfl rfl 3 (by decide) (hta _ lk_Pa_22) (fun _ h9 => h9) rfl d_Pa_setNumber_18 ?_
    refine va_alen (v := nI n_t_numbers) hx hb hK hP 1 2 rfl rfl rfl d_Pa_setNumber_21 ?_
    refine lv_icmp_ge (tgt := 33) hx hb d_Pa_setNumber_22 (by decide) (fun c_22 => ?_) (fun c_22 => ?_)
    · have E := (if_pos c_22).symm.trans E
      exact kr_v hx hb hr hlk hQ hK hP hD hS ⟨(f_t_numbers : (Nat → Int64)), E.trans E0.symm, rfl, rfl⟩ (by omega) (by omega) d_Pa_setNumber_33
    · have E := (if_neg c_22).symm.trans E
      refine lv_aload_n hx hb d_Pa_setNumber_25 rfl (lv_at hl 1 rfl) ?_
      refine va_get (D := D) (v := .ref h_t_numbers) hx hb hta i_Pa hown hK hP 0 rfl rfl 3 (by decide) (hta _ lk_Pa_22) (fun _ h9 => h9) rfl d_Pa_setNumber_26 ?_
      refine lv_iload hx hb d_Pa_setNumber_29 (lv_at hl 0 rfl) ?_
      refine lv_lload_n hx hb d_Pa_setNumber_31 rfl (lv_at hl 4 rfl) ?_
      refine va_last hx hb hK hP hD hS 1 2 rfl rfl (vin_of c_12 c_22 hn_t_numbers) d_Pa_setNumber_32 (fun H locs (hP : va_P D classes [(h_t, .inr (2, [.int t_entries, .int t_columns, .ref h_t_bits, .ref h_t_numbers])), (h_t_numbers, .inl (cJ, n_t_numbers, .inr (.inl (vp_updL f_t_numbers ((p1 * t_columns) + p2).toNatClampNeg p3))))] H) (hD : va_D A [(h_t, .inr (2, [.int t_entries, .int t_columns, .ref h_t_bits, .ref h_t_numbers])), (h_t_numbers, .inl (cJ, n_t_numbers, .inr (.inl (vp_updL f_t_numbers ((p1 * t_columns) + p2).toNatClampNeg p3))))]) hS => ?_)
      exact kr_v hx hb hr hlk hQ hK hP hD hS ⟨(vp_updL f_t_numbers ((p1 * t_columns) + p2).toNatClampNeg p3 : (Nat → Int64)), E.trans E0.symm, rfl, rfl⟩ (by omega) (by omega) d_Pa_setNumber_33
theorem d_Pa_entryLength_0 : decode b_Pa_entryLength 0 = .ok (.iconst 0, 1) := by decide +kernel
theorem d_Pa_entryLength_1 : decode b_Pa_entryLength 1 = .ok (.istore_n 1, 1) := by decide +kernel
theorem d_Pa_entryLength_2 : decode b_Pa_entryLength 2 = .ok (.iconst 0, 1) := by decide +kernel
theorem d_Pa_entryLength_3 : decode b_Pa_entryLength 3 = .ok (.istore_n 2, 1) := by decide +kernel
theorem d_Pa_entryLength_4 : decode b_Pa_entryLength 4 = .ok (.iload_n 2, 1) := by decide +kernel
theorem d_Pa_entryLength_5 : decode b_Pa_entryLength 5 = .ok (.aload_n 0, 1) := by decide +kernel
theorem d_Pa_entryLength_6 : decode b_Pa_entryLength 6 = .ok (.getfield 15, 3) := by decide +kernel
theorem d_Pa_entryLength_9 : decode b_Pa_entryLength 9 = .ok (.if_icmp .ge 23, 3) := by decide +kernel
theorem d_Pa_entryLength_12 : decode b_Pa_entryLength 12 = .ok (.iload_n 1, 1) := by decide +kernel
theorem d_Pa_entryLength_13 : decode b_Pa_entryLength 13 = .ok (.aload_n 0, 1) := by decide +kernel
theorem d_Pa_entryLength_14 : decode b_Pa_entryLength 14 = .ok (.getfield 18, 3) := by decide +kernel
theorem d_Pa_entryLength_17 : decode b_Pa_entryLength 17 = .ok (.iload_n 2, 1) := by decide +kernel
theorem d_Pa_entryLength_18 : decode b_Pa_entryLength 18 = .ok (.invokestatic 44, 3) := by decide +kernel
theorem d_Pa_entryLength_21 : decode b_Pa_entryLength 21 = .ok (.invokestatic 48, 3) := by decide +kernel
theorem d_Pa_entryLength_24 : decode b_Pa_entryLength 24 = .ok (.iadd, 1) := by decide +kernel
theorem d_Pa_entryLength_25 : decode b_Pa_entryLength 25 = .ok (.istore_n 1, 1) := by decide +kernel
theorem d_Pa_entryLength_26 : decode b_Pa_entryLength 26 = .ok (.iinc 2 1, 3) := by decide +kernel
theorem d_Pa_entryLength_29 : decode b_Pa_entryLength 29 = .ok (.goto (-25), 3) := by decide +kernel
theorem d_Pa_entryLength_32 : decode b_Pa_entryLength 32 = .ok (.iload_n 1, 1) := by decide +kernel
theorem d_Pa_entryLength_33 : decode b_Pa_entryLength 33 = .ok (.ireturn, 1) := by decide +kernel
def k_Pa_entryLength_21 (kk_4 : Int32 → Int32 → Int32) (v4_2 : Int32) (v4_1 : Int32) (x21 : Int32) : Int32 :=
  kk_4 (v4_2 + 1) (v4_1 + x21)
def k_Pa_entryLength_18 (kk_4 : Int32 → Int32 → Int32) (v4_2 : Int32) (v4_1 : Int32) (x18 : Int32) : Int32 :=
  k_Pa_entryLength_21 kk_4 v4_2 v4_1 (m_FB_bytesFor x18)
def lb_Pa_entryLength_4 (t_columns : Int32) (n_t_bits : Nat) (f_t_bits : Nat → Int32) (kk_4 : Int32 → Int32 → Int32) (v4_2 : Int32) (v4_1 : Int32) : Int32 :=
  if t_columns ≤ v4_2 then v4_1 else (k_Pa_entryLength_18 kk_4 v4_2 v4_1 (m_FB_valueIn n_t_bits f_t_bits v4_2))
def lp_Pa_entryLength_4 (t_columns : Int32) (n_t_bits : Nat) (f_t_bits : Nat → Int32) : Nat → Int32 → Int32 → Int32
  | 0, v4_2, v4_1 => 0
  | n + 1, v4_2, v4_1 => lb_Pa_entryLength_4 t_columns n_t_bits f_t_bits (lp_Pa_entryLength_4 t_columns n_t_bits f_t_bits n) v4_2 v4_1
def m_Pa_entryLength (t_columns : Int32) (n_t_bits : Nat) (f_t_bits : Nat → Int32) : Int32 :=
  lp_Pa_entryLength_4 t_columns n_t_bits f_t_bits ((t_columns.toInt - (0 : Int32).toInt).toNat + 1) 0 0
set_option maxHeartbeats 4000000 in
set_option maxRecDepth 100000 in
theorem c_Pa_entryLength (l : Launch) (D : va_G) (cB cI cJ : ClassId) (h_t h_t_bits h_t_numbers : Nat) (t_entries : Int32) (t_columns : Int32) (n_t_bits : Nat) (f_t_bits : Nat → Int32) (hn_t_bits : n_t_bits < 2147483648) (sz : Nat) : Ct l D cB cI cJ y_Pa_entryLength b_Pa_entryLength 3 (some .int) 2 40 0 0 [.ref h_t] [(h_t, .inr (2, [.int t_entries, .int t_columns, .ref h_t_bits, .ref h_t_numbers])), (h_t_bits, .inl (cI, n_t_bits, .inl f_t_bits))] (fun v w1 => ∃ (x : Int32), x = m_Pa_entryLength t_columns n_t_bits f_t_bits ∧ v = some (.int x) ∧ w1 = [(h_t, .inr (2, [.int t_entries, .int t_columns, .ref h_t_bits, .ref h_t_numbers])), (h_t_bits, .inl (cI, n_t_bits, .inl f_t_bits))]) sz := by
  refine Ct.of (by decide) (Nat.le_of_ble_eq_true rfl) ?_
  intro p e R s m args below meth c A ls Q hx hb hr hlk hml hta hown hin hK hN hA hRf hRl hRc hRs hP hD hS hl hQ
  have hl : lv_has ls 3 [(0, .ref h_t)] := hl
  obtain ⟨RES, E0⟩ : ∃ R, m_Pa_entryLength t_columns n_t_bits f_t_bits = R := ⟨_, rfl⟩
  have E := E0
  refine lv_iconst (v := 0) hx hb d_Pa_entryLength_0 (by decide) ?_
  refine lv_istore_n (lv' := [(1, .int 0), (0, .ref h_t)]) hx hb d_Pa_entryLength_1 rfl hl (by decide) rfl (fun ls hl => ?_)
  refine lv_iconst (v := 0) hx hb d_Pa_entryLength_2 (by decide) ?_
  refine lv_istore_n (lv' := [(2, .int 0), (1, .int 0), (0, .ref h_t)]) hx hb d_Pa_entryLength_3 rfl hl (by decide) rfl (fun ls hl => ?_)
  have L_4 : ∀ (n : Nat) (v4_2 : Int32) (v4_1 : Int32), (t_columns.toInt - v4_2.toInt).toNat < n → lp_Pa_entryLength_4 t_columns n_t_bits f_t_bits n v4_2 v4_1 = RES → ∀ (H : Heap) (locs : List Loc), va_P D classes [(h_t, .inr (2, [.int t_entries, .int t_columns, .ref h_t_bits, .ref h_t_numbers])), (h_t_bits, .inl (cI, n_t_bits, .inl f_t_bits))] H → va_D A [(h_t, .inr (2, [.int t_entries, .int t_columns, .ref h_t_bits, .ref h_t_numbers])), (h_t_bits, .inl (cI, n_t_bits, .inl f_t_bits))] → va_S A s.heap H locs → ∀ ls : Array Slot, lv_has ls 3 [(2, .int v4_2), (1, .int v4_1), (0, .ref h_t)] → W p l e R s m args below meth c H locs 0 0 Q (F0 m 4 ls []) := by
    intro n
    induction n with
    | zero => intro v4_2 v4_1 hlt; exact absurd hlt (Nat.not_lt_zero _)
    | succ n ih =>
      intro v4_2 v4_1 hlt_4 E H locs hP hD hS ls hl
      have E : lb_Pa_entryLength_4 t_columns n_t_bits f_t_bits (lp_Pa_entryLength_4 t_columns n_t_bits f_t_bits n) v4_2 v4_1 = RES := E
      generalize lp_Pa_entryLength_4 t_columns n_t_bits f_t_bits n = kk_4 at ih E
      have ih_4 := ih
      clear ih
      refine lv_iload_n hx hb d_Pa_entryLength_4 rfl (lv_at hl 0 rfl) ?_
      refine lv_aload_n hx hb d_Pa_entryLength_5 rfl (lv_at hl 2 rfl) ?_
      refine va_get (D := D) (v := .int t_columns) hx hb hta i_Pa hown hK hP 0 rfl rfl 1 (by decide) (hta _ lk_Pa_15) (fun _ h9 => h9) rfl d_Pa_entryLength_6 ?_
      refine lv_icmp_ge (tgt := 32) hx hb d_Pa_entryLength_9 (by decide) (fun c_9 => ?_) (fun c_9 => ?_)
      · have E := (if_pos c_9).symm.trans E
        refine lv_iload_n hx hb d_Pa_entryLength_32 rfl (lv_at hl 1 rfl) ?_
        exact kr_i hx hb hr hlk hQ hK hP hD hS ⟨(v4_1 : Int32), E.trans E0.symm, rfl, rfl⟩ (by omega) (by omega) d_Pa_entryLength_33
      · have E := (if_neg c_9).symm.trans E
        refine lv_iload_n hx hb d_Pa_entryLength_12 rfl (lv_at hl 1 rfl) ?_
        refine lv_aload_n hx hb d_Pa_entryLength_13 rfl (lv_at hl 2 rfl) ?_
        refine va_get (D := D) (v := .ref h_t_bits) hx hb hta i_Pa hown hK hP 0 rfl rfl 2 (by decide) (hta _ lk_Pa_18) (fun _ h9 => h9) rfl d_Pa_entryLength_14 ?_
        refine lv_iload_n hx hb d_Pa_entryLength_17 rfl (lv_at hl 0 rfl) ?_
        refine kc_SN (As := [.ref h_t_bits, .int v4_2]) (rest := [.int v4_1]) (wr := [(h_t, .inr (2, [.int t_entries, .int t_columns, .ref h_t_bits, .ref h_t_numbers]))]) [1] [0] ⟨hx, hb, hml, hown, hta⟩ hK hN hP hD hS hA (c_FB_valueIn l D cB cI cJ h_t_bits n_t_bits f_t_bits v4_2 hn_t_bits _) (hN _ nk_Pa_44) (hta _ ini_FB) (hta _ code_FB_valueIn) code_FB_valueIn (hta _ stat_FB_valueIn) hd_FB_valueIn rfl ⟨by omega, by omega⟩ rfl rfl (by decide) (by decide) (by decide) rfl hl.1 (lv_room (Nat.le_of_ble_eq_true rfl)) d_Pa_entryLength_18 ⟨by omega, by omega⟩ (fun v w1 H locs hw hP hD hS => ?_)
        obtain ⟨x18, hx18, rfl, rfl⟩ := hw
        have hP : va_P D classes [(h_t, .inr (2, [.int t_entries, .int t_columns, .ref h_t_bits, .ref h_t_numbers])), (h_t_bits, .inl (cI, n_t_bits, .inl f_t_bits))] H := hP.sub [0, 1] rfl
        have hD : va_D A [(h_t, .inr (2, [.int t_entries, .int t_columns, .ref h_t_bits, .ref h_t_numbers])), (h_t_bits, .inl (cI, n_t_bits, .inl f_t_bits))] := hD.sub [0, 1] (by decide) rfl
        refine W.eq (g2 := F0 m 21 ls [.int x18, .int v4_1]) rfl ?_
        have E : k_Pa_entryLength_18 kk_4 v4_2 v4_1 x18 = RES := (congrArg (k_Pa_entryLength_18 kk_4 v4_2 v4_1) hx18).trans E
        refine kc_SN (As := [.int x18]) (rest := [.int v4_1]) (wr := [(h_t, .inr (2, [.int t_entries, .int t_columns, .ref h_t_bits, .ref h_t_numbers])), (h_t_bits, .inl (cI, n_t_bits, .inl f_t_bits))]) [] [0, 1] ⟨hx, hb, hml, hown, hta⟩ hK hN hP hD hS hA (c_FB_bytesFor l D cB cI cJ x18 _) (hN _ nk_Pa_48) (hta _ ini_FB) (hta _ code_FB_bytesFor) code_FB_bytesFor (hta _ stat_FB_bytesFor) hd_FB_bytesFor rfl ⟨by omega, by omega⟩ rfl rfl (by decide) (by decide) (by decide) rfl hl.1 (lv_room (Nat.le_of_ble_eq_true rfl)) d_Pa_entryLength_21 ⟨by omega, by omega⟩ (fun v w1 H locs hw hP hD hS => ?_)
        obtain ⟨x21, hx21, rfl, rfl⟩ := hw
        have hP : va_P D classes [(h_t, .inr (2, [.int t_entries, .int t_columns, .ref h_t_bits, .ref h_t_numbers])), (h_t_bits, .inl (cI, n_t_bits, .inl f_t_bits))] H := hP.sub [0, 1] rfl
        have hD : va_D A [(h_t, .inr (2, [.int t_entries, .int t_columns, .ref h_t_bits, .ref h_t_numbers])), (h_t_bits, .inl (cI, n_t_bits, .inl f_t_bits))] := hD.sub [0, 1] (by decide) rfl
        refine W.eq (g2 := F0 m 24 ls [.int x21, .int v4_1]) rfl ?_
        have E : k_Pa_entryLength_21 kk_4 v4_2 v4_1 x21 = RES := (congrArg (k_Pa_entryLength_21 kk_4 v4_2 v4_1) hx21).trans E
        refine lv_iadd hx hb d_Pa_entryLength_24 ?_
        refine lv_istore_n (lv' := [(1, .int (v4_1 + x21)), (2, .int v4_2), (0, .ref h_t)]) hx hb d_Pa_entryLength_25 rfl hl (by decide) rfl (fun ls hl => ?_)
        refine lv_iinc (v := v4_2 + 1) (lv' := [(2, .int (v4_2 + 1)), (1, .int (v4_1 + x21)), (0, .ref h_t)]) hx hb d_Pa_entryLength_26 hl (k := 1) rfl rfl (by decide) rfl (fun ls hl => ?_)
        refine lv_goto (tgt := 4) hx hb d_Pa_entryLength_29 (by decide) ?_
        exact ih_4 (v4_2 + 1) (v4_1 + x21) (Nat.lt_of_lt_of_le (tm_up c_9) (Nat.le_of_lt_succ hlt_4)) E _ _ hP hD hS ls (lv_sub hl [0, 1, 2] rfl)
  exact L_4 _ 0 0 (Nat.lt_succ_self _) E _ _ hP hD hS ls (lv_sub hl [0, 1, 2] rfl)
